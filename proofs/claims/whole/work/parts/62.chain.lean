/-! 62: transformer -/
def S_cc : Nat → Nat → Prop := fun i k => (i = 0 ∧ k = 10) ∨ i = 21 ∨ i = 22 ∨ i = 23
def S_rc : Nat → Nat → Prop := fun i k => (i = 0 ∧ k = 15) ∨ i = 10 ∨ i = 11 ∨ i = 12
abbrev q_let (p : Int) : Prop := p = 0 ∨ (97 ≤ p ∧ p ≤ 122)
def q_t38 (fu : Nat) (c p q : Int) (s : xw_S) (a b : Int) : Option (xw_S × Int) := xw_grd (xw_r a) (xw_if (a = 0) (some (s, -1))
      (xw_grd (xw_r b) (xw_if (b = 0) (some (s, -1))
      (xw_grd (xw_r (s.1 0 10)) (xw_if (s.1 0 10 < 3) (xw_grd ((0 ≤ s.1 0 10 ∧ s.1 0 10 < ((3 : Nat) : Int))) (xw_bnd (f_TR_set fu s ((s.1 0 10).toNat) c p q) (fun s20 => xw_let (xw_st s20 0 10 ((s20.1 0 10) + 1)) (fun s23 => some (s23, (s23.1 0 10) - 1)))))
      (some (s, -1)))))))
def q_t21 (fu : Nat) (c p q : Int) (s : xw_S) (a : Int) : Option (xw_S × Int) := xw_grd (xw_r q) (xw_if (q < -1) (q_t38 fu c p q s a 0) (xw_if (2 < q) (q_t38 fu c p q s a 0) (q_t38 fu c p q s a 1)))
theorem q_tf (fu : Nat) (c p q : Int) (s : xw_S) : f_AW_transformer fu s c p q = xw_grd (xw_r p) (xw_if (p = 0) (q_t21 fu c p q s 1) (xw_if (p < 97) (q_t21 fu c p q s 0) (xw_if (122 < p) (q_t21 fu c p q s 0) (q_t21 fu c p q s 1)))) := rfl
def q_m15 (fu : Nat) (c p q : Int) (s8 : xw_S) : Option (xw_S × Int) := xw_bn2 (f_MD_outside fu s8 q (-1) 2) (fun s9 r11 => xw_grd (xw_r r11) (xw_if (r11 = 0) (xw_grd (xw_r (s9.1 0 15)) (xw_if (s9.1 0 15 < 3) (xw_grd ((0 ≤ s9.1 0 15 ∧ s9.1 0 15 < ((3 : Nat) : Int)) ∧ (c = 0 ∨ c = 1)) (xw_let (xw_st s9 10 (s9.1 0 15).toNat c) (fun s17 => xw_grd ((0 ≤ s17.1 0 15 ∧ s17.1 0 15 < ((3 : Nat) : Int))) (xw_let (xw_st s17 11 (s17.1 0 15).toNat p) (fun s20 => xw_grd ((0 ≤ s20.1 0 15 ∧ s20.1 0 15 < ((3 : Nat) : Int))) (xw_let (xw_st s20 12 (s20.1 0 15).toNat q) (fun s23 => xw_let (xw_st s23 0 15 ((s23.1 0 15) + 1)) (fun s25 => some (s25, (s25.1 0 15) - 1)))))))))
 (some (s9, -1))))
 (some (s9, -1))))
theorem q_mf (fu : Nat) (c p q : Int) (s : xw_S) : f_MD_transformer fu s c p q = xw_grd (xw_r p) (xw_if (p = 0) (q_m15 fu c p q s) (xw_bn2 (f_MD_outside fu s p 97 122) (fun s3 r5 => xw_grd (xw_r r5) (xw_if (r5 = 0) (q_m15 fu c p q s3) (some (s3, -1)))))) := rfl
theorem q_tr_c (fu : Nat) (σ : xw_S) (c p q : Int) (hc : c = 0 ∨ c = 1) (hp : xw_r p) (hq : xw_r q) (h0 : 0 ≤ σ.1 0 10) (h3 : σ.1 0 10 ≤ 3) :
    (¬ (q_let p ∧ (-1 ≤ q ∧ q ≤ 2) ∧ σ.1 0 10 < 3) → f_AW_transformer fu σ c p q = some (σ, -1)) ∧
    ((q_let p ∧ (-1 ≤ q ∧ q ≤ 2) ∧ σ.1 0 10 < 3) → f_AW_transformer fu σ c p q = some (xw_st (xw_st (xw_st (xw_st σ (21 + (σ.1 0 10).toNat) 0 c) (21 + (σ.1 0 10).toNat) 1 p) (21 + (σ.1 0 10).toNat) 2 q) 0 10 (σ.1 0 10 + 1), σ.1 0 10)) := by
  have hr : xw_r (σ.1 0 10) := ⟨by omega, by omega⟩
  have tl : ∀ (a b : Int), (a = 0 ∨ a = 1) → (b = 0 ∨ b = 1) → q_t38 fu c p q σ a b = if (a = 1 ∧ b = 1 ∧ σ.1 0 10 < 3) then some (xw_st (xw_st (xw_st (xw_st σ (21 + (σ.1 0 10).toNat) 0 c) (21 + (σ.1 0 10).toNat) 1 p) (21 + (σ.1 0 10).toNat) 2 q) 0 10 (σ.1 0 10 + 1), σ.1 0 10) else some (σ, (-1 : Int)) := by
    intro a b ha hb
    unfold q_t38
    rcases ha with rfl | rfl
    · rw [xw_grd_t (by decide), xw_if_t rfl, if_neg (by omega)]
    · rw [xw_grd_t (by decide), xw_if_f (by decide)]
      rcases hb with rfl | rfl
      · rw [xw_grd_t (by decide), xw_if_t rfl, if_neg (by omega)]
      · rw [xw_grd_t (by decide), xw_if_f (by decide), xw_grd_t hr]
        by_cases h : σ.1 0 10 < 3
        · rw [xw_if_t h, xw_grd_t (by constructor <;> omega), if_pos ⟨rfl, rfl, h⟩]
          have e : f_TR_set fu σ ((σ.1 0 10).toNat) c p q = some (xw_st (xw_st (xw_st σ (21 + (σ.1 0 10).toNat) 0 c) (21 + (σ.1 0 10).toNat) 1 p) (21 + (σ.1 0 10).toNat) 2 q) := by
            unfold f_TR_set
            rw [xw_grd_t hc]
            rfl
          rw [xw_bnd_e e, xw_let_e, st_s, st_i (by omega), st_i (by omega), st_i (by omega)]
          congr 2
          omega
        · rw [xw_if_f h, if_neg (by omega)]
  have main : f_AW_transformer fu σ c p q = if (q_let p ∧ (-1 ≤ q ∧ q ≤ 2) ∧ σ.1 0 10 < 3) then some (xw_st (xw_st (xw_st (xw_st σ (21 + (σ.1 0 10).toNat) 0 c) (21 + (σ.1 0 10).toNat) 1 p) (21 + (σ.1 0 10).toNat) 2 q) 0 10 (σ.1 0 10 + 1), σ.1 0 10) else some (σ, (-1 : Int)) := by
    rw [q_tf, xw_grd_t hp]
    by_cases p1 : p = 0
    · rw [xw_if_t p1]
      by_cases hq1 : q < -1
      · rw [q_t21, xw_grd_t hq, xw_if_t hq1, tl 1 0 (by decide) (by decide), if_neg (by omega), if_neg (by omega)]
      · by_cases hq2 : 2 < q
        · rw [q_t21, xw_grd_t hq, xw_if_f hq1, xw_if_t hq2, tl 1 0 (by decide) (by decide), if_neg (by omega), if_neg (by omega)]
        · rw [q_t21, xw_grd_t hq, xw_if_f hq1, xw_if_f hq2, tl 1 1 (by decide) (by decide)]
          by_cases h9 : σ.1 0 10 < 3
          · rw [if_pos ⟨rfl, rfl, h9⟩, if_pos ⟨by omega, by omega, h9⟩]
          · rw [if_neg (by omega), if_neg (by omega)]
    · rw [xw_if_f p1]
      by_cases p2 : p < 97
      · rw [xw_if_t p2]
        by_cases hq1 : q < -1
        · rw [q_t21, xw_grd_t hq, xw_if_t hq1, tl 0 0 (by decide) (by decide), if_neg (by omega), if_neg (by omega)]
        · by_cases hq2 : 2 < q
          · rw [q_t21, xw_grd_t hq, xw_if_f hq1, xw_if_t hq2, tl 0 0 (by decide) (by decide), if_neg (by omega), if_neg (by omega)]
          · rw [q_t21, xw_grd_t hq, xw_if_f hq1, xw_if_f hq2, tl 0 1 (by decide) (by decide), if_neg (by omega), if_neg (by omega)]
      · rw [xw_if_f p2]
        by_cases p3 : 122 < p
        · rw [xw_if_t p3]
          by_cases hq1 : q < -1
          · rw [q_t21, xw_grd_t hq, xw_if_t hq1, tl 0 0 (by decide) (by decide), if_neg (by omega), if_neg (by omega)]
          · by_cases hq2 : 2 < q
            · rw [q_t21, xw_grd_t hq, xw_if_f hq1, xw_if_t hq2, tl 0 0 (by decide) (by decide), if_neg (by omega), if_neg (by omega)]
            · rw [q_t21, xw_grd_t hq, xw_if_f hq1, xw_if_f hq2, tl 0 1 (by decide) (by decide), if_neg (by omega), if_neg (by omega)]
        · rw [xw_if_f p3]
          by_cases hq1 : q < -1
          · rw [q_t21, xw_grd_t hq, xw_if_t hq1, tl 1 0 (by decide) (by decide), if_neg (by omega), if_neg (by omega)]
          · by_cases hq2 : 2 < q
            · rw [q_t21, xw_grd_t hq, xw_if_f hq1, xw_if_t hq2, tl 1 0 (by decide) (by decide), if_neg (by omega), if_neg (by omega)]
            · rw [q_t21, xw_grd_t hq, xw_if_f hq1, xw_if_f hq2, tl 1 1 (by decide) (by decide)]
              by_cases h9 : σ.1 0 10 < 3
              · rw [if_pos ⟨rfl, rfl, h9⟩, if_pos ⟨by omega, by omega, h9⟩]
              · rw [if_neg (by omega), if_neg (by omega)]
  constructor
  · intro h; rw [main, if_neg h]
  · intro h; rw [main, if_pos h]
theorem q_tr_r (fu : Nat) (ρ : xw_S) (c p q : Int) (hc : c = 0 ∨ c = 1) (hp : xw_r p) (hq : xw_r q) (h0 : 0 ≤ ρ.1 0 15) (h3 : ρ.1 0 15 ≤ 3) :
    (¬ (q_let p ∧ (-1 ≤ q ∧ q ≤ 2) ∧ ρ.1 0 15 < 3) → f_MD_transformer fu ρ c p q = some (ρ, -1)) ∧
    ((q_let p ∧ (-1 ≤ q ∧ q ≤ 2) ∧ ρ.1 0 15 < 3) → f_MD_transformer fu ρ c p q = some (xw_st (xw_st (xw_st (xw_st ρ 10 (ρ.1 0 15).toNat c) 11 (ρ.1 0 15).toNat p) 12 (ρ.1 0 15).toNat q) 0 15 (ρ.1 0 15 + 1), ρ.1 0 15)) := by
  have hr : xw_r (ρ.1 0 15) := ⟨by omega, by omega⟩
  have tl : (¬ ((-1 ≤ q ∧ q ≤ 2) ∧ ρ.1 0 15 < 3) → q_m15 fu c p q ρ = some (ρ, -1)) ∧ (((-1 ≤ q ∧ q ≤ 2) ∧ ρ.1 0 15 < 3) → q_m15 fu c p q ρ = some (xw_st (xw_st (xw_st (xw_st ρ 10 (ρ.1 0 15).toNat c) 11 (ρ.1 0 15).toNat p) 12 (ρ.1 0 15).toNat q) 0 15 (ρ.1 0 15 + 1), ρ.1 0 15)) := by
    unfold q_m15
    rw [xw_bn2_e (q_outside fu ρ hq (by decide) (by decide))]
    constructor
    · intro h
      by_cases h1 : q < -1 ∨ 2 < q
      · rw [if_pos h1, xw_grd_t (by decide), xw_if_f (by decide)]
      · rw [if_neg h1, xw_grd_t (by decide), xw_if_t rfl, xw_grd_t hr, xw_if_f (by omega)]
    · intro h
      have e1 : (xw_st ρ 10 (ρ.1 0 15).toNat c).1 0 15 = ρ.1 0 15 := st_i (by decide)
      have e2 : (xw_st (xw_st ρ 10 (ρ.1 0 15).toNat c) 11 (ρ.1 0 15).toNat p).1 0 15 = ρ.1 0 15 := by rw [st_i (by decide), e1]
      have e3 : (xw_st (xw_st (xw_st ρ 10 (ρ.1 0 15).toNat c) 11 (ρ.1 0 15).toNat p) 12 (ρ.1 0 15).toNat q).1 0 15 = ρ.1 0 15 := by rw [st_i (by decide), e2]
      rw [if_neg (by omega), xw_grd_t (by decide), xw_if_t rfl, xw_grd_t hr, xw_if_t h.2, xw_grd_t ⟨by constructor <;> omega, hc⟩, xw_let_e, e1, xw_grd_t (by constructor <;> omega), xw_let_e, e2, xw_grd_t (by constructor <;> omega), xw_let_e, e3, xw_let_e, st_s]
      congr 2
      omega
  rw [q_mf, xw_grd_t hp]
  by_cases p1 : p = 0
  · rw [xw_if_t p1]
    exact ⟨fun h => tl.1 (by omega), fun h => tl.2 h.2⟩
  · rw [xw_if_f p1, xw_bn2_e (q_outside fu ρ hp (by decide) (by decide))]
    by_cases p2 : p < 97 ∨ 122 < p
    · rw [if_pos p2, xw_grd_t (by decide), xw_if_f (by decide)]
      exact ⟨fun _ => rfl, fun h => by omega⟩
    · rw [if_neg p2, xw_grd_t (by decide), xw_if_t rfl]
      exact ⟨fun h => tl.1 (by omega), fun h => tl.2 h.2⟩
theorem q_transformer (fu : Nat) (σ ρ : xw_S) (c p q : Int) (hc : c = 0 ∨ c = 1) (hp : xw_r p) (hq : xw_r q) (h : iv_c σ ρ) : ∃ σ' ρ' r, f_AW_transformer fu σ c p q = some (σ', r) ∧ f_MD_transformer fu ρ c p q = some (ρ', r) ∧ iv_c σ' ρ' ∧ frm S_cc σ σ' ∧ frm S_rc ρ ρ' := by
  have h' := h
  obtain ⟨h1, h2, h3, h4⟩ := h
  obtain ⟨a1, a2⟩ := q_tr_c fu σ c p q hc hp hq h2 h3
  obtain ⟨b1, b2⟩ := q_tr_r fu ρ c p q hc hp hq (by omega) (by omega)
  by_cases g : q_let p ∧ (-1 ≤ q ∧ q ≤ 2) ∧ σ.1 0 10 < 3
  · refine ⟨_, _, σ.1 0 10, a2 g, by rw [b2 (by rw [← h1]; exact g), h1], ?_, ?_, ?_⟩
    · rw [← h1]
      obtain ⟨n, hn⟩ : ∃ n : Nat, σ.1 0 10 = (n : Int) := ⟨(σ.1 0 10).toNat, by omega⟩
      have en : (σ.1 0 10).toNat = n := by omega
      rw [en]
      refine ⟨by rw [st_s, st_s], by rw [st_s]; omega, by rw [st_s]; omega, fun t ht => ?_⟩
      rw [st_s] at ht
      have hn3 : n < 3 := by omega
      simp only [st_e]
      by_cases ht2 : t = n
      · subst ht2
        simp [show ¬ (21 + t = 0) by omega]
        unfold xw_r at hp
        omega
      · obtain ⟨k1, k2, k3, k4⟩ := h4 t (by omega)
        have n1 : ¬ (21 + t = 21 + n) := by omega
        simp [ht2, n1, show ¬ (21 + t = 0) by omega]
        exact ⟨k1, k2, k3, k4⟩
    · refine frm_tr (frm_tr (frm_tr (frm_st ?_) (frm_st ?_)) (frm_st ?_)) (frm_st (Or.inl ⟨rfl, rfl⟩)) <;> exact Or.inr (by omega)
    · exact frm_tr (frm_tr (frm_tr (frm_st (Or.inr (Or.inl rfl))) (frm_st (Or.inr (Or.inr (Or.inl rfl))))) (frm_st (Or.inr (Or.inr (Or.inr rfl))))) (frm_st (Or.inl ⟨rfl, rfl⟩))
  · exact ⟨σ, ρ, -1, a1 g, b1 (by rw [← h1]; exact g), h', frm_rf _ _, frm_rf _ _⟩
