/-! 61: the bytes, the chain, the failures, the last run: what both sides hold, and the calls that touch no more -/
def iv_b (σ ρ : xw_S) : Prop := σ.1 1 1 = ρ.1 0 1 ∧ 0 ≤ σ.1 1 1 ∧ σ.1 1 1 ≤ 240 ∧ ∀ k : Nat, (k : Int) < σ.1 1 1 → σ.1 2 k = ρ.1 1 k ∧ 0 ≤ σ.1 2 k ∧ σ.1 2 k ≤ 255
def iv_c (σ ρ : xw_S) : Prop := σ.1 0 10 = ρ.1 0 15 ∧ 0 ≤ σ.1 0 10 ∧ σ.1 0 10 ≤ 3 ∧ ∀ t : Nat, (t : Int) < σ.1 0 10 → (σ.1 (21 + t) 0 = ρ.1 10 t ∧ σ.1 (21 + t) 1 = ρ.1 11 t ∧ σ.1 (21 + t) 2 = ρ.1 12 t) ∧ (σ.1 (21 + t) 0 = 0 ∨ σ.1 (21 + t) 0 = 1) ∧ xw_r (σ.1 (21 + t) 1) ∧ -1 ≤ σ.1 (21 + t) 2 ∧ σ.1 (21 + t) 2 ≤ 2
def iv_f (σ ρ : xw_S) : Prop := ∀ k : Nat, k < 12 → σ.1 7 k = ρ.1 13 k ∧ (σ.1 7 k = 0 ∨ σ.1 7 k = 1) ∧ (σ.1 0 9 ≤ ((k / 3 : Nat) : Int) → σ.1 7 k = 0)
def iv_r (σ ρ : xw_S) : Prop := σ.1 17 6 = ρ.1 0 38 ∧ σ.1 17 7 = ρ.1 0 39 ∧ σ.1 17 8 = ρ.1 0 40 ∧ xw_r (σ.1 17 8) ∧ (∀ k : Nat, k < 100 → (k : Int) < σ.1 17 8 → σ.1 19 k = ρ.1 27 k) ∧ (∀ m p : Nat, m < 4 → p < 40 → σ.1 20 (40 * m + p) = ρ.1 28 (256 * m + p)) ∧ (∀ m p : Nat, m < 4 → 40 ≤ p → p < 256 → ρ.1 28 (256 * m + p) = 0)
/-! put -/
def q_capp (w : Int) : Nat → xw_S → xw_S
  | 0, s => s
  | j + 1, s => q_capp w j (xw_st (xw_st s 2 (s.1 1 1).toNat (xw_an (xw_hu w (8 * (j : Int))) 255)) 1 1 (s.1 1 1 + 1))
def q_rapp (w : Int) : Nat → xw_S → xw_S
  | 0, s => s
  | j + 1, s => q_rapp w j (xw_st (xw_st s 1 (s.1 0 1).toNat (xw_an (xw_hr w (8 * (j : Int))) 255)) 0 1 (s.1 0 1 + 1))
theorem q_capp_lp (fu : Nat) (w : Int) (k : xw_S → Option (xw_S × Int)) : ∀ (j n : Nat) (s : xw_S), j < n → j ≤ 4 → 0 ≤ s.1 1 1 → s.1 1 1 + j ≤ 240 → lp_CF_append_28 fu w k n s ((j : Int) - 1) = k (q_capp w j s) := by
  intro j
  induction j with
  | zero =>
    intro n s hn _ _ _
    obtain ⟨n, rfl⟩ : ∃ n', n = n' + 1 := ⟨n - 1, by omega⟩
    rw [lp_CF_append_28, xw_grd_t (by constructor <;> omega), xw_if_t (by omega)]
    rfl
  | succ j ih =>
    intro n s hn hj h0 h1
    obtain ⟨n, rfl⟩ : ∃ n', n = n' + 1 := ⟨n - 1, by omega⟩
    have ej : (((j + 1 : Nat) : Int) - 1) = (j : Int) := by omega
    rw [ej, lp_CF_append_28, xw_grd_t (by constructor <;> omega), xw_if_f (by omega), xw_grd_t (by constructor <;> omega), xw_let_e, xw_let_e, xw_let_e]
    have e1 : (xw_st s 2 (s.1 1 1).toNat (xw_an (xw_hu w (8 * (j : Int))) 255)).1 1 1 = s.1 1 1 := st_i (by decide)
    rw [e1, show (j : Int) + (-1) = (j : Int) - 1 by omega]
    exact ih n _ (by omega) (by omega) (by rw [st_s]; omega) (by rw [st_s]; omega)
theorem q_rapp_lp (fu : Nat) (w : Int) (k : xw_S → Option (xw_S × Int)) : ∀ (j n : Nat) (s : xw_S), j < n → j ≤ 4 → 0 ≤ s.1 0 1 → s.1 0 1 + j ≤ 240 → lp_MD_put_27 fu w k n s ((j : Int) - 1) = k (q_rapp w j s) := by
  intro j
  induction j with
  | zero =>
    intro n s hn _ _ _
    obtain ⟨n, rfl⟩ : ∃ n', n = n' + 1 := ⟨n - 1, by omega⟩
    rw [lp_MD_put_27, xw_grd_t (by constructor <;> omega), xw_if_t (by omega)]
    rfl
  | succ j ih =>
    intro n s hn hj h0 h1
    obtain ⟨n, rfl⟩ : ∃ n', n = n' + 1 := ⟨n - 1, by omega⟩
    have ej : (((j + 1 : Nat) : Int) - 1) = (j : Int) := by omega
    rw [ej, lp_MD_put_27, xw_grd_t (by constructor <;> omega), xw_if_f (by omega), xw_grd_t (by constructor <;> omega), xw_let_e, xw_let_e, xw_let_e]
    have e1 : (xw_st s 1 (s.1 0 1).toNat (xw_an (xw_hr w (8 * (j : Int))) 255)).1 0 1 = s.1 0 1 := st_i (by decide)
    rw [e1, show (j : Int) + (-1) = (j : Int) - 1 by omega]
    exact ih n _ (by omega) (by omega) (by rw [st_s]; omega) (by rw [st_s]; omega)
def S_cb : Nat → Nat → Prop := fun i k => (i = 1 ∧ k = 1) ∨ i = 2
def S_rb : Nat → Nat → Prop := fun i k => (i = 0 ∧ k = 1) ∨ i = 1
theorem q_app (w : Int) : ∀ (j : Nat) (σ ρ : xw_S), j ≤ 4 → iv_b σ ρ → σ.1 1 1 + j ≤ 240 → iv_b (q_capp w j σ) (q_rapp w j ρ) ∧ frm S_cb σ (q_capp w j σ) ∧ frm S_rb ρ (q_rapp w j ρ) := by
  intro j
  induction j with
  | zero => intro σ ρ _ h _; exact ⟨h, frm_rf _ _, frm_rf _ _⟩
  | succ j ih =>
    intro σ ρ hj h hz
    obtain ⟨h1, h2, h3, h4⟩ := h
    have key : iv_b (xw_st (xw_st σ 2 (σ.1 1 1).toNat (xw_an (xw_hu w (8 * (j : Int))) 255)) 1 1 (σ.1 1 1 + 1)) (xw_st (xw_st ρ 1 (ρ.1 0 1).toNat (xw_an (xw_hr w (8 * (j : Int))) 255)) 0 1 (ρ.1 0 1 + 1)) := by
      refine ⟨by rw [st_s, st_s, h1], by rw [st_s]; omega, by rw [st_s]; omega, fun k hk => ?_⟩
      rw [st_s] at hk
      have eσ : (xw_st (xw_st σ 2 (σ.1 1 1).toNat (xw_an (xw_hu w (8 * (j : Int))) 255)) 1 1 (σ.1 1 1 + 1)).1 2 k = if k = (σ.1 1 1).toNat then xw_an (xw_hu w (8 * (j : Int))) 255 else σ.1 2 k := by
        rw [st_i (by decide), st_e]
        simp
      have eρ : (xw_st (xw_st ρ 1 (ρ.1 0 1).toNat (xw_an (xw_hr w (8 * (j : Int))) 255)) 0 1 (ρ.1 0 1 + 1)).1 1 k = if k = (ρ.1 0 1).toNat then xw_an (xw_hr w (8 * (j : Int))) 255 else ρ.1 1 k := by
        rw [st_i (by decide), st_e]
        simp
      rw [eσ, eρ, ← h1]
      by_cases hkk : k = (σ.1 1 1).toNat
      · rw [if_pos hkk, if_pos hkk, q_byte w (by omega)]
        exact ⟨rfl, q_byte_r _⟩
      · rw [if_neg hkk, if_neg hkk]
        exact h4 k (by omega)
    obtain ⟨a, b, c⟩ := ih _ _ (by omega) key (by rw [st_s]; omega)
    refine ⟨a, frm_tr (frm_tr (frm_st (by simp [S_cb])) (frm_st (by simp [S_cb]))) b, frm_tr (frm_tr (frm_st (by simp [S_rb])) (frm_st (by simp [S_rb]))) c⟩
theorem q_put (fu : Nat) (hfu : 1000 ≤ fu) (σ ρ : xw_S) (w n : Int) (hn : xw_r n) (h : iv_b σ ρ) : ∃ σ' ρ' r, f_AW_put fu σ w n = some (σ', r) ∧ f_MD_put fu ρ w n = some (ρ', r) ∧ iv_b σ' ρ' ∧ frm S_cb σ σ' ∧ frm S_rb ρ ρ' := by
  have hb := h
  obtain ⟨h1, h2, h3, h4⟩ := h
  unfold xw_r at hn
  by_cases c1 : n < 1 ∨ 4 < n
  · refine ⟨σ, ρ, 0, ?_, ?_, hb, frm_rf _ _, frm_rf _ _⟩
    · have e : f_CF_append fu σ w n = some (σ, 0) := by
        unfold f_CF_append
        rw [xw_grd_t hn]
        by_cases c2 : n < 1
        · rw [xw_if_t c2]
        · rw [xw_if_f c2, xw_if_t (by omega)]
      unfold f_AW_put
      rw [xw_bn2_e e, xw_grd_t (Or.inl rfl)]
    · unfold f_MD_put
      rw [xw_bn2_e (q_outside fu ρ hn (by decide) (by decide)), if_pos c1, xw_grd_t (by decide), xw_if_f (by decide)]
  · by_cases c2 : σ.1 1 1 + n ≤ 240
    · obtain ⟨j, rfl⟩ : ∃ j : Nat, n = (j : Int) := ⟨n.toNat, by omega⟩
      obtain ⟨a, b, c⟩ := q_app w j σ ρ (by omega) hb (by omega)
      refine ⟨q_capp w j σ, q_rapp w j ρ, 1, ?_, ?_, a, b, c⟩
      · have e : f_CF_append fu σ w j = some (q_capp w j σ, 1) := by
          unfold f_CF_append
          rw [xw_grd_t hn, xw_if_f (by omega), xw_if_f (by omega), xw_grd_t (by constructor <;> omega), xw_if_t c2, xw_let_e, xw_jn_e]
          exact q_capp_lp fu w _ j fu σ (by omega) (by omega) h2 (by omega)
        unfold f_AW_put
        rw [xw_bn2_e e, xw_grd_t (Or.inr rfl)]
      · unfold f_MD_put
        rw [xw_bn2_e (q_outside fu ρ hn (by decide) (by decide)), if_neg c1, xw_grd_t (by decide), xw_if_t rfl, xw_grd_t (by constructor <;> omega), xw_if_t (by omega), xw_let_e, xw_jn_e]
        exact q_rapp_lp fu w _ j fu ρ (by omega) (by omega) (by omega) (by omega)
    · refine ⟨σ, ρ, 0, ?_, ?_, hb, frm_rf _ _, frm_rf _ _⟩
      · have e : f_CF_append fu σ w n = some (σ, 0) := by
          unfold f_CF_append
          rw [xw_grd_t hn, xw_if_f (by omega), xw_if_f (by omega), xw_grd_t (by constructor <;> omega), xw_if_f c2]
        unfold f_AW_put
        rw [xw_bn2_e e, xw_grd_t (Or.inl rfl)]
      · unfold f_MD_put
        rw [xw_bn2_e (q_outside fu ρ hn (by decide) (by decide)), if_neg c1, xw_grd_t (by decide), xw_if_t rfl, xw_grd_t (by constructor <;> omega), xw_if_f (by omega)]

/-! the calls that read, or write one cell -/
theorem q_failed (fu : Nat) (σ ρ : xw_S) (m t : Int) (hm : xw_r m) (ht : xw_r t) (h : iv_f σ ρ) : ∃ r, f_AW_failed fu σ m t = some (σ, r) ∧ f_MD_failed fu ρ m t = some (ρ, r) := by
  unfold xw_r at hm ht
  by_cases c1 : m < 0 ∨ 3 < m
  · refine ⟨0, ?_, ?_⟩
    · unfold f_AW_failed
      rw [xw_grd_t hm]
      by_cases c2 : m < 0
      · rw [xw_if_t c2]
      · rw [xw_if_f c2, xw_if_t (by omega)]
    · unfold f_MD_failed
      rw [xw_bn2_e (q_outside fu ρ hm (by decide) (by decide)), if_pos c1, xw_grd_t (by decide), xw_if_f (by decide)]
  · by_cases c2 : t < 0 ∨ 2 < t
    · refine ⟨0, ?_, ?_⟩
      · unfold f_AW_failed
        rw [xw_grd_t hm, xw_if_f (by omega), xw_if_f (by omega), xw_grd_t ht]
        by_cases c3 : t < 0
        · rw [xw_if_t c3]
        · rw [xw_if_f c3, xw_if_f (by omega)]
      · unfold f_MD_failed
        rw [xw_bn2_e (q_outside fu ρ hm (by decide) (by decide)), if_neg c1, xw_grd_t (by decide), xw_if_t rfl, xw_bn2_e (q_outside fu ρ ht (by decide) (by decide)), if_pos c2, xw_grd_t (by decide), xw_if_f (by decide)]
    · have e3 : m * 3 + t = 3 * m + t := by omega
      obtain ⟨g1, g2, -⟩ := h (3 * m + t).toNat (by omega)
      refine ⟨σ.1 7 (3 * m + t).toNat, ?_, ?_⟩
      · unfold f_AW_failed
        rw [xw_grd_t hm, xw_if_f (by omega), xw_if_f (by omega), xw_grd_t ht, xw_if_f (by omega), xw_if_t (by omega), xw_grd_t (by constructor <;> omega), e3, xw_grd_t g2]
      · unfold f_MD_failed
        rw [xw_bn2_e (q_outside fu ρ hm (by decide) (by decide)), if_neg c1, xw_grd_t (by decide), xw_if_t rfl, xw_bn2_e (q_outside fu ρ ht (by decide) (by decide)), if_neg c2, xw_grd_t (by decide), xw_if_t rfl, xw_grd_t (by constructor <;> omega), ← g1]
        rcases g2 with g2 | g2
        · rw [g2, xw_grd_t (by decide), xw_if_t rfl]
        · rw [g2, xw_grd_t (by decide), xw_if_f (by decide)]
theorem q_mark (fu : Nat) (σ ρ : xw_S) (k : Int) (hk : xw_r k) (h : iv_r σ ρ) : ∃ r, f_AW_mark fu σ k = some (σ, r) ∧ f_MD_mark fu ρ k = some (ρ, r) := by
  obtain ⟨h1, h2, h3, h4, h5, h6, h7⟩ := h
  by_cases c1 : k < 0 ∨ 99 < k ∨ σ.1 17 8 ≤ k
  · refine ⟨-1, ?_, ?_⟩
    · have e : f_MC_markAt fu σ k = some (σ, -1) := by
        unfold f_MC_markAt
        rw [xw_grd_t hk]
        by_cases c2 : k < 0
        · rw [xw_if_t c2]
        · rw [xw_if_f c2, xw_grd_t h4]
          by_cases c3 : σ.1 17 8 ≤ k
          · rw [xw_if_t c3]
          · rw [xw_if_f c3, xw_if_t (by omega)]
      unfold f_AW_mark
      rw [xw_bn2_e e]
    · unfold f_MD_mark
      rw [xw_bn2_e (q_outside fu ρ hk (by decide) (by decide)), xw_jn_e]
      by_cases c2 : k < 0 ∨ 99 < k
      · rw [if_pos c2, xw_grd_t (by decide), xw_if_f (by decide)]
      · rw [if_neg c2, xw_grd_t (by decide), xw_if_t rfl, xw_grd_t ⟨hk, by rw [← h3]; exact h4⟩, xw_if_f (by rw [← h3]; omega)]
  · refine ⟨σ.1 19 k.toNat, ?_, ?_⟩
    · have e : f_MC_markAt fu σ k = some (σ, σ.1 19 k.toNat) := by
        unfold f_MC_markAt
        rw [xw_grd_t hk, xw_if_f (by omega), xw_grd_t h4, xw_if_f (by omega), xw_if_f (by omega), xw_grd_t (by constructor <;> omega)]
      unfold f_AW_mark
      rw [xw_bn2_e e]
    · unfold f_MD_mark
      rw [xw_bn2_e (q_outside fu ρ hk (by decide) (by decide)), xw_jn_e, if_neg (by omega), xw_grd_t (by decide), xw_if_t rfl, xw_grd_t ⟨hk, by rw [← h3]; exact h4⟩, xw_if_t (by rw [← h3]; omega), xw_grd_t (by constructor <;> omega), h5 k.toNat (by omega) (by omega)]
theorem q_probe (fu : Nat) (σ ρ : xw_S) (m p : Int) (hm : xw_r m) (hp : xw_r p) (h : iv_r σ ρ) : ∃ r, f_AW_probe fu σ m p = some (σ, r) ∧ f_MD_probe fu ρ m p = some (ρ, r) := by
  obtain ⟨h1, h2, h3, h4, h5, h6, h7⟩ := h
  by_cases c1 : m < 0 ∨ 3 < m
  · refine ⟨0, ?_, ?_⟩
    · have e : f_MC_probesAt fu σ m p = some (σ, 0) := by
        unfold f_MC_probesAt
        rw [xw_grd_t hm]
        by_cases c2 : m < 0
        · rw [xw_if_t c2]
        · rw [xw_if_f c2, xw_if_t (by omega)]
      unfold f_AW_probe
      rw [xw_bn2_e e]
    · unfold f_MD_probe
      rw [xw_bn2_e (q_outside fu ρ hm (by decide) (by decide)), xw_jn_e, if_pos c1, xw_grd_t (by decide), xw_if_f (by decide)]
  · by_cases c2 : p < 0 ∨ 255 < p
    · refine ⟨0, ?_, ?_⟩
      · have e : f_MC_probesAt fu σ m p = some (σ, 0) := by
          unfold f_MC_probesAt
          rw [xw_grd_t hm, xw_if_f (by omega), xw_if_f (by omega), xw_grd_t hp]
          by_cases c3 : p < 0
          · rw [xw_if_t c3]
          · rw [xw_if_f c3, xw_if_f (by omega)]
        unfold f_AW_probe
        rw [xw_bn2_e e]
      · unfold f_MD_probe
        rw [xw_bn2_e (q_outside fu ρ hm (by decide) (by decide)), xw_jn_e, if_neg c1, xw_grd_t (by decide), xw_if_t rfl, xw_bn2_e (q_outside fu ρ hp (by decide) (by decide)), if_pos c2, xw_grd_t (by decide), xw_if_f (by decide)]
    · have em : (256 * m + p).toNat = 256 * m.toNat + p.toNat := by omega
      have er : f_MD_probe fu ρ m p = some (ρ, ρ.1 28 (256 * m.toNat + p.toNat)) := by
        unfold f_MD_probe
        rw [xw_bn2_e (q_outside fu ρ hm (by decide) (by decide)), xw_jn_e, if_neg c1, xw_grd_t (by decide), xw_if_t rfl, xw_bn2_e (q_outside fu ρ hp (by decide) (by decide)), if_neg c2, xw_grd_t (by decide), xw_if_t rfl, xw_grd_t (by constructor <;> omega), em]
      by_cases c3 : p < 40
      · refine ⟨σ.1 20 (40 * m.toNat + p.toNat), ?_, ?_⟩
        · have e : f_MC_probesAt fu σ m p = some (σ, σ.1 20 (40 * m.toNat + p.toNat)) := by
            unfold f_MC_probesAt
            rw [xw_grd_t hm, xw_if_f (by omega), xw_if_f (by omega), xw_grd_t hp, xw_if_f (by omega), xw_if_t c3, xw_grd_t (by constructor <;> omega), show (m * 40 + p).toNat = 40 * m.toNat + p.toNat by omega]
          unfold f_AW_probe
          rw [xw_bn2_e e]
        · rw [er, h6 _ _ (by omega) (by omega)]
      · refine ⟨0, ?_, ?_⟩
        · have e : f_MC_probesAt fu σ m p = some (σ, 0) := by
            unfold f_MC_probesAt
            rw [xw_grd_t hm, xw_if_f (by omega), xw_if_f (by omega), xw_grd_t hp, xw_if_f (by omega), xw_if_f c3]
          unfold f_AW_probe
          rw [xw_bn2_e e]
        · rw [er, h7 _ _ (by omega) (by omega) (by omega)]
