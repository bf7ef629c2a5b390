/-! 64: where instructions begin: the class's findInstructions and the reference's divide -/
def m_nx (c : Nat → Int) : Nat → Int
  | 0 => 0
  | k + 1 => if m_nx c k = (k : Int) then (k : Int) + q_sz (c k) else m_nx c k
abbrev m_bg (c : Nat → Int) (k : Nat) : Prop := m_nx c k = (k : Int)
def m_ct (c : Nat → Int) : Nat → Int
  | 0 => 0
  | k + 1 => m_ct c k + if m_bg c k then 1 else 0
theorem q_sz_r (op : Int) : 0 ≤ q_sz op ∧ q_sz op ≤ 3 := by
  unfold q_sz
  repeat' split
  all_goals omega
theorem m_nx_b (c : Nat → Int) : ∀ k, 0 ≤ m_nx c k ∧ m_nx c k ≤ (k : Int) + 3 := by
  intro k
  induction k with
  | zero => simp [m_nx]
  | succ k ih =>
    have := q_sz_r (c k)
    simp only [m_nx]
    split <;> omega
theorem m_ct_b (c : Nat → Int) : ∀ k, 0 ≤ m_ct c k ∧ m_ct c k ≤ (k : Int) := by
  intro k
  induction k with
  | zero => simp [m_ct]
  | succ k ih =>
    simp only [m_ct]
    split <;> omega
theorem m_nx_in (c : Nat → Int) {p : Nat} (h : m_bg c p) : ∀ j : Nat, ((j + 1 : Nat) : Int) ≤ q_sz (c p) ∨ q_sz (c p) = 0 ∨ j = 0 → m_nx c (p + j + 1) = (p : Int) + q_sz (c p) := by
  intro j
  induction j with
  | zero => intro _; simp only [Nat.add_zero, m_nx]; rw [if_pos h]
  | succ j ih =>
    intro hj
    have e := ih (by omega)
    have e2 : m_nx c (p + j + 1 + 1) = if m_nx c (p + j + 1) = ((p + j + 1 : Nat) : Int) then ((p + j + 1 : Nat) : Int) + q_sz (c (p + j + 1)) else m_nx c (p + j + 1) := rfl
    rw [show p + (j + 1) + 1 = p + j + 1 + 1 by omega, e2, if_neg (by rw [e]; omega), e]
theorem m_nx_ext {c c' : Nat → Int} : ∀ k, (∀ p, p < k → c p = c' p) → m_nx c k = m_nx c' k := by
  intro k
  induction k with
  | zero => intro _; rfl
  | succ k ih =>
    intro h
    have e := ih (fun p hp => h p (by omega))
    simp only [m_nx, e, h k (by omega)]
/-- the depths and the number of instructions of body b -/
def S_fi (b : Nat) : Nat → Nat → Prop := fun i k => i = 50 + 4 * b ∨ (i = 48 + 4 * b ∧ k = 10)
theorem q_fi_lp (fu b : Nat) (hb : b < 13) (c : Nat → Int) (L : Nat) (hL : L ≤ xb_cap b) (K : xw_S → Int → Option (xw_S × Int)) : ∀ (d k n : Nat) (s : xw_S), k + d = L → d < n → s.1 (48 + 4 * b) 8 = (L : Int) → (∀ p : Nat, p < L → s.1 (49 + 4 * b) p = c p) → (∀ p, p < L → 0 ≤ c p ∧ c p ≤ 255) →
    ∃ s', lp_B_findInstructions_9 fu b K n s (m_nx c k) k = K s' (m_nx c L) ∧ frm (S_fi b) s s' ∧ (∀ p : Nat, p < k → s'.1 (50 + 4 * b) p = s.1 (50 + 4 * b) p) ∧ (∀ p : Nat, k ≤ p → p < L → s'.1 (50 + 4 * b) p = if m_bg c p then -1 else -2) ∧ s'.1 (48 + 4 * b) 10 = s.1 (48 + 4 * b) 10 + (m_ct c L - m_ct c k) := by
  have hcap : xb_cap b ≤ 120 := by unfold xb_cap; split <;> omega
  intro d
  induction d with
  | zero =>
    intro k n s hk hn hlen hcode hc
    obtain ⟨n, rfl⟩ : ∃ n', n = n' + 1 := ⟨n - 1, by omega⟩
    have e : k = L := by omega
    subst e
    refine ⟨s, ?_, frm_rf _ _, fun _ _ => rfl, fun p h1 h2 => by omega, by omega⟩
    rw [lp_B_findInstructions_9, xw_grd_t ⟨⟨by omega, by omega⟩, by rw [hlen]; exact ⟨by omega, by omega⟩⟩, xw_if_t (by omega)]
  | succ d ih =>
    intro k n s hk hn hlen hcode hc
    obtain ⟨n, rfl⟩ : ∃ n', n = n' + 1 := ⟨n - 1, by omega⟩
    have hnx := m_nx_b c k
    have hck := hc k (by omega)
    rw [lp_B_findInstructions_9, xw_grd_t ⟨⟨by omega, by omega⟩, by rw [hlen]; exact ⟨by omega, by omega⟩⟩, xw_if_f (by omega), xw_jn_e, xw_grd_t ⟨by omega, by omega⟩]
    by_cases hbg : m_bg c k
    · have hd : (k : Int) = m_nx c k := hbg.symm
      rw [xw_if_t hd, xw_grd_t (by constructor <;> omega), xw_let_e, xw_let_e]
      have ecode : (xw_st (xw_st s (50 + 4 * b) (k : Int).toNat (-1)) (48 + 4 * b) 10 ((xw_st s (50 + 4 * b) (k : Int).toNat (-1)).1 (48 + 4 * b) 10 + 1)).1 (49 + 4 * b) (k : Int).toNat = c k := by
        rw [st_i (by omega), st_i (by omega), Int.toNat_natCast, hcode k (by omega)]
      rw [ecode, xw_bn2_e (q_OPsize fu _ ⟨by omega, by omega⟩), xw_let_e]
      dsimp only
      rw [xw_let_e]
      have enx : m_nx c (k + 1) = (k : Int) + q_sz (c k) := by simp only [m_nx]; rw [if_pos hbg]
      rw [← enx, Int.toNat_natCast]
      obtain ⟨s', a1, a2, a3, a4, a5⟩ := ih (k + 1) n (xw_st (xw_st s (50 + 4 * b) k (-1)) (48 + 4 * b) 10 ((xw_st s (50 + 4 * b) k (-1)).1 (48 + 4 * b) 10 + 1)) (by omega) (by omega) (by rw [st_k (by decide), st_i (by omega), hlen]) (fun p hp => by rw [st_i (by omega), st_i (by omega), hcode p hp]) hc
      refine ⟨s', ?_, ?_, ?_, ?_, ?_⟩
      · rw [← a1]; rfl
      · exact frm_tr (frm_tr (frm_st (Or.inl rfl)) (frm_st (Or.inr ⟨rfl, rfl⟩))) a2
      · intro p hp
        rw [a3 p (by omega), st_i (by omega), st_k (by omega)]
      · intro p h1 h2
        by_cases hpk : p = k
        · subst hpk
          rw [a3 p (by omega), st_i (by omega), st_s, if_pos hbg]
        · exact a4 p (by omega) h2
      · rw [a5, st_s, st_i (by omega)]
        simp only [m_ct]
        rw [if_pos hbg]
        omega
    · rw [xw_if_f (fun h => hbg h.symm), xw_grd_t (by constructor <;> omega), xw_let_e]
      dsimp only
      rw [xw_let_e]
      have enx : m_nx c (k + 1) = m_nx c k := by simp only [m_nx]; rw [if_neg hbg]
      rw [← enx, Int.toNat_natCast]
      obtain ⟨s', a1, a2, a3, a4, a5⟩ := ih (k + 1) n (xw_st s (50 + 4 * b) k (-2)) (by omega) (by omega) (by rw [st_i (by omega), hlen]) (fun p hp => by rw [st_i (by omega), hcode p hp]) hc
      refine ⟨s', ?_, ?_, ?_, ?_, ?_⟩
      · rw [← a1]; rfl
      · exact frm_tr (frm_st (Or.inl rfl)) a2
      · intro p hp
        rw [a3 p (by omega), st_k (by omega)]
      · intro p h1 h2
        by_cases hpk : p = k
        · subst hpk
          rw [a3 p (by omega), st_s, if_neg hbg]
        · exact a4 p (by omega) h2
      · rw [a5, st_i (by omega)]
        simp only [m_ct]
        rw [if_neg hbg]
        omega
theorem q_fi (fu b : Nat) (hfu : 1000 ≤ fu) (hb : b < 13) (c : Nat → Int) (L : Nat) (hL : L ≤ xb_cap b) (s : xw_S) (hlen : s.1 (48 + 4 * b) 8 = (L : Int)) (hcode : ∀ p : Nat, p < L → s.1 (49 + 4 * b) p = c p) (hc : ∀ p, p < L → 0 ≤ c p ∧ c p ≤ 255) :
    ∃ s', f_B_findInstructions fu s b = some (s', if m_nx c L = (L : Int) then 1 else 0) ∧ frm (S_fi b) s s' ∧ (∀ p : Nat, p < L → s'.1 (50 + 4 * b) p = if m_bg c p then -1 else -2) ∧ s'.1 (48 + 4 * b) 10 = m_ct c L := by
  have hcap : xb_cap b ≤ 120 := by unfold xb_cap; split <;> omega
  have hnx := m_nx_b c L
  unfold f_B_findInstructions
  rw [xw_let_e, xw_jn_e]
  obtain ⟨s', a1, a2, a3, a4, a5⟩ := q_fi_lp fu b hb c L hL (fun (s24 : xw_S) (i1_68 : Int) => xw_grd (xw_r i1_68 ∧ xw_r (s24.1 (48 + 4 * b) 8)) (xw_if (i1_68 = s24.1 (48 + 4 * b) 8) (some (s24, 1)) (some (s24, 0)))) L 0 fu (xw_st s (48 + 4 * b) 10 0) (by omega) (by omega) (by rw [st_k (by decide), hlen]) (fun p hp => by rw [st_i (by omega), hcode p hp]) hc
  have hlen' : s'.1 (48 + 4 * b) 8 = (L : Int) := by
    rw [a2.2 _ _ (by unfold S_fi; omega), st_k (by decide), hlen]
  refine ⟨s', ?_, frm_tr (frm_st (Or.inr ⟨rfl, rfl⟩)) a2, fun p hp => a4 p (by omega) hp, ?_⟩
  · have a1 : lp_B_findInstructions_9 fu b (fun (s24 : xw_S) (i1_68 : Int) => xw_grd (xw_r i1_68 ∧ xw_r (s24.1 (48 + 4 * b) 8)) (xw_if (i1_68 = s24.1 (48 + 4 * b) 8) (some (s24, 1)) (some (s24, 0)))) fu (xw_st s (48 + 4 * b) 10 0) 0 0 = _ := a1
    rw [a1]
    rw [xw_grd_t ⟨⟨by omega, by omega⟩, by rw [hlen']; exact ⟨by omega, by omega⟩⟩, hlen']
    by_cases h : m_nx c L = (L : Int)
    · rw [xw_if_t h, if_pos h]
    · rw [xw_if_f h, if_neg h]
  · rw [a5, st_s]
    simp only [m_ct]
    omega
/-! the reference -/
def S_14 : Nat → Nat → Prop := fun i _ => i = 14
theorem q_dv_lp0 (fu : Nat) (q : Int) (K : xw_S → Option (xw_S × Int)) : ∀ (d k n : Nat) (s : xw_S), k + d = 121 → d < n → ∃ s', lp_MD_divide_2 fu q K n s (k : Int) = K s' ∧ frm S_14 s s' ∧ (∀ p : Nat, p < k → s'.1 14 p = s.1 14 p) ∧ (∀ p : Nat, k ≤ p → p < 121 → s'.1 14 p = 0) := by
  intro d
  induction d with
  | zero =>
    intro k n s hk hn
    obtain ⟨n, rfl⟩ : ∃ n', n = n' + 1 := ⟨n - 1, by omega⟩
    refine ⟨s, ?_, frm_rf _ _, fun _ _ => rfl, fun p h1 h2 => by omega⟩
    rw [lp_MD_divide_2, xw_grd_t ⟨by omega, by omega⟩, xw_if_t (by omega)]
  | succ d ih =>
    intro k n s hk hn
    obtain ⟨n, rfl⟩ : ∃ n', n = n' + 1 := ⟨n - 1, by omega⟩
    rw [lp_MD_divide_2, xw_grd_t ⟨by omega, by omega⟩, xw_if_f (by omega), xw_grd_t (by constructor <;> omega), xw_let_e, xw_let_e, Int.toNat_natCast]
    obtain ⟨s', a1, a2, a3, a4⟩ := ih (k + 1) n (xw_st s 14 k 0) (by omega) (by omega)
    refine ⟨s', ?_, frm_tr (frm_st rfl) a2, fun p hp => by rw [a3 p (by omega), st_k (by omega)], fun p h1 h2 => ?_⟩
    · rw [← a1]; rfl
    · by_cases hpk : p = k
      · subst hpk
        rw [a3 p (by omega), st_s]
      · exact a4 p (by omega) h2
theorem q_MDop (fu : Nat) (s : xw_S) {q p : Nat} (hq : q < 12) (hp : 120 * q + p < 1440) : f_MD_op fu s (q : Int) (p : Int) = some (s, s.1 7 (120 * q + p)) := by
  unfold f_MD_op
  rw [xw_grd_t (by constructor <;> omega), show (120 * (q : Int) + (p : Int)).toNat = 120 * q + p by omega]
theorem q_dv_lp (fu q : Nat) (hq : q < 12) (c : Nat → Int) (L : Nat) (hL : L ≤ 120) (hc : ∀ p, p < L → 0 ≤ c p ∧ c p ≤ 255) (K0 K1 : xw_S → Option (xw_S × Int)) : ∀ (d p n : Nat) (s : xw_S), L ≤ p + d → p ≤ L → d < n → m_bg c p → s.1 6 q = (L : Int) → (∀ k : Nat, k < L → s.1 7 (120 * q + k) = c k) → (∀ k : Nat, k < p → s.1 14 k = if m_bg c k then 1 else 0) → (∀ k : Nat, p ≤ k → k < 121 → s.1 14 k = 0) →
    ∃ s', frm S_14 s s' ∧ (∀ k : Nat, k < 121 → s'.1 14 k = 0 ∨ s'.1 14 k = 1) ∧ ((m_nx c L = (L : Int) ∧ lp_MD_divide_23 fu (q : Int) K0 K1 n s (p : Int) = K1 s' ∧ (∀ k : Nat, k < L → s'.1 14 k = if m_bg c k then 1 else 0) ∧ (∀ k : Nat, L ≤ k → k < 121 → s'.1 14 k = 0)) ∨ (m_nx c L ≠ (L : Int) ∧ lp_MD_divide_23 fu (q : Int) K0 K1 n s (p : Int) = K0 s')) := by
  intro d
  have b01 : ∀ (s : xw_S) (p : Nat), (∀ k : Nat, k < p → s.1 14 k = if m_bg c k then 1 else 0) → (∀ k : Nat, p ≤ k → k < 121 → s.1 14 k = 0) → ∀ k : Nat, k < 121 → s.1 14 k = 0 ∨ s.1 14 k = 1 := by
    intro s p h1 h2 k hk
    by_cases h : k < p
    · rw [h1 k h]; split <;> simp
    · exact Or.inl (h2 k (by omega) hk)
  induction d with
  | zero =>
    intro p n s h1 h2 hn hbg hlen hcode hlo hhi
    obtain ⟨n, rfl⟩ : ∃ n', n = n' + 1 := ⟨n - 1, by omega⟩
    have e : p = L := by omega
    subst e
    refine ⟨s, frm_rf _ _, b01 s p hlo hhi, Or.inl ⟨hbg, ?_, hlo, hhi⟩⟩
    rw [lp_MD_divide_23, xw_grd_t (by constructor <;> omega), Int.toNat_natCast, hlen, xw_grd_t ⟨⟨by omega, by omega⟩, ⟨by omega, by omega⟩⟩, xw_if_t (by omega)]
  | succ d ih =>
    intro p n s h1 h2 hn hbg hlen hcode hlo hhi
    obtain ⟨n, rfl⟩ : ∃ n', n = n' + 1 := ⟨n - 1, by omega⟩
    by_cases hpL : p = L
    · subst hpL
      refine ⟨s, frm_rf _ _, b01 s p hlo hhi, Or.inl ⟨hbg, ?_, hlo, hhi⟩⟩
      rw [lp_MD_divide_23, xw_grd_t (by constructor <;> omega), Int.toNat_natCast, hlen, xw_grd_t ⟨⟨by omega, by omega⟩, ⟨by omega, by omega⟩⟩, xw_if_t (by omega)]
    · have hcp := hc p (by omega)
      have hsz := q_sz_r (c p)
      have hin := m_nx_in c hbg
      have e0 : lp_MD_divide_23 fu (q : Int) K0 K1 (n + 1) s (p : Int) = xw_if (q_sz (c p) = 0) (K0 s) (xw_if ((p : Int) + q_sz (c p) ≤ (L : Int)) (lp_MD_divide_23 fu (q : Int) K0 K1 n (xw_st s 14 p 1) ((p : Int) + q_sz (c p))) (K0 s)) := by
        rw [lp_MD_divide_23, xw_grd_t (by constructor <;> omega), Int.toNat_natCast, hlen, xw_grd_t ⟨⟨by omega, by omega⟩, ⟨by omega, by omega⟩⟩, xw_if_f (by omega), xw_bn2_e (q_MDop fu s hq (by omega)), hcode p (by omega), xw_bn2_e (q_MDsz fu s ⟨by omega, by omega⟩), xw_grd_t ⟨by omega, by omega⟩, hlen, xw_grd_t ⟨⟨by omega, by omega⟩, ⟨by omega, by omega⟩⟩, xw_grd_t (by constructor <;> omega), xw_let_e, xw_let_e, Int.toNat_natCast]
      rw [e0]
      by_cases hz : q_sz (c p) = 0
      · refine ⟨s, frm_rf _ _, b01 s p hlo hhi, Or.inr ⟨?_, by rw [xw_if_t hz]⟩⟩
        have := hin (L - p - 1) (Or.inr (Or.inl hz))
        rw [show p + (L - p - 1) + 1 = L by omega] at this
        omega
      · rw [xw_if_f hz]
        by_cases hov : (p : Int) + q_sz (c p) ≤ (L : Int)
        · rw [xw_if_t hov]
          obtain ⟨w, hw⟩ : ∃ w : Nat, q_sz (c p) = ((w + 1 : Nat) : Int) := ⟨(q_sz (c p) - 1).toNat, by omega⟩
          have hnext : m_bg c (p + w + 1) := by
            have := hin w (Or.inl (by omega))
            show m_nx c (p + w + 1) = _
            rw [this]; omega
          have hmid : ∀ k : Nat, p < k → k < p + w + 1 → ¬ m_bg c k := by
            intro k k1 k2 hk
            have := hin (k - p - 1) (Or.inl (by omega))
            rw [show p + (k - p - 1) + 1 = k by omega] at this
            have hk' : m_nx c k = (k : Int) := hk
            omega
          obtain ⟨s', a1, a2, a3⟩ := ih (p + w + 1) n (xw_st s 14 p 1) (by omega) (by omega) (by omega) hnext (by rw [st_i (by decide), hlen]) (fun k hk => by rw [st_i (by decide), hcode k hk]) (fun k hk => by
            by_cases hkp : k = p
            · subst hkp; rw [st_s, if_pos hbg]
            · rw [st_k hkp]
              by_cases hlt : k < p
              · exact hlo k hlt
              · rw [hhi k (by omega) (by omega), if_neg (hmid k (by omega) hk)]) (fun k k1 k2 => by rw [st_k (by omega)]; exact hhi k (by omega) k2)
          rw [show (p : Int) + q_sz (c p) = ((p + w + 1 : Nat) : Int) by omega]
          exact ⟨s', frm_tr (frm_st rfl) a1, a2, a3⟩
        · refine ⟨s, frm_rf _ _, b01 s p hlo hhi, Or.inr ⟨?_, by rw [xw_if_f hov]⟩⟩
          have := hin (L - p - 1) (Or.inl (by omega))
          rw [show p + (L - p - 1) + 1 = L by omega] at this
          omega
theorem q_dv (fu q : Nat) (hfu : 1000 ≤ fu) (hq : q < 12) (c : Nat → Int) (L : Nat) (hL : L ≤ 120) (hc : ∀ p, p < L → 0 ≤ c p ∧ c p ≤ 255) (s : xw_S) (hlen : s.1 6 q = (L : Int)) (hcode : ∀ k : Nat, k < L → s.1 7 (120 * q + k) = c k) :
    ∃ s', f_MD_divide fu s (q : Int) = some (s', if m_nx c L = (L : Int) then 1 else 0) ∧ frm S_14 s s' ∧ (∀ k : Nat, k < 121 → s'.1 14 k = 0 ∨ s'.1 14 k = 1) ∧ (m_nx c L = (L : Int) → (∀ k : Nat, k < L → s'.1 14 k = if m_bg c k then 1 else 0) ∧ ∀ k : Nat, L ≤ k → k < 121 → s'.1 14 k = 0) := by
  obtain ⟨s1, a1, a2, -, a4⟩ := q_dv_lp0 fu (q : Int) (fun (s9 : xw_S) => xw_jn (fun (s30 : xw_S) => some (s30, (1 : Int))) (fun (k75 : xw_S → Option (xw_S × Int)) => xw_jn (fun (s29 : xw_S) => some (s29, 0)) (fun (k59 : xw_S → Option (xw_S × Int)) => lp_MD_divide_23 fu (q : Int) k59 k75 fu s9 0))) 121 0 fu s (by omega) (by omega)
  obtain ⟨s2, b1, b2, b3⟩ := q_dv_lp fu q hq c L hL hc (fun (s29 : xw_S) => some (s29, 0)) (fun (s30 : xw_S) => some (s30, (1 : Int))) L 0 fu s1 (by omega) (by omega) (by omega) rfl (by rw [a2.2 _ _ (by unfold S_14; omega), hlen]) (fun k hk => by rw [a2.2 _ _ (by unfold S_14; omega), hcode k hk]) (fun k hk => by omega) (fun k _ hk => a4 k (by omega) hk)
  have e : f_MD_divide fu s (q : Int) = lp_MD_divide_23 fu (q : Int) (fun (s29 : xw_S) => some (s29, 0)) (fun (s30 : xw_S) => some (s30, (1 : Int))) fu s1 ((0 : Nat) : Int) := a1
  refine ⟨s2, ?_, frm_tr a2 b1, b2, ?_⟩
  · rw [e]
    rcases b3 with ⟨g, h, -, -⟩ | ⟨g, h⟩
    · rw [h, if_pos g]
    · rw [h, if_neg g]
  · intro g
    rcases b3 with ⟨-, -, h1, h2⟩ | ⟨g', -⟩
    · exact ⟨h1, h2⟩
    · exact absurd g g'
