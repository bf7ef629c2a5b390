/-! 64: where instructions begin: the class's findInstructions and the reference's divide -/
def m_nx (c : Nat → Int) : Nat → Int
  | 0 => 0
  | k + 1 => if m_nx c k = (k : Int) then (k : Int) + q_sz (c k) else m_nx c k
abbrev m_bg (c : Nat → Int) (k : Nat) : Prop := m_nx c k = (k : Int)
def m_ct (c : Nat → Int) : Nat → Int
  | 0 => 0
  | k + 1 => m_ct c k + if m_bg c k then 1 else 0
theorem q_sz_r (op : Int) : 0 ≤ q_sz op ∧ q_sz op ≤ 3 := by
  unfold q_sz
  repeat' split
  all_goals omega
theorem m_nx_b (c : Nat → Int) : ∀ k, 0 ≤ m_nx c k ∧ m_nx c k ≤ (k : Int) + 3 := by
  intro k
  induction k with
  | zero => simp [m_nx]
  | succ k ih =>
    have := q_sz_r (c k)
    simp only [m_nx]
    split <;> omega
theorem m_ct_b (c : Nat → Int) : ∀ k, 0 ≤ m_ct c k ∧ m_ct c k ≤ (k : Int) := by
  intro k
  induction k with
  | zero => simp [m_ct]
  | succ k ih =>
    simp only [m_ct]
    split <;> omega
theorem m_nx_in (c : Nat → Int) {p : Nat} (h : m_bg c p) : ∀ j : Nat, ((j + 1 : Nat) : Int) ≤ q_sz (c p) ∨ q_sz (c p) = 0 ∨ j = 0 → m_nx c (p + j + 1) = (p : Int) + q_sz (c p) := by
  intro j
  induction j with
  | zero => intro _; simp only [Nat.add_zero, m_nx]; rw [if_pos h]
  | succ j ih =>
    intro hj
    have e := ih (by omega)
    have e2 : m_nx c (p + j + 1 + 1) = if m_nx c (p + j + 1) = ((p + j + 1 : Nat) : Int) then ((p + j + 1 : Nat) : Int) + q_sz (c (p + j + 1)) else m_nx c (p + j + 1) := rfl
    rw [show p + (j + 1) + 1 = p + j + 1 + 1 by omega, e2, if_neg (by rw [e]; omega), e]
theorem m_nx_ext {c c' : Nat → Int} : ∀ k, (∀ p, p < k → c p = c' p) → m_nx c k = m_nx c' k := by
  intro k
  induction k with
  | zero => intro _; rfl
  | succ k ih =>
    intro h
    have e := ih (fun p hp => h p (by omega))
    simp only [m_nx, e, h k (by omega)]
/-- the depths and the number of instructions of body b -/
def S_fi (b : Nat) : Nat → Nat → Prop := fun i k => i = 50 + 4 * b ∨ (i = 48 + 4 * b ∧ k = 10)
theorem q_fi_lp (fu b : Nat) (hb : b < 13) (c : Nat → Int) (L : Nat) (hL : L ≤ xb_cap b) (K : xw_S → Int → Option (xw_S × Int)) : ∀ (d k n : Nat) (s : xw_S), k + d = L → d < n → s.1 (48 + 4 * b) 8 = (L : Int) → (∀ p : Nat, p < L → s.1 (49 + 4 * b) p = c p) → (∀ p, p < L → 0 ≤ c p ∧ c p ≤ 255) →
    ∃ s', lp_B_findInstructions_9 fu b K n s (m_nx c k) k = K s' (m_nx c L) ∧ frm (S_fi b) s s' ∧ (∀ p : Nat, p < k → s'.1 (50 + 4 * b) p = s.1 (50 + 4 * b) p) ∧ (∀ p : Nat, k ≤ p → p < L → s'.1 (50 + 4 * b) p = if m_bg c p then -1 else -2) ∧ s'.1 (48 + 4 * b) 10 = s.1 (48 + 4 * b) 10 + (m_ct c L - m_ct c k) := by
  have hcap : xb_cap b ≤ 120 := by unfold xb_cap; split <;> omega
  intro d
  induction d with
  | zero =>
    intro k n s hk hn hlen hcode hc
    obtain ⟨n, rfl⟩ : ∃ n', n = n' + 1 := ⟨n - 1, by omega⟩
    have e : k = L := by omega
    subst e
    refine ⟨s, ?_, frm_rf _ _, fun _ _ => rfl, fun p h1 h2 => by omega, by omega⟩
    rw [lp_B_findInstructions_9, xw_grd_t ⟨⟨by omega, by omega⟩, by rw [hlen]; exact ⟨by omega, by omega⟩⟩, xw_if_t (by omega)]
  | succ d ih =>
    intro k n s hk hn hlen hcode hc
    obtain ⟨n, rfl⟩ : ∃ n', n = n' + 1 := ⟨n - 1, by omega⟩
    have hnx := m_nx_b c k
    have hck := hc k (by omega)
    rw [lp_B_findInstructions_9, xw_grd_t ⟨⟨by omega, by omega⟩, by rw [hlen]; exact ⟨by omega, by omega⟩⟩, xw_if_f (by omega), xw_jn_e, xw_grd_t ⟨by omega, by omega⟩]
    by_cases hbg : m_bg c k
    · have hd : (k : Int) = m_nx c k := hbg.symm
      rw [xw_if_t hd, xw_grd_t (by constructor <;> omega), xw_let_e, xw_let_e]
      have ecode : (xw_st (xw_st s (50 + 4 * b) (k : Int).toNat (-1)) (48 + 4 * b) 10 ((xw_st s (50 + 4 * b) (k : Int).toNat (-1)).1 (48 + 4 * b) 10 + 1)).1 (49 + 4 * b) (k : Int).toNat = c k := by
        rw [st_i (by omega), st_i (by omega), Int.toNat_natCast, hcode k (by omega)]
      rw [ecode, xw_bn2_e (q_OPsize fu _ ⟨by omega, by omega⟩), xw_let_e]
      dsimp only
      rw [xw_let_e]
      have enx : m_nx c (k + 1) = (k : Int) + q_sz (c k) := by simp only [m_nx]; rw [if_pos hbg]
      rw [← enx, Int.toNat_natCast]
      obtain ⟨s', a1, a2, a3, a4, a5⟩ := ih (k + 1) n (xw_st (xw_st s (50 + 4 * b) k (-1)) (48 + 4 * b) 10 ((xw_st s (50 + 4 * b) k (-1)).1 (48 + 4 * b) 10 + 1)) (by omega) (by omega) (by rw [st_k (by decide), st_i (by omega), hlen]) (fun p hp => by rw [st_i (by omega), st_i (by omega), hcode p hp]) hc
      refine ⟨s', ?_, ?_, ?_, ?_, ?_⟩
      · rw [← a1]; rfl
      · exact frm_tr (frm_tr (frm_st (Or.inl rfl)) (frm_st (Or.inr ⟨rfl, rfl⟩))) a2
      · intro p hp
        rw [a3 p (by omega), st_i (by omega), st_k (by omega)]
      · intro p h1 h2
        by_cases hpk : p = k
        · subst hpk
          rw [a3 p (by omega), st_i (by omega), st_s, if_pos hbg]
        · exact a4 p (by omega) h2
      · rw [a5, st_s, st_i (by omega)]
        simp only [m_ct]
        rw [if_pos hbg]
        omega
    · rw [xw_if_f (fun h => hbg h.symm), xw_grd_t (by constructor <;> omega), xw_let_e]
      dsimp only
      rw [xw_let_e]
      have enx : m_nx c (k + 1) = m_nx c k := by simp only [m_nx]; rw [if_neg hbg]
      rw [← enx, Int.toNat_natCast]
      obtain ⟨s', a1, a2, a3, a4, a5⟩ := ih (k + 1) n (xw_st s (50 + 4 * b) k (-2)) (by omega) (by omega) (by rw [st_i (by omega), hlen]) (fun p hp => by rw [st_i (by omega), hcode p hp]) hc
      refine ⟨s', ?_, ?_, ?_, ?_, ?_⟩
      · rw [← a1]; rfl
      · exact frm_tr (frm_st (Or.inl rfl)) a2
      · intro p hp
        rw [a3 p (by omega), st_k (by omega)]
      · intro p h1 h2
        by_cases hpk : p = k
        · subst hpk
          rw [a3 p (by omega), st_s, if_neg hbg]
        · exact a4 p (by omega) h2
      · rw [a5, st_i (by omega)]
        simp only [m_ct]
        rw [if_neg hbg]
        omega
