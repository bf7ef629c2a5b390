/-! 72: which body is asked for: bodyOf and slot; code and handler -/
/-- what both sides hold of methods and of whether they are woven -/
def iv_k (σ ρ : xw_S) : Prop := σ.1 0 9 = ρ.1 0 10 ∧ 0 ≤ σ.1 0 9 ∧ σ.1 0 9 ≤ 4 ∧ σ.1 0 11 = ρ.1 0 12 ∧ (σ.1 0 11 = 0 ∨ σ.1 0 11 = 1)
abbrev m_no (σ : xw_S) (w m : Int) : Prop := m < 0 ∨ σ.1 0 9 ≤ m ∨ (w = 1 ∧ σ.1 0 11 = 0)
theorem q_bodyOf (fu : Nat) {σ ρ : xw_S} (h : iv_k σ ρ) {w m : Int} (hw : w = 0 ∨ w = 1) (hm : xw_r m) : (m_no σ w m → f_AW_bodyOf fu σ w m = some (σ, none)) ∧ (¬ m_no σ w m → f_AW_bodyOf fu σ w m = some (σ, some (if w = 1 then 4 * 2 + m.toNat else 4 * 1 + m.toNat))) := by
  obtain ⟨h1, h2, h3, h4, h5⟩ := h
  unfold f_AW_bodyOf
  rw [xw_grd_t hm]
  by_cases c1 : m < 0
  · rw [xw_if_t c1]
    exact ⟨fun _ => rfl, fun z => absurd (Or.inl c1) z⟩
  · rw [xw_if_f c1, xw_grd_t (by (try simp only [xw_r]); omega)]
    by_cases c2 : σ.1 0 9 ≤ m
    · rw [xw_if_t c2]
      exact ⟨fun _ => rfl, fun z => absurd (Or.inr (Or.inl c2)) z⟩
    · rw [xw_if_f c2, xw_jn_e]
      rcases hw with rfl | rfl
      · rw [xw_grd_t (by decide), xw_if_t rfl]
        dsimp only
        rw [xw_grd_t (by decide), xw_if_t rfl, xw_grd_t (by (try simp only [xw_r]); omega), if_neg (by decide)]
        exact ⟨fun z => by omega, fun _ => rfl⟩
      · rw [xw_grd_t (by decide), xw_if_f (by decide), xw_grd_t (by (try simp only [xw_r]); omega), if_pos rfl]
        by_cases c3 : σ.1 0 11 = 0
        · rw [xw_if_t c3]
          exact ⟨fun _ => rfl, fun z => absurd (Or.inr (Or.inr ⟨rfl, c3⟩)) z⟩
        · rw [xw_if_f c3]
          dsimp only
          rw [xw_grd_t (by decide), xw_if_f (by decide), xw_grd_t (by (try simp only [xw_r]); omega)]
          exact ⟨fun z => by omega, fun _ => rfl⟩
theorem q_slot (fu : Nat) {σ ρ : xw_S} (h : iv_k σ ρ) {w m : Int} (hw : w = 0 ∨ w = 1) (hm : xw_r m) : (m_no σ w m → f_MD_slot fu ρ w m = some (ρ, -1)) ∧ (¬ m_no σ w m → f_MD_slot fu ρ w m = some (ρ, if w = 1 then 4 + m else m)) := by
  obtain ⟨h1, h2, h3, h4, h5⟩ := h
  unfold f_MD_slot
  rw [xw_bn2_e (q_outside fu ρ hm (by (try simp only [xw_r]); omega) (by (try simp only [xw_r]); omega)), xw_jn_e]
  by_cases c1 : m < 0 ∨ ρ.1 0 10 - 1 < m
  · rw [if_pos c1, xw_grd_t (by decide), xw_if_f (by decide)]
    exact ⟨fun _ => rfl, fun z => by omega⟩
  · rw [if_neg c1, xw_grd_t (by decide), xw_if_t rfl, xw_jn_e]
    rcases hw with rfl | rfl
    · rw [xw_grd_t (by decide), xw_if_t rfl]
      dsimp only
      rw [xw_grd_t (by decide), xw_if_t rfl, if_neg (by decide)]
      exact ⟨fun z => by omega, fun _ => rfl⟩
    · rw [xw_grd_t (by decide), xw_if_f (by decide), xw_grd_t (by (try simp only [xw_r]); omega), if_pos rfl]
      by_cases c3 : ρ.1 0 12 = 0
      · rw [xw_if_t c3]
        exact ⟨fun _ => rfl, fun z => by omega⟩
      · rw [xw_if_f c3]
        dsimp only
        rw [xw_grd_t (by decide), xw_if_f (by decide)]
        exact ⟨fun z => by omega, fun _ => rfl⟩
