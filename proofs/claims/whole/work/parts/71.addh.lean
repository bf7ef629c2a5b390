/-! 71: addHandler -/
def S_ah (b : Nat) : Nat → Nat → Prop := fun i k => i = 51 + 4 * b ∨ (i = 48 + 4 * b ∧ k = 9)
theorem q_addh (fu : Nat) {s : xw_S} {b N M : Nat} (hb : b < 13) (hn : s.1 (48 + 4 * b) 9 = (N : Int)) (hm : s.1 (48 + 4 * b) 3 = (M : Int)) (hM : 4 * M ≤ xb_hc b) (hNM : N ≤ M) (a0 a1 a2 a3 : Int) :
    ∃ s', f_B_addHandler fu s b a0 a1 a2 a3 = some s' ∧ frm (S_ah b) s s' ∧ (N = M → s' = s) ∧ (N < M → s'.1 (48 + 4 * b) 9 = ((N + 1 : Nat) : Int) ∧ s'.1 (51 + 4 * b) (4 * N) = a0 ∧ s'.1 (51 + 4 * b) (4 * N + 1) = a1 ∧ s'.1 (51 + 4 * b) (4 * N + 2) = a2 ∧ s'.1 (51 + 4 * b) (4 * N + 3) = a3 ∧ ∀ i : Nat, i < 4 * N → s'.1 (51 + 4 * b) i = s.1 (51 + 4 * b) i) := by
  have hcap : xb_hc b ≤ 20 := by unfold xb_hc; split <;> omega
  unfold f_B_addHandler
  rw [hn, hm, xw_grd_t ⟨⟨by omega, by omega⟩, ⟨by omega, by omega⟩⟩]
  by_cases h : (N : Int) < (M : Int)
  · rw [xw_if_t h, xw_let_e, xw_grd_t (by constructor <;> omega), xw_let_e, xw_grd_t (by constructor <;> omega), xw_let_e, xw_grd_t (by constructor <;> omega), xw_let_e, xw_grd_t (by constructor <;> omega), xw_let_e, xw_let_e]
    rw [show ((N : Int) * 4 + 0).toNat = 4 * N by omega, show ((N : Int) * 4 + 1).toNat = 4 * N + 1 by omega, show ((N : Int) * 4 + 2).toNat = 4 * N + 2 by omega, show ((N : Int) * 4 + 3).toNat = 4 * N + 3 by omega]
    refine ⟨_, rfl, ?_, fun z => by omega, fun _ => ⟨?_, ?_, ?_, ?_, ?_, fun i hi => ?_⟩⟩
    · exact frm_tr (frm_tr (frm_tr (frm_tr (frm_st (Or.inl rfl)) (frm_st (Or.inl rfl))) (frm_st (Or.inl rfl))) (frm_st (Or.inl rfl))) (frm_st (Or.inr ⟨rfl, rfl⟩))
    · rw [st_s, st_i (by omega), st_i (by omega), st_i (by omega), st_i (by omega), hn]; omega
    · rw [st_i (by omega), st_k (by omega), st_k (by omega), st_k (by omega), st_s]
    · rw [st_i (by omega), st_k (by omega), st_k (by omega), st_s]
    · rw [st_i (by omega), st_k (by omega), st_s]
    · rw [st_i (by omega), st_s]
    · rw [st_i (by omega), st_k (by omega), st_k (by omega), st_k (by omega), st_k (by omega)]
  · rw [xw_if_f h]
    exact ⟨s, rfl, frm_rf _ _, fun _ => rfl, fun z => by omega⟩
