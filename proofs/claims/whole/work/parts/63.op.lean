/-! 63: instructions: sizes, what they take and put, branches; the same on both sides -/
def q_sz (op : Int) : Int := if op = 16 ∨ (20 ≤ op ∧ op ≤ 22) then 3 else if (1 ≤ op ∧ op ≤ 3) ∨ (10 ≤ op ∧ op ≤ 13) ∨ op = 30 ∨ op = 31 then 2 else if (0 ≤ op ∧ op ≤ 15) ∨ op = 32 then 1 else 0
def q_pt (op : Int) : Int := if op = 8 then 2 else if op = 1 ∨ op = 2 ∨ (4 ≤ op ∧ op ≤ 7) ∨ op = 13 then 1 else 0
def q_tk (op : Int) : Int := if 4 ≤ op ∧ op ≤ 7 then 2 else if op = 3 ∨ op = 8 ∨ op = 9 ∨ op = 11 ∨ op = 12 ∨ op = 14 ∨ op = 15 ∨ op = 21 ∨ op = 22 ∨ op = 32 then 1 else 0
abbrev q_sb (op : Int) : Prop := 10 ≤ op ∧ op ≤ 12
abbrev q_wb (op : Int) : Prop := 20 ≤ op ∧ op ≤ 22
abbrev q_br (op : Int) : Prop := q_sb op ∨ q_wb op
abbrev q_en (op : Int) : Prop := op = 10 ∨ op = 14 ∨ op = 15 ∨ op = 20 ∨ op = 32
theorem q_szT : ∀ n : Nat, n < 33 → (xw_sa 0).getD n 0 = q_sz (n : Int) := by decide
theorem q_tkT : ∀ n : Nat, n < 33 → (xw_sa 1).getD n 0 = q_tk (n : Int) := by decide
theorem q_ptT : ∀ n : Nat, n < 33 → (xw_sa 2).getD n 0 = q_pt (n : Int) := by decide
theorem q_OPsize (fu : Nat) (s : xw_S) {op : Int} (h : xw_r op) : f_OP_size fu s op = some (s, q_sz op) := by
  unfold f_OP_size
  rw [xw_grd_t h]
  by_cases h1 : op < 0
  · rw [xw_if_t h1]; unfold q_sz; simp only [show ¬ (op = 16 ∨ (20 ≤ op ∧ op ≤ 22)) by omega, show ¬ ((1 ≤ op ∧ op ≤ 3) ∨ (10 ≤ op ∧ op ≤ 13) ∨ op = 30 ∨ op = 31) by omega, show ¬ ((0 ≤ op ∧ op ≤ 15) ∨ op = 32) by omega, if_false]
  · rw [xw_if_f h1]
    by_cases h2 : 33 ≤ op
    · rw [xw_if_t h2]; unfold q_sz; simp only [show ¬ (op = 16 ∨ (20 ≤ op ∧ op ≤ 22)) by omega, show ¬ ((1 ≤ op ∧ op ≤ 3) ∨ (10 ≤ op ∧ op ≤ 13) ∨ op = 30 ∨ op = 31) by omega, show ¬ ((0 ≤ op ∧ op ≤ 15) ∨ op = 32) by omega, if_false]
    · rw [xw_if_f h2, xw_grd_t (by constructor <;> omega), q_szT op.toNat (by omega), show ((op.toNat : Nat) : Int) = op by omega]
theorem q_OPtakes (fu : Nat) (s : xw_S) {op : Int} (h : xw_r op) : f_OP_takes fu s op = some (s, q_tk op) := by
  unfold f_OP_takes
  rw [xw_grd_t h]
  by_cases h1 : op < 0
  · rw [xw_if_t h1]; unfold q_tk; rw [if_neg (by omega), if_neg (by omega)]
  · rw [xw_if_f h1]
    by_cases h2 : 33 ≤ op
    · rw [xw_if_t h2]; unfold q_tk; rw [if_neg (by omega), if_neg (by omega)]
    · rw [xw_if_f h2, xw_grd_t (by constructor <;> omega), q_tkT op.toNat (by omega), show ((op.toNat : Nat) : Int) = op by omega]
theorem q_OPputs (fu : Nat) (s : xw_S) {op : Int} (h : xw_r op) : f_OP_puts fu s op = some (s, q_pt op) := by
  unfold f_OP_puts
  rw [xw_grd_t h]
  by_cases h1 : op < 0
  · rw [xw_if_t h1]; unfold q_pt; rw [if_neg (by omega), if_neg (by omega)]
  · rw [xw_if_f h1]
    by_cases h2 : 33 ≤ op
    · rw [xw_if_t h2]; unfold q_pt; rw [if_neg (by omega), if_neg (by omega)]
    · rw [xw_if_f h2, xw_grd_t (by constructor <;> omega), q_ptT op.toNat (by omega), show ((op.toNat : Nat) : Int) = op by omega]
theorem q_OPsb (fu : Nat) (s : xw_S) {op : Int} (h : xw_r op) : f_OP_isShortBranch fu s op = some (s, if q_sb op then 1 else 0) := by
  unfold f_OP_isShortBranch
  simp only [xw_jn, xw_grd_t h, xw_if]
  repeat' split
  all_goals first | rfl | omega
theorem q_OPwb (fu : Nat) (s : xw_S) {op : Int} (h : xw_r op) : f_OP_isWideBranch fu s op = some (s, if q_wb op then 1 else 0) := by
  unfold f_OP_isWideBranch
  simp only [xw_jn, xw_grd_t h, xw_if]
  repeat' split
  all_goals first | rfl | omega
theorem q_OPbr (fu : Nat) (s : xw_S) {op : Int} (h : xw_r op) : f_OP_isBranch fu s op = some (s, if q_br op then 1 else 0) := by
  unfold f_OP_isBranch
  rw [xw_bn2_e (q_OPsb fu s h)]
  by_cases h1 : q_sb op
  · rw [if_pos h1, if_pos (Or.inl h1), xw_jn_e, xw_grd_t (by decide), xw_if_f (by decide)]
  · rw [if_neg h1, xw_jn_e, xw_grd_t (by decide), xw_if_t rfl, xw_bn2_e (q_OPwb fu s h)]
    by_cases h2 : q_wb op
    · rw [if_pos h2, if_pos (Or.inr h2), xw_grd_t (by decide), xw_if_f (by decide)]
    · rw [if_neg h2, if_neg (by omega), xw_grd_t (by decide), xw_if_t rfl]
theorem q_OPgo (fu : Nat) (s : xw_S) {op : Int} (h : xw_r op) : f_OP_goesOn fu s op = some (s, if q_en op then 0 else 1) := by
  unfold f_OP_goesOn
  simp only [xw_jn, xw_grd_t h, xw_if]
  repeat' split
  all_goals first | rfl | omega
theorem q_OPwo (fu : Nat) (s : xw_S) {op : Int} (h : xw_r op) : f_OP_isWovenOnly fu s op = some (s, if 30 ≤ op ∧ op ≤ 32 then 1 else 0) := by
  unfold f_OP_isWovenOnly
  simp only [xw_jn, xw_grd_t h, xw_if]
  repeat' split
  all_goals first | rfl | omega
theorem q_OPsw (fu : Nat) (s : xw_S) {w : Int} (h : xw_r w) : f_OP_isShortWay fu s w = some (s, if -24 ≤ w ∧ w ≤ 24 then 1 else 0) := by
  unfold f_OP_isShortWay
  simp only [xw_jn, xw_grd_t h, xw_if]
  repeat' split
  all_goals first | rfl | omega
def q_sg (b : Int) : Int := if 128 ≤ b then b - 256 else b
theorem q_OPsg (fu : Nat) (s : xw_S) {b : Int} (h : xw_r b) : f_OP_signedByte fu s b = some (s, q_sg b) := by
  unfold f_OP_signedByte q_sg
  rw [xw_grd_t h]
  unfold xw_if
  split <;> rfl
theorem q_MDsz (fu : Nat) (s : xw_S) {op : Int} (h : xw_r op) : f_MD_sizeOf fu s op = some (s, q_sz op) := by
  by_cases h1 : op < 0
  · have e : q_sz op = 0 := by unfold q_sz; rw [if_neg (by omega), if_neg (by omega), if_neg (by omega)]
    unfold f_MD_sizeOf
    rw [e]
    simp only [xw_jn, xw_grd_t h, xw_if, if_neg (show ¬ op = 16 by omega), if_pos (show op < 20 by omega), if_pos (show op < 1 by omega), if_pos (show op < 10 by omega), if_neg (show ¬ op = 30 by omega), if_neg (show ¬ op = 31 by omega), if_pos h1, if_neg (show ¬ op = 32 by omega)]
  · by_cases h2 : 33 ≤ op
    · have e : q_sz op = 0 := by unfold q_sz; rw [if_neg (by omega), if_neg (by omega), if_neg (by omega)]
      unfold f_MD_sizeOf
      rw [e]
      simp only [xw_jn, xw_grd_t h, xw_if, if_neg (show ¬ op = 16 by omega), if_neg (show ¬ op < 20 by omega), if_pos (show 22 < op by omega), if_neg (show ¬ op < 1 by omega), if_neg (show ¬ op ≤ 3 by omega), if_neg (show ¬ op < 10 by omega), if_neg (show ¬ op ≤ 13 by omega), if_neg (show ¬ op = 30 by omega), if_neg (show ¬ op = 31 by omega), if_neg h1, if_neg (show ¬ op ≤ 15 by omega), if_neg (show ¬ op = 32 by omega)]
    · rcases (show op = 0 ∨ op = 1 ∨ op = 2 ∨ op = 3 ∨ op = 4 ∨ op = 5 ∨ op = 6 ∨ op = 7 ∨ op = 8 ∨ op = 9 ∨ op = 10 ∨ op = 11 ∨ op = 12 ∨ op = 13 ∨ op = 14 ∨ op = 15 ∨ op = 16 ∨ op = 17 ∨ op = 18 ∨ op = 19 ∨ op = 20 ∨ op = 21 ∨ op = 22 ∨ op = 23 ∨ op = 24 ∨ op = 25 ∨ op = 26 ∨ op = 27 ∨ op = 28 ∨ op = 29 ∨ op = 30 ∨ op = 31 ∨ op = 32 by omega) with rfl | rfl | rfl | rfl | rfl | rfl | rfl | rfl | rfl | rfl | rfl | rfl | rfl | rfl | rfl | rfl | rfl | rfl | rfl | rfl | rfl | rfl | rfl | rfl | rfl | rfl | rfl | rfl | rfl | rfl | rfl | rfl | rfl <;> rfl
theorem q_MDbr (fu : Nat) (s : xw_S) {op : Int} (h : xw_r op) : f_MD_branches fu s op = some (s, if q_br op then 1 else 0) := by
  unfold f_MD_branches
  simp only [xw_jn, xw_grd_t h, xw_if]
  repeat' split
  all_goals first | rfl | omega
theorem q_MDen (fu : Nat) (s : xw_S) {op : Int} (h : xw_r op) : f_MD_ends fu s op = some (s, if q_en op then 1 else 0) := by
  unfold f_MD_ends
  simp only [xw_jn, xw_grd_t h, xw_if]
  repeat' split
  all_goals first | rfl | omega
theorem q_MDpt (fu : Nat) (s : xw_S) {op : Int} (h : xw_r op) : f_MD_puts fu s op = some (s, q_pt op) := by
  unfold f_MD_puts q_pt
  simp only [xw_jn, xw_grd_t h, xw_if]
  repeat' split
  all_goals first | rfl | omega
theorem q_b8 {b : Int} (h0 : 0 ≤ b) (h1 : b ≤ 255) : xw_b8 b = q_sg b := by
  have key : ∀ n : Nat, n < 256 → xw_b8 (n : Int) = q_sg (n : Int) := by decide +kernel
  have := key b.toNat (by omega)
  rwa [show ((b.toNat : Nat) : Int) = b by omega] at this
