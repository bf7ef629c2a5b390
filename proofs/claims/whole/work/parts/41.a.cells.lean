/-! 41: the constructors of the class and of the reference -/
def xw_s0 : xw_S := (fun i k => if 48 ≤ i ∧ i % 4 = 0 ∧ k = 3 then (if i < 80 then 3 else 5) else 0, fun _ => 0)
def xw_z0 : xw_S := (fun _ _ => 0, fun _ => 0)
theorem xn_kC0 (ad : Nat → Nat) (cs : Nat → ClassId) : xw_cell ad cs xw_s0 0 (kdC 0) = .inr (7, [.ref (ad 1), .ref (ad 3), .ref (ad 4), .ref (ad 5), .ref (ad 6), .ref (ad 7), .ref (ad 8), .ref (ad 10), .ref (ad 17), .int (xw_i 0), .int (xw_i 0), .int (xw_i 0)]) := rfl
theorem xn_kC1 (ad : Nat → Nat) (cs : Nat → ClassId) : xw_cell ad cs xw_s0 1 (kdC 1) = .inr (1, [.ref (ad 2), .int (xw_i 0), .int (xw_i 0), .int (xw_i 0)]) := rfl
theorem xn_kC2 (ad : Nat → Nat) (cs : Nat → ClassId) : xw_cell ad cs xw_s0 2 (kdC 2) = .inl (cs 20, 240, .inl (fun _ => xw_i 0)) := rfl
theorem xn_kC3 (ad : Nat → Nat) (cs : Nat → ClassId) : xw_cell ad cs xw_s0 3 (kdC 3) = .inl (cs 23, 4, .inr (.inr (.inr (.inr (va_up (va_up (va_up (va_up (fun _ => none) 0 (some (ad 48))) 1 (some (ad 52))) 2 (some (ad 56))) 3 (some (ad 60))))))) := by
  have h : (fun j : Nat => (([some 48, some 52, some 56, some 60] : List (Option Nat)).getD j none).map ad) = (va_up (va_up (va_up (va_up (fun _ => none) 0 (some (ad 48))) 1 (some (ad 52))) 2 (some (ad 56))) 3 (some (ad 60))) := by
    funext j
    rcases (show j = 0 ∨ j = 1 ∨ j = 2 ∨ j = 3 ∨ 4 ≤ j by omega) with rfl | rfl | rfl | rfl | hj
    · rfl
    · rfl
    · rfl
    · rfl
    · rw [List.getD_eq_getElem?_getD, List.getElem?_eq_none (by simpa using hj)]
      simp [va_up, (show ¬ j = 0 by omega), (show ¬ j = 1 by omega), (show ¬ j = 2 by omega), (show ¬ j = 3 by omega)]
  rw [← h]
  rfl
theorem xn_kC4 (ad : Nat → Nat) (cs : Nat → ClassId) : xw_cell ad cs xw_s0 4 (kdC 4) = .inl (cs 23, 4, .inr (.inr (.inr (.inr (va_up (va_up (va_up (va_up (fun _ => none) 0 (some (ad 64))) 1 (some (ad 68))) 2 (some (ad 72))) 3 (some (ad 76))))))) := by
  have h : (fun j : Nat => (([some 64, some 68, some 72, some 76] : List (Option Nat)).getD j none).map ad) = (va_up (va_up (va_up (va_up (fun _ => none) 0 (some (ad 64))) 1 (some (ad 68))) 2 (some (ad 72))) 3 (some (ad 76))) := by
    funext j
    rcases (show j = 0 ∨ j = 1 ∨ j = 2 ∨ j = 3 ∨ 4 ≤ j by omega) with rfl | rfl | rfl | rfl | hj
    · rfl
    · rfl
    · rfl
    · rfl
    · rw [List.getD_eq_getElem?_getD, List.getElem?_eq_none (by simpa using hj)]
      simp [va_up, (show ¬ j = 0 by omega), (show ¬ j = 1 by omega), (show ¬ j = 2 by omega), (show ¬ j = 3 by omega)]
  rw [← h]
  rfl
theorem xn_kC5 (ad : Nat → Nat) (cs : Nat → ClassId) : xw_cell ad cs xw_s0 5 (kdC 5) = .inl (cs 23, 4, .inr (.inr (.inr (.inr (va_up (va_up (va_up (va_up (fun _ => none) 0 (some (ad 80))) 1 (some (ad 84))) 2 (some (ad 88))) 3 (some (ad 92))))))) := by
  have h : (fun j : Nat => (([some 80, some 84, some 88, some 92] : List (Option Nat)).getD j none).map ad) = (va_up (va_up (va_up (va_up (fun _ => none) 0 (some (ad 80))) 1 (some (ad 84))) 2 (some (ad 88))) 3 (some (ad 92))) := by
    funext j
    rcases (show j = 0 ∨ j = 1 ∨ j = 2 ∨ j = 3 ∨ 4 ≤ j by omega) with rfl | rfl | rfl | rfl | hj
    · rfl
    · rfl
    · rfl
    · rfl
    · rw [List.getD_eq_getElem?_getD, List.getElem?_eq_none (by simpa using hj)]
      simp [va_up, (show ¬ j = 0 by omega), (show ¬ j = 1 by omega), (show ¬ j = 2 by omega), (show ¬ j = 3 by omega)]
  rw [← h]
  rfl
theorem xn_kC6 (ad : Nat → Nat) (cs : Nat → ClassId) : xw_cell ad cs xw_s0 6 (kdC 6) = .inl (cs 24, 3, .inr (.inr (.inr (.inr (va_up (va_up (va_up (fun _ => none) 0 (some (ad 21))) 1 (some (ad 22))) 2 (some (ad 23))))))) := by
  have h : (fun j : Nat => (([some 21, some 22, some 23] : List (Option Nat)).getD j none).map ad) = (va_up (va_up (va_up (fun _ => none) 0 (some (ad 21))) 1 (some (ad 22))) 2 (some (ad 23))) := by
    funext j
    rcases (show j = 0 ∨ j = 1 ∨ j = 2 ∨ 3 ≤ j by omega) with rfl | rfl | rfl | hj
    · rfl
    · rfl
    · rfl
    · rw [List.getD_eq_getElem?_getD, List.getElem?_eq_none (by simpa using hj)]
      simp [va_up, (show ¬ j = 0 by omega), (show ¬ j = 1 by omega), (show ¬ j = 2 by omega)]
  rw [← h]
  rfl
theorem xn_kC7 (ad : Nat → Nat) (cs : Nat → ClassId) : xw_cell ad cs xw_s0 7 (kdC 7) = .inl (cs 21, 12, .inl (fun _ => xw_i 0)) := rfl
theorem xn_kC8 (ad : Nat → Nat) (cs : Nat → ClassId) : xw_cell ad cs xw_s0 8 (kdC 8) = .inr (2, [.ref (ad 9), .int (xw_i 0), .int (xw_i 0)]) := rfl
theorem xn_kC9 (ad : Nat → Nat) (cs : Nat → ClassId) : xw_cell ad cs xw_s0 9 (kdC 9) = .inl (cs 20, 120, .inl (fun _ => xw_i 0)) := rfl
theorem xn_kC10 (ad : Nat → Nat) (cs : Nat → ClassId) : xw_cell ad cs xw_s0 10 (kdC 10) = .inr (4, [.ref (ad 96), .ref (ad 11), .ref (ad 12), .ref (ad 13), .ref (ad 14), .ref (ad 15), .ref (ad 16), .int (xw_i 0)]) := rfl
theorem xn_kC11 (ad : Nat → Nat) (cs : Nat → ClassId) : xw_cell ad cs xw_s0 11 (kdC 11) = .inl (cs 20, 243, .inl (fun _ => xw_i 0)) := rfl
theorem xn_kC12 (ad : Nat → Nat) (cs : Nat → ClassId) : xw_cell ad cs xw_s0 12 (kdC 12) = .inl (cs 20, 243, .inl (fun _ => xw_i 0)) := rfl
theorem xn_kC13 (ad : Nat → Nat) (cs : Nat → ClassId) : xw_cell ad cs xw_s0 13 (kdC 13) = .inl (cs 20, 243, .inl (fun _ => xw_i 0)) := rfl
theorem xn_kC14 (ad : Nat → Nat) (cs : Nat → ClassId) : xw_cell ad cs xw_s0 14 (kdC 14) = .inl (cs 20, 244, .inl (fun _ => xw_i 0)) := rfl
theorem xn_kC15 (ad : Nat → Nat) (cs : Nat → ClassId) : xw_cell ad cs xw_s0 15 (kdC 15) = .inl (cs 20, 121, .inl (fun _ => xw_i 0)) := rfl
theorem xn_kC16 (ad : Nat → Nat) (cs : Nat → ClassId) : xw_cell ad cs xw_s0 16 (kdC 16) = .inl (cs 20, 121, .inl (fun _ => xw_i 0)) := rfl
theorem xn_kC17 (ad : Nat → Nat) (cs : Nat → ClassId) : xw_cell ad cs xw_s0 17 (kdC 17) = .inr (5, [.ref (ad 18), .ref (ad 19), .ref (ad 20), .int (xw_i 0), .int (xw_i 0), .int (xw_i 0), .int (xw_i 0), .int (xw_i 0), .int (xw_i 0)]) := rfl
theorem xn_kC18 (ad : Nat → Nat) (cs : Nat → ClassId) : xw_cell ad cs xw_s0 18 (kdC 18) = .inl (cs 25, 8, .inr (.inr (.inr (.inr (va_up (va_up (va_up (va_up (va_up (va_up (va_up (va_up (fun _ => none) 0 (some (ad 24))) 1 (some (ad 27))) 2 (some (ad 30))) 3 (some (ad 33))) 4 (some (ad 36))) 5 (some (ad 39))) 6 (some (ad 42))) 7 (some (ad 45))))))) := by
  have h : (fun j : Nat => (([some 24, some 27, some 30, some 33, some 36, some 39, some 42, some 45] : List (Option Nat)).getD j none).map ad) = (va_up (va_up (va_up (va_up (va_up (va_up (va_up (va_up (fun _ => none) 0 (some (ad 24))) 1 (some (ad 27))) 2 (some (ad 30))) 3 (some (ad 33))) 4 (some (ad 36))) 5 (some (ad 39))) 6 (some (ad 42))) 7 (some (ad 45))) := by
    funext j
    rcases (show j = 0 ∨ j = 1 ∨ j = 2 ∨ j = 3 ∨ j = 4 ∨ j = 5 ∨ j = 6 ∨ j = 7 ∨ 8 ≤ j by omega) with rfl | rfl | rfl | rfl | rfl | rfl | rfl | rfl | hj
    · rfl
    · rfl
    · rfl
    · rfl
    · rfl
    · rfl
    · rfl
    · rfl
    · rw [List.getD_eq_getElem?_getD, List.getElem?_eq_none (by simpa using hj)]
      simp [va_up, (show ¬ j = 0 by omega), (show ¬ j = 1 by omega), (show ¬ j = 2 by omega), (show ¬ j = 3 by omega), (show ¬ j = 4 by omega), (show ¬ j = 5 by omega), (show ¬ j = 6 by omega), (show ¬ j = 7 by omega)]
  rw [← h]
  rfl
theorem xn_kC19 (ad : Nat → Nat) (cs : Nat → ClassId) : xw_cell ad cs xw_s0 19 (kdC 19) = .inl (cs 20, 100, .inl (fun _ => xw_i 0)) := rfl
theorem xn_kC20 (ad : Nat → Nat) (cs : Nat → ClassId) : xw_cell ad cs xw_s0 20 (kdC 20) = .inl (cs 20, 160, .inl (fun _ => xw_i 0)) := rfl
theorem xn_kC21 (ad : Nat → Nat) (cs : Nat → ClassId) : xw_cell ad cs xw_s0 21 (kdC 21) = .inr (6, [.int (xw_i 0), .int (xw_i 0), .int (xw_i 0)]) := rfl
theorem xn_kC22 (ad : Nat → Nat) (cs : Nat → ClassId) : xw_cell ad cs xw_s0 22 (kdC 22) = .inr (6, [.int (xw_i 0), .int (xw_i 0), .int (xw_i 0)]) := rfl
theorem xn_kC23 (ad : Nat → Nat) (cs : Nat → ClassId) : xw_cell ad cs xw_s0 23 (kdC 23) = .inr (6, [.int (xw_i 0), .int (xw_i 0), .int (xw_i 0)]) := rfl
theorem xn_kC24 (ad : Nat → Nat) (cs : Nat → ClassId) : xw_cell ad cs xw_s0 24 (kdC 24) = .inr (3, [.ref (ad 25), .ref (ad 26), .int (xw_i 0), .int (xw_i 0), .int (xw_i 0)]) := rfl
theorem xn_kC25 (ad : Nat → Nat) (cs : Nat → ClassId) : xw_cell ad cs xw_s0 25 (kdC 25) = .inl (cs 20, 8, .inl (fun _ => xw_i 0)) := rfl
theorem xn_kC26 (ad : Nat → Nat) (cs : Nat → ClassId) : xw_cell ad cs xw_s0 26 (kdC 26) = .inl (cs 20, 6, .inl (fun _ => xw_i 0)) := rfl
theorem xn_kC27 (ad : Nat → Nat) (cs : Nat → ClassId) : xw_cell ad cs xw_s0 27 (kdC 27) = .inr (3, [.ref (ad 28), .ref (ad 29), .int (xw_i 0), .int (xw_i 0), .int (xw_i 0)]) := rfl
theorem xn_kC28 (ad : Nat → Nat) (cs : Nat → ClassId) : xw_cell ad cs xw_s0 28 (kdC 28) = .inl (cs 20, 8, .inl (fun _ => xw_i 0)) := rfl
theorem xn_kC29 (ad : Nat → Nat) (cs : Nat → ClassId) : xw_cell ad cs xw_s0 29 (kdC 29) = .inl (cs 20, 6, .inl (fun _ => xw_i 0)) := rfl
theorem xn_kC30 (ad : Nat → Nat) (cs : Nat → ClassId) : xw_cell ad cs xw_s0 30 (kdC 30) = .inr (3, [.ref (ad 31), .ref (ad 32), .int (xw_i 0), .int (xw_i 0), .int (xw_i 0)]) := rfl
theorem xn_kC31 (ad : Nat → Nat) (cs : Nat → ClassId) : xw_cell ad cs xw_s0 31 (kdC 31) = .inl (cs 20, 8, .inl (fun _ => xw_i 0)) := rfl
theorem xn_kC32 (ad : Nat → Nat) (cs : Nat → ClassId) : xw_cell ad cs xw_s0 32 (kdC 32) = .inl (cs 20, 6, .inl (fun _ => xw_i 0)) := rfl
theorem xn_kC33 (ad : Nat → Nat) (cs : Nat → ClassId) : xw_cell ad cs xw_s0 33 (kdC 33) = .inr (3, [.ref (ad 34), .ref (ad 35), .int (xw_i 0), .int (xw_i 0), .int (xw_i 0)]) := rfl
theorem xn_kC34 (ad : Nat → Nat) (cs : Nat → ClassId) : xw_cell ad cs xw_s0 34 (kdC 34) = .inl (cs 20, 8, .inl (fun _ => xw_i 0)) := rfl
theorem xn_kC35 (ad : Nat → Nat) (cs : Nat → ClassId) : xw_cell ad cs xw_s0 35 (kdC 35) = .inl (cs 20, 6, .inl (fun _ => xw_i 0)) := rfl
theorem xn_kC36 (ad : Nat → Nat) (cs : Nat → ClassId) : xw_cell ad cs xw_s0 36 (kdC 36) = .inr (3, [.ref (ad 37), .ref (ad 38), .int (xw_i 0), .int (xw_i 0), .int (xw_i 0)]) := rfl
theorem xn_kC37 (ad : Nat → Nat) (cs : Nat → ClassId) : xw_cell ad cs xw_s0 37 (kdC 37) = .inl (cs 20, 8, .inl (fun _ => xw_i 0)) := rfl
theorem xn_kC38 (ad : Nat → Nat) (cs : Nat → ClassId) : xw_cell ad cs xw_s0 38 (kdC 38) = .inl (cs 20, 6, .inl (fun _ => xw_i 0)) := rfl
theorem xn_kC39 (ad : Nat → Nat) (cs : Nat → ClassId) : xw_cell ad cs xw_s0 39 (kdC 39) = .inr (3, [.ref (ad 40), .ref (ad 41), .int (xw_i 0), .int (xw_i 0), .int (xw_i 0)]) := rfl
theorem xn_kC40 (ad : Nat → Nat) (cs : Nat → ClassId) : xw_cell ad cs xw_s0 40 (kdC 40) = .inl (cs 20, 8, .inl (fun _ => xw_i 0)) := rfl
theorem xn_kC41 (ad : Nat → Nat) (cs : Nat → ClassId) : xw_cell ad cs xw_s0 41 (kdC 41) = .inl (cs 20, 6, .inl (fun _ => xw_i 0)) := rfl
theorem xn_kC42 (ad : Nat → Nat) (cs : Nat → ClassId) : xw_cell ad cs xw_s0 42 (kdC 42) = .inr (3, [.ref (ad 43), .ref (ad 44), .int (xw_i 0), .int (xw_i 0), .int (xw_i 0)]) := rfl
theorem xn_kC43 (ad : Nat → Nat) (cs : Nat → ClassId) : xw_cell ad cs xw_s0 43 (kdC 43) = .inl (cs 20, 8, .inl (fun _ => xw_i 0)) := rfl
theorem xn_kC44 (ad : Nat → Nat) (cs : Nat → ClassId) : xw_cell ad cs xw_s0 44 (kdC 44) = .inl (cs 20, 6, .inl (fun _ => xw_i 0)) := rfl
theorem xn_kC45 (ad : Nat → Nat) (cs : Nat → ClassId) : xw_cell ad cs xw_s0 45 (kdC 45) = .inr (3, [.ref (ad 46), .ref (ad 47), .int (xw_i 0), .int (xw_i 0), .int (xw_i 0)]) := rfl
theorem xn_kC46 (ad : Nat → Nat) (cs : Nat → ClassId) : xw_cell ad cs xw_s0 46 (kdC 46) = .inl (cs 20, 8, .inl (fun _ => xw_i 0)) := rfl
theorem xn_kC47 (ad : Nat → Nat) (cs : Nat → ClassId) : xw_cell ad cs xw_s0 47 (kdC 47) = .inl (cs 20, 6, .inl (fun _ => xw_i 0)) := rfl
theorem xn_kC48 (ad : Nat → Nat) (cs : Nat → ClassId) : xw_cell ad cs xw_s0 48 (kdC 48) = .inr (0, [.ref (ad 49), .ref (ad 50), .ref (ad 51), .int (xw_i 3), .int (xw_i 0), .int (xw_i 0), .int (xw_i 0), .int (xw_i 0), .int (xw_i 0), .int (xw_i 0), .int (xw_i 0), .int (xw_i 0)]) := rfl
theorem xn_kC49 (ad : Nat → Nat) (cs : Nat → ClassId) : xw_cell ad cs xw_s0 49 (kdC 49) = .inl (cs 20, 40, .inl (fun _ => xw_i 0)) := rfl
theorem xn_kC50 (ad : Nat → Nat) (cs : Nat → ClassId) : xw_cell ad cs xw_s0 50 (kdC 50) = .inl (cs 20, 40, .inl (fun _ => xw_i 0)) := rfl
theorem xn_kC51 (ad : Nat → Nat) (cs : Nat → ClassId) : xw_cell ad cs xw_s0 51 (kdC 51) = .inl (cs 20, 12, .inl (fun _ => xw_i 0)) := rfl
theorem xn_kC52 (ad : Nat → Nat) (cs : Nat → ClassId) : xw_cell ad cs xw_s0 52 (kdC 52) = .inr (0, [.ref (ad 53), .ref (ad 54), .ref (ad 55), .int (xw_i 3), .int (xw_i 0), .int (xw_i 0), .int (xw_i 0), .int (xw_i 0), .int (xw_i 0), .int (xw_i 0), .int (xw_i 0), .int (xw_i 0)]) := rfl
theorem xn_kC53 (ad : Nat → Nat) (cs : Nat → ClassId) : xw_cell ad cs xw_s0 53 (kdC 53) = .inl (cs 20, 40, .inl (fun _ => xw_i 0)) := rfl
theorem xn_kC54 (ad : Nat → Nat) (cs : Nat → ClassId) : xw_cell ad cs xw_s0 54 (kdC 54) = .inl (cs 20, 40, .inl (fun _ => xw_i 0)) := rfl
theorem xn_kC55 (ad : Nat → Nat) (cs : Nat → ClassId) : xw_cell ad cs xw_s0 55 (kdC 55) = .inl (cs 20, 12, .inl (fun _ => xw_i 0)) := rfl
theorem xn_kC56 (ad : Nat → Nat) (cs : Nat → ClassId) : xw_cell ad cs xw_s0 56 (kdC 56) = .inr (0, [.ref (ad 57), .ref (ad 58), .ref (ad 59), .int (xw_i 3), .int (xw_i 0), .int (xw_i 0), .int (xw_i 0), .int (xw_i 0), .int (xw_i 0), .int (xw_i 0), .int (xw_i 0), .int (xw_i 0)]) := rfl
theorem xn_kC57 (ad : Nat → Nat) (cs : Nat → ClassId) : xw_cell ad cs xw_s0 57 (kdC 57) = .inl (cs 20, 40, .inl (fun _ => xw_i 0)) := rfl
theorem xn_kC58 (ad : Nat → Nat) (cs : Nat → ClassId) : xw_cell ad cs xw_s0 58 (kdC 58) = .inl (cs 20, 40, .inl (fun _ => xw_i 0)) := rfl
theorem xn_kC59 (ad : Nat → Nat) (cs : Nat → ClassId) : xw_cell ad cs xw_s0 59 (kdC 59) = .inl (cs 20, 12, .inl (fun _ => xw_i 0)) := rfl
theorem xn_kC60 (ad : Nat → Nat) (cs : Nat → ClassId) : xw_cell ad cs xw_s0 60 (kdC 60) = .inr (0, [.ref (ad 61), .ref (ad 62), .ref (ad 63), .int (xw_i 3), .int (xw_i 0), .int (xw_i 0), .int (xw_i 0), .int (xw_i 0), .int (xw_i 0), .int (xw_i 0), .int (xw_i 0), .int (xw_i 0)]) := rfl
theorem xn_kC61 (ad : Nat → Nat) (cs : Nat → ClassId) : xw_cell ad cs xw_s0 61 (kdC 61) = .inl (cs 20, 40, .inl (fun _ => xw_i 0)) := rfl
theorem xn_kC62 (ad : Nat → Nat) (cs : Nat → ClassId) : xw_cell ad cs xw_s0 62 (kdC 62) = .inl (cs 20, 40, .inl (fun _ => xw_i 0)) := rfl
theorem xn_kC63 (ad : Nat → Nat) (cs : Nat → ClassId) : xw_cell ad cs xw_s0 63 (kdC 63) = .inl (cs 20, 12, .inl (fun _ => xw_i 0)) := rfl
theorem xn_kC64 (ad : Nat → Nat) (cs : Nat → ClassId) : xw_cell ad cs xw_s0 64 (kdC 64) = .inr (0, [.ref (ad 65), .ref (ad 66), .ref (ad 67), .int (xw_i 3), .int (xw_i 0), .int (xw_i 0), .int (xw_i 0), .int (xw_i 0), .int (xw_i 0), .int (xw_i 0), .int (xw_i 0), .int (xw_i 0)]) := rfl
theorem xn_kC65 (ad : Nat → Nat) (cs : Nat → ClassId) : xw_cell ad cs xw_s0 65 (kdC 65) = .inl (cs 20, 40, .inl (fun _ => xw_i 0)) := rfl
theorem xn_kC66 (ad : Nat → Nat) (cs : Nat → ClassId) : xw_cell ad cs xw_s0 66 (kdC 66) = .inl (cs 20, 40, .inl (fun _ => xw_i 0)) := rfl
theorem xn_kC67 (ad : Nat → Nat) (cs : Nat → ClassId) : xw_cell ad cs xw_s0 67 (kdC 67) = .inl (cs 20, 12, .inl (fun _ => xw_i 0)) := rfl
theorem xn_kC68 (ad : Nat → Nat) (cs : Nat → ClassId) : xw_cell ad cs xw_s0 68 (kdC 68) = .inr (0, [.ref (ad 69), .ref (ad 70), .ref (ad 71), .int (xw_i 3), .int (xw_i 0), .int (xw_i 0), .int (xw_i 0), .int (xw_i 0), .int (xw_i 0), .int (xw_i 0), .int (xw_i 0), .int (xw_i 0)]) := rfl
theorem xn_kC69 (ad : Nat → Nat) (cs : Nat → ClassId) : xw_cell ad cs xw_s0 69 (kdC 69) = .inl (cs 20, 40, .inl (fun _ => xw_i 0)) := rfl
theorem xn_kC70 (ad : Nat → Nat) (cs : Nat → ClassId) : xw_cell ad cs xw_s0 70 (kdC 70) = .inl (cs 20, 40, .inl (fun _ => xw_i 0)) := rfl
theorem xn_kC71 (ad : Nat → Nat) (cs : Nat → ClassId) : xw_cell ad cs xw_s0 71 (kdC 71) = .inl (cs 20, 12, .inl (fun _ => xw_i 0)) := rfl
theorem xn_kC72 (ad : Nat → Nat) (cs : Nat → ClassId) : xw_cell ad cs xw_s0 72 (kdC 72) = .inr (0, [.ref (ad 73), .ref (ad 74), .ref (ad 75), .int (xw_i 3), .int (xw_i 0), .int (xw_i 0), .int (xw_i 0), .int (xw_i 0), .int (xw_i 0), .int (xw_i 0), .int (xw_i 0), .int (xw_i 0)]) := rfl
theorem xn_kC73 (ad : Nat → Nat) (cs : Nat → ClassId) : xw_cell ad cs xw_s0 73 (kdC 73) = .inl (cs 20, 40, .inl (fun _ => xw_i 0)) := rfl
theorem xn_kC74 (ad : Nat → Nat) (cs : Nat → ClassId) : xw_cell ad cs xw_s0 74 (kdC 74) = .inl (cs 20, 40, .inl (fun _ => xw_i 0)) := rfl
theorem xn_kC75 (ad : Nat → Nat) (cs : Nat → ClassId) : xw_cell ad cs xw_s0 75 (kdC 75) = .inl (cs 20, 12, .inl (fun _ => xw_i 0)) := rfl
theorem xn_kC76 (ad : Nat → Nat) (cs : Nat → ClassId) : xw_cell ad cs xw_s0 76 (kdC 76) = .inr (0, [.ref (ad 77), .ref (ad 78), .ref (ad 79), .int (xw_i 3), .int (xw_i 0), .int (xw_i 0), .int (xw_i 0), .int (xw_i 0), .int (xw_i 0), .int (xw_i 0), .int (xw_i 0), .int (xw_i 0)]) := rfl
theorem xn_kC77 (ad : Nat → Nat) (cs : Nat → ClassId) : xw_cell ad cs xw_s0 77 (kdC 77) = .inl (cs 20, 40, .inl (fun _ => xw_i 0)) := rfl
theorem xn_kC78 (ad : Nat → Nat) (cs : Nat → ClassId) : xw_cell ad cs xw_s0 78 (kdC 78) = .inl (cs 20, 40, .inl (fun _ => xw_i 0)) := rfl
theorem xn_kC79 (ad : Nat → Nat) (cs : Nat → ClassId) : xw_cell ad cs xw_s0 79 (kdC 79) = .inl (cs 20, 12, .inl (fun _ => xw_i 0)) := rfl
theorem xn_kC80 (ad : Nat → Nat) (cs : Nat → ClassId) : xw_cell ad cs xw_s0 80 (kdC 80) = .inr (0, [.ref (ad 81), .ref (ad 82), .ref (ad 83), .int (xw_i 5), .int (xw_i 0), .int (xw_i 0), .int (xw_i 0), .int (xw_i 0), .int (xw_i 0), .int (xw_i 0), .int (xw_i 0), .int (xw_i 0)]) := rfl
theorem xn_kC81 (ad : Nat → Nat) (cs : Nat → ClassId) : xw_cell ad cs xw_s0 81 (kdC 81) = .inl (cs 20, 120, .inl (fun _ => xw_i 0)) := rfl
theorem xn_kC82 (ad : Nat → Nat) (cs : Nat → ClassId) : xw_cell ad cs xw_s0 82 (kdC 82) = .inl (cs 20, 120, .inl (fun _ => xw_i 0)) := rfl
theorem xn_kC83 (ad : Nat → Nat) (cs : Nat → ClassId) : xw_cell ad cs xw_s0 83 (kdC 83) = .inl (cs 20, 20, .inl (fun _ => xw_i 0)) := rfl
theorem xn_kC84 (ad : Nat → Nat) (cs : Nat → ClassId) : xw_cell ad cs xw_s0 84 (kdC 84) = .inr (0, [.ref (ad 85), .ref (ad 86), .ref (ad 87), .int (xw_i 5), .int (xw_i 0), .int (xw_i 0), .int (xw_i 0), .int (xw_i 0), .int (xw_i 0), .int (xw_i 0), .int (xw_i 0), .int (xw_i 0)]) := rfl
theorem xn_kC85 (ad : Nat → Nat) (cs : Nat → ClassId) : xw_cell ad cs xw_s0 85 (kdC 85) = .inl (cs 20, 120, .inl (fun _ => xw_i 0)) := rfl
theorem xn_kC86 (ad : Nat → Nat) (cs : Nat → ClassId) : xw_cell ad cs xw_s0 86 (kdC 86) = .inl (cs 20, 120, .inl (fun _ => xw_i 0)) := rfl
theorem xn_kC87 (ad : Nat → Nat) (cs : Nat → ClassId) : xw_cell ad cs xw_s0 87 (kdC 87) = .inl (cs 20, 20, .inl (fun _ => xw_i 0)) := rfl
theorem xn_kC88 (ad : Nat → Nat) (cs : Nat → ClassId) : xw_cell ad cs xw_s0 88 (kdC 88) = .inr (0, [.ref (ad 89), .ref (ad 90), .ref (ad 91), .int (xw_i 5), .int (xw_i 0), .int (xw_i 0), .int (xw_i 0), .int (xw_i 0), .int (xw_i 0), .int (xw_i 0), .int (xw_i 0), .int (xw_i 0)]) := rfl
theorem xn_kC89 (ad : Nat → Nat) (cs : Nat → ClassId) : xw_cell ad cs xw_s0 89 (kdC 89) = .inl (cs 20, 120, .inl (fun _ => xw_i 0)) := rfl
theorem xn_kC90 (ad : Nat → Nat) (cs : Nat → ClassId) : xw_cell ad cs xw_s0 90 (kdC 90) = .inl (cs 20, 120, .inl (fun _ => xw_i 0)) := rfl
theorem xn_kC91 (ad : Nat → Nat) (cs : Nat → ClassId) : xw_cell ad cs xw_s0 91 (kdC 91) = .inl (cs 20, 20, .inl (fun _ => xw_i 0)) := rfl
theorem xn_kC92 (ad : Nat → Nat) (cs : Nat → ClassId) : xw_cell ad cs xw_s0 92 (kdC 92) = .inr (0, [.ref (ad 93), .ref (ad 94), .ref (ad 95), .int (xw_i 5), .int (xw_i 0), .int (xw_i 0), .int (xw_i 0), .int (xw_i 0), .int (xw_i 0), .int (xw_i 0), .int (xw_i 0), .int (xw_i 0)]) := rfl
theorem xn_kC93 (ad : Nat → Nat) (cs : Nat → ClassId) : xw_cell ad cs xw_s0 93 (kdC 93) = .inl (cs 20, 120, .inl (fun _ => xw_i 0)) := rfl
theorem xn_kC94 (ad : Nat → Nat) (cs : Nat → ClassId) : xw_cell ad cs xw_s0 94 (kdC 94) = .inl (cs 20, 120, .inl (fun _ => xw_i 0)) := rfl
theorem xn_kC95 (ad : Nat → Nat) (cs : Nat → ClassId) : xw_cell ad cs xw_s0 95 (kdC 95) = .inl (cs 20, 20, .inl (fun _ => xw_i 0)) := rfl
theorem xn_kC96 (ad : Nat → Nat) (cs : Nat → ClassId) : xw_cell ad cs xw_s0 96 (kdC 96) = .inr (0, [.ref (ad 97), .ref (ad 98), .ref (ad 99), .int (xw_i 5), .int (xw_i 0), .int (xw_i 0), .int (xw_i 0), .int (xw_i 0), .int (xw_i 0), .int (xw_i 0), .int (xw_i 0), .int (xw_i 0)]) := rfl
theorem xn_kC97 (ad : Nat → Nat) (cs : Nat → ClassId) : xw_cell ad cs xw_s0 97 (kdC 97) = .inl (cs 20, 120, .inl (fun _ => xw_i 0)) := rfl
theorem xn_kC98 (ad : Nat → Nat) (cs : Nat → ClassId) : xw_cell ad cs xw_s0 98 (kdC 98) = .inl (cs 20, 120, .inl (fun _ => xw_i 0)) := rfl
theorem xn_kC99 (ad : Nat → Nat) (cs : Nat → ClassId) : xw_cell ad cs xw_s0 99 (kdC 99) = .inl (cs 20, 20, .inl (fun _ => xw_i 0)) := rfl
theorem xn_kR0 (ad : Nat → Nat) (cs : Nat → ClassId) : xw_cell ad cs xw_z0 0 (kdR 0) = .inr (8, [.ref (ad 1), .int (xw_i 0), .ref (ad 2), .ref (ad 3), .ref (ad 4), .ref (ad 5), .ref (ad 6), .ref (ad 7), .ref (ad 8), .ref (ad 9), .int (xw_i 0), .int (xw_i 0), .int (xw_i 0), .int (xw_i 0), .int (xw_i 0), .int (xw_i 0), .ref (ad 10), .ref (ad 11), .ref (ad 12), .ref (ad 13), .ref (ad 14), .ref (ad 15), .ref (ad 16), .int (xw_i 0), .int (xw_i 0), .ref (ad 17), .ref (ad 18), .ref (ad 19), .ref (ad 20), .int (xw_i 0), .ref (ad 21), .int (xw_i 0), .ref (ad 22), .ref (ad 23), .ref (ad 24), .ref (ad 25), .ref (ad 26), .int (xw_i 0), .int (xw_i 0), .int (xw_i 0), .int (xw_i 0), .ref (ad 27), .ref (ad 28)]) := rfl
theorem xn_kR1 (ad : Nat → Nat) (cs : Nat → ClassId) : xw_cell ad cs xw_z0 1 (kdR 1) = .inl (cs 20, 240, .inl (fun _ => xw_i 0)) := rfl
theorem xn_kR2 (ad : Nat → Nat) (cs : Nat → ClassId) : xw_cell ad cs xw_z0 2 (kdR 2) = .inl (cs 20, 12, .inl (fun _ => xw_i 0)) := rfl
theorem xn_kR3 (ad : Nat → Nat) (cs : Nat → ClassId) : xw_cell ad cs xw_z0 3 (kdR 3) = .inl (cs 20, 12, .inl (fun _ => xw_i 0)) := rfl
theorem xn_kR4 (ad : Nat → Nat) (cs : Nat → ClassId) : xw_cell ad cs xw_z0 4 (kdR 4) = .inl (cs 20, 12, .inl (fun _ => xw_i 0)) := rfl
theorem xn_kR5 (ad : Nat → Nat) (cs : Nat → ClassId) : xw_cell ad cs xw_z0 5 (kdR 5) = .inl (cs 20, 12, .inl (fun _ => xw_i 0)) := rfl
theorem xn_kR6 (ad : Nat → Nat) (cs : Nat → ClassId) : xw_cell ad cs xw_z0 6 (kdR 6) = .inl (cs 20, 12, .inl (fun _ => xw_i 0)) := rfl
theorem xn_kR7 (ad : Nat → Nat) (cs : Nat → ClassId) : xw_cell ad cs xw_z0 7 (kdR 7) = .inl (cs 20, 1440, .inl (fun _ => xw_i 0)) := rfl
theorem xn_kR8 (ad : Nat → Nat) (cs : Nat → ClassId) : xw_cell ad cs xw_z0 8 (kdR 8) = .inl (cs 20, 12, .inl (fun _ => xw_i 0)) := rfl
theorem xn_kR9 (ad : Nat → Nat) (cs : Nat → ClassId) : xw_cell ad cs xw_z0 9 (kdR 9) = .inl (cs 20, 240, .inl (fun _ => xw_i 0)) := rfl
theorem xn_kR10 (ad : Nat → Nat) (cs : Nat → ClassId) : xw_cell ad cs xw_z0 10 (kdR 10) = .inl (cs 21, 3, .inl (fun _ => xw_i 0)) := rfl
theorem xn_kR11 (ad : Nat → Nat) (cs : Nat → ClassId) : xw_cell ad cs xw_z0 11 (kdR 11) = .inl (cs 20, 3, .inl (fun _ => xw_i 0)) := rfl
theorem xn_kR12 (ad : Nat → Nat) (cs : Nat → ClassId) : xw_cell ad cs xw_z0 12 (kdR 12) = .inl (cs 20, 3, .inl (fun _ => xw_i 0)) := rfl
theorem xn_kR13 (ad : Nat → Nat) (cs : Nat → ClassId) : xw_cell ad cs xw_z0 13 (kdR 13) = .inl (cs 21, 12, .inl (fun _ => xw_i 0)) := rfl
theorem xn_kR14 (ad : Nat → Nat) (cs : Nat → ClassId) : xw_cell ad cs xw_z0 14 (kdR 14) = .inl (cs 21, 121, .inl (fun _ => xw_i 0)) := rfl
theorem xn_kR15 (ad : Nat → Nat) (cs : Nat → ClassId) : xw_cell ad cs xw_z0 15 (kdR 15) = .inl (cs 20, 121, .inl (fun _ => xw_i 0)) := rfl
theorem xn_kR16 (ad : Nat → Nat) (cs : Nat → ClassId) : xw_cell ad cs xw_z0 16 (kdR 16) = .inl (cs 22, 121, .inr (.inl (fun _ => 0))) := rfl
theorem xn_kR17 (ad : Nat → Nat) (cs : Nat → ClassId) : xw_cell ad cs xw_z0 17 (kdR 17) = .inl (cs 21, 121, .inl (fun _ => xw_i 0)) := rfl
theorem xn_kR18 (ad : Nat → Nat) (cs : Nat → ClassId) : xw_cell ad cs xw_z0 18 (kdR 18) = .inl (cs 21, 121, .inl (fun _ => xw_i 0)) := rfl
theorem xn_kR19 (ad : Nat → Nat) (cs : Nat → ClassId) : xw_cell ad cs xw_z0 19 (kdR 19) = .inl (cs 20, 121, .inl (fun _ => xw_i 0)) := rfl
theorem xn_kR20 (ad : Nat → Nat) (cs : Nat → ClassId) : xw_cell ad cs xw_z0 20 (kdR 20) = .inl (cs 20, 121, .inl (fun _ => xw_i 0)) := rfl
theorem xn_kR21 (ad : Nat → Nat) (cs : Nat → ClassId) : xw_cell ad cs xw_z0 21 (kdR 21) = .inl (cs 20, 120, .inl (fun _ => xw_i 0)) := rfl
theorem xn_kR22 (ad : Nat → Nat) (cs : Nat → ClassId) : xw_cell ad cs xw_z0 22 (kdR 22) = .inl (cs 20, 8, .inl (fun _ => xw_i 0)) := rfl
theorem xn_kR23 (ad : Nat → Nat) (cs : Nat → ClassId) : xw_cell ad cs xw_z0 23 (kdR 23) = .inl (cs 20, 8, .inl (fun _ => xw_i 0)) := rfl
theorem xn_kR24 (ad : Nat → Nat) (cs : Nat → ClassId) : xw_cell ad cs xw_z0 24 (kdR 24) = .inl (cs 20, 8, .inl (fun _ => xw_i 0)) := rfl
theorem xn_kR25 (ad : Nat → Nat) (cs : Nat → ClassId) : xw_cell ad cs xw_z0 25 (kdR 25) = .inl (cs 20, 48, .inl (fun _ => xw_i 0)) := rfl
theorem xn_kR26 (ad : Nat → Nat) (cs : Nat → ClassId) : xw_cell ad cs xw_z0 26 (kdR 26) = .inl (cs 20, 72, .inl (fun _ => xw_i 0)) := rfl
theorem xn_kR27 (ad : Nat → Nat) (cs : Nat → ClassId) : xw_cell ad cs xw_z0 27 (kdR 27) = .inl (cs 20, 100, .inl (fun _ => xw_i 0)) := rfl
theorem xn_kR28 (ad : Nat → Nat) (cs : Nat → ClassId) : xw_cell ad cs xw_z0 28 (kdR 28) = .inl (cs 20, 1024, .inl (fun _ => xw_i 0)) := rfl
theorem xn_Dn {A : Nat → Prop} {ws : va_W} {n : Nat} {ad : Nat → Nat} {ps : List Nat} (hD : va_D A ws) (hps : va_nd ps = true) (hl : ps.length = n) (h : ∀ k, k < n → ∃ e, ws[ps.getD k 0]? = some (ad k, e)) : va_D A (xw_wn n ad []) := by
  have key : ∀ (k : Nat) (q : Nat × va_E), (xw_wn n ad [])[k]? = some q → k < n ∧ q.1 = ad k := by
    intro k q hk
    unfold xw_wn at hk
    rw [List.append_nil, List.getElem?_map] at hk
    by_cases hkn : k < n
    · rw [List.getElem?_range hkn] at hk
      cases hk
      exact ⟨hkn, rfl⟩
    · rw [List.getElem?_eq_none (by simp; omega)] at hk
      cases hk
  have pg : ∀ k, k < n → ps[k]? = some (ps.getD k 0) := by
    intro k hk
    rw [List.getD_eq_getElem?_getD, List.getElem?_eq_getElem (by omega)]
    rfl
  refine ⟨fun i j x y hi hj hxy => ?_, fun k q hk => ?_⟩
  · obtain ⟨h1, h2⟩ := key i x hi
    obtain ⟨h3, h4⟩ := key j y hj
    obtain ⟨e1, g1⟩ := h i h1
    obtain ⟨e2, g2⟩ := h j h3
    have := hD.1 _ _ _ _ g1 g2 (by rw [← h2, ← h4]; exact hxy)
    exact va_nd_inj ps hps i j _ (pg i h1) (by rw [this]; exact pg j h3)
  · obtain ⟨h1, h2⟩ := key k q hk
    obtain ⟨e1, g1⟩ := h k h1
    rw [h2]
    exact hD.2 _ _ g1
