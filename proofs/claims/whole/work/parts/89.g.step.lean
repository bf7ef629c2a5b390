/-! 89.g: one step: the plain instructions -/
def k_pl (fu : Nat) (p1 p2 p3 : Int) (s6 : xw_S) (r8 : Int) : Option xw_S := xw_jn (fun (s18 : xw_S) (i4_58 : Int) => xw_jn (fun (s25 : xw_S) (i4_79 : Int) => xw_jn (fun (s34 : xw_S) (i4_100 : Int) => xw_jn (fun (s46 : xw_S) (i4_124 : Int) => xw_jn (fun (s52 : xw_S) (i4_135 : Int) => xw_jn (fun (s62 : xw_S) (i4_169 : Int) => xw_jn (fun (s73 : xw_S) (i4_212 : Int) => xw_jn (fun (s79 : xw_S) => xw_grd ((0 ≤ p2 ∧ p2 < ((8 : Nat) : Int))) (xw_bn2 (f_MD_sizeOf fu s79 p3) (fun s81 r83 => xw_let (xw_st s81 23 (p2).toNat ((s79.1 23 (p2).toNat) + r83)) (fun s84 => some s84))))
      (fun (j237 : xw_S → Option xw_S) => xw_grd (xw_r p3) (xw_if (p3 = 31) (xw_grd ((0 ≤ (256 * (xw_rm p1 4)) + i4_212 ∧ (256 * (xw_rm p1 4)) + i4_212 < ((1024 : Nat) : Int))) (xw_let (xw_st s73 28 ((256 * (xw_rm p1 4)) + i4_212).toNat ((s73.1 28 ((256 * (xw_rm p1 4)) + i4_212).toNat) + 1)) (fun s77 => j237 s77)))
      (j237 s73))))
      (fun (j212 : xw_S → Int → Option xw_S) => xw_grd (xw_r p3) (xw_if (p3 = 30) (xw_jn (fun (s70 : xw_S) (i4_202 : Int) => xw_let (xw_st s70 0 40 ((s70.1 0 40) + 1)) (fun s71 => j212 s71 i4_202))
      (fun (j202 : xw_S → Int → Option xw_S) => xw_grd (xw_r (s62.1 0 40)) (xw_if (100 ≤ s62.1 0 40) (j202 s62 i4_169)
      (xw_grd ((0 ≤ s62.1 0 40 ∧ s62.1 0 40 < ((100 : Nat) : Int))) (xw_let (xw_st s62 27 (s62.1 0 40).toNat ((16 * (xw_rm p1 4)) + i4_169)) (fun s68 => j202 s68 i4_169))))))
      (j212 s62 i4_169))))
      (fun (j169 : xw_S → Int → Option xw_S) => xw_grd (xw_r p3) (xw_if (p3 = 16) (xw_grd ((0 ≤ (6 * p2) + i4_135 ∧ (6 * p2) + i4_135 < ((48 : Nat) : Int))) (xw_grd ((0 ≤ p2 ∧ p2 < ((8 : Nat) : Int))) (xw_bn2 (f_MD_signed fu s52 p1 ((s52.1 23 (p2).toNat) + 2)) (fun s57 r59 => xw_let (xw_st s57 25 ((6 * p2) + i4_135).toNat (xw_wr ((s52.1 25 ((6 * p2) + i4_135).toNat) + r59))) (fun s60 => j169 s60 i4_135)))))
      (j169 s52 i4_135))))
      (fun (j135 : xw_S → Int → Option xw_S) => xw_grd (xw_r p3) (xw_if (p3 = 9) (xw_bn2 (f_MD_pop fu s46) (fun s49 r51 => j135 s49 i4_124))
      (j135 s46 i4_124))))
      (fun (j124 : xw_S → Int → Option xw_S) => xw_grd (xw_r p3) (xw_if (p3 = 8) (xw_bn2 (f_MD_pop fu s34) (fun s37 r39 => xw_bnd (f_MD_push fu s37 r39) (fun s40 => xw_bnd (f_MD_push fu s40 r39) (fun s43 => j124 s43 i4_100))))
      (j124 s34 i4_100))))
      (fun (j100 : xw_S → Int → Option xw_S) => xw_grd (xw_r p3) (xw_if (p3 = 3) (xw_bn2 (f_MD_pop fu s25) (fun s28 r30 => xw_grd ((0 ≤ (6 * p2) + i4_79 ∧ (6 * p2) + i4_79 < ((48 : Nat) : Int))) (xw_let (xw_st s28 25 ((6 * p2) + i4_79).toNat r30) (fun s32 => j100 s32 i4_79))))
      (j100 s25 i4_79))))
      (fun (j79 : xw_S → Int → Option xw_S) => xw_grd (xw_r p3) (xw_if (p3 = 2) (xw_grd ((0 ≤ (6 * p2) + i4_58 ∧ (6 * p2) + i4_58 < ((48 : Nat) : Int))) (xw_bnd (f_MD_push fu s18 (s18.1 25 ((6 * p2) + i4_58).toNat)) (fun s22 => j79 s22 i4_58)))
      (j79 s18 i4_58))))
      (fun (j58 : xw_S → Int → Option xw_S) => xw_grd (xw_r p3) (xw_if (p3 = 1) (xw_grd ((0 ≤ p2 ∧ p2 < ((8 : Nat) : Int))) (xw_bn2 (f_MD_signed fu s6 p1 ((s6.1 23 (p2).toNat) + 1)) (fun s12 r14 => xw_bnd (f_MD_push fu s12 r14) (fun s15 => j58 s15 r8))))
      (j58 s6 r8)))
theorem k_plain (fu : Nat) (s0 : xw_S) (p1 p2 p3 : Int) : f_MD_plain fu s0 p1 p2 p3 = xw_grd ((0 ≤ p2 ∧ p2 < ((8 : Nat) : Int))) (xw_grd ((0 ≤ p1 ∧ p1 < ((12 : Nat) : Int))) (xw_jn (fun (s5 : xw_S) (t0_31 : Int) (t1_31 : Int) => xw_bn2 (f_MD_op fu s5 t1_31 t0_31) (fun s6 r8 => k_pl fu p1 p2 p3 s6 r8))
      (fun (j31 : xw_S → Int → Int → Option xw_S) => xw_grd (xw_r ((s0.1 23 (p2).toNat) + 1) ∧ xw_r (s0.1 6 (p1).toNat)) (xw_if (s0.1 6 (p1).toNat ≤ (s0.1 23 (p2).toNat) + 1) (j31 s0 0 p1)
      (j31 s0 ((s0.1 23 (p2).toNat) + 1) p1))))) := rfl
def k_c65 (fu a1 : Nat) (s18 : xw_S) (f2_65 f3_65 : Nat) (i4_65 : Int) : Option xw_S := xw_grd (xw_r i4_65) (xw_if (i4_65 = 7) (xw_bnd (f_MC_divide fu s18 f2_65 a1) (fun s54 => some s54))
      (xw_if (i4_65 = 13) (xw_bn2 (f_B_byteAt fu s18 f3_65 ((s18.1 (24 + 3 * f2_65) 4) + 1)) (fun s48 r50 => xw_bnd (f_MC_enter fu s48 f2_65 r50 a1) (fun s51 => some s51)))
      (xw_if (i4_65 = 14) (xw_bn2 (f_FR_pop fu s18 f2_65) (fun s42 r44 => xw_bnd (f_MC_giveBack fu s42 r44) (fun s45 => some s45)))
      (xw_if (i4_65 = 15) (xw_bn2 (f_FR_pop fu s18 f2_65) (fun s36 r38 => xw_bnd (f_MC_raise fu s36 r38 a1) (fun s39 => some s39)))
      (xw_if (i4_65 = 32) (xw_bn2 (f_FR_pop fu s18 f2_65) (fun s30 r32 => xw_bnd (f_MC_raise fu s30 r32 a1) (fun s33 => some s33)))
      (xw_bn2 (f_MC_wayOn fu s18 f2_65 f3_65 i4_65) (fun s25 r27 => xw_let (xw_st s25 (24 + 3 * f2_65) 4 ((s18.1 (24 + 3 * f2_65) 4) + r27)) (fun s28 => some s28))))))))
theorem k_adv (fu : Nat) (s0 : xw_S) (a1 : Nat) : f_MC_advance fu s0 a1 = xw_grd ((0 ≤ (s0.1 17 3) - 1 ∧ (s0.1 17 3) - 1 < ((8 : Nat) : Int))) (xw_grd ((0 ≤ s0.1 (24 + 3 * (((s0.1 17 3) - 1).toNat)) 3 ∧ s0.1 (24 + 3 * (((s0.1 17 3) - 1).toNat)) 3 < ((4 : Nat) : Int))) (xw_bn2 (f_B_byteAt fu s0 (4 * a1 + (s0.1 (24 + 3 * (((s0.1 17 3) - 1).toNat)) 3).toNat) (s0.1 (24 + 3 * (((s0.1 17 3) - 1).toNat)) 4)) (fun s3 r5 => xw_bn2 (f_OP_isWovenOnly fu s3 r5) (fun s6 r8 => xw_jn (fun (s18 : xw_S) (f2_65 : Nat) (f3_65 : Nat) (i4_65 : Int) => k_c65 fu a1 s18 f2_65 f3_65 i4_65)
      (fun (j65 : xw_S → Nat → Nat → Int → Option xw_S) => xw_grd (xw_r r8) (xw_if (r8 = 0) (xw_grd (xw_r (s6.1 17 7) ∧ xw_r (s6.1 17 4)) (xw_if (s6.1 17 7 < s6.1 17 4) (xw_let (xw_st s6 17 7 ((s6.1 17 7) + 1)) (fun s13 => j65 s13 (((s0.1 17 3) - 1).toNat) (4 * a1 + (s0.1 (24 + 3 * (((s0.1 17 3) - 1).toNat)) 3).toNat) r5))
      (xw_bnd (f_MC_end fu s6 2 0) (fun s15 => some s15))))
      (j65 s6 (((s0.1 17 3) - 1).toNat) (4 * a1 + (s0.1 (24 + 3 * (((s0.1 17 3) - 1).toNat)) 3).toNat) r5))))))) := rfl
def k_r69 (fu : Nat) (s19 : xw_S) (i2_69 i3_69 i4_69 : Int) : Option xw_S := xw_bn2 (f_MD_branches fu s19 i4_69) (fun s21 r23 => xw_grd (xw_r r23) (xw_if (r23 = 0) (xw_jn (fun (s32 : xw_S) (i2_113 : Int) (i3_113 : Int) (i4_113 : Int) => xw_grd (xw_r i4_113) (xw_if (i4_113 = 13) (xw_grd ((0 ≤ i2_113 ∧ i2_113 < ((8 : Nat) : Int))) (xw_bn2 (f_MD_op fu s32 i3_113 ((s32.1 23 (i2_113).toNat) + 1)) (fun s55 r57 => xw_bnd (f_MD_call fu s55 (((xw_dv i3_113 4) * 4) + r57)) (fun s58 => some s58))))
      (xw_if (i4_113 = 14) (xw_bn2 (f_MD_pop fu s32) (fun s48 r50 => xw_bnd (f_MD_giveBack fu s48 r50) (fun s51 => some s51)))
      (xw_jn (fun (s41 : xw_S) => xw_bn2 (f_MD_pop fu s41) (fun s42 r44 => xw_bnd (f_MD_raise fu s42 r44) (fun s45 => some s45)))
      (fun (j178 : xw_S → Option xw_S) => xw_if (i4_113 = 15) (j178 s32)
      (xw_if (i4_113 = 32) (j178 s32)
      (xw_bnd (f_MD_plain fu s32 i3_113 i2_113 i4_113) (fun s38 => some s38))))))))
      (fun (j113 : xw_S → Int → Int → Int → Option xw_S) => xw_grd (xw_r i4_69) (xw_if (i4_69 < 4) (j113 s21 i2_69 i3_69 i4_69)
      (xw_if (7 < i4_69) (j113 s21 i2_69 i3_69 i4_69)
      (xw_bnd (f_MD_calculate fu s21 i4_69) (fun s29 => some s29))))))
      (xw_bnd (f_MD_branch fu s21 i3_69 i2_69 i4_69) (fun s61 => some s61))))
theorem k_one (fu : Nat) (s0 : xw_S) (p1 : Int) : f_MD_one fu s0 p1 = xw_let ((s0.1 0 31) - 1) (fun v1 => xw_grd ((0 ≤ v1 ∧ v1 < ((8 : Nat) : Int))) (xw_let (s0.1 22 (v1).toNat) (fun v4 => xw_bn2 (f_MD_op fu s0 v4 (s0.1 23 (v1).toNat)) (fun s6 r8 => xw_jn (fun (s15 : xw_S) (i2_48 : Int) (i3_48 : Int) (i4_48 : Int) => xw_jn (fun (s18 : xw_S) (i2_69 : Int) (i3_69 : Int) (i4_69 : Int) (t0_69 : Int) => xw_let (xw_st s18 0 39 t0_69) (fun s19 => k_r69 fu s19 i2_69 i3_69 i4_69))
      (fun (j69 : xw_S → Int → Int → Int → Int → Option xw_S) => xw_grd (xw_r i4_48) (xw_if (30 ≤ i4_48) (j69 s15 i2_48 i3_48 i4_48 (s15.1 0 39))
      (j69 s15 i2_48 i3_48 i4_48 ((s15.1 0 39) + 1)))))
      (fun (j48 : xw_S → Int → Int → Int → Option xw_S) => xw_grd (xw_r r8) (xw_if (30 ≤ r8) (j48 s6 v1 v4 r8)
      (xw_grd (xw_r (s6.1 0 39) ∧ xw_r p1) (xw_if (s6.1 0 39 = p1) (xw_let (xw_st s6 0 37 2) (fun s13 => some s13))
      (j48 s6 v1 v4 r8))))))))) := rfl
def k_fin (fu : Nat) (p2 p3 : Int) (s79 : xw_S) : Option xw_S := xw_grd ((0 ≤ p2 ∧ p2 < ((8 : Nat) : Int))) (xw_bn2 (f_MD_sizeOf fu s79 p3) (fun s81 r83 => xw_let (xw_st s81 23 (p2).toNat ((s79.1 23 (p2).toNat) + r83)) (fun s84 => some s84)))
theorem k_pl0 (fu : Nat) (q f : Int) (s : xw_S) (v : Int) : k_pl fu q f 0 s v = k_fin fu f 0 s := rfl
theorem k_pl1 (fu : Nat) (q f : Int) (s : xw_S) (v : Int) : k_pl fu q f 1 s v = xw_grd ((0 ≤ f ∧ f < ((8 : Nat) : Int))) (xw_bn2 (f_MD_signed fu s q ((s.1 23 (f).toNat) + 1)) (fun s12 r14 => xw_bnd (f_MD_push fu s12 r14) (fun s15 => k_fin fu f 1 s15))) := rfl
theorem k_pl2 (fu : Nat) (q f : Int) (s : xw_S) (v : Int) : k_pl fu q f 2 s v = xw_grd ((0 ≤ (6 * f) + v ∧ (6 * f) + v < ((48 : Nat) : Int))) (xw_bnd (f_MD_push fu s (s.1 25 ((6 * f) + v).toNat)) (fun s22 => k_fin fu f 2 s22)) := rfl
theorem k_pl3 (fu : Nat) (q f : Int) (s : xw_S) (v : Int) : k_pl fu q f 3 s v = xw_bn2 (f_MD_pop fu s) (fun s28 r30 => xw_grd ((0 ≤ (6 * f) + v ∧ (6 * f) + v < ((48 : Nat) : Int))) (xw_let (xw_st s28 25 ((6 * f) + v).toNat r30) (fun s32 => k_fin fu f 3 s32))) := rfl
theorem k_pl8 (fu : Nat) (q f : Int) (s : xw_S) (v : Int) : k_pl fu q f 8 s v = xw_bn2 (f_MD_pop fu s) (fun s37 r39 => xw_bnd (f_MD_push fu s37 r39) (fun s40 => xw_bnd (f_MD_push fu s40 r39) (fun s43 => k_fin fu f 8 s43))) := rfl
theorem k_pl9 (fu : Nat) (q f : Int) (s : xw_S) (v : Int) : k_pl fu q f 9 s v = xw_bn2 (f_MD_pop fu s) (fun s49 r51 => k_fin fu f 9 s49) := rfl
theorem k_pl16 (fu : Nat) (q f : Int) (s : xw_S) (v : Int) : k_pl fu q f 16 s v = xw_grd ((0 ≤ (6 * f) + v ∧ (6 * f) + v < ((48 : Nat) : Int))) (xw_grd ((0 ≤ f ∧ f < ((8 : Nat) : Int))) (xw_bn2 (f_MD_signed fu s q ((s.1 23 (f).toNat) + 2)) (fun s57 r59 => xw_let (xw_st s57 25 ((6 * f) + v).toNat (xw_wr ((s.1 25 ((6 * f) + v).toNat) + r59))) (fun s60 => k_fin fu f 16 s60)))) := rfl
theorem k_pl30 (fu : Nat) (q f : Int) (s : xw_S) (v : Int) : k_pl fu q f 30 s v = xw_jn (fun (s70 : xw_S) (i4_202 : Int) => xw_let (xw_st s70 0 40 ((s70.1 0 40) + 1)) (fun s71 => k_fin fu f 30 s71)) (fun (j202 : xw_S → Int → Option xw_S) => xw_grd (xw_r (s.1 0 40)) (xw_if (100 ≤ s.1 0 40) (j202 s v) (xw_grd ((0 ≤ s.1 0 40 ∧ s.1 0 40 < ((100 : Nat) : Int))) (xw_let (xw_st s 27 (s.1 0 40).toNat ((16 * (xw_rm q 4)) + v)) (fun s68 => j202 s68 v))))) := rfl
theorem k_pl31 (fu : Nat) (q f : Int) (s : xw_S) (v : Int) : k_pl fu q f 31 s v = xw_grd ((0 ≤ (256 * (xw_rm q 4)) + v ∧ (256 * (xw_rm q 4)) + v < ((1024 : Nat) : Int))) (xw_let (xw_st s 28 ((256 * (xw_rm q 4)) + v).toNat ((s.1 28 ((256 * (xw_rm q 4)) + v).toNat) + 1)) (fun s77 => k_fin fu f 31 s77)) := rfl
theorem x_fin (fu : Nat) {qb : Nat} {σ ρ : xw_S} {f m p h : Nat} (hF : x_F qb σ ρ f m p h) (hf : f < 8) {o : Int} (ho : xw_r o) : k_fin fu (f : Int) o ρ = some (xw_st ρ 23 f ((p : Int) + q_sz o)) := by
  unfold k_fin
  rw [xw_grd_t (by omega), xw_bn2_e (q_MDsz fu ρ ho), Int.toNat_natCast, hF.2.1.2.1]
  rfl
/-- the instructions whose work move does, and the two that only note -/
def x_pln (o : Int) : Prop := o = 0 ∨ o = 1 ∨ o = 2 ∨ o = 3 ∨ o = 8 ∨ o = 9 ∨ o = 16
theorem x_cp (fu a : Nat) (s s' : xw_S) (f b : Nat) {o : Int} (ho : x_pln o) (hm : f_MC_move fu s f b o = some s') : k_c65 fu a s f b o = some (xw_st s' (24 + 3 * f) 4 (s.1 (24 + 3 * f) 4 + q_sz o)) := by
  have e : k_c65 fu a s f b o = xw_bn2 (xw_bnd (f_MC_move fu s f b o) (fun s30 => xw_bn2 (f_OP_size fu s30 o) (fun s132 r134 => some (s132, r134)))) (fun s25 r27 => xw_let (xw_st s25 (24 + 3 * f) 4 ((s.1 (24 + 3 * f) 4) + r27)) (fun s28 => some s28)) := by
    unfold x_pln at ho
    rcases ho with z | z | z | z | z | z | z <;> rw [z] <;> rfl
  have ho' : xw_r o := by
    unfold x_pln at ho
    exact ⟨by omega, by omega⟩
  rw [e, xw_bnd_e hm, xw_bn2_e (q_OPsize fu s' ho'), xw_bn2_e rfl]
  rfl
theorem x_rp (fu : Nat) (s : xw_S) (f q : Int) {o : Int} (ho : x_pln o ∨ o = 30 ∨ o = 31) : k_r69 fu s f q o = xw_bnd (f_MD_plain fu s q f o) (fun s38 => some s38) := by
  unfold x_pln at ho
  have ho' : xw_r o := ⟨by omega, by omega⟩
  unfold k_r69
  rw [xw_bn2_e (q_MDbr fu s ho'), if_neg (by unfold q_br q_sb q_wb; omega), xw_grd_t (by decide), xw_if_t rfl, xw_jn_e, xw_grd_t ho']
  have tl : (fun (s32 : xw_S) (i2_113 : Int) (i3_113 : Int) (i4_113 : Int) => xw_grd (xw_r i4_113) (xw_if (i4_113 = 13) (xw_grd ((0 ≤ i2_113 ∧ i2_113 < ((8 : Nat) : Int))) (xw_bn2 (f_MD_op fu s32 i3_113 ((s32.1 23 (i2_113).toNat) + 1)) (fun s55 r57 => xw_bnd (f_MD_call fu s55 (((xw_dv i3_113 4) * 4) + r57)) (fun s58 => some s58))))
      (xw_if (i4_113 = 14) (xw_bn2 (f_MD_pop fu s32) (fun s48 r50 => xw_bnd (f_MD_giveBack fu s48 r50) (fun s51 => some s51)))
      (xw_jn (fun (s41 : xw_S) => xw_bn2 (f_MD_pop fu s41) (fun s42 r44 => xw_bnd (f_MD_raise fu s42 r44) (fun s45 => some s45)))
      (fun (j178 : xw_S → Option xw_S) => xw_if (i4_113 = 15) (j178 s32)
      (xw_if (i4_113 = 32) (j178 s32)
      (xw_bnd (f_MD_plain fu s32 i3_113 i2_113 i4_113) (fun s38 => some s38)))))))) s f q o = xw_bnd (f_MD_plain fu s q f o) (fun s38 => some s38) := by
    dsimp only
    rw [xw_grd_t ho', xw_if_f (by omega), xw_if_f (by omega), xw_jn_e, xw_if_f (by omega), xw_if_f (by omega)]
  by_cases c4 : o < 4
  · rw [xw_if_t c4]; exact tl
  · rw [xw_if_f c4, xw_if_t (by omega)]; exact tl
/-- the byte behind, as the reference reads it -/
def x_nv (M : m_M) (p : Nat) : Int := if p + 1 < ML M then Mc M (p + 1) else Mc M 0
theorem x_pl (fu : Nat) {qb : Nat} {σ ρ : xw_S} {f m p h q : Nat} {M : m_M} (hF : x_F qb σ ρ f m p h) (hf : f < 8) (hM : r_M ρ q M) (hL1 : 1 ≤ ML M) (hp : p < ML M) (o : Int) : f_MD_plain fu ρ (q : Int) (f : Int) o = k_pl fu (q : Int) (f : Int) o ρ (x_nv M p) := by
  have hq := hM.1.1
  have hL := hM.1.2.1
  have e23 : ρ.1 23 f = (p : Int) := hF.2.1.2.1
  rw [k_plain, xw_grd_t (by omega), xw_grd_t (by omega), xw_jn_e, Int.toNat_natCast f, Int.toNat_natCast q, e23, hM.1.2.2.1, xw_grd_t ⟨⟨by omega, by omega⟩, ⟨by omega, by omega⟩⟩]
  unfold x_nv
  by_cases c : (ML M : Int) ≤ (p : Int) + 1
  · have e0 : f_MD_op fu ρ (q : Int) 0 = some (ρ, Mc M 0) := q_MDop' fu hM.1 (p := 0) (by omega)
    rw [xw_if_t c, if_neg (by omega)]
    dsimp only
    rw [xw_bn2_e e0]
  · have e1 : f_MD_op fu ρ (q : Int) ((p : Int) + 1) = some (ρ, Mc M (p + 1)) := by
      rw [show (p : Int) + 1 = ((p + 1 : Nat) : Int) by omega]
      exact q_MDop' fu hM.1 (by omega)
    rw [xw_if_f c, if_pos (by omega)]
    dsimp only
    rw [xw_bn2_e e1]
/-- both sides do the same to the top frame -/
def x_1 (fu a qb : Nat) (σ ρ : xw_S) (f m p b q : Nat) (o : Int) (p' h' : Nat) : Prop := ∃ σ' ρ', k_c65 fu a σ f b o = some σ' ∧ k_r69 fu ρ (f : Int) (q : Int) o = some ρ' ∧ x_F qb σ' ρ' f m p' h' ∧ frm (X_c f) σ σ' ∧ frm (X_r f) ρ ρ'
theorem X_c4 {f : Nat} {s : xw_S} (v : Int) : frm (X_c f) s (xw_st s (24 + 3 * f) 4 v) := frm_st (Or.inl ⟨rfl, Or.inr rfl⟩)
theorem X_r4 {f : Nat} {s : xw_S} (v : Int) : frm (X_r f) s (xw_st s 23 f v) := frm_st (Or.inl ⟨rfl, rfl⟩)
/-- the two ends of a plain instruction -/
theorem x_end (fu a : Nat) {qb : Nat} {σ ρ σ1 ρ1 : xw_S} {f m p h h' b q : Nat} {M : m_M} {o : Int} (ho : x_pln o) (hF : x_F qb σ ρ f m p h) (hf : f < 8) (hM : r_M ρ q M) (hL1 : 1 ≤ ML M) (hp : p < ML M) (hmv : f_MC_move fu σ f b o = some σ1) (hpl : k_pl fu (q : Int) (f : Int) o ρ (x_nv M p) = k_fin fu (f : Int) o ρ1) (hF1 : x_F qb σ1 ρ1 f m p h') (hf1 : frm (X_c f) σ σ1) (hg1 : frm (X_r f) ρ ρ1) : x_1 fu a qb σ ρ f m p b q o (p + (q_sz o).toNat) h' := by
  have hz := q_sz_r o
  have ho' : xw_r o := by
    unfold x_pln at ho
    exact ⟨by omega, by omega⟩
  have e1 : (p : Int) + q_sz o = ((p + (q_sz o).toNat : Nat) : Int) := by omega
  refine ⟨_, _, x_cp fu a σ σ1 f b ho hmv, ?_, ?_, frm_tr hf1 (X_c4 _), frm_tr hg1 (X_r4 ((p : Int) + q_sz o))⟩
  · rw [x_rp fu ρ (f : Int) (q : Int) (Or.inl ho), x_pl fu hF hf hM hL1 hp o, hpl, x_fin fu hF1 hf ho']
    rfl
  · rw [hF.1.2.1, e1]
    exact x_go hF1 _
theorem x_wr (x : Int) : xw_r (xw_wr x) := by
  unfold xw_wr
  have h1 := (xw_i x).toInt_lt
  have h2 := (xw_i x).le_toInt
  exact ⟨by omega, by omega⟩
section
variable {qb : Nat} {σ ρ : xw_S} {f m p h b q : Nat} {M : m_M}
theorem x_mv (fu : Nat) (hF : x_F qb σ ρ f m p h) (hC : c_M σ b M) (hL : ML M ≤ 120) (hp : p < ML M) (o : Int) : f_MC_move fu σ f b o = xw_bn2 (some (σ, m_nu M p)) (fun s1 r3 => xw_grd (xw_r o) (xw_if (o = 1) (xw_bn2 (f_OP_signedByte fu s1 r3) (fun s51 r53 => xw_bnd (f_FR_push fu s51 f r53) (fun s54 => some s54)))
 (xw_if (o = 2) (xw_bn2 (f_FR_getLocal fu s1 f r3) (fun s45 r47 => xw_bnd (f_FR_push fu s45 f r47) (fun s48 => some s48)))
 (xw_if (o = 3) (xw_bn2 (f_FR_pop fu s1 f) (fun s39 r41 => xw_bnd (f_FR_setLocal fu s39 f r3 r41) (fun s42 => some s42)))
 (xw_if (o = 4) (some s1)
 (xw_if (o = 5) (some s1)
 (xw_if (o = 6) (some s1)
 (xw_if (o = 7) (some s1)
 (xw_if (o = 8) (xw_bnd (f_FR_doubleTop fu s1 f) (fun s36 => some s36))
 (xw_if (o = 9) (xw_bn2 (f_FR_pop fu s1 f) (fun s33 r35 => some s33))
 (xw_if (o = 10) (some s1)
 (xw_if (o = 11) (some s1)
 (xw_if (o = 12) (some s1)
 (xw_if (o = 13) (some s1)
 (xw_if (o = 14) (some s1)
 (xw_if (o = 15) (some s1)
 (xw_if (o = 16) (xw_bn2 (f_FR_getLocal fu s1 f r3) (fun s21 r23 => xw_bn2 (f_B_byteAt fu s21 b ((s21.1 (24 + 3 * f) 4) + 2)) (fun s24 r26 => xw_bn2 (f_OP_signedByte fu s24 r26) (fun s27 r29 => xw_bnd (f_FR_setLocal fu s27 f r3 (xw_wr (r23 + r29))) (fun s30 => some s30)))))
 (some s1)))))))))))))))))) := by
  unfold f_MC_move
  have e : f_B_byteAt fu σ b ((σ.1 (24 + 3 * f) 4) + 1) = some (σ, m_nu M p) := by
    rw [hF.1.2.1]
    exact q_byteAt fu hC.1 ⟨by omega, by omega⟩
  rw [e]
end
