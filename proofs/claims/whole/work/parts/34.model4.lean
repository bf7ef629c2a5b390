/-! the reference, piece 4 -/
def lp_MD_transform_19 (fu : Nat) (c1_19 : Int) (c2_19 : Int) (k38 : xw_S → Option (xw_S × Int)) : Nat → xw_S → Int → Option (xw_S × Int)
  | 0, _, _ => none
  | n + 1, s8, i3_19 =>
    xw_grd (xw_r i3_19) (xw_if (120 < i3_19) (k38 s8)
     (xw_grd ((0 ≤ i3_19 ∧ i3_19 < ((121 : Nat) : Int))) (xw_let (xw_st s8 18 (i3_19).toNat 0) (fun s12 => xw_let (i3_19 + 1) (fun v14 => lp_MD_transform_19 fu c1_19 c2_19 k38 n s12 v14)))))
def lp_MD_transform_40 (fu : Nat) (c1_40 : Int) (c2_40 : Int) (k67 : xw_S → Option (xw_S × Int)) : Nat → xw_S → Int → Option (xw_S × Int)
  | 0, _, _ => none
  | n + 1, s17, i3_40 =>
    xw_grd (xw_r i3_40) (xw_if (i3_40 = 0) (k67 s17)
     (xw_grd ((0 ≤ c2_40 ∧ c2_40 < ((3 : Nat) : Int))) (xw_jn (fun (s23 : xw_S) (t0_60 : Int) (t1_60 : Int) => xw_bn2 (f_MD_lay fu s23 t1_60 t0_60) (fun s24 r26 => lp_MD_transform_40 fu c1_40 c2_40 k67 n s24 r26))
     (fun (j60 : xw_S → Int → Int → Option (xw_S × Int)) => xw_grd (xw_r (s17.1 10 (c2_40).toNat)) (xw_if (s17.1 10 (c2_40).toNat = 0) (j60 s17 2 c1_40)
     (j60 s17 0 c1_40))))))
def jb_MD_transform_204 (fu : Nat) (c2_156 : Int) (j233 : xw_S → Int → Int → Option (xw_S × Int)) (s69 : xw_S) (i5_204 : Int) (i6_204 : Int) (t0_204 : Int) : Option (xw_S × Int) :=
 xw_bnd (f_MD_emit fu s69 t0_204) (fun s70 => xw_grd ((0 ≤ c2_156 ∧ c2_156 < ((3 : Nat) : Int))) (xw_jn (fun (s76 : xw_S) (i5_227 : Int) (i6_227 : Int) (t0_227 : Int) => xw_bnd (f_MD_emit fu s76 t0_227) (fun s77 => xw_let (i5_227 + 1) (fun v80 => j233 s77 v80 i6_227)))
 (fun (j227 : xw_S → Int → Int → Int → Option (xw_S × Int)) => xw_grd (xw_r (s70.1 10 (c2_156).toNat)) (xw_if (s70.1 10 (c2_156).toNat = 0) (j227 s70 i5_204 i6_204 ((3 * c2_156) + 1))
 (j227 s70 i5_204 i6_204 i5_204)))))
def jb_MD_transform_233 (fu : Nat) (c1_156 : Int) (rh : xw_S → Int → Int → Option (xw_S × Int)) (s82 : xw_S) (i5_233 : Int) (i6_233 : Int) : Option (xw_S × Int) :=
 xw_grd ((0 ≤ i6_233 ∧ i6_233 < ((121 : Nat) : Int))) (xw_jn (fun (s89 : xw_S) (i5_250 : Int) (i6_250 : Int) => xw_let (i6_250 + 1) (fun v90 => rh s89 i5_250 v90))
 (fun (j250 : xw_S → Int → Int → Option (xw_S × Int)) => xw_grd (xw_r (s82.1 14 (i6_233).toNat)) (xw_if (s82.1 14 (i6_233).toNat = 0) (j250 s82 i5_233 i6_233)
 (xw_bnd (f_MD_emitOne fu s82 c1_156 i6_233) (fun s86 => j250 s86 i5_233 i6_233)))))
def lp_MD_transform_156 (fu : Nat) (c1_156 : Int) (c2_156 : Int) (c4_156 : Int) (k256 : xw_S → Int → Option (xw_S × Int)) : Nat → xw_S → Int → Int → Option (xw_S × Int)
  | 0, _, _, _ => none
  | n + 1, s57, i5_156, i6_156 =>
    xw_grd ((0 ≤ c1_156 ∧ c1_156 < ((12 : Nat) : Int))) (xw_grd (xw_r i6_156 ∧ xw_r (s57.1 6 (c1_156).toNat)) (xw_if (s57.1 6 (c1_156).toNat ≤ i6_156) (k256 s57 c4_156)
     (xw_grd ((0 ≤ i6_156 ∧ i6_156 < ((121 : Nat) : Int))) (xw_jn (jb_MD_transform_233 fu c1_156 (lp_MD_transform_156 fu c1_156 c2_156 c4_156 k256 n))
     (fun (j233 : xw_S → Int → Int → Option (xw_S × Int)) => xw_grd (xw_r (s57.1 14 (i6_156).toNat)) (xw_if (s57.1 14 (i6_156).toNat = 0) (j233 s57 i5_156 i6_156)
     (xw_grd (xw_r (s57.1 17 (i6_156).toNat)) (xw_if (s57.1 17 (i6_156).toNat = 0) (j233 s57 i5_156 i6_156)
     (xw_grd ((0 ≤ c2_156 ∧ c2_156 < ((3 : Nat) : Int))) (xw_jn (jb_MD_transform_204 fu c2_156 j233)
     (fun (j204 : xw_S → Int → Int → Int → Option (xw_S × Int)) => xw_grd (xw_r (s57.1 10 (c2_156).toNat)) (xw_if (s57.1 10 (c2_156).toNat = 0) (j204 s57 i5_156 i6_156 30)
     (j204 s57 i5_156 i6_156 31)))))))))))))
def lp_MD_transform_259 (fu : Nat) (c1_259 : Int) (c2_259 : Int) (c4_259 : Int) (k330 : xw_S → Int → Option (xw_S × Int)) : Nat → xw_S → Int → Option (xw_S × Int)
  | 0, _, _ => none
  | n + 1, s93, i6_259 =>
    xw_grd ((0 ≤ c1_259 ∧ c1_259 < ((12 : Nat) : Int))) (xw_grd (xw_r i6_259 ∧ xw_r (4 * (s93.1 8 (c1_259).toNat))) (xw_if (4 * (s93.1 8 (c1_259).toNat) ≤ i6_259) (k330 s93 c4_259)
     (xw_jn (fun (s102 : xw_S) (i6_323 : Int) (t0_323 : Int) (t1_323 : Int) => xw_grd ((0 ≤ t1_323 ∧ t1_323 < ((240 : Nat) : Int))) (xw_let (xw_st s102 9 (t1_323).toNat t0_323) (fun s104 => xw_let (i6_323 + 1) (fun v106 => lp_MD_transform_259 fu c1_259 c2_259 c4_259 k330 n s104 v106))))
     (fun (j323 : xw_S → Int → Int → Int → Option (xw_S × Int)) => xw_grd (xw_r (xw_rm i6_259 4)) (xw_if (xw_rm i6_259 4 = 3) (xw_grd ((0 ≤ (20 * c1_259) + i6_259 ∧ (20 * c1_259) + i6_259 < ((240 : Nat) : Int))) (j323 s93 i6_259 (s93.1 9 ((20 * c1_259) + i6_259).toNat) ((20 * c1_259) + i6_259)))
     (xw_grd ((0 ≤ (20 * c1_259) + i6_259 ∧ (20 * c1_259) + i6_259 < ((240 : Nat) : Int))) (xw_grd ((0 ≤ s93.1 9 ((20 * c1_259) + i6_259).toNat ∧ s93.1 9 ((20 * c1_259) + i6_259).toNat < ((121 : Nat) : Int))) (j323 s93 i6_259 (s93.1 19 (s93.1 9 ((20 * c1_259) + i6_259).toNat).toNat) ((20 * c1_259) + i6_259)))))))))
def lp_MD_transform_428 (fu : Nat) (c1_428 : Int) (k462 : xw_S → Option (xw_S × Int)) : Nat → xw_S → Int → Option (xw_S × Int)
  | 0, _, _ => none
  | n + 1, s139, i6_428 =>
    xw_grd (xw_r i6_428 ∧ xw_r (s139.1 0 29)) (xw_if (s139.1 0 29 ≤ i6_428) (k462 s139)
     (xw_grd ((0 ≤ i6_428 ∧ i6_428 < ((120 : Nat) : Int))) (xw_grd ((0 ≤ (120 * c1_428) + i6_428 ∧ (120 * c1_428) + i6_428 < ((1440 : Nat) : Int))) (xw_let (xw_st s139 7 ((120 * c1_428) + i6_428).toNat (s139.1 21 (i6_428).toNat)) (fun s144 => xw_let (i6_428 + 1) (fun v146 => lp_MD_transform_428 fu c1_428 k462 n s144 v146))))))
def jb_MD_transform_330 (fu : Nat) (p1 : Int) (p2 : Int) (s108 : xw_S) (i4_330 : Int) : Option (xw_S × Int) :=
 xw_grd ((0 ≤ p2 ∧ p2 < ((3 : Nat) : Int))) (xw_jn (fun (s138 : xw_S) => xw_jn (fun (s148 : xw_S) => xw_grd ((0 ≤ p1 ∧ p1 < ((12 : Nat) : Int))) (xw_let (xw_st s148 6 (p1).toNat (s148.1 0 29)) (fun s150 => some (s150, 1))))
 (fun (k462 : xw_S → Option (xw_S × Int)) => lp_MD_transform_428 fu p1 k462 fu s138 0))
 (fun (j425 : xw_S → Option (xw_S × Int)) => xw_grd (xw_r (s108.1 10 (p2).toNat)) (xw_if (s108.1 10 (p2).toNat = 0) (xw_bnd (f_MD_emit fu s108 30) (fun s112 => xw_bnd (f_MD_emit fu s112 ((3 * p2) + 2)) (fun s115 => xw_bnd (f_MD_emit fu s115 32) (fun s118 => xw_grd ((0 ≤ p1 ∧ p1 < ((12 : Nat) : Int))) (xw_let ((20 * p1) + (4 * (s118.1 8 (p1).toNat))) (fun v122 => xw_grd ((0 ≤ v122 ∧ v122 < ((240 : Nat) : Int))) (xw_let (xw_st s118 9 (v122).toNat 0) (fun s125 => xw_grd ((0 ≤ v122 + 1 ∧ v122 + 1 < ((240 : Nat) : Int))) (xw_let (xw_st s125 9 (v122 + 1).toNat i4_330) (fun s128 => xw_grd ((0 ≤ v122 + 2 ∧ v122 + 2 < ((240 : Nat) : Int))) (xw_let (xw_st s128 9 (v122 + 2).toNat i4_330) (fun s131 => xw_grd ((0 ≤ v122 + 3 ∧ v122 + 3 < ((240 : Nat) : Int))) (xw_let (xw_st s131 9 (v122 + 3).toNat 0) (fun s134 => xw_let (xw_st s134 8 (p1).toNat ((s134.1 8 (p1).toNat) + 1)) (fun s136 => j425 s136)))))))))))))))
 (j425 s108))))
def jb_MD_transform_123 (fu : Nat) (p1 : Int) (p2 : Int) (s44 : xw_S) (i4_123 : Int) : Option (xw_S × Int) :=
 xw_let (xw_st s44 0 29 0) (fun s45 => xw_grd ((0 ≤ p2 ∧ p2 < ((3 : Nat) : Int))) (xw_jn (fun (s56 : xw_S) (i4_153 : Int) (i5_153 : Int) => xw_jn (fun (s92 : xw_S) (i4_256 : Int) => xw_jn (jb_MD_transform_330 fu p1 p2)
 (fun (k330 : xw_S → Int → Option (xw_S × Int)) => lp_MD_transform_259 fu p1 p2 i4_256 k330 fu s92 0))
 (fun (k256 : xw_S → Int → Option (xw_S × Int)) => lp_MD_transform_156 fu p1 p2 i4_153 k256 fu s56 i5_153 0))
 (fun (j153 : xw_S → Int → Int → Option (xw_S × Int)) => xw_grd (xw_r (s45.1 10 (p2).toNat)) (xw_if (s45.1 10 (p2).toNat = 0) (xw_bnd (f_MD_emit fu s45 30) (fun s50 => xw_bnd (f_MD_emit fu s50 (3 * p2)) (fun s53 => j153 s53 i4_123 0)))
 (j153 s45 i4_123 0)))))
def jb_MD_transform_96 (fu : Nat) (p1 : Int) (p2 : Int) (s35 : xw_S) (i4_96 : Int) (t0_96 : Int) (t1_96 : Int) : Option (xw_S × Int) :=
 xw_grd (xw_r (t1_96 + t0_96)) (xw_if (120 < t1_96 + t0_96) (some (s35, 0))
 (xw_grd ((0 ≤ p2 ∧ p2 < ((3 : Nat) : Int))) (xw_jn (jb_MD_transform_123 fu p1 p2)
 (fun (j123 : xw_S → Int → Option (xw_S × Int)) => xw_grd (xw_r (s35.1 10 (p2).toNat)) (xw_if (s35.1 10 (p2).toNat = 0) (xw_grd ((0 ≤ p1 ∧ p1 < ((12 : Nat) : Int))) (xw_grd (xw_r (s35.1 8 (p1).toNat)) (xw_if (s35.1 8 (p1).toNat = 5) (some (s35, 0))
 (j123 s35 i4_96))))
 (j123 s35 i4_96))))))
def jb_MD_transform_67 (fu : Nat) (p1 : Int) (p2 : Int) (s27 : xw_S) : Option (xw_S × Int) :=
 xw_grd ((0 ≤ p1 ∧ p1 < ((12 : Nat) : Int))) (xw_grd ((0 ≤ s27.1 6 (p1).toNat ∧ s27.1 6 (p1).toNat < ((121 : Nat) : Int))) (xw_let (s27.1 19 (s27.1 6 (p1).toNat).toNat) (fun v30 => xw_grd ((0 ≤ p2 ∧ p2 < ((3 : Nat) : Int))) (xw_jn (jb_MD_transform_96 fu p1 p2)
 (fun (j96 : xw_S → Int → Int → Int → Option (xw_S × Int)) => xw_grd (xw_r (s27.1 10 (p2).toNat)) (xw_if (s27.1 10 (p2).toNat = 0) (j96 s27 v30 3 v30)
 (j96 s27 v30 0 v30)))))))
def f_MD_transform (fu : Nat) (s0 : xw_S) (p1 : Int) (p2 : Int) : Option (xw_S × Int) :=
 xw_bn2 (f_MD_divide fu s0 p1) (fun s1 r3 => xw_grd ((0 ≤ p2 ∧ p2 < ((3 : Nat) : Int))) (xw_bnd (f_MD_choose fu s1 p1 (s1.1 10 (p2).toNat)) (fun s5 => xw_jn (fun (s16 : xw_S) => xw_jn (jb_MD_transform_67 fu p1 p2)
 (fun (k67 : xw_S → Option (xw_S × Int)) => lp_MD_transform_40 fu p1 p2 k67 fu s16 1))
 (fun (k38 : xw_S → Option (xw_S × Int)) => lp_MD_transform_19 fu p1 p2 k38 fu s5 0))))
set_option maxRecDepth 100000 in
set_option maxHeartbeats 4000000 in
theorem c_MD_transform (l : Launch) (D : va_G) (A : Nat → Prop) (ad : Nat → Nat) (cs : Nat → ClassId) (Z : va_W) (tt : Nat → Nat) (fu : Nat) (s0 sZ : xw_S) (p1 : Int) (p2 : Int) (r0 : Int) (h : f_MD_transform fu s0 p1 p2 = some (sZ, r0)) : Met l y_MD_transform w_MD_transform ({ frames := 3, cells := 0, slots := 0, locals := 70 }) (va_Pc [.ref (ad 0), .int (xw_i p1), .int (xw_i p2)] (xw_H D vwCl A kdR 29 ad cs Z tt s0)) (va_Qi (fun r u => r = xw_i r0 ∧ u = sZ) (xw_H D vwCl A kdR 29 ad cs Z tt) A) 0 0 A := by
  sorry
