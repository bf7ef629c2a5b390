/-! the reference, piece 4 -/
def lp_MD_transform_19 (fu : Nat) (c1_19 : Int) (c2_19 : Int) (k38 : xw_S → Option (xw_S × Int)) : Nat → xw_S → Int → Option (xw_S × Int)
  | 0, _, _ => none
  | n + 1, s8, i3_19 =>
    xw_grd (xw_r i3_19) (xw_if (120 < i3_19) (k38 s8)
     (xw_grd ((0 ≤ i3_19 ∧ i3_19 < ((121 : Nat) : Int))) (xw_let (xw_st s8 18 (i3_19).toNat 0) (fun s12 => xw_let (i3_19 + 1) (fun v14 => lp_MD_transform_19 fu c1_19 c2_19 k38 n s12 v14)))))
def lp_MD_transform_40 (fu : Nat) (c1_40 : Int) (c2_40 : Int) (k67 : xw_S → Option (xw_S × Int)) : Nat → xw_S → Int → Option (xw_S × Int)
  | 0, _, _ => none
  | n + 1, s17, i3_40 =>
    xw_grd (xw_r i3_40) (xw_if (i3_40 = 0) (k67 s17)
     (xw_grd ((0 ≤ c2_40 ∧ c2_40 < ((3 : Nat) : Int))) (xw_jn (fun (s23 : xw_S) (t0_60 : Int) (t1_60 : Int) => xw_bn2 (f_MD_lay fu s23 t1_60 t0_60) (fun s24 r26 => lp_MD_transform_40 fu c1_40 c2_40 k67 n s24 r26))
     (fun (j60 : xw_S → Int → Int → Option (xw_S × Int)) => xw_grd (xw_r (s17.1 10 (c2_40).toNat)) (xw_if (s17.1 10 (c2_40).toNat = 0) (j60 s17 2 c1_40)
     (j60 s17 0 c1_40))))))
def jb_MD_transform_204 (fu : Nat) (c2_156 : Int) (j233 : xw_S → Int → Int → Option (xw_S × Int)) (s69 : xw_S) (i5_204 : Int) (i6_204 : Int) (t0_204 : Int) : Option (xw_S × Int) :=
 xw_bnd (f_MD_emit fu s69 t0_204) (fun s70 => xw_grd ((0 ≤ c2_156 ∧ c2_156 < ((3 : Nat) : Int))) (xw_jn (fun (s76 : xw_S) (i5_227 : Int) (i6_227 : Int) (t0_227 : Int) => xw_bnd (f_MD_emit fu s76 t0_227) (fun s77 => xw_let (i5_227 + 1) (fun v80 => j233 s77 v80 i6_227)))
 (fun (j227 : xw_S → Int → Int → Int → Option (xw_S × Int)) => xw_grd (xw_r (s70.1 10 (c2_156).toNat)) (xw_if (s70.1 10 (c2_156).toNat = 0) (j227 s70 i5_204 i6_204 ((3 * c2_156) + 1))
 (j227 s70 i5_204 i6_204 i5_204)))))
def jb_MD_transform_233 (fu : Nat) (c1_156 : Int) (rh : xw_S → Int → Int → Option (xw_S × Int)) (s82 : xw_S) (i5_233 : Int) (i6_233 : Int) : Option (xw_S × Int) :=
 xw_grd ((0 ≤ i6_233 ∧ i6_233 < ((121 : Nat) : Int))) (xw_jn (fun (s89 : xw_S) (i5_250 : Int) (i6_250 : Int) => xw_let (i6_250 + 1) (fun v90 => rh s89 i5_250 v90))
 (fun (j250 : xw_S → Int → Int → Option (xw_S × Int)) => xw_grd (xw_r (s82.1 14 (i6_233).toNat)) (xw_if (s82.1 14 (i6_233).toNat = 0) (j250 s82 i5_233 i6_233)
 (xw_bnd (f_MD_emitOne fu s82 c1_156 i6_233) (fun s86 => j250 s86 i5_233 i6_233)))))
def lp_MD_transform_156 (fu : Nat) (c1_156 : Int) (c2_156 : Int) (c4_156 : Int) (k256 : xw_S → Int → Option (xw_S × Int)) : Nat → xw_S → Int → Int → Option (xw_S × Int)
  | 0, _, _, _ => none
  | n + 1, s57, i5_156, i6_156 =>
    xw_grd ((0 ≤ c1_156 ∧ c1_156 < ((12 : Nat) : Int))) (xw_grd (xw_r i6_156 ∧ xw_r (s57.1 6 (c1_156).toNat)) (xw_if (s57.1 6 (c1_156).toNat ≤ i6_156) (k256 s57 c4_156)
     (xw_grd ((0 ≤ i6_156 ∧ i6_156 < ((121 : Nat) : Int))) (xw_jn (jb_MD_transform_233 fu c1_156 (lp_MD_transform_156 fu c1_156 c2_156 c4_156 k256 n))
     (fun (j233 : xw_S → Int → Int → Option (xw_S × Int)) => xw_grd (xw_r (s57.1 14 (i6_156).toNat)) (xw_if (s57.1 14 (i6_156).toNat = 0) (j233 s57 i5_156 i6_156)
     (xw_grd (xw_r (s57.1 17 (i6_156).toNat)) (xw_if (s57.1 17 (i6_156).toNat = 0) (j233 s57 i5_156 i6_156)
     (xw_grd ((0 ≤ c2_156 ∧ c2_156 < ((3 : Nat) : Int))) (xw_jn (jb_MD_transform_204 fu c2_156 j233)
     (fun (j204 : xw_S → Int → Int → Int → Option (xw_S × Int)) => xw_grd (xw_r (s57.1 10 (c2_156).toNat)) (xw_if (s57.1 10 (c2_156).toNat = 0) (j204 s57 i5_156 i6_156 30)
     (j204 s57 i5_156 i6_156 31)))))))))))))
def lp_MD_transform_259 (fu : Nat) (c1_259 : Int) (c2_259 : Int) (c4_259 : Int) (k330 : xw_S → Int → Option (xw_S × Int)) : Nat → xw_S → Int → Option (xw_S × Int)
  | 0, _, _ => none
  | n + 1, s93, i6_259 =>
    xw_grd ((0 ≤ c1_259 ∧ c1_259 < ((12 : Nat) : Int))) (xw_grd (xw_r i6_259 ∧ xw_r (4 * (s93.1 8 (c1_259).toNat))) (xw_if (4 * (s93.1 8 (c1_259).toNat) ≤ i6_259) (k330 s93 c4_259)
     (xw_jn (fun (s102 : xw_S) (i6_323 : Int) (t0_323 : Int) (t1_323 : Int) => xw_grd ((0 ≤ t1_323 ∧ t1_323 < ((240 : Nat) : Int))) (xw_let (xw_st s102 9 (t1_323).toNat t0_323) (fun s104 => xw_let (i6_323 + 1) (fun v106 => lp_MD_transform_259 fu c1_259 c2_259 c4_259 k330 n s104 v106))))
     (fun (j323 : xw_S → Int → Int → Int → Option (xw_S × Int)) => xw_grd (xw_r (xw_rm i6_259 4)) (xw_if (xw_rm i6_259 4 = 3) (xw_grd ((0 ≤ (20 * c1_259) + i6_259 ∧ (20 * c1_259) + i6_259 < ((240 : Nat) : Int))) (j323 s93 i6_259 (s93.1 9 ((20 * c1_259) + i6_259).toNat) ((20 * c1_259) + i6_259)))
     (xw_grd ((0 ≤ (20 * c1_259) + i6_259 ∧ (20 * c1_259) + i6_259 < ((240 : Nat) : Int))) (xw_grd ((0 ≤ s93.1 9 ((20 * c1_259) + i6_259).toNat ∧ s93.1 9 ((20 * c1_259) + i6_259).toNat < ((121 : Nat) : Int))) (j323 s93 i6_259 (s93.1 19 (s93.1 9 ((20 * c1_259) + i6_259).toNat).toNat) ((20 * c1_259) + i6_259)))))))))
def lp_MD_transform_428 (fu : Nat) (c1_428 : Int) (k462 : xw_S → Option (xw_S × Int)) : Nat → xw_S → Int → Option (xw_S × Int)
  | 0, _, _ => none
  | n + 1, s139, i6_428 =>
    xw_grd (xw_r i6_428 ∧ xw_r (s139.1 0 29)) (xw_if (s139.1 0 29 ≤ i6_428) (k462 s139)
     (xw_grd ((0 ≤ i6_428 ∧ i6_428 < ((120 : Nat) : Int))) (xw_grd ((0 ≤ (120 * c1_428) + i6_428 ∧ (120 * c1_428) + i6_428 < ((1440 : Nat) : Int))) (xw_let (xw_st s139 7 ((120 * c1_428) + i6_428).toNat (s139.1 21 (i6_428).toNat)) (fun s144 => xw_let (i6_428 + 1) (fun v146 => lp_MD_transform_428 fu c1_428 k462 n s144 v146))))))
def jb_MD_transform_330 (fu : Nat) (p1 : Int) (p2 : Int) (s108 : xw_S) (i4_330 : Int) : Option (xw_S × Int) :=
 xw_grd ((0 ≤ p2 ∧ p2 < ((3 : Nat) : Int))) (xw_jn (fun (s138 : xw_S) => xw_jn (fun (s148 : xw_S) => xw_grd ((0 ≤ p1 ∧ p1 < ((12 : Nat) : Int))) (xw_let (xw_st s148 6 (p1).toNat (s148.1 0 29)) (fun s150 => some (s150, 1))))
 (fun (k462 : xw_S → Option (xw_S × Int)) => lp_MD_transform_428 fu p1 k462 fu s138 0))
 (fun (j425 : xw_S → Option (xw_S × Int)) => xw_grd (xw_r (s108.1 10 (p2).toNat)) (xw_if (s108.1 10 (p2).toNat = 0) (xw_bnd (f_MD_emit fu s108 30) (fun s112 => xw_bnd (f_MD_emit fu s112 ((3 * p2) + 2)) (fun s115 => xw_bnd (f_MD_emit fu s115 32) (fun s118 => xw_grd ((0 ≤ p1 ∧ p1 < ((12 : Nat) : Int))) (xw_let ((20 * p1) + (4 * (s118.1 8 (p1).toNat))) (fun v122 => xw_grd ((0 ≤ v122 ∧ v122 < ((240 : Nat) : Int))) (xw_let (xw_st s118 9 (v122).toNat 0) (fun s125 => xw_grd ((0 ≤ v122 + 1 ∧ v122 + 1 < ((240 : Nat) : Int))) (xw_let (xw_st s125 9 (v122 + 1).toNat i4_330) (fun s128 => xw_grd ((0 ≤ v122 + 2 ∧ v122 + 2 < ((240 : Nat) : Int))) (xw_let (xw_st s128 9 (v122 + 2).toNat i4_330) (fun s131 => xw_grd ((0 ≤ v122 + 3 ∧ v122 + 3 < ((240 : Nat) : Int))) (xw_let (xw_st s131 9 (v122 + 3).toNat 0) (fun s134 => xw_let (xw_st s134 8 (p1).toNat ((s134.1 8 (p1).toNat) + 1)) (fun s136 => j425 s136)))))))))))))))
 (j425 s108))))
def jb_MD_transform_123 (fu : Nat) (p1 : Int) (p2 : Int) (s44 : xw_S) (i4_123 : Int) : Option (xw_S × Int) :=
 xw_let (xw_st s44 0 29 0) (fun s45 => xw_grd ((0 ≤ p2 ∧ p2 < ((3 : Nat) : Int))) (xw_jn (fun (s56 : xw_S) (i4_153 : Int) (i5_153 : Int) => xw_jn (fun (s92 : xw_S) (i4_256 : Int) => xw_jn (jb_MD_transform_330 fu p1 p2)
 (fun (k330 : xw_S → Int → Option (xw_S × Int)) => lp_MD_transform_259 fu p1 p2 i4_256 k330 fu s92 0))
 (fun (k256 : xw_S → Int → Option (xw_S × Int)) => lp_MD_transform_156 fu p1 p2 i4_153 k256 fu s56 i5_153 0))
 (fun (j153 : xw_S → Int → Int → Option (xw_S × Int)) => xw_grd (xw_r (s45.1 10 (p2).toNat)) (xw_if (s45.1 10 (p2).toNat = 0) (xw_bnd (f_MD_emit fu s45 30) (fun s50 => xw_bnd (f_MD_emit fu s50 (3 * p2)) (fun s53 => j153 s53 i4_123 0)))
 (j153 s45 i4_123 0)))))
def jb_MD_transform_96 (fu : Nat) (p1 : Int) (p2 : Int) (s35 : xw_S) (i4_96 : Int) (t0_96 : Int) (t1_96 : Int) : Option (xw_S × Int) :=
 xw_grd (xw_r (t1_96 + t0_96)) (xw_if (120 < t1_96 + t0_96) (some (s35, 0))
 (xw_grd ((0 ≤ p2 ∧ p2 < ((3 : Nat) : Int))) (xw_jn (jb_MD_transform_123 fu p1 p2)
 (fun (j123 : xw_S → Int → Option (xw_S × Int)) => xw_grd (xw_r (s35.1 10 (p2).toNat)) (xw_if (s35.1 10 (p2).toNat = 0) (xw_grd ((0 ≤ p1 ∧ p1 < ((12 : Nat) : Int))) (xw_grd (xw_r (s35.1 8 (p1).toNat)) (xw_if (s35.1 8 (p1).toNat = 5) (some (s35, 0))
 (j123 s35 i4_96))))
 (j123 s35 i4_96))))))
def jb_MD_transform_67 (fu : Nat) (p1 : Int) (p2 : Int) (s27 : xw_S) : Option (xw_S × Int) :=
 xw_grd ((0 ≤ p1 ∧ p1 < ((12 : Nat) : Int))) (xw_grd ((0 ≤ s27.1 6 (p1).toNat ∧ s27.1 6 (p1).toNat < ((121 : Nat) : Int))) (xw_let (s27.1 19 (s27.1 6 (p1).toNat).toNat) (fun v30 => xw_grd ((0 ≤ p2 ∧ p2 < ((3 : Nat) : Int))) (xw_jn (jb_MD_transform_96 fu p1 p2)
 (fun (j96 : xw_S → Int → Int → Int → Option (xw_S × Int)) => xw_grd (xw_r (s27.1 10 (p2).toNat)) (xw_if (s27.1 10 (p2).toNat = 0) (j96 s27 v30 3 v30)
 (j96 s27 v30 0 v30)))))))
def f_MD_transform (fu : Nat) (s0 : xw_S) (p1 : Int) (p2 : Int) : Option (xw_S × Int) :=
 xw_bn2 (f_MD_divide fu s0 p1) (fun s1 r3 => xw_grd ((0 ≤ p2 ∧ p2 < ((3 : Nat) : Int))) (xw_bnd (f_MD_choose fu s1 p1 (s1.1 10 (p2).toNat)) (fun s5 => xw_jn (fun (s16 : xw_S) => xw_jn (jb_MD_transform_67 fu p1 p2)
 (fun (k67 : xw_S → Option (xw_S × Int)) => lp_MD_transform_40 fu p1 p2 k67 fu s16 1))
 (fun (k38 : xw_S → Option (xw_S × Int)) => lp_MD_transform_19 fu p1 p2 k38 fu s5 0))))
set_option maxRecDepth 100000 in
set_option maxHeartbeats 4000000 in
theorem c_MD_transform (l : Launch) (D : va_G) (A : Nat → Prop) (ad : Nat → Nat) (cs : Nat → ClassId) (Z : va_W) (tt : Nat → Nat) (fu : Nat) (s0 sZ : xw_S) (p1 : Int) (p2 : Int) (r0 : Int) (h : f_MD_transform fu s0 p1 p2 = some (sZ, r0)) : Met l y_MD_transform w_MD_transform ({ frames := 3, cells := 0, slots := 0, locals := 70 }) (va_Pc [.ref (ad 0), .int (xw_i p1), .int (xw_i p2)] (xw_H D vwCl A kdR 29 ad cs Z tt s0)) (va_Qi (fun r u => r = xw_i r0 ∧ u = sZ) (xw_H D vwCl A kdR 29 ad cs Z tt) A) 0 0 A := by
  refine Met.ofW (cc := b_MD_transform) (maxL := 7) (ret := (some .boolean)) (by decide) rfl ?_
  intro p e s m args below meth c s₁ B hml hv
  obtain ⟨rfl, hP, hK, hD, hX⟩ := hv
  have hx := B.exec
  have hb := B.bytes
  have hr := B.returns
  have hts0 := atoms_spec (ws := w_MD_transform) B.pre
  have hts := fun w (hw : w ∈ wAll) => hts0 w (List.mem_cons_of_mem _ hw)
  have hown : s.vm.findClass "AdviceWeaverModel" = some m.cls := findClass_of_methodNamed B.named
  have hlk := B.notSynchronized
  clear hts0 B
  have hS : va_S A s.heap s.heap [] := va_S.rf
  have hl := lv_entry [.ref (ad 0), .int (xw_i p1), .int (xw_i p2)] (n := 7) (Nat.le_of_ble_eq_true rfl)
  rw [lg_entry_eq]
  generalize (lg_sl [.ref (ad 0), .int (xw_i p1), .int (xw_i p2)] ++ List.replicate (7 - (lg_sl [.ref (ad 0), .int (xw_i p1), .int (xw_i p2)]).length) Slot.unset).toArray = ls at hl ⊢
  have hl : lv_has ls 7 [(0, .ref (ad 0)), (1, .int (xw_i p1)), (2, .int (xw_i p2))] := hl
  have hlp19 : ∀ (c1_19 : Int) (c2_19 : Int) (k38 : xw_S → Option (xw_S × Int)) (hk38 : ∀ (sq : xw_S), k38 sq = some (sZ, r0) → ∀ (H : Heap) (locs : List Loc) (ls : Array Slot), va_P D vwCl (xw_ws kdR 29 ad cs Z sq) H → va_S A s.heap H locs → lv_has ls 7 [(0, .ref (ad 0)), (1, .int (xw_i c1_19)), (2, .int (xw_i c2_19))] → W p l e (headSpec w_MD_transform ({ frames := 3, cells := 0, slots := 0, locals := 70 })).room s m [.ref (ad 0), .int (xw_i p1), .int (xw_i p2)].toArray below meth c H locs 0 0 (MQ below (va_Qi (fun r u => r = xw_i r0 ∧ u = sZ) (xw_H D vwCl A kdR 29 ad cs Z tt) A) [.ref (ad 0), .int (xw_i p1), .int (xw_i p2)].toArray s 0 0 A) (F0 m 38 ls [])) (n : Nat), ∀ (sq : xw_S) (i3_19 : Int), lp_MD_transform_19 fu c1_19 c2_19 k38 n sq i3_19 = some (sZ, r0) → ∀ (H : Heap) (locs : List Loc) (ls : Array Slot), va_P D vwCl (xw_ws kdR 29 ad cs Z sq) H → va_S A s.heap H locs → lv_has ls 7 [(0, .ref (ad 0)), (1, .int (xw_i c1_19)), (2, .int (xw_i c2_19)), (3, .int (xw_i i3_19))] → W p l e (headSpec w_MD_transform ({ frames := 3, cells := 0, slots := 0, locals := 70 })).room s m [.ref (ad 0), .int (xw_i p1), .int (xw_i p2)].toArray below meth c H locs 0 0 (MQ below (va_Qi (fun r u => r = xw_i r0 ∧ u = sZ) (xw_H D vwCl A kdR 29 ad cs Z tt) A) [.ref (ad 0), .int (xw_i p1), .int (xw_i p2)].toArray s 0 0 A) (F0 m 19 ls []) := by
    intro c1_19 c2_19 k38 hk38 n
    induction n with
    | zero =>
      intro sq i3_19 h
      cases (show (none : Option (xw_S × Int)) = some (sZ, r0) from h)
    | succ n ih19 =>
      intro s8 i3_19 h H locs ls hP hS hl
      unfold lp_MD_transform_19 at h
      refine lv_iload_n hx hb d_MD_transform_19 rfl (lv_at hl 3 rfl) ?_
      refine lv_bipush (v := xw_i 120) hx hb d_MD_transform_20 (by decide) ?_
      obtain ⟨hg9, h⟩ := xw_grdI h
      refine xw_icmp_gt (tgt := 38) hx hb hg9 (by decide) d_MD_transform_22 (by decide) (fun hc10 => ?_) (fun hc10 => ?_)
      · replace h := xw_ifT hc10 h
        exact hk38 s8 h _ _ _ hP hS (lv_sub hl [0, 1, 2] rfl)
      · replace h := xw_ifF hc10 h
        refine lv_aload_n hx hb d_MD_transform_25 rfl (lv_at hl 0 rfl) ?_
        refine xw_getR (C := "AdviceWeaverModel") (T := T_MD) hx hb hts hin_MD hown hK hP (by decide) kr_MD (by decide) rfl 26 (by decide) (hts _ hw_531) (fun _ h9 => h9) rfl d_MD_transform_26 ?_
        refine lv_iload_n hx hb d_MD_transform_29 rfl (lv_at hl 3 rfl) ?_
        refine lv_iconst (v := xw_i 0) hx hb d_MD_transform_30 rfl ?_
        obtain ⟨hg11, h⟩ := xw_grdI h
        refine xw_zast hx hb hK hP hD hS (by decide) kr_m_wide (by decide) hg11 (by decide) d_MD_transform_31 (fun s12 e13 H locs hP hS => ?_)
        replace h := xw_letI e13 h
        obtain ⟨v14, e15⟩ : ∃ z, z = i3_19 + 1 := ⟨_, rfl⟩
        replace h := xw_letI e15 h
        refine xw_iinc (lv' := [(3, .int (xw_i v14)), (0, .ref (ad 0)), (1, .int (xw_i c1_19)), (2, .int (xw_i c2_19))]) hx hb d_MD_transform_32 hl (k := 3) rfl (by decide) (by rw [e15]; rfl) (fun ls hl => ?_)
        refine lv_goto (tgt := 19) hx hb d_MD_transform_35 (by decide) ?_
        exact ih19 s12 v14 h _ _ _ hP hS (lv_sub hl [1, 2, 3, 0] rfl)
  have hlp40 : ∀ (c1_40 : Int) (c2_40 : Int) (k67 : xw_S → Option (xw_S × Int)) (hk67 : ∀ (sq : xw_S), k67 sq = some (sZ, r0) → ∀ (H : Heap) (locs : List Loc) (ls : Array Slot), va_P D vwCl (xw_ws kdR 29 ad cs Z sq) H → va_S A s.heap H locs → lv_has ls 7 [(0, .ref (ad 0)), (1, .int (xw_i c1_40)), (2, .int (xw_i c2_40))] → W p l e (headSpec w_MD_transform ({ frames := 3, cells := 0, slots := 0, locals := 70 })).room s m [.ref (ad 0), .int (xw_i p1), .int (xw_i p2)].toArray below meth c H locs 0 0 (MQ below (va_Qi (fun r u => r = xw_i r0 ∧ u = sZ) (xw_H D vwCl A kdR 29 ad cs Z tt) A) [.ref (ad 0), .int (xw_i p1), .int (xw_i p2)].toArray s 0 0 A) (F0 m 67 ls [])) (n : Nat), ∀ (sq : xw_S) (i3_40 : Int), lp_MD_transform_40 fu c1_40 c2_40 k67 n sq i3_40 = some (sZ, r0) → ∀ (H : Heap) (locs : List Loc) (ls : Array Slot), va_P D vwCl (xw_ws kdR 29 ad cs Z sq) H → va_S A s.heap H locs → lv_has ls 7 [(0, .ref (ad 0)), (1, .int (xw_i c1_40)), (2, .int (xw_i c2_40)), (3, .int (xw_i i3_40))] → W p l e (headSpec w_MD_transform ({ frames := 3, cells := 0, slots := 0, locals := 70 })).room s m [.ref (ad 0), .int (xw_i p1), .int (xw_i p2)].toArray below meth c H locs 0 0 (MQ below (va_Qi (fun r u => r = xw_i r0 ∧ u = sZ) (xw_H D vwCl A kdR 29 ad cs Z tt) A) [.ref (ad 0), .int (xw_i p1), .int (xw_i p2)].toArray s 0 0 A) (F0 m 40 ls []) := by
    intro c1_40 c2_40 k67 hk67 n
    induction n with
    | zero =>
      intro sq i3_40 h
      cases (show (none : Option (xw_S × Int)) = some (sZ, r0) from h)
    | succ n ih40 =>
      intro s17 i3_40 h H locs ls hP hS hl
      unfold lp_MD_transform_40 at h
      refine lv_iload_n hx hb d_MD_transform_40 rfl (lv_at hl 3 rfl) ?_
      obtain ⟨hg18, h⟩ := xw_grdI h
      refine xw_if_eq (tgt := 67) hx hb hg18 d_MD_transform_41 (by decide) (fun hc19 => ?_) (fun hc19 => ?_)
      · replace h := xw_ifT hc19 h
        exact hk67 s17 h _ _ _ hP hS (lv_sub hl [0, 1, 2] rfl)
      · replace h := xw_ifF hc19 h
        refine lv_aload_n hx hb d_MD_transform_44 rfl (lv_at hl 0 rfl) ?_
        refine lv_iload_n hx hb d_MD_transform_45 rfl (lv_at hl 1 rfl) ?_
        refine lv_aload_n hx hb d_MD_transform_46 rfl (lv_at hl 0 rfl) ?_
        refine xw_getR (C := "AdviceWeaverModel") (T := T_MD) hx hb hts hin_MD hown hK hP (by decide) kr_MD (by decide) rfl 16 (by decide) (hts _ hw_525) (fun _ h9 => h9) rfl d_MD_transform_47 ?_
        refine lv_iload_n hx hb d_MD_transform_50 rfl (lv_at hl 2 rfl) ?_
        obtain ⟨hg20, h⟩ := xw_grdI h
        refine xw_zald hx hb hK hP (by decide) kr_m_cover (by decide) hg20 d_MD_transform_51 ?_
        refine xw_jnI (fun j => ∀ (sq : xw_S) (t0_60 : Int) (t1_60 : Int), j sq t0_60 t1_60 = some (sZ, r0) → ∀ (H : Heap) (locs : List Loc) (ls : Array Slot), va_P D vwCl (xw_ws kdR 29 ad cs Z sq) H → va_S A s.heap H locs → lv_has ls 7 [(0, .ref (ad 0)), (1, .int (xw_i c1_40)), (2, .int (xw_i c2_40))] → W p l e (headSpec w_MD_transform ({ frames := 3, cells := 0, slots := 0, locals := 70 })).room s m [.ref (ad 0), .int (xw_i p1), .int (xw_i p2)].toArray below meth c H locs 0 0 (MQ below (va_Qi (fun r u => r = xw_i r0 ∧ u = sZ) (xw_H D vwCl A kdR 29 ad cs Z tt) A) [.ref (ad 0), .int (xw_i p1), .int (xw_i p2)].toArray s 0 0 A) (F0 m 60 ls [.int (xw_i t0_60), .int (xw_i t1_60), .ref (ad 0)])) h ?_ ?_
        · intro s23 t0_60 t1_60 h H locs ls hP hS hl
          obtain ⟨s24, r26, hc25, h⟩ := xw_bn2I h
          refine xw_callVi (C := "AdviceWeaverModel") (T := T_MD) ⟨hx, hb, hml, hown, hts⟩ (c_MD_lay l D A ad cs Z tt fu s23 s24 t1_60 t0_60 r26 hc25) (cwV 2 hts (gd_V hw_542 hw_543 hw_544 hw_433 hw_545) rfl rfl rfl (by decide +kernel) ⟨Nat.le_of_ble_eq_true rfl, Nat.le_of_ble_eq_true rfl⟩) hP hK hD hX hS (by decide) kr_MD (by decide) rfl rfl hl.1 rfl (Nat.le_of_ble_eq_true rfl) d_MD_transform_60 (fun H locs hP hS => ?_)
          refine lv_istore_n hx hb d_MD_transform_63 rfl hl (by decide) rfl (fun ls hl => ?_)
          refine lv_goto (tgt := 40) hx hb d_MD_transform_64 (by decide) ?_
          exact ih40 s24 r26 h _ _ _ hP hS (lv_sub hl [1, 2, 3, 0] rfl)
        · intro j60 hj60 h
          obtain ⟨hg21, h⟩ := xw_grdI h
          refine xw_if_eq (tgt := 59) hx hb hg21 d_MD_transform_52 (by decide) (fun hc22 => ?_) (fun hc22 => ?_)
          · replace h := xw_ifT hc22 h
            refine lv_iconst (v := xw_i 2) hx hb d_MD_transform_59 rfl ?_
            exact hj60 s17 2 c1_40 h _ _ _ hP hS (lv_sub hl [0, 1, 2] rfl)
          · replace h := xw_ifF hc22 h
            refine lv_iconst (v := xw_i 0) hx hb d_MD_transform_55 rfl ?_
            refine lv_goto (tgt := 60) hx hb d_MD_transform_56 (by decide) ?_
            exact hj60 s17 0 c1_40 h _ _ _ hP hS (lv_sub hl [0, 1, 2] rfl)
  have hlp156 : ∀ (c1_156 : Int) (c2_156 : Int) (c4_156 : Int) (k256 : xw_S → Int → Option (xw_S × Int)) (hk256 : ∀ (sq : xw_S) (i4_256 : Int), k256 sq i4_256 = some (sZ, r0) → ∀ (H : Heap) (locs : List Loc) (ls : Array Slot), va_P D vwCl (xw_ws kdR 29 ad cs Z sq) H → va_S A s.heap H locs → lv_has ls 7 [(0, .ref (ad 0)), (1, .int (xw_i c1_156)), (2, .int (xw_i c2_156)), (4, .int (xw_i i4_256))] → W p l e (headSpec w_MD_transform ({ frames := 3, cells := 0, slots := 0, locals := 70 })).room s m [.ref (ad 0), .int (xw_i p1), .int (xw_i p2)].toArray below meth c H locs 0 0 (MQ below (va_Qi (fun r u => r = xw_i r0 ∧ u = sZ) (xw_H D vwCl A kdR 29 ad cs Z tt) A) [.ref (ad 0), .int (xw_i p1), .int (xw_i p2)].toArray s 0 0 A) (F0 m 256 ls [])) (n : Nat), ∀ (sq : xw_S) (i5_156 : Int) (i6_156 : Int), lp_MD_transform_156 fu c1_156 c2_156 c4_156 k256 n sq i5_156 i6_156 = some (sZ, r0) → ∀ (H : Heap) (locs : List Loc) (ls : Array Slot), va_P D vwCl (xw_ws kdR 29 ad cs Z sq) H → va_S A s.heap H locs → lv_has ls 7 [(0, .ref (ad 0)), (1, .int (xw_i c1_156)), (2, .int (xw_i c2_156)), (4, .int (xw_i c4_156)), (5, .int (xw_i i5_156)), (6, .int (xw_i i6_156))] → W p l e (headSpec w_MD_transform ({ frames := 3, cells := 0, slots := 0, locals := 70 })).room s m [.ref (ad 0), .int (xw_i p1), .int (xw_i p2)].toArray below meth c H locs 0 0 (MQ below (va_Qi (fun r u => r = xw_i r0 ∧ u = sZ) (xw_H D vwCl A kdR 29 ad cs Z tt) A) [.ref (ad 0), .int (xw_i p1), .int (xw_i p2)].toArray s 0 0 A) (F0 m 156 ls []) := by
    intro c1_156 c2_156 c4_156 k256 hk256 n
    induction n with
    | zero =>
      intro sq i5_156 i6_156 h
      cases (show (none : Option (xw_S × Int)) = some (sZ, r0) from h)
    | succ n ih156 =>
      intro s57 i5_156 i6_156 h H locs ls hP hS hl
      unfold lp_MD_transform_156 at h
      refine lv_iload hx hb d_MD_transform_156 (lv_at hl 5 rfl) ?_
      refine lv_aload_n hx hb d_MD_transform_158 rfl (lv_at hl 0 rfl) ?_
      refine xw_getR (C := "AdviceWeaverModel") (T := T_MD) hx hb hts hin_MD hown hK hP (by decide) kr_MD (by decide) rfl 6 (by decide) (hts _ hw_447) (fun _ h9 => h9) rfl d_MD_transform_159 ?_
      refine lv_iload_n hx hb d_MD_transform_162 rfl (lv_at hl 1 rfl) ?_
      obtain ⟨hg58, h⟩ := xw_grdI h
      refine xw_iald hx hb hK hP (by decide) kr_m_length (by decide) hg58 d_MD_transform_163 ?_
      obtain ⟨hg59, h⟩ := xw_grdI h
      refine xw_icmp_ge (tgt := 256) hx hb hg59.1 hg59.2 d_MD_transform_164 (by decide) (fun hc60 => ?_) (fun hc60 => ?_)
      · replace h := xw_ifT hc60 h
        exact hk256 s57 c4_156 h _ _ _ hP hS (lv_sub hl [0, 1, 2, 3] rfl)
      · replace h := xw_ifF hc60 h
        refine lv_aload_n hx hb d_MD_transform_167 rfl (lv_at hl 0 rfl) ?_
        refine xw_getR (C := "AdviceWeaverModel") (T := T_MD) hx hb hts hin_MD hown hK hP (by decide) kr_MD (by decide) rfl 20 (by decide) (hts _ hw_451) (fun _ h9 => h9) rfl d_MD_transform_168 ?_
        refine lv_iload hx hb d_MD_transform_171 (lv_at hl 5 rfl) ?_
        obtain ⟨hg61, h⟩ := xw_grdI h
        refine xw_zald hx hb hK hP (by decide) kr_m_begins (by decide) hg61 d_MD_transform_173 ?_
        refine xw_jnI (fun j => ∀ (sq : xw_S) (i5_233 : Int) (i6_233 : Int), j sq i5_233 i6_233 = some (sZ, r0) → ∀ (H : Heap) (locs : List Loc) (ls : Array Slot), va_P D vwCl (xw_ws kdR 29 ad cs Z sq) H → va_S A s.heap H locs → lv_has ls 7 [(0, .ref (ad 0)), (1, .int (xw_i c1_156)), (2, .int (xw_i c2_156)), (4, .int (xw_i c4_156)), (5, .int (xw_i i5_233)), (6, .int (xw_i i6_233))] → W p l e (headSpec w_MD_transform ({ frames := 3, cells := 0, slots := 0, locals := 70 })).room s m [.ref (ad 0), .int (xw_i p1), .int (xw_i p2)].toArray below meth c H locs 0 0 (MQ below (va_Qi (fun r u => r = xw_i r0 ∧ u = sZ) (xw_H D vwCl A kdR 29 ad cs Z tt) A) [.ref (ad 0), .int (xw_i p1), .int (xw_i p2)].toArray s 0 0 A) (F0 m 233 ls [])) h ?_ ?_
        · intro s82 i5_233 i6_233 h H locs ls hP hS hl
          unfold jb_MD_transform_233 at h
          refine lv_aload_n hx hb d_MD_transform_233 rfl (lv_at hl 0 rfl) ?_
          refine xw_getR (C := "AdviceWeaverModel") (T := T_MD) hx hb hts hin_MD hown hK hP (by decide) kr_MD (by decide) rfl 20 (by decide) (hts _ hw_451) (fun _ h9 => h9) rfl d_MD_transform_234 ?_
          refine lv_iload hx hb d_MD_transform_237 (lv_at hl 5 rfl) ?_
          obtain ⟨hg83, h⟩ := xw_grdI h
          refine xw_zald hx hb hK hP (by decide) kr_m_begins (by decide) hg83 d_MD_transform_239 ?_
          refine xw_jnI (fun j => ∀ (sq : xw_S) (i5_250 : Int) (i6_250 : Int), j sq i5_250 i6_250 = some (sZ, r0) → ∀ (H : Heap) (locs : List Loc) (ls : Array Slot), va_P D vwCl (xw_ws kdR 29 ad cs Z sq) H → va_S A s.heap H locs → lv_has ls 7 [(0, .ref (ad 0)), (1, .int (xw_i c1_156)), (2, .int (xw_i c2_156)), (4, .int (xw_i c4_156)), (5, .int (xw_i i5_250)), (6, .int (xw_i i6_250))] → W p l e (headSpec w_MD_transform ({ frames := 3, cells := 0, slots := 0, locals := 70 })).room s m [.ref (ad 0), .int (xw_i p1), .int (xw_i p2)].toArray below meth c H locs 0 0 (MQ below (va_Qi (fun r u => r = xw_i r0 ∧ u = sZ) (xw_H D vwCl A kdR 29 ad cs Z tt) A) [.ref (ad 0), .int (xw_i p1), .int (xw_i p2)].toArray s 0 0 A) (F0 m 250 ls [])) h ?_ ?_
          · intro s89 i5_250 i6_250 h H locs ls hP hS hl
            obtain ⟨v90, e91⟩ : ∃ z, z = i6_250 + 1 := ⟨_, rfl⟩
            replace h := xw_letI e91 h
            refine xw_iinc (lv' := [(6, .int (xw_i v90)), (0, .ref (ad 0)), (1, .int (xw_i c1_156)), (2, .int (xw_i c2_156)), (4, .int (xw_i c4_156)), (5, .int (xw_i i5_250))]) hx hb d_MD_transform_250 hl (k := 5) rfl (by decide) (by rw [e91]; rfl) (fun ls hl => ?_)
            refine lv_goto (tgt := 156) hx hb d_MD_transform_253 (by decide) ?_
            exact ih156 s89 i5_250 v90 h _ _ _ hP hS (lv_sub hl [1, 2, 3, 4, 5, 0] rfl)
          · intro j250 hj250 h
            obtain ⟨hg84, h⟩ := xw_grdI h
            refine xw_if_eq (tgt := 250) hx hb hg84 d_MD_transform_240 (by decide) (fun hc85 => ?_) (fun hc85 => ?_)
            · replace h := xw_ifT hc85 h
              exact hj250 s82 i5_233 i6_233 h _ _ _ hP hS (lv_sub hl [0, 1, 2, 3, 4, 5] rfl)
            · replace h := xw_ifF hc85 h
              refine lv_aload_n hx hb d_MD_transform_243 rfl (lv_at hl 0 rfl) ?_
              refine lv_iload_n hx hb d_MD_transform_244 rfl (lv_at hl 1 rfl) ?_
              refine lv_iload hx hb d_MD_transform_245 (lv_at hl 5 rfl) ?_
              obtain ⟨s86, hc87, h⟩ := xw_bndI h
              refine xw_callVv (C := "AdviceWeaverModel") (T := T_MD) ⟨hx, hb, hml, hown, hts⟩ (c_MD_emitOne l D A ad cs Z tt fu s82 s86 c1_156 i6_233 hc87) (cwV 2 hts (gd_V hw_546 hw_547 hw_548 hw_433 hw_549) rfl rfl rfl (by decide +kernel) ⟨Nat.le_of_ble_eq_true rfl, Nat.le_of_ble_eq_true rfl⟩) hP hK hD hX hS (by decide) kr_MD (by decide) rfl rfl hl.1 rfl (Nat.le_of_ble_eq_true rfl) d_MD_transform_247 (fun H locs hP hS => ?_)
              exact hj250 s86 i5_233 i6_233 h _ _ _ hP hS (lv_sub hl [0, 1, 2, 3, 4, 5] rfl)
        · intro j233 hj233 h
          obtain ⟨hg62, h⟩ := xw_grdI h
          refine xw_if_eq (tgt := 233) hx hb hg62 d_MD_transform_174 (by decide) (fun hc63 => ?_) (fun hc63 => ?_)
          · replace h := xw_ifT hc63 h
            exact hj233 s57 i5_156 i6_156 h _ _ _ hP hS (lv_sub hl [0, 1, 2, 3, 4, 5] rfl)
          · replace h := xw_ifF hc63 h
            refine lv_aload_n hx hb d_MD_transform_177 rfl (lv_at hl 0 rfl) ?_
            refine xw_getR (C := "AdviceWeaverModel") (T := T_MD) hx hb hts hin_MD hown hK hP (by decide) kr_MD (by decide) rfl 25 (by decide) (hts _ hw_528) (fun _ h9 => h9) rfl d_MD_transform_178 ?_
            refine lv_iload hx hb d_MD_transform_181 (lv_at hl 5 rfl) ?_
            refine xw_zald hx hb hK hP (by decide) kr_m_before (by decide) hg61 d_MD_transform_183 ?_
            obtain ⟨hg64, h⟩ := xw_grdI h
            refine xw_if_eq (tgt := 233) hx hb hg64 d_MD_transform_184 (by decide) (fun hc65 => ?_) (fun hc65 => ?_)
            · replace h := xw_ifT hc65 h
              exact hj233 s57 i5_156 i6_156 h _ _ _ hP hS (lv_sub hl [0, 1, 2, 3, 4, 5] rfl)
            · replace h := xw_ifF hc65 h
              refine lv_aload_n hx hb d_MD_transform_187 rfl (lv_at hl 0 rfl) ?_
              refine lv_aload_n hx hb d_MD_transform_188 rfl (lv_at hl 0 rfl) ?_
              refine xw_getR (C := "AdviceWeaverModel") (T := T_MD) hx hb hts hin_MD hown hK hP (by decide) kr_MD (by decide) rfl 16 (by decide) (hts _ hw_525) (fun _ h9 => h9) rfl d_MD_transform_189 ?_
              refine lv_iload_n hx hb d_MD_transform_192 rfl (lv_at hl 2 rfl) ?_
              obtain ⟨hg66, h⟩ := xw_grdI h
              refine xw_zald hx hb hK hP (by decide) kr_m_cover (by decide) hg66 d_MD_transform_193 ?_
              refine xw_jnI (fun j => ∀ (sq : xw_S) (i5_204 : Int) (i6_204 : Int) (t0_204 : Int), j sq i5_204 i6_204 t0_204 = some (sZ, r0) → ∀ (H : Heap) (locs : List Loc) (ls : Array Slot), va_P D vwCl (xw_ws kdR 29 ad cs Z sq) H → va_S A s.heap H locs → lv_has ls 7 [(0, .ref (ad 0)), (1, .int (xw_i c1_156)), (2, .int (xw_i c2_156)), (4, .int (xw_i c4_156)), (5, .int (xw_i i5_204)), (6, .int (xw_i i6_204))] → W p l e (headSpec w_MD_transform ({ frames := 3, cells := 0, slots := 0, locals := 70 })).room s m [.ref (ad 0), .int (xw_i p1), .int (xw_i p2)].toArray below meth c H locs 0 0 (MQ below (va_Qi (fun r u => r = xw_i r0 ∧ u = sZ) (xw_H D vwCl A kdR 29 ad cs Z tt) A) [.ref (ad 0), .int (xw_i p1), .int (xw_i p2)].toArray s 0 0 A) (F0 m 204 ls [.int (xw_i t0_204), .ref (ad 0)])) h ?_ ?_
              · intro s69 i5_204 i6_204 t0_204 h H locs ls hP hS hl
                unfold jb_MD_transform_204 at h
                obtain ⟨s70, hc71, h⟩ := xw_bndI h
                refine xw_callVv (C := "AdviceWeaverModel") (T := T_MD) ⟨hx, hb, hml, hown, hts⟩ (c_MD_emit l D A ad cs Z tt fu s69 s70 t0_204 hc71) (cwV 1 hts (gd_V hw_534 hw_535 hw_536 hw_433 hw_537) rfl rfl rfl (by decide +kernel) ⟨Nat.le_of_ble_eq_true rfl, Nat.le_of_ble_eq_true rfl⟩) hP hK hD hX hS (by decide) kr_MD (by decide) rfl rfl hl.1 rfl (Nat.le_of_ble_eq_true rfl) d_MD_transform_204 (fun H locs hP hS => ?_)
                refine lv_aload_n hx hb d_MD_transform_207 rfl (lv_at hl 0 rfl) ?_
                refine lv_aload_n hx hb d_MD_transform_208 rfl (lv_at hl 0 rfl) ?_
                refine xw_getR (C := "AdviceWeaverModel") (T := T_MD) hx hb hts hin_MD hown hK hP (by decide) kr_MD (by decide) rfl 16 (by decide) (hts _ hw_525) (fun _ h9 => h9) rfl d_MD_transform_209 ?_
                refine lv_iload_n hx hb d_MD_transform_212 rfl (lv_at hl 2 rfl) ?_
                obtain ⟨hg73, h⟩ := xw_grdI h
                refine xw_zald hx hb hK hP (by decide) kr_m_cover (by decide) hg73 d_MD_transform_213 ?_
                refine xw_jnI (fun j => ∀ (sq : xw_S) (i5_227 : Int) (i6_227 : Int) (t0_227 : Int), j sq i5_227 i6_227 t0_227 = some (sZ, r0) → ∀ (H : Heap) (locs : List Loc) (ls : Array Slot), va_P D vwCl (xw_ws kdR 29 ad cs Z sq) H → va_S A s.heap H locs → lv_has ls 7 [(0, .ref (ad 0)), (1, .int (xw_i c1_156)), (2, .int (xw_i c2_156)), (4, .int (xw_i c4_156)), (5, .int (xw_i i5_227)), (6, .int (xw_i i6_227))] → W p l e (headSpec w_MD_transform ({ frames := 3, cells := 0, slots := 0, locals := 70 })).room s m [.ref (ad 0), .int (xw_i p1), .int (xw_i p2)].toArray below meth c H locs 0 0 (MQ below (va_Qi (fun r u => r = xw_i r0 ∧ u = sZ) (xw_H D vwCl A kdR 29 ad cs Z tt) A) [.ref (ad 0), .int (xw_i p1), .int (xw_i p2)].toArray s 0 0 A) (F0 m 227 ls [.int (xw_i t0_227), .ref (ad 0)])) h ?_ ?_
                · intro s76 i5_227 i6_227 t0_227 h H locs ls hP hS hl
                  obtain ⟨s77, hc78, h⟩ := xw_bndI h
                  refine xw_callVv (C := "AdviceWeaverModel") (T := T_MD) ⟨hx, hb, hml, hown, hts⟩ (c_MD_emit l D A ad cs Z tt fu s76 s77 t0_227 hc78) (cwV 1 hts (gd_V hw_534 hw_535 hw_536 hw_433 hw_537) rfl rfl rfl (by decide +kernel) ⟨Nat.le_of_ble_eq_true rfl, Nat.le_of_ble_eq_true rfl⟩) hP hK hD hX hS (by decide) kr_MD (by decide) rfl rfl hl.1 rfl (Nat.le_of_ble_eq_true rfl) d_MD_transform_227 (fun H locs hP hS => ?_)
                  obtain ⟨v80, e81⟩ : ∃ z, z = i5_227 + 1 := ⟨_, rfl⟩
                  replace h := xw_letI e81 h
                  refine xw_iinc (lv' := [(5, .int (xw_i v80)), (0, .ref (ad 0)), (1, .int (xw_i c1_156)), (2, .int (xw_i c2_156)), (4, .int (xw_i c4_156)), (6, .int (xw_i i6_227))]) hx hb d_MD_transform_230 hl (k := 4) rfl (by decide) (by rw [e81]; rfl) (fun ls hl => ?_)
                  exact hj233 s77 v80 i6_227 h _ _ _ hP hS (lv_sub hl [1, 2, 3, 4, 0, 5] rfl)
                · intro j227 hj227 h
                  obtain ⟨hg74, h⟩ := xw_grdI h
                  refine xw_if_eq (tgt := 222) hx hb hg74 d_MD_transform_214 (by decide) (fun hc75 => ?_) (fun hc75 => ?_)
                  · replace h := xw_ifT hc75 h
                    refine lv_iconst (v := xw_i 3) hx hb d_MD_transform_222 rfl ?_
                    refine lv_iload_n hx hb d_MD_transform_223 rfl (lv_at hl 2 rfl) ?_
                    refine xw_imul hx hb d_MD_transform_224 ?_
                    refine lv_iconst (v := xw_i 1) hx hb d_MD_transform_225 rfl ?_
                    refine xw_iadd hx hb d_MD_transform_226 ?_
                    exact hj227 s70 i5_204 i6_204 ((3 * c2_156) + 1) h _ _ _ hP hS (lv_sub hl [0, 1, 2, 3, 4, 5] rfl)
                  · replace h := xw_ifF hc75 h
                    refine lv_iload hx hb d_MD_transform_217 (lv_at hl 4 rfl) ?_
                    refine lv_goto (tgt := 227) hx hb d_MD_transform_219 (by decide) ?_
                    exact hj227 s70 i5_204 i6_204 i5_204 h _ _ _ hP hS (lv_sub hl [0, 1, 2, 3, 4, 5] rfl)
              · intro j204 hj204 h
                obtain ⟨hg67, h⟩ := xw_grdI h
                refine xw_if_eq (tgt := 202) hx hb hg67 d_MD_transform_194 (by decide) (fun hc68 => ?_) (fun hc68 => ?_)
                · replace h := xw_ifT hc68 h
                  refine lv_bipush (v := xw_i 30) hx hb d_MD_transform_202 (by decide) ?_
                  exact hj204 s57 i5_156 i6_156 30 h _ _ _ hP hS (lv_sub hl [0, 1, 2, 3, 4, 5] rfl)
                · replace h := xw_ifF hc68 h
                  refine lv_bipush (v := xw_i 31) hx hb d_MD_transform_197 (by decide) ?_
                  refine lv_goto (tgt := 204) hx hb d_MD_transform_199 (by decide) ?_
                  exact hj204 s57 i5_156 i6_156 31 h _ _ _ hP hS (lv_sub hl [0, 1, 2, 3, 4, 5] rfl)
  have hlp259 : ∀ (c1_259 : Int) (c2_259 : Int) (c4_259 : Int) (k330 : xw_S → Int → Option (xw_S × Int)) (hk330 : ∀ (sq : xw_S) (i4_330 : Int), k330 sq i4_330 = some (sZ, r0) → ∀ (H : Heap) (locs : List Loc) (ls : Array Slot), va_P D vwCl (xw_ws kdR 29 ad cs Z sq) H → va_S A s.heap H locs → lv_has ls 7 [(0, .ref (ad 0)), (1, .int (xw_i c1_259)), (2, .int (xw_i c2_259)), (4, .int (xw_i i4_330))] → W p l e (headSpec w_MD_transform ({ frames := 3, cells := 0, slots := 0, locals := 70 })).room s m [.ref (ad 0), .int (xw_i p1), .int (xw_i p2)].toArray below meth c H locs 0 0 (MQ below (va_Qi (fun r u => r = xw_i r0 ∧ u = sZ) (xw_H D vwCl A kdR 29 ad cs Z tt) A) [.ref (ad 0), .int (xw_i p1), .int (xw_i p2)].toArray s 0 0 A) (F0 m 330 ls [])) (n : Nat), ∀ (sq : xw_S) (i6_259 : Int), lp_MD_transform_259 fu c1_259 c2_259 c4_259 k330 n sq i6_259 = some (sZ, r0) → ∀ (H : Heap) (locs : List Loc) (ls : Array Slot), va_P D vwCl (xw_ws kdR 29 ad cs Z sq) H → va_S A s.heap H locs → lv_has ls 7 [(0, .ref (ad 0)), (1, .int (xw_i c1_259)), (2, .int (xw_i c2_259)), (4, .int (xw_i c4_259)), (6, .int (xw_i i6_259))] → W p l e (headSpec w_MD_transform ({ frames := 3, cells := 0, slots := 0, locals := 70 })).room s m [.ref (ad 0), .int (xw_i p1), .int (xw_i p2)].toArray below meth c H locs 0 0 (MQ below (va_Qi (fun r u => r = xw_i r0 ∧ u = sZ) (xw_H D vwCl A kdR 29 ad cs Z tt) A) [.ref (ad 0), .int (xw_i p1), .int (xw_i p2)].toArray s 0 0 A) (F0 m 259 ls []) := by
    intro c1_259 c2_259 c4_259 k330 hk330 n
    induction n with
    | zero =>
      intro sq i6_259 h
      cases (show (none : Option (xw_S × Int)) = some (sZ, r0) from h)
    | succ n ih259 =>
      intro s93 i6_259 h H locs ls hP hS hl
      unfold lp_MD_transform_259 at h
      refine lv_iload hx hb d_MD_transform_259 (lv_at hl 4 rfl) ?_
      refine lv_iconst (v := xw_i 4) hx hb d_MD_transform_261 rfl ?_
      refine lv_aload_n hx hb d_MD_transform_262 rfl (lv_at hl 0 rfl) ?_
      refine xw_getR (C := "AdviceWeaverModel") (T := T_MD) hx hb hts hin_MD hown hK hP (by decide) kr_MD (by decide) rfl 8 (by decide) (hts _ hw_449) (fun _ h9 => h9) rfl d_MD_transform_263 ?_
      refine lv_iload_n hx hb d_MD_transform_266 rfl (lv_at hl 1 rfl) ?_
      obtain ⟨hg94, h⟩ := xw_grdI h
      refine xw_iald hx hb hK hP (by decide) kr_m_handlers (by decide) hg94 d_MD_transform_267 ?_
      refine xw_imul hx hb d_MD_transform_268 ?_
      obtain ⟨hg95, h⟩ := xw_grdI h
      refine xw_icmp_ge (tgt := 330) hx hb hg95.1 hg95.2 d_MD_transform_269 (by decide) (fun hc96 => ?_) (fun hc96 => ?_)
      · replace h := xw_ifT hc96 h
        exact hk330 s93 c4_259 h _ _ _ hP hS (lv_sub hl [0, 1, 2, 3] rfl)
      · replace h := xw_ifF hc96 h
        refine lv_aload_n hx hb d_MD_transform_272 rfl (lv_at hl 0 rfl) ?_
        refine xw_getR (C := "AdviceWeaverModel") (T := T_MD) hx hb hts hin_MD hown hK hP (by decide) kr_MD (by decide) rfl 9 (by decide) (hts _ hw_450) (fun _ h9 => h9) rfl d_MD_transform_273 ?_
        refine lv_bipush (v := xw_i 20) hx hb d_MD_transform_276 (by decide) ?_
        refine lv_iload_n hx hb d_MD_transform_278 rfl (lv_at hl 1 rfl) ?_
        refine xw_imul hx hb d_MD_transform_279 ?_
        refine lv_iload hx hb d_MD_transform_280 (lv_at hl 4 rfl) ?_
        refine xw_iadd hx hb d_MD_transform_282 ?_
        refine lv_iload hx hb d_MD_transform_283 (lv_at hl 4 rfl) ?_
        refine lv_iconst (v := xw_i 4) hx hb d_MD_transform_285 rfl ?_
        refine xw_irem hx hb (by decide) (by decide) d_MD_transform_286 ?_
        refine lv_iconst (v := xw_i 3) hx hb d_MD_transform_287 rfl ?_
        refine xw_jnI (fun j => ∀ (sq : xw_S) (i6_323 : Int) (t0_323 : Int) (t1_323 : Int), j sq i6_323 t0_323 t1_323 = some (sZ, r0) → ∀ (H : Heap) (locs : List Loc) (ls : Array Slot), va_P D vwCl (xw_ws kdR 29 ad cs Z sq) H → va_S A s.heap H locs → lv_has ls 7 [(0, .ref (ad 0)), (1, .int (xw_i c1_259)), (2, .int (xw_i c2_259)), (4, .int (xw_i c4_259)), (6, .int (xw_i i6_323))] → W p l e (headSpec w_MD_transform ({ frames := 3, cells := 0, slots := 0, locals := 70 })).room s m [.ref (ad 0), .int (xw_i p1), .int (xw_i p2)].toArray below meth c H locs 0 0 (MQ below (va_Qi (fun r u => r = xw_i r0 ∧ u = sZ) (xw_H D vwCl A kdR 29 ad cs Z tt) A) [.ref (ad 0), .int (xw_i p1), .int (xw_i p2)].toArray s 0 0 A) (F0 m 323 ls [.int (xw_i t0_323), .int (xw_i t1_323), .ref (ad 9)])) h ?_ ?_
        · intro s102 i6_323 t0_323 t1_323 h H locs ls hP hS hl
          obtain ⟨hg103, h⟩ := xw_grdI h
          refine xw_iast hx hb hK hP hD hS (by decide) kr_m_handler (by decide) hg103 d_MD_transform_323 (fun s104 e105 H locs hP hS => ?_)
          replace h := xw_letI e105 h
          obtain ⟨v106, e107⟩ : ∃ z, z = i6_323 + 1 := ⟨_, rfl⟩
          replace h := xw_letI e107 h
          refine xw_iinc (lv' := [(6, .int (xw_i v106)), (0, .ref (ad 0)), (1, .int (xw_i c1_259)), (2, .int (xw_i c2_259)), (4, .int (xw_i c4_259))]) hx hb d_MD_transform_324 hl (k := 4) rfl (by decide) (by rw [e107]; rfl) (fun ls hl => ?_)
          refine lv_goto (tgt := 259) hx hb d_MD_transform_327 (by decide) ?_
          exact ih259 s104 v106 h _ _ _ hP hS (lv_sub hl [1, 2, 3, 4, 0] rfl)
        · intro j323 hj323 h
          obtain ⟨hg97, h⟩ := xw_grdI h
          refine xw_icmp_ne (tgt := 306) hx hb hg97 (by decide) d_MD_transform_288 (by decide) (fun hc98 => ?_) (fun hc98 => ?_)
          · replace h := xw_ifF hc98 h
            refine lv_aload_n hx hb d_MD_transform_306 rfl (lv_at hl 0 rfl) ?_
            refine xw_getR (C := "AdviceWeaverModel") (T := T_MD) hx hb hts hin_MD hown hK hP (by decide) kr_MD (by decide) rfl 27 (by decide) (hts _ hw_529) (fun _ h9 => h9) rfl d_MD_transform_307 ?_
            refine lv_aload_n hx hb d_MD_transform_310 rfl (lv_at hl 0 rfl) ?_
            refine xw_getR (C := "AdviceWeaverModel") (T := T_MD) hx hb hts hin_MD hown hK hP (by decide) kr_MD (by decide) rfl 9 (by decide) (hts _ hw_450) (fun _ h9 => h9) rfl d_MD_transform_311 ?_
            refine lv_bipush (v := xw_i 20) hx hb d_MD_transform_314 (by decide) ?_
            refine lv_iload_n hx hb d_MD_transform_316 rfl (lv_at hl 1 rfl) ?_
            refine xw_imul hx hb d_MD_transform_317 ?_
            refine lv_iload hx hb d_MD_transform_318 (lv_at hl 4 rfl) ?_
            refine xw_iadd hx hb d_MD_transform_320 ?_
            obtain ⟨hg99, h⟩ := xw_grdI h
            refine xw_iald hx hb hK hP (by decide) kr_m_handler (by decide) hg99 d_MD_transform_321 ?_
            obtain ⟨hg100, h⟩ := xw_grdI h
            refine xw_iald hx hb hK hP (by decide) kr_m_lead (by decide) hg100 d_MD_transform_322 ?_
            exact hj323 s93 i6_259 (s93.1 19 (s93.1 9 ((20 * c1_259) + i6_259).toNat).toNat) ((20 * c1_259) + i6_259) h _ _ _ hP hS (lv_sub hl [0, 1, 2, 3, 4] rfl)
          · replace h := xw_ifT hc98 h
            refine lv_aload_n hx hb d_MD_transform_291 rfl (lv_at hl 0 rfl) ?_
            refine xw_getR (C := "AdviceWeaverModel") (T := T_MD) hx hb hts hin_MD hown hK hP (by decide) kr_MD (by decide) rfl 9 (by decide) (hts _ hw_450) (fun _ h9 => h9) rfl d_MD_transform_292 ?_
            refine lv_bipush (v := xw_i 20) hx hb d_MD_transform_295 (by decide) ?_
            refine lv_iload_n hx hb d_MD_transform_297 rfl (lv_at hl 1 rfl) ?_
            refine xw_imul hx hb d_MD_transform_298 ?_
            refine lv_iload hx hb d_MD_transform_299 (lv_at hl 4 rfl) ?_
            refine xw_iadd hx hb d_MD_transform_301 ?_
            obtain ⟨hg101, h⟩ := xw_grdI h
            refine xw_iald hx hb hK hP (by decide) kr_m_handler (by decide) hg101 d_MD_transform_302 ?_
            refine lv_goto (tgt := 323) hx hb d_MD_transform_303 (by decide) ?_
            exact hj323 s93 i6_259 (s93.1 9 ((20 * c1_259) + i6_259).toNat) ((20 * c1_259) + i6_259) h _ _ _ hP hS (lv_sub hl [0, 1, 2, 3, 4] rfl)
  have hlp428 : ∀ (c1_428 : Int) (k462 : xw_S → Option (xw_S × Int)) (hk462 : ∀ (sq : xw_S), k462 sq = some (sZ, r0) → ∀ (H : Heap) (locs : List Loc) (ls : Array Slot), va_P D vwCl (xw_ws kdR 29 ad cs Z sq) H → va_S A s.heap H locs → lv_has ls 7 [(0, .ref (ad 0)), (1, .int (xw_i c1_428))] → W p l e (headSpec w_MD_transform ({ frames := 3, cells := 0, slots := 0, locals := 70 })).room s m [.ref (ad 0), .int (xw_i p1), .int (xw_i p2)].toArray below meth c H locs 0 0 (MQ below (va_Qi (fun r u => r = xw_i r0 ∧ u = sZ) (xw_H D vwCl A kdR 29 ad cs Z tt) A) [.ref (ad 0), .int (xw_i p1), .int (xw_i p2)].toArray s 0 0 A) (F0 m 462 ls [])) (n : Nat), ∀ (sq : xw_S) (i6_428 : Int), lp_MD_transform_428 fu c1_428 k462 n sq i6_428 = some (sZ, r0) → ∀ (H : Heap) (locs : List Loc) (ls : Array Slot), va_P D vwCl (xw_ws kdR 29 ad cs Z sq) H → va_S A s.heap H locs → lv_has ls 7 [(0, .ref (ad 0)), (1, .int (xw_i c1_428)), (6, .int (xw_i i6_428))] → W p l e (headSpec w_MD_transform ({ frames := 3, cells := 0, slots := 0, locals := 70 })).room s m [.ref (ad 0), .int (xw_i p1), .int (xw_i p2)].toArray below meth c H locs 0 0 (MQ below (va_Qi (fun r u => r = xw_i r0 ∧ u = sZ) (xw_H D vwCl A kdR 29 ad cs Z tt) A) [.ref (ad 0), .int (xw_i p1), .int (xw_i p2)].toArray s 0 0 A) (F0 m 428 ls []) := by
    intro c1_428 k462 hk462 n
    induction n with
    | zero =>
      intro sq i6_428 h
      cases (show (none : Option (xw_S × Int)) = some (sZ, r0) from h)
    | succ n ih428 =>
      intro s139 i6_428 h H locs ls hP hS hl
      unfold lp_MD_transform_428 at h
      refine lv_iload hx hb d_MD_transform_428 (lv_at hl 2 rfl) ?_
      refine lv_aload_n hx hb d_MD_transform_430 rfl (lv_at hl 0 rfl) ?_
      refine xw_getI (C := "AdviceWeaverModel") (T := T_MD) hx hb hts hin_MD hown hK hP (by decide) kr_MD (by decide) rfl 29 (by decide) (hts _ hw_533) (fun _ h9 => h9) rfl d_MD_transform_431 ?_
      obtain ⟨hg140, h⟩ := xw_grdI h
      refine xw_icmp_ge (tgt := 462) hx hb hg140.1 hg140.2 d_MD_transform_434 (by decide) (fun hc141 => ?_) (fun hc141 => ?_)
      · replace h := xw_ifT hc141 h
        exact hk462 s139 h _ _ _ hP hS (lv_sub hl [0, 1] rfl)
      · replace h := xw_ifF hc141 h
        refine lv_aload_n hx hb d_MD_transform_437 rfl (lv_at hl 0 rfl) ?_
        refine xw_getR (C := "AdviceWeaverModel") (T := T_MD) hx hb hts hin_MD hown hK hP (by decide) kr_MD (by decide) rfl 7 (by decide) (hts _ hw_448) (fun _ h9 => h9) rfl d_MD_transform_438 ?_
        refine lv_bipush (v := xw_i 120) hx hb d_MD_transform_441 (by decide) ?_
        refine lv_iload_n hx hb d_MD_transform_443 rfl (lv_at hl 1 rfl) ?_
        refine xw_imul hx hb d_MD_transform_444 ?_
        refine lv_iload hx hb d_MD_transform_445 (lv_at hl 2 rfl) ?_
        refine xw_iadd hx hb d_MD_transform_447 ?_
        refine lv_aload_n hx hb d_MD_transform_448 rfl (lv_at hl 0 rfl) ?_
        refine xw_getR (C := "AdviceWeaverModel") (T := T_MD) hx hb hts hin_MD hown hK hP (by decide) kr_MD (by decide) rfl 30 (by decide) (hts _ hw_532) (fun _ h9 => h9) rfl d_MD_transform_449 ?_
        refine lv_iload hx hb d_MD_transform_452 (lv_at hl 2 rfl) ?_
        obtain ⟨hg142, h⟩ := xw_grdI h
        refine xw_iald hx hb hK hP (by decide) kr_m_fresh (by decide) hg142 d_MD_transform_454 ?_
        obtain ⟨hg143, h⟩ := xw_grdI h
        refine xw_iast hx hb hK hP hD hS (by decide) kr_m_code (by decide) hg143 d_MD_transform_455 (fun s144 e145 H locs hP hS => ?_)
        replace h := xw_letI e145 h
        obtain ⟨v146, e147⟩ : ∃ z, z = i6_428 + 1 := ⟨_, rfl⟩
        replace h := xw_letI e147 h
        refine xw_iinc (lv' := [(6, .int (xw_i v146)), (0, .ref (ad 0)), (1, .int (xw_i c1_428))]) hx hb d_MD_transform_456 hl (k := 2) rfl (by decide) (by rw [e147]; rfl) (fun ls hl => ?_)
        refine lv_goto (tgt := 428) hx hb d_MD_transform_459 (by decide) ?_
        exact ih428 s144 v146 h _ _ _ hP hS (lv_sub hl [1, 2, 0] rfl)
  unfold f_MD_transform at h
  refine lv_aload_n hx hb d_MD_transform_0 rfl (lv_at hl 0 rfl) ?_
  refine lv_iload_n hx hb d_MD_transform_1 rfl (lv_at hl 1 rfl) ?_
  obtain ⟨s1, r3, hc2, h⟩ := xw_bn2I h
  refine xw_callVi (C := "AdviceWeaverModel") (T := T_MD) ⟨hx, hb, hml, hown, hts⟩ (c_MD_divide l D A ad cs Z tt fu s0 s1 p1 r3 hc2) (cwV 1 hts (gd_V hw_463 hw_464 hw_465 hw_433 hw_466) rfl rfl rfl (by decide +kernel) ⟨Nat.le_of_ble_eq_true rfl, Nat.le_of_ble_eq_true rfl⟩) hP hK hD hX hS (by decide) kr_MD (by decide) rfl rfl hl.1 rfl (Nat.le_of_ble_eq_true rfl) d_MD_transform_2 (fun H locs hP hS => ?_)
  refine lv_pop hx hb d_MD_transform_5 rfl ?_
  refine lv_aload_n hx hb d_MD_transform_6 rfl (lv_at hl 0 rfl) ?_
  refine lv_iload_n hx hb d_MD_transform_7 rfl (lv_at hl 1 rfl) ?_
  refine lv_aload_n hx hb d_MD_transform_8 rfl (lv_at hl 0 rfl) ?_
  refine xw_getR (C := "AdviceWeaverModel") (T := T_MD) hx hb hts hin_MD hown hK hP (by decide) kr_MD (by decide) rfl 16 (by decide) (hts _ hw_525) (fun _ h9 => h9) rfl d_MD_transform_9 ?_
  refine lv_iload_n hx hb d_MD_transform_12 rfl (lv_at hl 2 rfl) ?_
  obtain ⟨hg4, h⟩ := xw_grdI h
  refine xw_zald hx hb hK hP (by decide) kr_m_cover (by decide) hg4 d_MD_transform_13 ?_
  obtain ⟨s5, hc6, h⟩ := xw_bndI h
  refine xw_callVv (C := "AdviceWeaverModel") (T := T_MD) ⟨hx, hb, hml, hown, hts⟩ (c_MD_choose l D A ad cs Z tt fu s1 s5 p1 (s1.1 10 (p2).toNat) hc6) (cwV 2 hts (gd_V hw_538 hw_539 hw_540 hw_433 hw_541) rfl rfl rfl (by decide +kernel) ⟨Nat.le_of_ble_eq_true rfl, Nat.le_of_ble_eq_true rfl⟩) hP hK hD hX hS (by decide) kr_MD (by decide) rfl rfl hl.1 rfl (Nat.le_of_ble_eq_true rfl) d_MD_transform_14 (fun H locs hP hS => ?_)
  refine lv_iconst (v := xw_i 0) hx hb d_MD_transform_17 rfl ?_
  refine lv_istore_n hx hb d_MD_transform_18 rfl hl (by decide) rfl (fun ls hl => ?_)
  refine xw_jnI (fun j => ∀ (sq : xw_S), j sq = some (sZ, r0) → ∀ (H : Heap) (locs : List Loc) (ls : Array Slot), va_P D vwCl (xw_ws kdR 29 ad cs Z sq) H → va_S A s.heap H locs → lv_has ls 7 [(0, .ref (ad 0)), (1, .int (xw_i p1)), (2, .int (xw_i p2))] → W p l e (headSpec w_MD_transform ({ frames := 3, cells := 0, slots := 0, locals := 70 })).room s m [.ref (ad 0), .int (xw_i p1), .int (xw_i p2)].toArray below meth c H locs 0 0 (MQ below (va_Qi (fun r u => r = xw_i r0 ∧ u = sZ) (xw_H D vwCl A kdR 29 ad cs Z tt) A) [.ref (ad 0), .int (xw_i p1), .int (xw_i p2)].toArray s 0 0 A) (F0 m 38 ls [])) h ?_ ?_
  · intro s16 h H locs ls hP hS hl
    refine lv_iconst (v := xw_i 1) hx hb d_MD_transform_38 rfl ?_
    refine lv_istore_n hx hb d_MD_transform_39 rfl hl (by decide) rfl (fun ls hl => ?_)
    refine xw_jnI (fun j => ∀ (sq : xw_S), j sq = some (sZ, r0) → ∀ (H : Heap) (locs : List Loc) (ls : Array Slot), va_P D vwCl (xw_ws kdR 29 ad cs Z sq) H → va_S A s.heap H locs → lv_has ls 7 [(0, .ref (ad 0)), (1, .int (xw_i p1)), (2, .int (xw_i p2))] → W p l e (headSpec w_MD_transform ({ frames := 3, cells := 0, slots := 0, locals := 70 })).room s m [.ref (ad 0), .int (xw_i p1), .int (xw_i p2)].toArray below meth c H locs 0 0 (MQ below (va_Qi (fun r u => r = xw_i r0 ∧ u = sZ) (xw_H D vwCl A kdR 29 ad cs Z tt) A) [.ref (ad 0), .int (xw_i p1), .int (xw_i p2)].toArray s 0 0 A) (F0 m 67 ls [])) h ?_ ?_
    · intro s27 h H locs ls hP hS hl
      unfold jb_MD_transform_67 at h
      refine lv_aload_n hx hb d_MD_transform_67 rfl (lv_at hl 0 rfl) ?_
      refine xw_getR (C := "AdviceWeaverModel") (T := T_MD) hx hb hts hin_MD hown hK hP (by decide) kr_MD (by decide) rfl 27 (by decide) (hts _ hw_529) (fun _ h9 => h9) rfl d_MD_transform_68 ?_
      refine lv_aload_n hx hb d_MD_transform_71 rfl (lv_at hl 0 rfl) ?_
      refine xw_getR (C := "AdviceWeaverModel") (T := T_MD) hx hb hts hin_MD hown hK hP (by decide) kr_MD (by decide) rfl 6 (by decide) (hts _ hw_447) (fun _ h9 => h9) rfl d_MD_transform_72 ?_
      refine lv_iload_n hx hb d_MD_transform_75 rfl (lv_at hl 1 rfl) ?_
      obtain ⟨hg28, h⟩ := xw_grdI h
      refine xw_iald hx hb hK hP (by decide) kr_m_length (by decide) hg28 d_MD_transform_76 ?_
      obtain ⟨hg29, h⟩ := xw_grdI h
      refine xw_iald hx hb hK hP (by decide) kr_m_lead (by decide) hg29 d_MD_transform_77 ?_
      refine xw_topi (fun v30 e31 => ?_)
      replace h := xw_letI e31 h
      refine lv_istore hx hb d_MD_transform_78 hl (by decide) rfl (fun ls hl => ?_)
      refine lv_iload hx hb d_MD_transform_80 (lv_at hl 0 rfl) ?_
      refine lv_aload_n hx hb d_MD_transform_82 rfl (lv_at hl 1 rfl) ?_
      refine xw_getR (C := "AdviceWeaverModel") (T := T_MD) hx hb hts hin_MD hown hK hP (by decide) kr_MD (by decide) rfl 16 (by decide) (hts _ hw_525) (fun _ h9 => h9) rfl d_MD_transform_83 ?_
      refine lv_iload_n hx hb d_MD_transform_86 rfl (lv_at hl 3 rfl) ?_
      obtain ⟨hg32, h⟩ := xw_grdI h
      refine xw_zald hx hb hK hP (by decide) kr_m_cover (by decide) hg32 d_MD_transform_87 ?_
      refine xw_jnI (fun j => ∀ (sq : xw_S) (i4_96 : Int) (t0_96 : Int) (t1_96 : Int), j sq i4_96 t0_96 t1_96 = some (sZ, r0) → ∀ (H : Heap) (locs : List Loc) (ls : Array Slot), va_P D vwCl (xw_ws kdR 29 ad cs Z sq) H → va_S A s.heap H locs → lv_has ls 7 [(0, .ref (ad 0)), (1, .int (xw_i p1)), (2, .int (xw_i p2)), (4, .int (xw_i i4_96))] → W p l e (headSpec w_MD_transform ({ frames := 3, cells := 0, slots := 0, locals := 70 })).room s m [.ref (ad 0), .int (xw_i p1), .int (xw_i p2)].toArray below meth c H locs 0 0 (MQ below (va_Qi (fun r u => r = xw_i r0 ∧ u = sZ) (xw_H D vwCl A kdR 29 ad cs Z tt) A) [.ref (ad 0), .int (xw_i p1), .int (xw_i p2)].toArray s 0 0 A) (F0 m 96 ls [.int (xw_i t0_96), .int (xw_i t1_96)])) h ?_ ?_
      · intro s35 i4_96 t0_96 t1_96 h H locs ls hP hS hl
        unfold jb_MD_transform_96 at h
        refine xw_iadd hx hb d_MD_transform_96 ?_
        refine lv_bipush (v := xw_i 120) hx hb d_MD_transform_97 (by decide) ?_
        obtain ⟨hg36, h⟩ := xw_grdI h
        refine xw_icmp_gt (tgt := 121) hx hb hg36 (by decide) d_MD_transform_99 (by decide) (fun hc37 => ?_) (fun hc37 => ?_)
        · replace h := xw_ifT hc37 h
          refine lv_iconst (v := xw_i 0) hx hb d_MD_transform_121 rfl ?_
          exact xw_zretE hx hb hr hlk hP hK hD hX hS h (by decide) d_MD_transform_122
        · replace h := xw_ifF hc37 h
          refine lv_aload_n hx hb d_MD_transform_102 rfl (lv_at hl 0 rfl) ?_
          refine xw_getR (C := "AdviceWeaverModel") (T := T_MD) hx hb hts hin_MD hown hK hP (by decide) kr_MD (by decide) rfl 16 (by decide) (hts _ hw_525) (fun _ h9 => h9) rfl d_MD_transform_103 ?_
          refine lv_iload_n hx hb d_MD_transform_106 rfl (lv_at hl 2 rfl) ?_
          obtain ⟨hg38, h⟩ := xw_grdI h
          refine xw_zald hx hb hK hP (by decide) kr_m_cover (by decide) hg38 d_MD_transform_107 ?_
          refine xw_jnI (fun j => ∀ (sq : xw_S) (i4_123 : Int), j sq i4_123 = some (sZ, r0) → ∀ (H : Heap) (locs : List Loc) (ls : Array Slot), va_P D vwCl (xw_ws kdR 29 ad cs Z sq) H → va_S A s.heap H locs → lv_has ls 7 [(0, .ref (ad 0)), (1, .int (xw_i p1)), (2, .int (xw_i p2)), (4, .int (xw_i i4_123))] → W p l e (headSpec w_MD_transform ({ frames := 3, cells := 0, slots := 0, locals := 70 })).room s m [.ref (ad 0), .int (xw_i p1), .int (xw_i p2)].toArray below meth c H locs 0 0 (MQ below (va_Qi (fun r u => r = xw_i r0 ∧ u = sZ) (xw_H D vwCl A kdR 29 ad cs Z tt) A) [.ref (ad 0), .int (xw_i p1), .int (xw_i p2)].toArray s 0 0 A) (F0 m 123 ls [])) h ?_ ?_
          · intro s44 i4_123 h H locs ls hP hS hl
            unfold jb_MD_transform_123 at h
            refine lv_aload_n hx hb d_MD_transform_123 rfl (lv_at hl 0 rfl) ?_
            refine lv_iconst (v := xw_i 0) hx hb d_MD_transform_124 rfl ?_
            refine xw_putI (C := "AdviceWeaverModel") (T := T_MD) hx hb hts hin_MD ty_MD ty_MD_ok nm_MD hown hK hP hD hS (by decide) kr_MD (by decide) rfl 29 (by decide) (hts _ hw_533) (fun _ h9 => h9) rfl (by decide +kernel) rfl d_MD_transform_125 (fun s45 e46 H locs hP hS => ?_)
            replace h := xw_letI e46 h
            refine lv_iconst (v := xw_i 0) hx hb d_MD_transform_128 rfl ?_
            refine lv_istore hx hb d_MD_transform_129 hl (by decide) rfl (fun ls hl => ?_)
            refine lv_aload_n hx hb d_MD_transform_131 rfl (lv_at hl 1 rfl) ?_
            refine xw_getR (C := "AdviceWeaverModel") (T := T_MD) hx hb hts hin_MD hown hK hP (by decide) kr_MD (by decide) rfl 16 (by decide) (hts _ hw_525) (fun _ h9 => h9) rfl d_MD_transform_132 ?_
            refine lv_iload_n hx hb d_MD_transform_135 rfl (lv_at hl 3 rfl) ?_
            obtain ⟨hg47, h⟩ := xw_grdI h
            refine xw_zald hx hb hK hP (by decide) kr_m_cover (by decide) hg47 d_MD_transform_136 ?_
            refine xw_jnI (fun j => ∀ (sq : xw_S) (i4_153 : Int) (i5_153 : Int), j sq i4_153 i5_153 = some (sZ, r0) → ∀ (H : Heap) (locs : List Loc) (ls : Array Slot), va_P D vwCl (xw_ws kdR 29 ad cs Z sq) H → va_S A s.heap H locs → lv_has ls 7 [(0, .ref (ad 0)), (1, .int (xw_i p1)), (2, .int (xw_i p2)), (4, .int (xw_i i4_153)), (5, .int (xw_i i5_153))] → W p l e (headSpec w_MD_transform ({ frames := 3, cells := 0, slots := 0, locals := 70 })).room s m [.ref (ad 0), .int (xw_i p1), .int (xw_i p2)].toArray below meth c H locs 0 0 (MQ below (va_Qi (fun r u => r = xw_i r0 ∧ u = sZ) (xw_H D vwCl A kdR 29 ad cs Z tt) A) [.ref (ad 0), .int (xw_i p1), .int (xw_i p2)].toArray s 0 0 A) (F0 m 153 ls [])) h ?_ ?_
            · intro s56 i4_153 i5_153 h H locs ls hP hS hl
              refine lv_iconst (v := xw_i 0) hx hb d_MD_transform_153 rfl ?_
              refine lv_istore hx hb d_MD_transform_154 hl (by decide) rfl (fun ls hl => ?_)
              refine xw_jnI (fun j => ∀ (sq : xw_S) (i4_256 : Int), j sq i4_256 = some (sZ, r0) → ∀ (H : Heap) (locs : List Loc) (ls : Array Slot), va_P D vwCl (xw_ws kdR 29 ad cs Z sq) H → va_S A s.heap H locs → lv_has ls 7 [(0, .ref (ad 0)), (1, .int (xw_i p1)), (2, .int (xw_i p2)), (4, .int (xw_i i4_256))] → W p l e (headSpec w_MD_transform ({ frames := 3, cells := 0, slots := 0, locals := 70 })).room s m [.ref (ad 0), .int (xw_i p1), .int (xw_i p2)].toArray below meth c H locs 0 0 (MQ below (va_Qi (fun r u => r = xw_i r0 ∧ u = sZ) (xw_H D vwCl A kdR 29 ad cs Z tt) A) [.ref (ad 0), .int (xw_i p1), .int (xw_i p2)].toArray s 0 0 A) (F0 m 256 ls [])) h ?_ ?_
              · intro s92 i4_256 h H locs ls hP hS hl
                refine lv_iconst (v := xw_i 0) hx hb d_MD_transform_256 rfl ?_
                refine lv_istore hx hb d_MD_transform_257 hl (by decide) rfl (fun ls hl => ?_)
                refine xw_jnI (fun j => ∀ (sq : xw_S) (i4_330 : Int), j sq i4_330 = some (sZ, r0) → ∀ (H : Heap) (locs : List Loc) (ls : Array Slot), va_P D vwCl (xw_ws kdR 29 ad cs Z sq) H → va_S A s.heap H locs → lv_has ls 7 [(0, .ref (ad 0)), (1, .int (xw_i p1)), (2, .int (xw_i p2)), (4, .int (xw_i i4_330))] → W p l e (headSpec w_MD_transform ({ frames := 3, cells := 0, slots := 0, locals := 70 })).room s m [.ref (ad 0), .int (xw_i p1), .int (xw_i p2)].toArray below meth c H locs 0 0 (MQ below (va_Qi (fun r u => r = xw_i r0 ∧ u = sZ) (xw_H D vwCl A kdR 29 ad cs Z tt) A) [.ref (ad 0), .int (xw_i p1), .int (xw_i p2)].toArray s 0 0 A) (F0 m 330 ls [])) h ?_ ?_
                · intro s108 i4_330 h H locs ls hP hS hl
                  unfold jb_MD_transform_330 at h
                  refine lv_aload_n hx hb d_MD_transform_330 rfl (lv_at hl 0 rfl) ?_
                  refine xw_getR (C := "AdviceWeaverModel") (T := T_MD) hx hb hts hin_MD hown hK hP (by decide) kr_MD (by decide) rfl 16 (by decide) (hts _ hw_525) (fun _ h9 => h9) rfl d_MD_transform_331 ?_
                  refine lv_iload_n hx hb d_MD_transform_334 rfl (lv_at hl 2 rfl) ?_
                  obtain ⟨hg109, h⟩ := xw_grdI h
                  refine xw_zald hx hb hK hP (by decide) kr_m_cover (by decide) hg109 d_MD_transform_335 ?_
                  refine xw_jnI (fun j => ∀ (sq : xw_S), j sq = some (sZ, r0) → ∀ (H : Heap) (locs : List Loc) (ls : Array Slot), va_P D vwCl (xw_ws kdR 29 ad cs Z sq) H → va_S A s.heap H locs → lv_has ls 7 [(0, .ref (ad 0)), (1, .int (xw_i p1))] → W p l e (headSpec w_MD_transform ({ frames := 3, cells := 0, slots := 0, locals := 70 })).room s m [.ref (ad 0), .int (xw_i p1), .int (xw_i p2)].toArray below meth c H locs 0 0 (MQ below (va_Qi (fun r u => r = xw_i r0 ∧ u = sZ) (xw_H D vwCl A kdR 29 ad cs Z tt) A) [.ref (ad 0), .int (xw_i p1), .int (xw_i p2)].toArray s 0 0 A) (F0 m 425 ls [])) h ?_ ?_
                  · intro s138 h H locs ls hP hS hl
                    refine lv_iconst (v := xw_i 0) hx hb d_MD_transform_425 rfl ?_
                    refine lv_istore hx hb d_MD_transform_426 hl (by decide) rfl (fun ls hl => ?_)
                    refine xw_jnI (fun j => ∀ (sq : xw_S), j sq = some (sZ, r0) → ∀ (H : Heap) (locs : List Loc) (ls : Array Slot), va_P D vwCl (xw_ws kdR 29 ad cs Z sq) H → va_S A s.heap H locs → lv_has ls 7 [(0, .ref (ad 0)), (1, .int (xw_i p1))] → W p l e (headSpec w_MD_transform ({ frames := 3, cells := 0, slots := 0, locals := 70 })).room s m [.ref (ad 0), .int (xw_i p1), .int (xw_i p2)].toArray below meth c H locs 0 0 (MQ below (va_Qi (fun r u => r = xw_i r0 ∧ u = sZ) (xw_H D vwCl A kdR 29 ad cs Z tt) A) [.ref (ad 0), .int (xw_i p1), .int (xw_i p2)].toArray s 0 0 A) (F0 m 462 ls [])) h ?_ ?_
                    · intro s148 h H locs ls hP hS hl
                      refine lv_aload_n hx hb d_MD_transform_462 rfl (lv_at hl 0 rfl) ?_
                      refine xw_getR (C := "AdviceWeaverModel") (T := T_MD) hx hb hts hin_MD hown hK hP (by decide) kr_MD (by decide) rfl 6 (by decide) (hts _ hw_447) (fun _ h9 => h9) rfl d_MD_transform_463 ?_
                      refine lv_iload_n hx hb d_MD_transform_466 rfl (lv_at hl 1 rfl) ?_
                      refine lv_aload_n hx hb d_MD_transform_467 rfl (lv_at hl 0 rfl) ?_
                      refine xw_getI (C := "AdviceWeaverModel") (T := T_MD) hx hb hts hin_MD hown hK hP (by decide) kr_MD (by decide) rfl 29 (by decide) (hts _ hw_533) (fun _ h9 => h9) rfl d_MD_transform_468 ?_
                      obtain ⟨hg149, h⟩ := xw_grdI h
                      refine xw_iast hx hb hK hP hD hS (by decide) kr_m_length (by decide) hg149 d_MD_transform_471 (fun s150 e151 H locs hP hS => ?_)
                      replace h := xw_letI e151 h
                      refine lv_iconst (v := xw_i 1) hx hb d_MD_transform_472 rfl ?_
                      exact xw_zretE hx hb hr hlk hP hK hD hX hS h (by decide) d_MD_transform_473
                    · intro k462 hk462 h
                      exact hlp428 p1 k462 hk462 fu s138 0 h _ _ _ hP hS (lv_sub hl [1, 2, 0] rfl)
                  · intro j425 hj425 h
                    obtain ⟨hg110, h⟩ := xw_grdI h
                    refine xw_if_ne (tgt := 425) hx hb hg110 d_MD_transform_336 (by decide) (fun hc111 => ?_) (fun hc111 => ?_)
                    · replace h := xw_ifF hc111 h
                      exact hj425 s108 h _ _ _ hP hS (lv_sub hl [0, 1] rfl)
                    · replace h := xw_ifT hc111 h
                      refine lv_aload_n hx hb d_MD_transform_339 rfl (lv_at hl 0 rfl) ?_
                      refine lv_bipush (v := xw_i 30) hx hb d_MD_transform_340 (by decide) ?_
                      obtain ⟨s112, hc113, h⟩ := xw_bndI h
                      refine xw_callVv (C := "AdviceWeaverModel") (T := T_MD) ⟨hx, hb, hml, hown, hts⟩ (c_MD_emit l D A ad cs Z tt fu s108 s112 30 hc113) (cwV 1 hts (gd_V hw_534 hw_535 hw_536 hw_433 hw_537) rfl rfl rfl (by decide +kernel) ⟨Nat.le_of_ble_eq_true rfl, Nat.le_of_ble_eq_true rfl⟩) hP hK hD hX hS (by decide) kr_MD (by decide) rfl rfl hl.1 rfl (Nat.le_of_ble_eq_true rfl) d_MD_transform_342 (fun H locs hP hS => ?_)
                      refine lv_aload_n hx hb d_MD_transform_345 rfl (lv_at hl 0 rfl) ?_
                      refine lv_iconst (v := xw_i 3) hx hb d_MD_transform_346 rfl ?_
                      refine lv_iload_n hx hb d_MD_transform_347 rfl (lv_at hl 2 rfl) ?_
                      refine xw_imul hx hb d_MD_transform_348 ?_
                      refine lv_iconst (v := xw_i 2) hx hb d_MD_transform_349 rfl ?_
                      refine xw_iadd hx hb d_MD_transform_350 ?_
                      obtain ⟨s115, hc116, h⟩ := xw_bndI h
                      refine xw_callVv (C := "AdviceWeaverModel") (T := T_MD) ⟨hx, hb, hml, hown, hts⟩ (c_MD_emit l D A ad cs Z tt fu s112 s115 ((3 * p2) + 2) hc116) (cwV 1 hts (gd_V hw_534 hw_535 hw_536 hw_433 hw_537) rfl rfl rfl (by decide +kernel) ⟨Nat.le_of_ble_eq_true rfl, Nat.le_of_ble_eq_true rfl⟩) hP hK hD hX hS (by decide) kr_MD (by decide) rfl rfl hl.1 rfl (Nat.le_of_ble_eq_true rfl) d_MD_transform_351 (fun H locs hP hS => ?_)
                      refine lv_aload_n hx hb d_MD_transform_354 rfl (lv_at hl 0 rfl) ?_
                      refine lv_bipush (v := xw_i 32) hx hb d_MD_transform_355 (by decide) ?_
                      obtain ⟨s118, hc119, h⟩ := xw_bndI h
                      refine xw_callVv (C := "AdviceWeaverModel") (T := T_MD) ⟨hx, hb, hml, hown, hts⟩ (c_MD_emit l D A ad cs Z tt fu s115 s118 32 hc119) (cwV 1 hts (gd_V hw_534 hw_535 hw_536 hw_433 hw_537) rfl rfl rfl (by decide +kernel) ⟨Nat.le_of_ble_eq_true rfl, Nat.le_of_ble_eq_true rfl⟩) hP hK hD hX hS (by decide) kr_MD (by decide) rfl rfl hl.1 rfl (Nat.le_of_ble_eq_true rfl) d_MD_transform_357 (fun H locs hP hS => ?_)
                      refine lv_bipush (v := xw_i 20) hx hb d_MD_transform_360 (by decide) ?_
                      refine lv_iload_n hx hb d_MD_transform_362 rfl (lv_at hl 1 rfl) ?_
                      refine xw_imul hx hb d_MD_transform_363 ?_
                      refine lv_iconst (v := xw_i 4) hx hb d_MD_transform_364 rfl ?_
                      refine lv_aload_n hx hb d_MD_transform_365 rfl (lv_at hl 0 rfl) ?_
                      refine xw_getR (C := "AdviceWeaverModel") (T := T_MD) hx hb hts hin_MD hown hK hP (by decide) kr_MD (by decide) rfl 8 (by decide) (hts _ hw_449) (fun _ h9 => h9) rfl d_MD_transform_366 ?_
                      refine lv_iload_n hx hb d_MD_transform_369 rfl (lv_at hl 1 rfl) ?_
                      obtain ⟨hg121, h⟩ := xw_grdI h
                      refine xw_iald hx hb hK hP (by decide) kr_m_handlers (by decide) hg121 d_MD_transform_370 ?_
                      refine xw_imul hx hb d_MD_transform_371 ?_
                      refine xw_iadd hx hb d_MD_transform_372 ?_
                      refine xw_topi (fun v122 e123 => ?_)
                      replace h := xw_letI e123 h
                      refine lv_istore hx hb d_MD_transform_373 hl (by decide) rfl (fun ls hl => ?_)
                      refine lv_aload_n hx hb d_MD_transform_375 rfl (lv_at hl 1 rfl) ?_
                      refine xw_getR (C := "AdviceWeaverModel") (T := T_MD) hx hb hts hin_MD hown hK hP (by decide) kr_MD (by decide) rfl 9 (by decide) (hts _ hw_450) (fun _ h9 => h9) rfl d_MD_transform_376 ?_
                      refine lv_iload hx hb d_MD_transform_379 (lv_at hl 0 rfl) ?_
                      refine lv_iconst (v := xw_i 0) hx hb d_MD_transform_381 rfl ?_
                      obtain ⟨hg124, h⟩ := xw_grdI h
                      refine xw_iast hx hb hK hP hD hS (by decide) kr_m_handler (by decide) hg124 d_MD_transform_382 (fun s125 e126 H locs hP hS => ?_)
                      replace h := xw_letI e126 h
                      refine lv_aload_n hx hb d_MD_transform_383 rfl (lv_at hl 1 rfl) ?_
                      refine xw_getR (C := "AdviceWeaverModel") (T := T_MD) hx hb hts hin_MD hown hK hP (by decide) kr_MD (by decide) rfl 9 (by decide) (hts _ hw_450) (fun _ h9 => h9) rfl d_MD_transform_384 ?_
                      refine lv_iload hx hb d_MD_transform_387 (lv_at hl 0 rfl) ?_
                      refine lv_iconst (v := xw_i 1) hx hb d_MD_transform_389 rfl ?_
                      refine xw_iadd hx hb d_MD_transform_390 ?_
                      refine lv_iload hx hb d_MD_transform_391 (lv_at hl 4 rfl) ?_
                      obtain ⟨hg127, h⟩ := xw_grdI h
                      refine xw_iast hx hb hK hP hD hS (by decide) kr_m_handler (by decide) hg127 d_MD_transform_393 (fun s128 e129 H locs hP hS => ?_)
                      replace h := xw_letI e129 h
                      refine lv_aload_n hx hb d_MD_transform_394 rfl (lv_at hl 1 rfl) ?_
                      refine xw_getR (C := "AdviceWeaverModel") (T := T_MD) hx hb hts hin_MD hown hK hP (by decide) kr_MD (by decide) rfl 9 (by decide) (hts _ hw_450) (fun _ h9 => h9) rfl d_MD_transform_395 ?_
                      refine lv_iload hx hb d_MD_transform_398 (lv_at hl 0 rfl) ?_
                      refine lv_iconst (v := xw_i 2) hx hb d_MD_transform_400 rfl ?_
                      refine xw_iadd hx hb d_MD_transform_401 ?_
                      refine lv_iload hx hb d_MD_transform_402 (lv_at hl 4 rfl) ?_
                      obtain ⟨hg130, h⟩ := xw_grdI h
                      refine xw_iast hx hb hK hP hD hS (by decide) kr_m_handler (by decide) hg130 d_MD_transform_404 (fun s131 e132 H locs hP hS => ?_)
                      replace h := xw_letI e132 h
                      refine lv_aload_n hx hb d_MD_transform_405 rfl (lv_at hl 1 rfl) ?_
                      refine xw_getR (C := "AdviceWeaverModel") (T := T_MD) hx hb hts hin_MD hown hK hP (by decide) kr_MD (by decide) rfl 9 (by decide) (hts _ hw_450) (fun _ h9 => h9) rfl d_MD_transform_406 ?_
                      refine lv_iload hx hb d_MD_transform_409 (lv_at hl 0 rfl) ?_
                      refine lv_iconst (v := xw_i 3) hx hb d_MD_transform_411 rfl ?_
                      refine xw_iadd hx hb d_MD_transform_412 ?_
                      refine lv_iconst (v := xw_i 0) hx hb d_MD_transform_413 rfl ?_
                      obtain ⟨hg133, h⟩ := xw_grdI h
                      refine xw_iast hx hb hK hP hD hS (by decide) kr_m_handler (by decide) hg133 d_MD_transform_414 (fun s134 e135 H locs hP hS => ?_)
                      replace h := xw_letI e135 h
                      refine lv_aload_n hx hb d_MD_transform_415 rfl (lv_at hl 1 rfl) ?_
                      refine xw_getR (C := "AdviceWeaverModel") (T := T_MD) hx hb hts hin_MD hown hK hP (by decide) kr_MD (by decide) rfl 8 (by decide) (hts _ hw_449) (fun _ h9 => h9) rfl d_MD_transform_416 ?_
                      refine lv_iload_n hx hb d_MD_transform_419 rfl (lv_at hl 2 rfl) ?_
                      refine lv_dup2_11 hx hb d_MD_transform_420 rfl rfl ?_
                      refine xw_iald hx hb hK hP (by decide) kr_m_handlers (by decide) hg121 d_MD_transform_421 ?_
                      refine lv_iconst (v := xw_i 1) hx hb d_MD_transform_422 rfl ?_
                      refine xw_iadd hx hb d_MD_transform_423 ?_
                      refine xw_iast hx hb hK hP hD hS (by decide) kr_m_handlers (by decide) hg121 d_MD_transform_424 (fun s136 e137 H locs hP hS => ?_)
                      replace h := xw_letI e137 h
                      exact hj425 s136 h _ _ _ hP hS (lv_sub hl [1, 2] rfl)
                · intro k330 hk330 h
                  exact hlp259 p1 p2 i4_256 k330 hk330 fu s92 0 h _ _ _ hP hS (lv_sub hl [1, 2, 3, 4, 0] rfl)
              · intro k256 hk256 h
                exact hlp156 p1 p2 i4_153 k256 hk256 fu s56 i5_153 0 h _ _ _ hP hS (lv_sub hl [1, 2, 3, 4, 5, 0] rfl)
            · intro j153 hj153 h
              obtain ⟨hg48, h⟩ := xw_grdI h
              refine xw_if_ne (tgt := 153) hx hb hg48 d_MD_transform_137 (by decide) (fun hc49 => ?_) (fun hc49 => ?_)
              · replace h := xw_ifF hc49 h
                exact hj153 s45 i4_123 0 h _ _ _ hP hS (lv_sub hl [1, 2, 3, 4, 0] rfl)
              · replace h := xw_ifT hc49 h
                refine lv_aload_n hx hb d_MD_transform_140 rfl (lv_at hl 1 rfl) ?_
                refine lv_bipush (v := xw_i 30) hx hb d_MD_transform_141 (by decide) ?_
                obtain ⟨s50, hc51, h⟩ := xw_bndI h
                refine xw_callVv (C := "AdviceWeaverModel") (T := T_MD) ⟨hx, hb, hml, hown, hts⟩ (c_MD_emit l D A ad cs Z tt fu s45 s50 30 hc51) (cwV 1 hts (gd_V hw_534 hw_535 hw_536 hw_433 hw_537) rfl rfl rfl (by decide +kernel) ⟨Nat.le_of_ble_eq_true rfl, Nat.le_of_ble_eq_true rfl⟩) hP hK hD hX hS (by decide) kr_MD (by decide) rfl rfl hl.1 rfl (Nat.le_of_ble_eq_true rfl) d_MD_transform_143 (fun H locs hP hS => ?_)
                refine lv_aload_n hx hb d_MD_transform_146 rfl (lv_at hl 1 rfl) ?_
                refine lv_iconst (v := xw_i 3) hx hb d_MD_transform_147 rfl ?_
                refine lv_iload_n hx hb d_MD_transform_148 rfl (lv_at hl 3 rfl) ?_
                refine xw_imul hx hb d_MD_transform_149 ?_
                obtain ⟨s53, hc54, h⟩ := xw_bndI h
                refine xw_callVv (C := "AdviceWeaverModel") (T := T_MD) ⟨hx, hb, hml, hown, hts⟩ (c_MD_emit l D A ad cs Z tt fu s50 s53 (3 * p2) hc54) (cwV 1 hts (gd_V hw_534 hw_535 hw_536 hw_433 hw_537) rfl rfl rfl (by decide +kernel) ⟨Nat.le_of_ble_eq_true rfl, Nat.le_of_ble_eq_true rfl⟩) hP hK hD hX hS (by decide) kr_MD (by decide) rfl rfl hl.1 rfl (Nat.le_of_ble_eq_true rfl) d_MD_transform_150 (fun H locs hP hS => ?_)
                exact hj153 s53 i4_123 0 h _ _ _ hP hS (lv_sub hl [1, 2, 3, 4, 0] rfl)
          · intro j123 hj123 h
            obtain ⟨hg39, h⟩ := xw_grdI h
            refine xw_if_ne (tgt := 123) hx hb hg39 d_MD_transform_108 (by decide) (fun hc40 => ?_) (fun hc40 => ?_)
            · replace h := xw_ifF hc40 h
              exact hj123 s35 i4_96 h _ _ _ hP hS (lv_sub hl [0, 1, 2, 3] rfl)
            · replace h := xw_ifT hc40 h
              refine lv_aload_n hx hb d_MD_transform_111 rfl (lv_at hl 0 rfl) ?_
              refine xw_getR (C := "AdviceWeaverModel") (T := T_MD) hx hb hts hin_MD hown hK hP (by decide) kr_MD (by decide) rfl 8 (by decide) (hts _ hw_449) (fun _ h9 => h9) rfl d_MD_transform_112 ?_
              refine lv_iload_n hx hb d_MD_transform_115 rfl (lv_at hl 1 rfl) ?_
              obtain ⟨hg41, h⟩ := xw_grdI h
              refine xw_iald hx hb hK hP (by decide) kr_m_handlers (by decide) hg41 d_MD_transform_116 ?_
              refine lv_iconst (v := xw_i 5) hx hb d_MD_transform_117 rfl ?_
              obtain ⟨hg42, h⟩ := xw_grdI h
              refine xw_icmp_ne (tgt := 123) hx hb hg42 (by decide) d_MD_transform_118 (by decide) (fun hc43 => ?_) (fun hc43 => ?_)
              · replace h := xw_ifF hc43 h
                exact hj123 s35 i4_96 h _ _ _ hP hS (lv_sub hl [0, 1, 2, 3] rfl)
              · replace h := xw_ifT hc43 h
                refine lv_iconst (v := xw_i 0) hx hb d_MD_transform_121 rfl ?_
                exact xw_zretE hx hb hr hlk hP hK hD hX hS h (by decide) d_MD_transform_122
      · intro j96 hj96 h
        obtain ⟨hg33, h⟩ := xw_grdI h
        refine xw_if_eq (tgt := 95) hx hb hg33 d_MD_transform_88 (by decide) (fun hc34 => ?_) (fun hc34 => ?_)
        · replace h := xw_ifT hc34 h
          refine lv_iconst (v := xw_i 3) hx hb d_MD_transform_95 rfl ?_
          exact hj96 s27 v30 3 v30 h _ _ _ hP hS (lv_sub hl [1, 2, 3, 0] rfl)
        · replace h := xw_ifF hc34 h
          refine lv_iconst (v := xw_i 0) hx hb d_MD_transform_91 rfl ?_
          refine lv_goto (tgt := 96) hx hb d_MD_transform_92 (by decide) ?_
          exact hj96 s27 v30 0 v30 h _ _ _ hP hS (lv_sub hl [1, 2, 3, 0] rfl)
    · intro k67 hk67 h
      exact hlp40 p1 p2 k67 hk67 fu s16 1 h _ _ _ hP hS (lv_sub hl [1, 2, 3, 0] rfl)
  · intro k38 hk38 h
    exact hlp19 p1 p2 k38 hk38 fu s5 0 h _ _ _ hP hS (lv_sub hl [1, 2, 3, 0] rfl)
