/-! the reference, piece 3 -/
theorem d_MD_emit_0 : decode b_MD_emit 0 = .ok (.aload_n 0, 1) := by decide +kernel
theorem d_MD_emit_1 : decode b_MD_emit 1 = .ok (.getfield 72, 3) := by decide +kernel
theorem d_MD_emit_4 : decode b_MD_emit 4 = .ok (.aload_n 0, 1) := by decide +kernel
theorem d_MD_emit_5 : decode b_MD_emit 5 = .ok (.getfield 191, 3) := by decide +kernel
theorem d_MD_emit_8 : decode b_MD_emit 8 = .ok (.iload_n 1, 1) := by decide +kernel
theorem d_MD_emit_9 : decode b_MD_emit 9 = .ok (.sipush 255, 3) := by decide +kernel
theorem d_MD_emit_12 : decode b_MD_emit 12 = .ok (.iand, 1) := by decide +kernel
theorem d_MD_emit_13 : decode b_MD_emit 13 = .ok (.iastore, 1) := by decide +kernel
theorem d_MD_emit_14 : decode b_MD_emit 14 = .ok (.aload_n 0, 1) := by decide +kernel
theorem d_MD_emit_15 : decode b_MD_emit 15 = .ok (.dup, 1) := by decide +kernel
theorem d_MD_emit_16 : decode b_MD_emit 16 = .ok (.getfield 191, 3) := by decide +kernel
theorem d_MD_emit_19 : decode b_MD_emit 19 = .ok (.iconst 1, 1) := by decide +kernel
theorem d_MD_emit_20 : decode b_MD_emit 20 = .ok (.iadd, 1) := by decide +kernel
theorem d_MD_emit_21 : decode b_MD_emit 21 = .ok (.putfield 191, 3) := by decide +kernel
theorem d_MD_emit_24 : decode b_MD_emit 24 = .ok (.return_, 1) := by decide +kernel
theorem d_MD_emitOne_0 : decode b_MD_emitOne 0 = .ok (.aload_n 0, 1) := by decide +kernel
theorem d_MD_emitOne_1 : decode b_MD_emitOne 1 = .ok (.iload_n 1, 1) := by decide +kernel
theorem d_MD_emitOne_2 : decode b_MD_emitOne 2 = .ok (.iload_n 2, 1) := by decide +kernel
theorem d_MD_emitOne_3 : decode b_MD_emitOne 3 = .ok (.invokevirtual 104, 3) := by decide +kernel
theorem d_MD_emitOne_6 : decode b_MD_emitOne 6 = .ok (.istore_n 3, 1) := by decide +kernel
theorem d_MD_emitOne_7 : decode b_MD_emitOne 7 = .ok (.iload_n 3, 1) := by decide +kernel
theorem d_MD_emitOne_8 : decode b_MD_emitOne 8 = .ok (.invokestatic 119, 3) := by decide +kernel
theorem d_MD_emitOne_11 : decode b_MD_emitOne 11 = .ok (.ifCond .eq 24, 3) := by decide +kernel
theorem d_MD_emitOne_14 : decode b_MD_emitOne 14 = .ok (.aload_n 0, 1) := by decide +kernel
theorem d_MD_emitOne_15 : decode b_MD_emitOne 15 = .ok (.getfield 66, 3) := by decide +kernel
theorem d_MD_emitOne_18 : decode b_MD_emitOne 18 = .ok (.aload_n 0, 1) := by decide +kernel
theorem d_MD_emitOne_19 : decode b_MD_emitOne 19 = .ok (.iload_n 1, 1) := by decide +kernel
theorem d_MD_emitOne_20 : decode b_MD_emitOne 20 = .ok (.iload_n 2, 1) := by decide +kernel
theorem d_MD_emitOne_21 : decode b_MD_emitOne 21 = .ok (.invokevirtual 122, 3) := by decide +kernel
theorem d_MD_emitOne_24 : decode b_MD_emitOne 24 = .ok (.iaload, 1) := by decide +kernel
theorem d_MD_emitOne_25 : decode b_MD_emitOne 25 = .ok (.aload_n 0, 1) := by decide +kernel
theorem d_MD_emitOne_26 : decode b_MD_emitOne 26 = .ok (.getfield 69, 3) := by decide +kernel
theorem d_MD_emitOne_29 : decode b_MD_emitOne 29 = .ok (.iload_n 2, 1) := by decide +kernel
theorem d_MD_emitOne_30 : decode b_MD_emitOne 30 = .ok (.iaload, 1) := by decide +kernel
theorem d_MD_emitOne_31 : decode b_MD_emitOne 31 = .ok (.isub, 1) := by decide +kernel
theorem d_MD_emitOne_32 : decode b_MD_emitOne 32 = .ok (.goto 4, 3) := by decide +kernel
theorem d_MD_emitOne_35 : decode b_MD_emitOne 35 = .ok (.iconst 0, 1) := by decide +kernel
theorem d_MD_emitOne_36 : decode b_MD_emitOne 36 = .ok (.istore 4, 2) := by decide +kernel
theorem d_MD_emitOne_38 : decode b_MD_emitOne 38 = .ok (.aload_n 0, 1) := by decide +kernel
theorem d_MD_emitOne_39 : decode b_MD_emitOne 39 = .ok (.getfield 63, 3) := by decide +kernel
theorem d_MD_emitOne_42 : decode b_MD_emitOne 42 = .ok (.iload_n 2, 1) := by decide +kernel
theorem d_MD_emitOne_43 : decode b_MD_emitOne 43 = .ok (.baload, 1) := by decide +kernel
theorem d_MD_emitOne_44 : decode b_MD_emitOne 44 = .ok (.ifCond .ne 15, 3) := by decide +kernel
theorem d_MD_emitOne_47 : decode b_MD_emitOne 47 = .ok (.iload_n 3, 1) := by decide +kernel
theorem d_MD_emitOne_48 : decode b_MD_emitOne 48 = .ok (.bipush 20, 2) := by decide +kernel
theorem d_MD_emitOne_50 : decode b_MD_emitOne 50 = .ok (.if_icmp .lt 13, 3) := by decide +kernel
theorem d_MD_emitOne_53 : decode b_MD_emitOne 53 = .ok (.iload_n 3, 1) := by decide +kernel
theorem d_MD_emitOne_54 : decode b_MD_emitOne 54 = .ok (.bipush 22, 2) := by decide +kernel
theorem d_MD_emitOne_56 : decode b_MD_emitOne 56 = .ok (.if_icmp .gt 7, 3) := by decide +kernel
theorem d_MD_emitOne_59 : decode b_MD_emitOne 59 = .ok (.iconst 1, 1) := by decide +kernel
theorem d_MD_emitOne_60 : decode b_MD_emitOne 60 = .ok (.goto 4, 3) := by decide +kernel
theorem d_MD_emitOne_63 : decode b_MD_emitOne 63 = .ok (.iconst 0, 1) := by decide +kernel
theorem d_MD_emitOne_64 : decode b_MD_emitOne 64 = .ok (.istore 5, 2) := by decide +kernel
theorem d_MD_emitOne_66 : decode b_MD_emitOne 66 = .ok (.aload_n 0, 1) := by decide +kernel
theorem d_MD_emitOne_67 : decode b_MD_emitOne 67 = .ok (.aload_n 0, 1) := by decide +kernel
theorem d_MD_emitOne_68 : decode b_MD_emitOne 68 = .ok (.getfield 63, 3) := by decide +kernel
theorem d_MD_emitOne_71 : decode b_MD_emitOne 71 = .ok (.iload_n 2, 1) := by decide +kernel
theorem d_MD_emitOne_72 : decode b_MD_emitOne 72 = .ok (.baload, 1) := by decide +kernel
theorem d_MD_emitOne_73 : decode b_MD_emitOne 73 = .ok (.ifCond .eq 10, 3) := by decide +kernel
theorem d_MD_emitOne_76 : decode b_MD_emitOne 76 = .ok (.iload_n 3, 1) := by decide +kernel
theorem d_MD_emitOne_77 : decode b_MD_emitOne 77 = .ok (.bipush 10, 2) := by decide +kernel
theorem d_MD_emitOne_79 : decode b_MD_emitOne 79 = .ok (.iadd, 1) := by decide +kernel
theorem d_MD_emitOne_80 : decode b_MD_emitOne 80 = .ok (.goto 4, 3) := by decide +kernel
theorem d_MD_emitOne_83 : decode b_MD_emitOne 83 = .ok (.iload_n 3, 1) := by decide +kernel
theorem d_MD_emitOne_84 : decode b_MD_emitOne 84 = .ok (.invokevirtual 194, 3) := by decide +kernel
theorem d_MD_emitOne_87 : decode b_MD_emitOne 87 = .ok (.iload_n 3, 1) := by decide +kernel
theorem d_MD_emitOne_88 : decode b_MD_emitOne 88 = .ok (.invokestatic 119, 3) := by decide +kernel
theorem d_MD_emitOne_91 : decode b_MD_emitOne 91 = .ok (.ifCond .eq 17, 3) := by decide +kernel
theorem d_MD_emitOne_94 : decode b_MD_emitOne 94 = .ok (.iload 5, 2) := by decide +kernel
theorem d_MD_emitOne_96 : decode b_MD_emitOne 96 = .ok (.ifCond .eq 12, 3) := by decide +kernel
theorem d_MD_emitOne_99 : decode b_MD_emitOne 99 = .ok (.aload_n 0, 1) := by decide +kernel
theorem d_MD_emitOne_100 : decode b_MD_emitOne 100 = .ok (.iload 4, 2) := by decide +kernel
theorem d_MD_emitOne_102 : decode b_MD_emitOne 102 = .ok (.bipush 8, 2) := by decide +kernel
theorem d_MD_emitOne_104 : decode b_MD_emitOne 104 = .ok (.ishr, 1) := by decide +kernel
theorem d_MD_emitOne_105 : decode b_MD_emitOne 105 = .ok (.invokevirtual 194, 3) := by decide +kernel
theorem d_MD_emitOne_108 : decode b_MD_emitOne 108 = .ok (.iload_n 3, 1) := by decide +kernel
theorem d_MD_emitOne_109 : decode b_MD_emitOne 109 = .ok (.invokestatic 119, 3) := by decide +kernel
theorem d_MD_emitOne_112 : decode b_MD_emitOne 112 = .ok (.ifCond .eq 9, 3) := by decide +kernel
theorem d_MD_emitOne_115 : decode b_MD_emitOne 115 = .ok (.aload_n 0, 1) := by decide +kernel
theorem d_MD_emitOne_116 : decode b_MD_emitOne 116 = .ok (.iload 4, 2) := by decide +kernel
theorem d_MD_emitOne_118 : decode b_MD_emitOne 118 = .ok (.invokevirtual 194, 3) := by decide +kernel
theorem d_MD_emitOne_121 : decode b_MD_emitOne 121 = .ok (.iconst 1, 1) := by decide +kernel
theorem d_MD_emitOne_122 : decode b_MD_emitOne 122 = .ok (.istore 6, 2) := by decide +kernel
theorem d_MD_emitOne_124 : decode b_MD_emitOne 124 = .ok (.iload 6, 2) := by decide +kernel
theorem d_MD_emitOne_126 : decode b_MD_emitOne 126 = .ok (.iload_n 3, 1) := by decide +kernel
theorem d_MD_emitOne_127 : decode b_MD_emitOne 127 = .ok (.invokestatic 111, 3) := by decide +kernel
theorem d_MD_emitOne_130 : decode b_MD_emitOne 130 = .ok (.if_icmp .ge 29, 3) := by decide +kernel
theorem d_MD_emitOne_133 : decode b_MD_emitOne 133 = .ok (.iload_n 3, 1) := by decide +kernel
theorem d_MD_emitOne_134 : decode b_MD_emitOne 134 = .ok (.invokestatic 119, 3) := by decide +kernel
theorem d_MD_emitOne_137 : decode b_MD_emitOne 137 = .ok (.ifCond .ne 22, 3) := by decide +kernel
theorem d_MD_emitOne_140 : decode b_MD_emitOne 140 = .ok (.aload_n 0, 1) := by decide +kernel
theorem d_MD_emitOne_141 : decode b_MD_emitOne 141 = .ok (.aload_n 0, 1) := by decide +kernel
theorem d_MD_emitOne_142 : decode b_MD_emitOne 142 = .ok (.iload_n 1, 1) := by decide +kernel
theorem d_MD_emitOne_143 : decode b_MD_emitOne 143 = .ok (.iload_n 2, 1) := by decide +kernel
theorem d_MD_emitOne_144 : decode b_MD_emitOne 144 = .ok (.iload 6, 2) := by decide +kernel
theorem d_MD_emitOne_146 : decode b_MD_emitOne 146 = .ok (.iadd, 1) := by decide +kernel
theorem d_MD_emitOne_147 : decode b_MD_emitOne 147 = .ok (.invokevirtual 104, 3) := by decide +kernel
theorem d_MD_emitOne_150 : decode b_MD_emitOne 150 = .ok (.invokevirtual 194, 3) := by decide +kernel
theorem d_MD_emitOne_153 : decode b_MD_emitOne 153 = .ok (.iinc 6 1, 3) := by decide +kernel
theorem d_MD_emitOne_156 : decode b_MD_emitOne 156 = .ok (.goto (-32), 3) := by decide +kernel
theorem d_MD_emitOne_159 : decode b_MD_emitOne 159 = .ok (.return_, 1) := by decide +kernel
def f_MD_emit (fu : Nat) (s0 : xw_S) (p1 : Int) : Option xw_S :=
 xw_grd ((0 ≤ s0.1 0 29 ∧ s0.1 0 29 < ((120 : Nat) : Int))) (xw_let (xw_st s0 21 (s0.1 0 29).toNat (xw_an p1 255)) (fun s2 => xw_let (xw_st s2 0 29 ((s2.1 0 29) + 1)) (fun s4 => some s4)))
set_option maxRecDepth 100000 in
set_option maxHeartbeats 4000000 in
theorem c_MD_emit (l : Launch) (D : va_G) (A : Nat → Prop) (ad : Nat → Nat) (cs : Nat → ClassId) (Z : va_W) (tt : Nat → Nat) (fu : Nat) (s0 sZ : xw_S) (p1 : Int) (h : f_MD_emit fu s0 p1 = some sZ) : Met l y_MD_emit w_MD_emit ({ frames := 0, cells := 0, slots := 0, locals := 0 }) (va_Pc [.ref (ad 0), .int (xw_i p1)] (xw_H D vwCl A kdR 29 ad cs Z tt s0)) (va_Qv (fun u => u = sZ) (xw_H D vwCl A kdR 29 ad cs Z tt) A) 0 0 A := by
  refine Met.ofW (cc := b_MD_emit) (maxL := 2) (ret := none) (by decide) rfl ?_
  intro p e s m args below meth c s₁ B hml hv
  obtain ⟨rfl, hP, hK, hD, hX⟩ := hv
  have hx := B.exec
  have hb := B.bytes
  have hr := B.returns
  have hts0 := atoms_spec (ws := w_MD_emit) B.pre
  have hts := fun w (hw : w ∈ wAll) => hts0 w (List.mem_cons_of_mem _ hw)
  have hown : s.vm.findClass "AdviceWeaverModel" = some m.cls := findClass_of_methodNamed B.named
  have hlk := B.notSynchronized
  clear hts0 B
  have hS : va_S A s.heap s.heap [] := va_S.rf
  have hl := lv_entry [.ref (ad 0), .int (xw_i p1)] (n := 2) (Nat.le_of_ble_eq_true rfl)
  rw [lg_entry_eq]
  generalize (lg_sl [.ref (ad 0), .int (xw_i p1)] ++ List.replicate (2 - (lg_sl [.ref (ad 0), .int (xw_i p1)]).length) Slot.unset).toArray = ls at hl ⊢
  have hl : lv_has ls 2 [(0, .ref (ad 0)), (1, .int (xw_i p1))] := hl
  unfold f_MD_emit at h
  refine lv_aload_n hx hb d_MD_emit_0 rfl (lv_at hl 0 rfl) ?_
  refine xw_getR (C := "AdviceWeaverModel") (T := T_MD) hx hb hts hin_MD hown hK hP (by decide) kr_MD (by decide) rfl 30 (by decide) (hts _ hw_532) (fun _ h9 => h9) rfl d_MD_emit_1 ?_
  refine lv_aload_n hx hb d_MD_emit_4 rfl (lv_at hl 0 rfl) ?_
  refine xw_getI (C := "AdviceWeaverModel") (T := T_MD) hx hb hts hin_MD hown hK hP (by decide) kr_MD (by decide) rfl 29 (by decide) (hts _ hw_533) (fun _ h9 => h9) rfl d_MD_emit_5 ?_
  refine lv_iload_n hx hb d_MD_emit_8 rfl (lv_at hl 1 rfl) ?_
  refine lv_sipush (v := xw_i 255) hx hb d_MD_emit_9 (by decide) ?_
  refine xw_iand hx hb d_MD_emit_12 ?_
  obtain ⟨hg1, h⟩ := xw_grdI h
  refine xw_iast hx hb hK hP hD hS (by decide) kr_m_fresh (by decide) hg1 d_MD_emit_13 (fun s2 e3 H locs hP hS => ?_)
  replace h := xw_letI e3 h
  refine lv_aload_n hx hb d_MD_emit_14 rfl (lv_at hl 0 rfl) ?_
  refine lv_dup hx hb d_MD_emit_15 rfl ?_
  refine xw_getI (C := "AdviceWeaverModel") (T := T_MD) hx hb hts hin_MD hown hK hP (by decide) kr_MD (by decide) rfl 29 (by decide) (hts _ hw_533) (fun _ h9 => h9) rfl d_MD_emit_16 ?_
  refine lv_iconst (v := xw_i 1) hx hb d_MD_emit_19 rfl ?_
  refine xw_iadd hx hb d_MD_emit_20 ?_
  refine xw_putI (C := "AdviceWeaverModel") (T := T_MD) hx hb hts hin_MD ty_MD ty_MD_ok nm_MD hown hK hP hD hS (by decide) kr_MD (by decide) rfl 29 (by decide) (hts _ hw_533) (fun _ h9 => h9) rfl (by decide +kernel) rfl d_MD_emit_21 (fun s4 e5 H locs hP hS => ?_)
  replace h := xw_letI e5 h
  exact xw_vretE hx hb hr hlk hP hK hD hX hS h d_MD_emit_24
def lp_MD_emitOne_124 (fu : Nat) (c1_124 : Int) (c2_124 : Int) (c3_124 : Int) (k159 : xw_S → Option xw_S) : Nat → xw_S → Int → Option xw_S
  | 0, _, _ => none
  | n + 1, s51, i6_124 =>
    xw_bn2 (f_MD_sizeOf fu s51 c3_124) (fun s52 r54 => xw_grd (xw_r i6_124 ∧ xw_r r54) (xw_if (r54 ≤ i6_124) (k159 s52)
     (xw_bn2 (f_MD_branches fu s52 c3_124) (fun s57 r59 => xw_grd (xw_r r59) (xw_if (r59 = 0) (xw_bn2 (f_MD_op fu s57 c1_124 (c2_124 + i6_124)) (fun s62 r64 => xw_bnd (f_MD_emit fu s62 r64) (fun s65 => xw_let (i6_124 + 1) (fun v68 => lp_MD_emitOne_124 fu c1_124 c2_124 c3_124 k159 n s65 v68))))
     (k159 s57))))))
def f_MD_emitOne (fu : Nat) (s0 : xw_S) (p1 : Int) (p2 : Int) : Option xw_S :=
 xw_bn2 (f_MD_op fu s0 p1 p2) (fun s1 r3 => xw_bn2 (f_MD_branches fu s1 r3) (fun s4 r6 => xw_jn (fun (s14 : xw_S) (i3_36 : Int) (t0_36 : Int) => xw_grd ((0 ≤ p2 ∧ p2 < ((121 : Nat) : Int))) (xw_jn (fun (s23 : xw_S) (i3_64 : Int) (i4_64 : Int) (t0_64 : Int) => xw_grd ((0 ≤ p2 ∧ p2 < ((121 : Nat) : Int))) (xw_jn (fun (s27 : xw_S) (i3_84 : Int) (i4_84 : Int) (i5_84 : Int) (t0_84 : Int) => xw_bnd (f_MD_emit fu s27 t0_84) (fun s28 => xw_bn2 (f_MD_branches fu s28 i3_84) (fun s31 r33 => xw_jn (fun (s41 : xw_S) (i3_108 : Int) (i4_108 : Int) => xw_bn2 (f_MD_branches fu s41 i3_108) (fun s42 r44 => xw_jn (fun (s50 : xw_S) (i3_121 : Int) => xw_jn (fun (s70 : xw_S) => some s70)
 (fun (k159 : xw_S → Option xw_S) => lp_MD_emitOne_124 fu p1 p2 i3_121 k159 fu s50 1))
 (fun (j121 : xw_S → Int → Option xw_S) => xw_grd (xw_r r44) (xw_if (r44 = 0) (j121 s42 i3_108)
 (xw_bnd (f_MD_emit fu s42 i4_108) (fun s47 => j121 s47 i3_108))))))
 (fun (j108 : xw_S → Int → Int → Option xw_S) => xw_grd (xw_r r33) (xw_if (r33 = 0) (j108 s31 i3_84 i4_84)
 (xw_grd (xw_r i5_84) (xw_if (i5_84 = 0) (j108 s31 i3_84 i4_84)
 (xw_bnd (f_MD_emit fu s31 (xw_hr i4_84 8)) (fun s38 => j108 s38 i3_84 i4_84)))))))))
 (fun (j84 : xw_S → Int → Int → Int → Int → Option xw_S) => xw_grd (xw_r (s23.1 18 (p2).toNat)) (xw_if (s23.1 18 (p2).toNat = 0) (j84 s23 i3_64 i4_64 t0_64 i3_64)
 (j84 s23 i3_64 i4_64 t0_64 (i3_64 + 10))))))
 (fun (j64 : xw_S → Int → Int → Int → Option xw_S) => xw_jn (fun (s22 : xw_S) (i3_59 : Int) (i4_59 : Int) => j64 s22 i3_59 i4_59 1)
 (fun (j59 : xw_S → Int → Int → Option xw_S) => xw_grd (xw_r (s14.1 18 (p2).toNat)) (xw_if (s14.1 18 (p2).toNat = 0) (xw_jn (fun (s21 : xw_S) (i3_63 : Int) (i4_63 : Int) => j64 s21 i3_63 i4_63 0)
 (fun (j63 : xw_S → Int → Int → Option xw_S) => xw_grd (xw_r i3_36) (xw_if (i3_36 < 20) (j63 s14 i3_36 t0_36)
 (xw_if (22 < i3_36) (j63 s14 i3_36 t0_36)
 (j59 s14 i3_36 t0_36)))))
 (j59 s14 i3_36 t0_36))))))
 (fun (j36 : xw_S → Int → Int → Option xw_S) => xw_grd (xw_r r6) (xw_if (r6 = 0) (j36 s4 r3 0)
 (xw_bn2 (f_MD_target fu s4 p1 p2) (fun s9 r11 => xw_grd ((0 ≤ r11 ∧ r11 < ((121 : Nat) : Int))) (xw_grd ((0 ≤ p2 ∧ p2 < ((121 : Nat) : Int))) (j36 s9 r3 ((s9.1 19 (r11).toNat) - (s9.1 20 (p2).toNat))))))))))
set_option maxRecDepth 100000 in
set_option maxHeartbeats 4000000 in
theorem c_MD_emitOne (l : Launch) (D : va_G) (A : Nat → Prop) (ad : Nat → Nat) (cs : Nat → ClassId) (Z : va_W) (tt : Nat → Nat) (fu : Nat) (s0 sZ : xw_S) (p1 : Int) (p2 : Int) (h : f_MD_emitOne fu s0 p1 p2 = some sZ) : Met l y_MD_emitOne w_MD_emitOne ({ frames := 2, cells := 0, slots := 0, locals := 44 }) (va_Pc [.ref (ad 0), .int (xw_i p1), .int (xw_i p2)] (xw_H D vwCl A kdR 29 ad cs Z tt s0)) (va_Qv (fun u => u = sZ) (xw_H D vwCl A kdR 29 ad cs Z tt) A) 0 0 A := by
  refine Met.ofW (cc := b_MD_emitOne) (maxL := 7) (ret := none) (by decide) rfl ?_
  intro p e s m args below meth c s₁ B hml hv
  obtain ⟨rfl, hP, hK, hD, hX⟩ := hv
  have hx := B.exec
  have hb := B.bytes
  have hr := B.returns
  have hts0 := atoms_spec (ws := w_MD_emitOne) B.pre
  have hts := fun w (hw : w ∈ wAll) => hts0 w (List.mem_cons_of_mem _ hw)
  have hown : s.vm.findClass "AdviceWeaverModel" = some m.cls := findClass_of_methodNamed B.named
  have hlk := B.notSynchronized
  clear hts0 B
  have hS : va_S A s.heap s.heap [] := va_S.rf
  have hl := lv_entry [.ref (ad 0), .int (xw_i p1), .int (xw_i p2)] (n := 7) (Nat.le_of_ble_eq_true rfl)
  rw [lg_entry_eq]
  generalize (lg_sl [.ref (ad 0), .int (xw_i p1), .int (xw_i p2)] ++ List.replicate (7 - (lg_sl [.ref (ad 0), .int (xw_i p1), .int (xw_i p2)]).length) Slot.unset).toArray = ls at hl ⊢
  have hl : lv_has ls 7 [(0, .ref (ad 0)), (1, .int (xw_i p1)), (2, .int (xw_i p2))] := hl
  have hlp124 : ∀ (c1_124 : Int) (c2_124 : Int) (c3_124 : Int) (k159 : xw_S → Option xw_S) (hk159 : ∀ (sq : xw_S), k159 sq = some sZ → ∀ (H : Heap) (locs : List Loc) (ls : Array Slot), va_P D vwCl (xw_ws kdR 29 ad cs Z sq) H → va_S A s.heap H locs → lv_has ls 7 [] → W p l e (headSpec w_MD_emitOne ({ frames := 2, cells := 0, slots := 0, locals := 44 })).room s m [.ref (ad 0), .int (xw_i p1), .int (xw_i p2)].toArray below meth c H locs 0 0 (MQ below (va_Qv (fun u => u = sZ) (xw_H D vwCl A kdR 29 ad cs Z tt) A) [.ref (ad 0), .int (xw_i p1), .int (xw_i p2)].toArray s 0 0 A) (F0 m 159 ls [])) (n : Nat), ∀ (sq : xw_S) (i6_124 : Int), lp_MD_emitOne_124 fu c1_124 c2_124 c3_124 k159 n sq i6_124 = some sZ → ∀ (H : Heap) (locs : List Loc) (ls : Array Slot), va_P D vwCl (xw_ws kdR 29 ad cs Z sq) H → va_S A s.heap H locs → lv_has ls 7 [(0, .ref (ad 0)), (1, .int (xw_i c1_124)), (2, .int (xw_i c2_124)), (3, .int (xw_i c3_124)), (6, .int (xw_i i6_124))] → W p l e (headSpec w_MD_emitOne ({ frames := 2, cells := 0, slots := 0, locals := 44 })).room s m [.ref (ad 0), .int (xw_i p1), .int (xw_i p2)].toArray below meth c H locs 0 0 (MQ below (va_Qv (fun u => u = sZ) (xw_H D vwCl A kdR 29 ad cs Z tt) A) [.ref (ad 0), .int (xw_i p1), .int (xw_i p2)].toArray s 0 0 A) (F0 m 124 ls []) := by
    intro c1_124 c2_124 c3_124 k159 hk159 n
    induction n with
    | zero =>
      intro sq i6_124 h
      cases (show (none : Option xw_S) = some sZ from h)
    | succ n ih124 =>
      intro s51 i6_124 h H locs ls hP hS hl
      unfold lp_MD_emitOne_124 at h
      refine lv_iload hx hb d_MD_emitOne_124 (lv_at hl 4 rfl) ?_
      refine lv_iload_n hx hb d_MD_emitOne_126 rfl (lv_at hl 3 rfl) ?_
      obtain ⟨s52, r54, hc53, h⟩ := xw_bn2I h
      refine xw_callSi ⟨hx, hb, hml, hown, hts⟩ (c_MD_sizeOf l D A ad cs Z tt fu s51 s52 c3_124 r54 hc53) (va_cwS 1 hts (gd_S hw_456 hw_457 hw_433 hw_458) rfl rfl rfl (by decide +kernel) ⟨Nat.le_of_ble_eq_true rfl, Nat.le_of_ble_eq_true rfl⟩) hP hK hD hX hS rfl hl.1 rfl (Nat.le_of_ble_eq_true rfl) d_MD_emitOne_127 (fun H locs hP hS => ?_)
      obtain ⟨hg55, h⟩ := xw_grdI h
      refine xw_icmp_ge (tgt := 159) hx hb hg55.1 hg55.2 d_MD_emitOne_130 (by decide) (fun hc56 => ?_) (fun hc56 => ?_)
      · replace h := xw_ifT hc56 h
        exact hk159 s52 h _ _ _ hP hS (lv_sub hl [] rfl)
      · replace h := xw_ifF hc56 h
        refine lv_iload_n hx hb d_MD_emitOne_133 rfl (lv_at hl 3 rfl) ?_
        obtain ⟨s57, r59, hc58, h⟩ := xw_bn2I h
        refine xw_callSi ⟨hx, hb, hml, hown, hts⟩ (c_MD_branches l D A ad cs Z tt fu s52 s57 c3_124 r59 hc58) (va_cwS 1 hts (gd_S hw_467 hw_468 hw_433 hw_469) rfl rfl rfl (by decide +kernel) ⟨Nat.le_of_ble_eq_true rfl, Nat.le_of_ble_eq_true rfl⟩) hP hK hD hX hS rfl hl.1 rfl (Nat.le_of_ble_eq_true rfl) d_MD_emitOne_134 (fun H locs hP hS => ?_)
        obtain ⟨hg60, h⟩ := xw_grdI h
        refine xw_if_ne (tgt := 159) hx hb hg60 d_MD_emitOne_137 (by decide) (fun hc61 => ?_) (fun hc61 => ?_)
        · replace h := xw_ifF hc61 h
          exact hk159 s57 h _ _ _ hP hS (lv_sub hl [] rfl)
        · replace h := xw_ifT hc61 h
          refine lv_aload_n hx hb d_MD_emitOne_140 rfl (lv_at hl 0 rfl) ?_
          refine lv_aload_n hx hb d_MD_emitOne_141 rfl (lv_at hl 0 rfl) ?_
          refine lv_iload_n hx hb d_MD_emitOne_142 rfl (lv_at hl 1 rfl) ?_
          refine lv_iload_n hx hb d_MD_emitOne_143 rfl (lv_at hl 2 rfl) ?_
          refine lv_iload hx hb d_MD_emitOne_144 (lv_at hl 4 rfl) ?_
          refine xw_iadd hx hb d_MD_emitOne_146 ?_
          obtain ⟨s62, r64, hc63, h⟩ := xw_bn2I h
          refine xw_callVi (C := "AdviceWeaverModel") (T := T_MD) ⟨hx, hb, hml, hown, hts⟩ (c_MD_op l D A ad cs Z tt fu s57 s62 c1_124 (c2_124 + i6_124) r64 hc63) (cwV 2 hts (gd_V hw_452 hw_453 hw_454 hw_433 hw_455) rfl rfl rfl (by decide +kernel) ⟨Nat.le_of_ble_eq_true rfl, Nat.le_of_ble_eq_true rfl⟩) hP hK hD hX hS (by decide) kr_MD (by decide) rfl rfl hl.1 rfl (Nat.le_of_ble_eq_true rfl) d_MD_emitOne_147 (fun H locs hP hS => ?_)
          obtain ⟨s65, hc66, h⟩ := xw_bndI h
          refine xw_callVv (C := "AdviceWeaverModel") (T := T_MD) ⟨hx, hb, hml, hown, hts⟩ (c_MD_emit l D A ad cs Z tt fu s62 s65 r64 hc66) (cwV 1 hts (gd_V hw_534 hw_535 hw_536 hw_433 hw_537) rfl rfl rfl (by decide +kernel) ⟨Nat.le_of_ble_eq_true rfl, Nat.le_of_ble_eq_true rfl⟩) hP hK hD hX hS (by decide) kr_MD (by decide) rfl rfl hl.1 rfl (Nat.le_of_ble_eq_true rfl) d_MD_emitOne_150 (fun H locs hP hS => ?_)
          obtain ⟨v68, e69⟩ : ∃ z, z = i6_124 + 1 := ⟨_, rfl⟩
          replace h := xw_letI e69 h
          refine xw_iinc (lv' := [(6, .int (xw_i v68)), (0, .ref (ad 0)), (1, .int (xw_i c1_124)), (2, .int (xw_i c2_124)), (3, .int (xw_i c3_124))]) hx hb d_MD_emitOne_153 hl (k := 4) rfl (by decide) (by rw [e69]; rfl) (fun ls hl => ?_)
          refine lv_goto (tgt := 124) hx hb d_MD_emitOne_156 (by decide) ?_
          exact ih124 s65 v68 h _ _ _ hP hS (lv_sub hl [1, 2, 3, 4, 0] rfl)
  unfold f_MD_emitOne at h
  refine lv_aload_n hx hb d_MD_emitOne_0 rfl (lv_at hl 0 rfl) ?_
  refine lv_iload_n hx hb d_MD_emitOne_1 rfl (lv_at hl 1 rfl) ?_
  refine lv_iload_n hx hb d_MD_emitOne_2 rfl (lv_at hl 2 rfl) ?_
  obtain ⟨s1, r3, hc2, h⟩ := xw_bn2I h
  refine xw_callVi (C := "AdviceWeaverModel") (T := T_MD) ⟨hx, hb, hml, hown, hts⟩ (c_MD_op l D A ad cs Z tt fu s0 s1 p1 p2 r3 hc2) (cwV 2 hts (gd_V hw_452 hw_453 hw_454 hw_433 hw_455) rfl rfl rfl (by decide +kernel) ⟨Nat.le_of_ble_eq_true rfl, Nat.le_of_ble_eq_true rfl⟩) hP hK hD hX hS (by decide) kr_MD (by decide) rfl rfl hl.1 rfl (Nat.le_of_ble_eq_true rfl) d_MD_emitOne_3 (fun H locs hP hS => ?_)
  refine lv_istore_n hx hb d_MD_emitOne_6 rfl hl (by decide) rfl (fun ls hl => ?_)
  refine lv_iload_n hx hb d_MD_emitOne_7 rfl (lv_at hl 0 rfl) ?_
  obtain ⟨s4, r6, hc5, h⟩ := xw_bn2I h
  refine xw_callSi ⟨hx, hb, hml, hown, hts⟩ (c_MD_branches l D A ad cs Z tt fu s1 s4 r3 r6 hc5) (va_cwS 1 hts (gd_S hw_467 hw_468 hw_433 hw_469) rfl rfl rfl (by decide +kernel) ⟨Nat.le_of_ble_eq_true rfl, Nat.le_of_ble_eq_true rfl⟩) hP hK hD hX hS rfl hl.1 rfl (Nat.le_of_ble_eq_true rfl) d_MD_emitOne_8 (fun H locs hP hS => ?_)
  refine xw_jnI (fun j => ∀ (sq : xw_S) (i3_36 : Int) (t0_36 : Int), j sq i3_36 t0_36 = some sZ → ∀ (H : Heap) (locs : List Loc) (ls : Array Slot), va_P D vwCl (xw_ws kdR 29 ad cs Z sq) H → va_S A s.heap H locs → lv_has ls 7 [(0, .ref (ad 0)), (1, .int (xw_i p1)), (2, .int (xw_i p2)), (3, .int (xw_i i3_36))] → W p l e (headSpec w_MD_emitOne ({ frames := 2, cells := 0, slots := 0, locals := 44 })).room s m [.ref (ad 0), .int (xw_i p1), .int (xw_i p2)].toArray below meth c H locs 0 0 (MQ below (va_Qv (fun u => u = sZ) (xw_H D vwCl A kdR 29 ad cs Z tt) A) [.ref (ad 0), .int (xw_i p1), .int (xw_i p2)].toArray s 0 0 A) (F0 m 36 ls [.int (xw_i t0_36)])) h ?_ ?_
  · intro s14 i3_36 t0_36 h H locs ls hP hS hl
    refine lv_istore hx hb d_MD_emitOne_36 hl (by decide) rfl (fun ls hl => ?_)
    refine lv_aload_n hx hb d_MD_emitOne_38 rfl (lv_at hl 1 rfl) ?_
    refine xw_getR (C := "AdviceWeaverModel") (T := T_MD) hx hb hts hin_MD hown hK hP (by decide) kr_MD (by decide) rfl 26 (by decide) (hts _ hw_531) (fun _ h9 => h9) rfl d_MD_emitOne_39 ?_
    refine lv_iload_n hx hb d_MD_emitOne_42 rfl (lv_at hl 3 rfl) ?_
    obtain ⟨hg15, h⟩ := xw_grdI h
    refine xw_zald hx hb hK hP (by decide) kr_m_wide (by decide) hg15 d_MD_emitOne_43 ?_
    refine xw_jnI (fun j => ∀ (sq : xw_S) (i3_64 : Int) (i4_64 : Int) (t0_64 : Int), j sq i3_64 i4_64 t0_64 = some sZ → ∀ (H : Heap) (locs : List Loc) (ls : Array Slot), va_P D vwCl (xw_ws kdR 29 ad cs Z sq) H → va_S A s.heap H locs → lv_has ls 7 [(0, .ref (ad 0)), (1, .int (xw_i p1)), (2, .int (xw_i p2)), (3, .int (xw_i i3_64)), (4, .int (xw_i i4_64))] → W p l e (headSpec w_MD_emitOne ({ frames := 2, cells := 0, slots := 0, locals := 44 })).room s m [.ref (ad 0), .int (xw_i p1), .int (xw_i p2)].toArray below meth c H locs 0 0 (MQ below (va_Qv (fun u => u = sZ) (xw_H D vwCl A kdR 29 ad cs Z tt) A) [.ref (ad 0), .int (xw_i p1), .int (xw_i p2)].toArray s 0 0 A) (F0 m 64 ls [.int (xw_i t0_64)])) h ?_ ?_
    · intro s23 i3_64 i4_64 t0_64 h H locs ls hP hS hl
      refine lv_istore hx hb d_MD_emitOne_64 hl (by decide) rfl (fun ls hl => ?_)
      refine lv_aload_n hx hb d_MD_emitOne_66 rfl (lv_at hl 1 rfl) ?_
      refine lv_aload_n hx hb d_MD_emitOne_67 rfl (lv_at hl 1 rfl) ?_
      refine xw_getR (C := "AdviceWeaverModel") (T := T_MD) hx hb hts hin_MD hown hK hP (by decide) kr_MD (by decide) rfl 26 (by decide) (hts _ hw_531) (fun _ h9 => h9) rfl d_MD_emitOne_68 ?_
      refine lv_iload_n hx hb d_MD_emitOne_71 rfl (lv_at hl 3 rfl) ?_
      obtain ⟨hg24, h⟩ := xw_grdI h
      refine xw_zald hx hb hK hP (by decide) kr_m_wide (by decide) hg24 d_MD_emitOne_72 ?_
      refine xw_jnI (fun j => ∀ (sq : xw_S) (i3_84 : Int) (i4_84 : Int) (i5_84 : Int) (t0_84 : Int), j sq i3_84 i4_84 i5_84 t0_84 = some sZ → ∀ (H : Heap) (locs : List Loc) (ls : Array Slot), va_P D vwCl (xw_ws kdR 29 ad cs Z sq) H → va_S A s.heap H locs → lv_has ls 7 [(0, .ref (ad 0)), (1, .int (xw_i p1)), (2, .int (xw_i p2)), (3, .int (xw_i i3_84)), (4, .int (xw_i i4_84)), (5, .int (xw_i i5_84))] → W p l e (headSpec w_MD_emitOne ({ frames := 2, cells := 0, slots := 0, locals := 44 })).room s m [.ref (ad 0), .int (xw_i p1), .int (xw_i p2)].toArray below meth c H locs 0 0 (MQ below (va_Qv (fun u => u = sZ) (xw_H D vwCl A kdR 29 ad cs Z tt) A) [.ref (ad 0), .int (xw_i p1), .int (xw_i p2)].toArray s 0 0 A) (F0 m 84 ls [.int (xw_i t0_84), .ref (ad 0)])) h ?_ ?_
      · intro s27 i3_84 i4_84 i5_84 t0_84 h H locs ls hP hS hl
        obtain ⟨s28, hc29, h⟩ := xw_bndI h
        refine xw_callVv (C := "AdviceWeaverModel") (T := T_MD) ⟨hx, hb, hml, hown, hts⟩ (c_MD_emit l D A ad cs Z tt fu s27 s28 t0_84 hc29) (cwV 1 hts (gd_V hw_534 hw_535 hw_536 hw_433 hw_537) rfl rfl rfl (by decide +kernel) ⟨Nat.le_of_ble_eq_true rfl, Nat.le_of_ble_eq_true rfl⟩) hP hK hD hX hS (by decide) kr_MD (by decide) rfl rfl hl.1 rfl (Nat.le_of_ble_eq_true rfl) d_MD_emitOne_84 (fun H locs hP hS => ?_)
        refine lv_iload_n hx hb d_MD_emitOne_87 rfl (lv_at hl 3 rfl) ?_
        obtain ⟨s31, r33, hc32, h⟩ := xw_bn2I h
        refine xw_callSi ⟨hx, hb, hml, hown, hts⟩ (c_MD_branches l D A ad cs Z tt fu s28 s31 i3_84 r33 hc32) (va_cwS 1 hts (gd_S hw_467 hw_468 hw_433 hw_469) rfl rfl rfl (by decide +kernel) ⟨Nat.le_of_ble_eq_true rfl, Nat.le_of_ble_eq_true rfl⟩) hP hK hD hX hS rfl hl.1 rfl (Nat.le_of_ble_eq_true rfl) d_MD_emitOne_88 (fun H locs hP hS => ?_)
        refine xw_jnI (fun j => ∀ (sq : xw_S) (i3_108 : Int) (i4_108 : Int), j sq i3_108 i4_108 = some sZ → ∀ (H : Heap) (locs : List Loc) (ls : Array Slot), va_P D vwCl (xw_ws kdR 29 ad cs Z sq) H → va_S A s.heap H locs → lv_has ls 7 [(0, .ref (ad 0)), (1, .int (xw_i p1)), (2, .int (xw_i p2)), (3, .int (xw_i i3_108)), (4, .int (xw_i i4_108))] → W p l e (headSpec w_MD_emitOne ({ frames := 2, cells := 0, slots := 0, locals := 44 })).room s m [.ref (ad 0), .int (xw_i p1), .int (xw_i p2)].toArray below meth c H locs 0 0 (MQ below (va_Qv (fun u => u = sZ) (xw_H D vwCl A kdR 29 ad cs Z tt) A) [.ref (ad 0), .int (xw_i p1), .int (xw_i p2)].toArray s 0 0 A) (F0 m 108 ls [])) h ?_ ?_
        · intro s41 i3_108 i4_108 h H locs ls hP hS hl
          refine lv_iload_n hx hb d_MD_emitOne_108 rfl (lv_at hl 3 rfl) ?_
          obtain ⟨s42, r44, hc43, h⟩ := xw_bn2I h
          refine xw_callSi ⟨hx, hb, hml, hown, hts⟩ (c_MD_branches l D A ad cs Z tt fu s41 s42 i3_108 r44 hc43) (va_cwS 1 hts (gd_S hw_467 hw_468 hw_433 hw_469) rfl rfl rfl (by decide +kernel) ⟨Nat.le_of_ble_eq_true rfl, Nat.le_of_ble_eq_true rfl⟩) hP hK hD hX hS rfl hl.1 rfl (Nat.le_of_ble_eq_true rfl) d_MD_emitOne_109 (fun H locs hP hS => ?_)
          refine xw_jnI (fun j => ∀ (sq : xw_S) (i3_121 : Int), j sq i3_121 = some sZ → ∀ (H : Heap) (locs : List Loc) (ls : Array Slot), va_P D vwCl (xw_ws kdR 29 ad cs Z sq) H → va_S A s.heap H locs → lv_has ls 7 [(0, .ref (ad 0)), (1, .int (xw_i p1)), (2, .int (xw_i p2)), (3, .int (xw_i i3_121))] → W p l e (headSpec w_MD_emitOne ({ frames := 2, cells := 0, slots := 0, locals := 44 })).room s m [.ref (ad 0), .int (xw_i p1), .int (xw_i p2)].toArray below meth c H locs 0 0 (MQ below (va_Qv (fun u => u = sZ) (xw_H D vwCl A kdR 29 ad cs Z tt) A) [.ref (ad 0), .int (xw_i p1), .int (xw_i p2)].toArray s 0 0 A) (F0 m 121 ls [])) h ?_ ?_
          · intro s50 i3_121 h H locs ls hP hS hl
            refine lv_iconst (v := xw_i 1) hx hb d_MD_emitOne_121 rfl ?_
            refine lv_istore hx hb d_MD_emitOne_122 hl (by decide) rfl (fun ls hl => ?_)
            refine xw_jnI (fun j => ∀ (sq : xw_S), j sq = some sZ → ∀ (H : Heap) (locs : List Loc) (ls : Array Slot), va_P D vwCl (xw_ws kdR 29 ad cs Z sq) H → va_S A s.heap H locs → lv_has ls 7 [] → W p l e (headSpec w_MD_emitOne ({ frames := 2, cells := 0, slots := 0, locals := 44 })).room s m [.ref (ad 0), .int (xw_i p1), .int (xw_i p2)].toArray below meth c H locs 0 0 (MQ below (va_Qv (fun u => u = sZ) (xw_H D vwCl A kdR 29 ad cs Z tt) A) [.ref (ad 0), .int (xw_i p1), .int (xw_i p2)].toArray s 0 0 A) (F0 m 159 ls [])) h ?_ ?_
            · intro s70 h H locs ls hP hS hl
              exact xw_vretE hx hb hr hlk hP hK hD hX hS h d_MD_emitOne_159
            · intro k159 hk159 h
              exact hlp124 p1 p2 i3_121 k159 hk159 fu s50 1 h _ _ _ hP hS (lv_sub hl [1, 2, 3, 4, 0] rfl)
          · intro j121 hj121 h
            obtain ⟨hg45, h⟩ := xw_grdI h
            refine xw_if_eq (tgt := 121) hx hb hg45 d_MD_emitOne_112 (by decide) (fun hc46 => ?_) (fun hc46 => ?_)
            · replace h := xw_ifT hc46 h
              exact hj121 s42 i3_108 h _ _ _ hP hS (lv_sub hl [0, 1, 2, 3] rfl)
            · replace h := xw_ifF hc46 h
              refine lv_aload_n hx hb d_MD_emitOne_115 rfl (lv_at hl 0 rfl) ?_
              refine lv_iload hx hb d_MD_emitOne_116 (lv_at hl 4 rfl) ?_
              obtain ⟨s47, hc48, h⟩ := xw_bndI h
              refine xw_callVv (C := "AdviceWeaverModel") (T := T_MD) ⟨hx, hb, hml, hown, hts⟩ (c_MD_emit l D A ad cs Z tt fu s42 s47 i4_108 hc48) (cwV 1 hts (gd_V hw_534 hw_535 hw_536 hw_433 hw_537) rfl rfl rfl (by decide +kernel) ⟨Nat.le_of_ble_eq_true rfl, Nat.le_of_ble_eq_true rfl⟩) hP hK hD hX hS (by decide) kr_MD (by decide) rfl rfl hl.1 rfl (Nat.le_of_ble_eq_true rfl) d_MD_emitOne_118 (fun H locs hP hS => ?_)
              exact hj121 s47 i3_108 h _ _ _ hP hS (lv_sub hl [0, 1, 2, 3] rfl)
        · intro j108 hj108 h
          obtain ⟨hg34, h⟩ := xw_grdI h
          refine xw_if_eq (tgt := 108) hx hb hg34 d_MD_emitOne_91 (by decide) (fun hc35 => ?_) (fun hc35 => ?_)
          · replace h := xw_ifT hc35 h
            exact hj108 s31 i3_84 i4_84 h _ _ _ hP hS (lv_sub hl [0, 1, 2, 3, 4] rfl)
          · replace h := xw_ifF hc35 h
            refine lv_iload hx hb d_MD_emitOne_94 (lv_at hl 5 rfl) ?_
            obtain ⟨hg36, h⟩ := xw_grdI h
            refine xw_if_eq (tgt := 108) hx hb hg36 d_MD_emitOne_96 (by decide) (fun hc37 => ?_) (fun hc37 => ?_)
            · replace h := xw_ifT hc37 h
              exact hj108 s31 i3_84 i4_84 h _ _ _ hP hS (lv_sub hl [0, 1, 2, 3, 4] rfl)
            · replace h := xw_ifF hc37 h
              refine lv_aload_n hx hb d_MD_emitOne_99 rfl (lv_at hl 0 rfl) ?_
              refine lv_iload hx hb d_MD_emitOne_100 (lv_at hl 4 rfl) ?_
              refine lv_bipush (v := xw_i 8) hx hb d_MD_emitOne_102 (by decide) ?_
              refine xw_ishr hx hb d_MD_emitOne_104 ?_
              obtain ⟨s38, hc39, h⟩ := xw_bndI h
              refine xw_callVv (C := "AdviceWeaverModel") (T := T_MD) ⟨hx, hb, hml, hown, hts⟩ (c_MD_emit l D A ad cs Z tt fu s31 s38 (xw_hr i4_84 8) hc39) (cwV 1 hts (gd_V hw_534 hw_535 hw_536 hw_433 hw_537) rfl rfl rfl (by decide +kernel) ⟨Nat.le_of_ble_eq_true rfl, Nat.le_of_ble_eq_true rfl⟩) hP hK hD hX hS (by decide) kr_MD (by decide) rfl rfl hl.1 rfl (Nat.le_of_ble_eq_true rfl) d_MD_emitOne_105 (fun H locs hP hS => ?_)
              exact hj108 s38 i3_84 i4_84 h _ _ _ hP hS (lv_sub hl [0, 1, 2, 3, 4] rfl)
      · intro j84 hj84 h
        obtain ⟨hg25, h⟩ := xw_grdI h
        refine xw_if_eq (tgt := 83) hx hb hg25 d_MD_emitOne_73 (by decide) (fun hc26 => ?_) (fun hc26 => ?_)
        · replace h := xw_ifT hc26 h
          refine lv_iload_n hx hb d_MD_emitOne_83 rfl (lv_at hl 4 rfl) ?_
          exact hj84 s23 i3_64 i4_64 t0_64 i3_64 h _ _ _ hP hS (lv_sub hl [1, 2, 3, 4, 5, 0] rfl)
        · replace h := xw_ifF hc26 h
          refine lv_iload_n hx hb d_MD_emitOne_76 rfl (lv_at hl 4 rfl) ?_
          refine lv_bipush (v := xw_i 10) hx hb d_MD_emitOne_77 (by decide) ?_
          refine xw_iadd hx hb d_MD_emitOne_79 ?_
          refine lv_goto (tgt := 84) hx hb d_MD_emitOne_80 (by decide) ?_
          exact hj84 s23 i3_64 i4_64 t0_64 (i3_64 + 10) h _ _ _ hP hS (lv_sub hl [1, 2, 3, 4, 5, 0] rfl)
    · intro j64 hj64 h
      refine xw_jnI (fun j => ∀ (sq : xw_S) (i3_59 : Int) (i4_59 : Int), j sq i3_59 i4_59 = some sZ → ∀ (H : Heap) (locs : List Loc) (ls : Array Slot), va_P D vwCl (xw_ws kdR 29 ad cs Z sq) H → va_S A s.heap H locs → lv_has ls 7 [(0, .ref (ad 0)), (1, .int (xw_i p1)), (2, .int (xw_i p2)), (3, .int (xw_i i3_59)), (4, .int (xw_i i4_59))] → W p l e (headSpec w_MD_emitOne ({ frames := 2, cells := 0, slots := 0, locals := 44 })).room s m [.ref (ad 0), .int (xw_i p1), .int (xw_i p2)].toArray below meth c H locs 0 0 (MQ below (va_Qv (fun u => u = sZ) (xw_H D vwCl A kdR 29 ad cs Z tt) A) [.ref (ad 0), .int (xw_i p1), .int (xw_i p2)].toArray s 0 0 A) (F0 m 59 ls [])) h ?_ ?_
      · intro s22 i3_59 i4_59 h H locs ls hP hS hl
        refine lv_iconst (v := xw_i 1) hx hb d_MD_emitOne_59 rfl ?_
        refine lv_goto (tgt := 64) hx hb d_MD_emitOne_60 (by decide) ?_
        exact hj64 s22 i3_59 i4_59 1 h _ _ _ hP hS (lv_sub hl [0, 1, 2, 3, 4] rfl)
      · intro j59 hj59 h
        obtain ⟨hg16, h⟩ := xw_grdI h
        refine xw_if_ne (tgt := 59) hx hb hg16 d_MD_emitOne_44 (by decide) (fun hc17 => ?_) (fun hc17 => ?_)
        · replace h := xw_ifF hc17 h
          exact hj59 s14 i3_36 t0_36 h _ _ _ hP hS (lv_sub hl [1, 2, 3, 4, 0] rfl)
        · replace h := xw_ifT hc17 h
          refine lv_iload_n hx hb d_MD_emitOne_47 rfl (lv_at hl 4 rfl) ?_
          refine lv_bipush (v := xw_i 20) hx hb d_MD_emitOne_48 (by decide) ?_
          refine xw_jnI (fun j => ∀ (sq : xw_S) (i3_63 : Int) (i4_63 : Int), j sq i3_63 i4_63 = some sZ → ∀ (H : Heap) (locs : List Loc) (ls : Array Slot), va_P D vwCl (xw_ws kdR 29 ad cs Z sq) H → va_S A s.heap H locs → lv_has ls 7 [(0, .ref (ad 0)), (1, .int (xw_i p1)), (2, .int (xw_i p2)), (3, .int (xw_i i3_63)), (4, .int (xw_i i4_63))] → W p l e (headSpec w_MD_emitOne ({ frames := 2, cells := 0, slots := 0, locals := 44 })).room s m [.ref (ad 0), .int (xw_i p1), .int (xw_i p2)].toArray below meth c H locs 0 0 (MQ below (va_Qv (fun u => u = sZ) (xw_H D vwCl A kdR 29 ad cs Z tt) A) [.ref (ad 0), .int (xw_i p1), .int (xw_i p2)].toArray s 0 0 A) (F0 m 63 ls [])) h ?_ ?_
          · intro s21 i3_63 i4_63 h H locs ls hP hS hl
            refine lv_iconst (v := xw_i 0) hx hb d_MD_emitOne_63 rfl ?_
            exact hj64 s21 i3_63 i4_63 0 h _ _ _ hP hS (lv_sub hl [0, 1, 2, 3, 4] rfl)
          · intro j63 hj63 h
            obtain ⟨hg18, h⟩ := xw_grdI h
            refine xw_icmp_lt (tgt := 63) hx hb hg18 (by decide) d_MD_emitOne_50 (by decide) (fun hc19 => ?_) (fun hc19 => ?_)
            · replace h := xw_ifT hc19 h
              exact hj63 s14 i3_36 t0_36 h _ _ _ hP hS (lv_sub hl [1, 2, 3, 4, 0] rfl)
            · replace h := xw_ifF hc19 h
              refine lv_iload_n hx hb d_MD_emitOne_53 rfl (lv_at hl 4 rfl) ?_
              refine lv_bipush (v := xw_i 22) hx hb d_MD_emitOne_54 (by decide) ?_
              refine xw_icmp_gt (tgt := 63) hx hb hg18 (by decide) d_MD_emitOne_56 (by decide) (fun hc20 => ?_) (fun hc20 => ?_)
              · replace h := xw_ifT hc20 h
                exact hj63 s14 i3_36 t0_36 h _ _ _ hP hS (lv_sub hl [1, 2, 3, 4, 0] rfl)
              · replace h := xw_ifF hc20 h
                exact hj59 s14 i3_36 t0_36 h _ _ _ hP hS (lv_sub hl [1, 2, 3, 4, 0] rfl)
  · intro j36 hj36 h
    obtain ⟨hg7, h⟩ := xw_grdI h
    refine xw_if_eq (tgt := 35) hx hb hg7 d_MD_emitOne_11 (by decide) (fun hc8 => ?_) (fun hc8 => ?_)
    · replace h := xw_ifT hc8 h
      refine lv_iconst (v := xw_i 0) hx hb d_MD_emitOne_35 rfl ?_
      exact hj36 s4 r3 0 h _ _ _ hP hS (lv_sub hl [1, 2, 3, 0] rfl)
    · replace h := xw_ifF hc8 h
      refine lv_aload_n hx hb d_MD_emitOne_14 rfl (lv_at hl 1 rfl) ?_
      refine xw_getR (C := "AdviceWeaverModel") (T := T_MD) hx hb hts hin_MD hown hK hP (by decide) kr_MD (by decide) rfl 27 (by decide) (hts _ hw_529) (fun _ h9 => h9) rfl d_MD_emitOne_15 ?_
      refine lv_aload_n hx hb d_MD_emitOne_18 rfl (lv_at hl 1 rfl) ?_
      refine lv_iload_n hx hb d_MD_emitOne_19 rfl (lv_at hl 2 rfl) ?_
      refine lv_iload_n hx hb d_MD_emitOne_20 rfl (lv_at hl 3 rfl) ?_
      obtain ⟨s9, r11, hc10, h⟩ := xw_bn2I h
      refine xw_callVi (C := "AdviceWeaverModel") (T := T_MD) ⟨hx, hb, hml, hown, hts⟩ (c_MD_target l D A ad cs Z tt fu s4 s9 p1 p2 r11 hc10) (cwV 2 hts (gd_V hw_470 hw_471 hw_472 hw_433 hw_473) rfl rfl rfl (by decide +kernel) ⟨Nat.le_of_ble_eq_true rfl, Nat.le_of_ble_eq_true rfl⟩) hP hK hD hX hS (by decide) kr_MD (by decide) rfl rfl hl.1 rfl (Nat.le_of_ble_eq_true rfl) d_MD_emitOne_21 (fun H locs hP hS => ?_)
      obtain ⟨hg12, h⟩ := xw_grdI h
      refine xw_iald hx hb hK hP (by decide) kr_m_lead (by decide) hg12 d_MD_emitOne_24 ?_
      refine lv_aload_n hx hb d_MD_emitOne_25 rfl (lv_at hl 1 rfl) ?_
      refine xw_getR (C := "AdviceWeaverModel") (T := T_MD) hx hb hts hin_MD hown hK hP (by decide) kr_MD (by decide) rfl 28 (by decide) (hts _ hw_530) (fun _ h9 => h9) rfl d_MD_emitOne_26 ?_
      refine lv_iload_n hx hb d_MD_emitOne_29 rfl (lv_at hl 3 rfl) ?_
      obtain ⟨hg13, h⟩ := xw_grdI h
      refine xw_iald hx hb hK hP (by decide) kr_m_own (by decide) hg13 d_MD_emitOne_30 ?_
      refine xw_isub hx hb d_MD_emitOne_31 ?_
      refine lv_goto (tgt := 36) hx hb d_MD_emitOne_32 (by decide) ?_
      exact hj36 s9 r3 ((s9.1 19 (r11).toNat) - (s9.1 20 (p2).toNat)) h _ _ _ hP hS (lv_sub hl [1, 2, 3, 0] rfl)
