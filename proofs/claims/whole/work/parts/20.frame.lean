/-! 20.frame -/
theorem d_FR_begin_0 : decode b_FR_begin 0 = .ok (.aload_n 0, 1) := by decide +kernel
theorem d_FR_begin_1 : decode b_FR_begin 1 = .ok (.iload_n 1, 1) := by decide +kernel
theorem d_FR_begin_2 : decode b_FR_begin 2 = .ok (.putfield 18, 3) := by decide +kernel
theorem d_FR_begin_5 : decode b_FR_begin 5 = .ok (.aload_n 0, 1) := by decide +kernel
theorem d_FR_begin_6 : decode b_FR_begin 6 = .ok (.iconst 0, 1) := by decide +kernel
theorem d_FR_begin_7 : decode b_FR_begin 7 = .ok (.putfield 22, 3) := by decide +kernel
theorem d_FR_begin_10 : decode b_FR_begin 10 = .ok (.aload_n 0, 1) := by decide +kernel
theorem d_FR_begin_11 : decode b_FR_begin 11 = .ok (.iconst 0, 1) := by decide +kernel
theorem d_FR_begin_12 : decode b_FR_begin 12 = .ok (.putfield 25, 3) := by decide +kernel
theorem d_FR_begin_15 : decode b_FR_begin 15 = .ok (.aload_n 0, 1) := by decide +kernel
theorem d_FR_begin_16 : decode b_FR_begin 16 = .ok (.getfield 15, 3) := by decide +kernel
theorem d_FR_begin_19 : decode b_FR_begin 19 = .ok (.iconst 0, 1) := by decide +kernel
theorem d_FR_begin_20 : decode b_FR_begin 20 = .ok (.invokestatic 28, 3) := by decide +kernel
theorem d_FR_begin_23 : decode b_FR_begin 23 = .ok (.iload_n 2, 1) := by decide +kernel
theorem d_FR_begin_24 : decode b_FR_begin 24 = .ok (.ifCond .le 10, 3) := by decide +kernel
theorem d_FR_begin_27 : decode b_FR_begin 27 = .ok (.aload_n 0, 1) := by decide +kernel
theorem d_FR_begin_28 : decode b_FR_begin 28 = .ok (.getfield 15, 3) := by decide +kernel
theorem d_FR_begin_31 : decode b_FR_begin 31 = .ok (.iconst 0, 1) := by decide +kernel
theorem d_FR_begin_32 : decode b_FR_begin 32 = .ok (.iload_n 3, 1) := by decide +kernel
theorem d_FR_begin_33 : decode b_FR_begin 33 = .ok (.iastore, 1) := by decide +kernel
theorem d_FR_begin_34 : decode b_FR_begin 34 = .ok (.iload_n 2, 1) := by decide +kernel
theorem d_FR_begin_35 : decode b_FR_begin 35 = .ok (.iconst 1, 1) := by decide +kernel
theorem d_FR_begin_36 : decode b_FR_begin 36 = .ok (.if_icmp .le 11, 3) := by decide +kernel
theorem d_FR_begin_39 : decode b_FR_begin 39 = .ok (.aload_n 0, 1) := by decide +kernel
theorem d_FR_begin_40 : decode b_FR_begin 40 = .ok (.getfield 15, 3) := by decide +kernel
theorem d_FR_begin_43 : decode b_FR_begin 43 = .ok (.iconst 1, 1) := by decide +kernel
theorem d_FR_begin_44 : decode b_FR_begin 44 = .ok (.iload 4, 2) := by decide +kernel
theorem d_FR_begin_46 : decode b_FR_begin 46 = .ok (.iastore, 1) := by decide +kernel
theorem d_FR_begin_47 : decode b_FR_begin 47 = .ok (.return_, 1) := by decide +kernel
theorem d_FR_pop_0 : decode b_FR_pop 0 = .ok (.aload_n 0, 1) := by decide +kernel
theorem d_FR_pop_1 : decode b_FR_pop 1 = .ok (.getfield 25, 3) := by decide +kernel
theorem d_FR_pop_4 : decode b_FR_pop 4 = .ok (.ifCond .gt 5, 3) := by decide +kernel
theorem d_FR_pop_7 : decode b_FR_pop 7 = .ok (.iconst 0, 1) := by decide +kernel
theorem d_FR_pop_8 : decode b_FR_pop 8 = .ok (.ireturn, 1) := by decide +kernel
theorem d_FR_pop_9 : decode b_FR_pop 9 = .ok (.aload_n 0, 1) := by decide +kernel
theorem d_FR_pop_10 : decode b_FR_pop 10 = .ok (.dup, 1) := by decide +kernel
theorem d_FR_pop_11 : decode b_FR_pop 11 = .ok (.getfield 25, 3) := by decide +kernel
theorem d_FR_pop_14 : decode b_FR_pop 14 = .ok (.iconst 1, 1) := by decide +kernel
theorem d_FR_pop_15 : decode b_FR_pop 15 = .ok (.isub, 1) := by decide +kernel
theorem d_FR_pop_16 : decode b_FR_pop 16 = .ok (.putfield 25, 3) := by decide +kernel
theorem d_FR_pop_19 : decode b_FR_pop 19 = .ok (.aload_n 0, 1) := by decide +kernel
theorem d_FR_pop_20 : decode b_FR_pop 20 = .ok (.getfield 9, 3) := by decide +kernel
theorem d_FR_pop_23 : decode b_FR_pop 23 = .ok (.aload_n 0, 1) := by decide +kernel
theorem d_FR_pop_24 : decode b_FR_pop 24 = .ok (.getfield 25, 3) := by decide +kernel
theorem d_FR_pop_27 : decode b_FR_pop 27 = .ok (.iaload, 1) := by decide +kernel
theorem d_FR_pop_28 : decode b_FR_pop 28 = .ok (.ireturn, 1) := by decide +kernel
theorem d_FR_push_0 : decode b_FR_push 0 = .ok (.aload_n 0, 1) := by decide +kernel
theorem d_FR_push_1 : decode b_FR_push 1 = .ok (.getfield 25, 3) := by decide +kernel
theorem d_FR_push_4 : decode b_FR_push 4 = .ok (.bipush 8, 2) := by decide +kernel
theorem d_FR_push_6 : decode b_FR_push 6 = .ok (.if_icmp .ge 23, 3) := by decide +kernel
theorem d_FR_push_9 : decode b_FR_push 9 = .ok (.aload_n 0, 1) := by decide +kernel
theorem d_FR_push_10 : decode b_FR_push 10 = .ok (.getfield 9, 3) := by decide +kernel
theorem d_FR_push_13 : decode b_FR_push 13 = .ok (.aload_n 0, 1) := by decide +kernel
theorem d_FR_push_14 : decode b_FR_push 14 = .ok (.getfield 25, 3) := by decide +kernel
theorem d_FR_push_17 : decode b_FR_push 17 = .ok (.iload_n 1, 1) := by decide +kernel
theorem d_FR_push_18 : decode b_FR_push 18 = .ok (.iastore, 1) := by decide +kernel
theorem d_FR_push_19 : decode b_FR_push 19 = .ok (.aload_n 0, 1) := by decide +kernel
theorem d_FR_push_20 : decode b_FR_push 20 = .ok (.dup, 1) := by decide +kernel
theorem d_FR_push_21 : decode b_FR_push 21 = .ok (.getfield 25, 3) := by decide +kernel
theorem d_FR_push_24 : decode b_FR_push 24 = .ok (.iconst 1, 1) := by decide +kernel
theorem d_FR_push_25 : decode b_FR_push 25 = .ok (.iadd, 1) := by decide +kernel
theorem d_FR_push_26 : decode b_FR_push 26 = .ok (.putfield 25, 3) := by decide +kernel
theorem d_FR_push_29 : decode b_FR_push 29 = .ok (.return_, 1) := by decide +kernel
theorem d_FR_goOnWith_0 : decode b_FR_goOnWith 0 = .ok (.aload_n 0, 1) := by decide +kernel
theorem d_FR_goOnWith_1 : decode b_FR_goOnWith 1 = .ok (.iconst 0, 1) := by decide +kernel
theorem d_FR_goOnWith_2 : decode b_FR_goOnWith 2 = .ok (.putfield 25, 3) := by decide +kernel
theorem d_FR_goOnWith_5 : decode b_FR_goOnWith 5 = .ok (.aload_n 0, 1) := by decide +kernel
theorem d_FR_goOnWith_6 : decode b_FR_goOnWith 6 = .ok (.iload_n 1, 1) := by decide +kernel
theorem d_FR_goOnWith_7 : decode b_FR_goOnWith 7 = .ok (.invokevirtual 34, 3) := by decide +kernel
theorem d_FR_goOnWith_10 : decode b_FR_goOnWith 10 = .ok (.aload_n 0, 1) := by decide +kernel
theorem d_FR_goOnWith_11 : decode b_FR_goOnWith 11 = .ok (.iload_n 2, 1) := by decide +kernel
theorem d_FR_goOnWith_12 : decode b_FR_goOnWith 12 = .ok (.putfield 22, 3) := by decide +kernel
theorem d_FR_goOnWith_15 : decode b_FR_goOnWith 15 = .ok (.return_, 1) := by decide +kernel
theorem d_FR_getLocal_0 : decode b_FR_getLocal 0 = .ok (.iload_n 1, 1) := by decide +kernel
theorem d_FR_getLocal_1 : decode b_FR_getLocal 1 = .ok (.ifCond .lt 18, 3) := by decide +kernel
theorem d_FR_getLocal_4 : decode b_FR_getLocal 4 = .ok (.iload_n 1, 1) := by decide +kernel
theorem d_FR_getLocal_5 : decode b_FR_getLocal 5 = .ok (.bipush 6, 2) := by decide +kernel
theorem d_FR_getLocal_7 : decode b_FR_getLocal 7 = .ok (.if_icmp .ge 12, 3) := by decide +kernel
theorem d_FR_getLocal_10 : decode b_FR_getLocal 10 = .ok (.aload_n 0, 1) := by decide +kernel
theorem d_FR_getLocal_11 : decode b_FR_getLocal 11 = .ok (.getfield 15, 3) := by decide +kernel
theorem d_FR_getLocal_14 : decode b_FR_getLocal 14 = .ok (.iload_n 1, 1) := by decide +kernel
theorem d_FR_getLocal_15 : decode b_FR_getLocal 15 = .ok (.iaload, 1) := by decide +kernel
theorem d_FR_getLocal_16 : decode b_FR_getLocal 16 = .ok (.goto 4, 3) := by decide +kernel
theorem d_FR_getLocal_19 : decode b_FR_getLocal 19 = .ok (.iconst 0, 1) := by decide +kernel
theorem d_FR_getLocal_20 : decode b_FR_getLocal 20 = .ok (.ireturn, 1) := by decide +kernel
theorem d_FR_setLocal_0 : decode b_FR_setLocal 0 = .ok (.iload_n 1, 1) := by decide +kernel
theorem d_FR_setLocal_1 : decode b_FR_setLocal 1 = .ok (.ifCond .lt 16, 3) := by decide +kernel
theorem d_FR_setLocal_4 : decode b_FR_setLocal 4 = .ok (.iload_n 1, 1) := by decide +kernel
theorem d_FR_setLocal_5 : decode b_FR_setLocal 5 = .ok (.bipush 6, 2) := by decide +kernel
theorem d_FR_setLocal_7 : decode b_FR_setLocal 7 = .ok (.if_icmp .ge 10, 3) := by decide +kernel
theorem d_FR_setLocal_10 : decode b_FR_setLocal 10 = .ok (.aload_n 0, 1) := by decide +kernel
theorem d_FR_setLocal_11 : decode b_FR_setLocal 11 = .ok (.getfield 15, 3) := by decide +kernel
theorem d_FR_setLocal_14 : decode b_FR_setLocal 14 = .ok (.iload_n 1, 1) := by decide +kernel
theorem d_FR_setLocal_15 : decode b_FR_setLocal 15 = .ok (.iload_n 2, 1) := by decide +kernel
theorem d_FR_setLocal_16 : decode b_FR_setLocal 16 = .ok (.iastore, 1) := by decide +kernel
theorem d_FR_setLocal_17 : decode b_FR_setLocal 17 = .ok (.return_, 1) := by decide +kernel
theorem d_FR_doubleTop_0 : decode b_FR_doubleTop 0 = .ok (.aload_n 0, 1) := by decide +kernel
theorem d_FR_doubleTop_1 : decode b_FR_doubleTop 1 = .ok (.invokevirtual 38, 3) := by decide +kernel
theorem d_FR_doubleTop_4 : decode b_FR_doubleTop 4 = .ok (.istore_n 1, 1) := by decide +kernel
theorem d_FR_doubleTop_5 : decode b_FR_doubleTop 5 = .ok (.aload_n 0, 1) := by decide +kernel
theorem d_FR_doubleTop_6 : decode b_FR_doubleTop 6 = .ok (.iload_n 1, 1) := by decide +kernel
theorem d_FR_doubleTop_7 : decode b_FR_doubleTop 7 = .ok (.invokevirtual 34, 3) := by decide +kernel
theorem d_FR_doubleTop_10 : decode b_FR_doubleTop 10 = .ok (.aload_n 0, 1) := by decide +kernel
theorem d_FR_doubleTop_11 : decode b_FR_doubleTop 11 = .ok (.iload_n 1, 1) := by decide +kernel
theorem d_FR_doubleTop_12 : decode b_FR_doubleTop 12 = .ok (.invokevirtual 34, 3) := by decide +kernel
theorem d_FR_doubleTop_15 : decode b_FR_doubleTop 15 = .ok (.return_, 1) := by decide +kernel
def f_FR_begin (fu : Nat) (s0 : xw_S) (f0 : Nat) (p1 : Int) (p2 : Int) (p3 : Int) (p4 : Int) : Option xw_S :=
 xw_let (xw_st s0 (24 + 3 * f0) 3 p1) (fun s1 => xw_let (xw_st s1 (24 + 3 * f0) 4 0) (fun s3 => xw_let (xw_st s3 (24 + 3 * f0) 2 0) (fun s5 => xw_bnd (f_AR_fill fu s5 (26 + 3 * f0) 6 0) (fun s7 => xw_jn (fun (s14 : xw_S) => xw_grd (xw_r p2) (xw_if (p2 ≤ 1) (some s14)
 (xw_let (xw_st s14 (26 + 3 * f0) (1 : Int).toNat p4) (fun s17 => some s17))))
 (fun (j34 : xw_S → Option xw_S) => xw_grd (xw_r p2) (xw_if (p2 ≤ 0) (j34 s7)
 (xw_let (xw_st s7 (26 + 3 * f0) (0 : Int).toNat p3) (fun s12 => j34 s12))))))))
set_option maxRecDepth 100000 in
set_option maxHeartbeats 4000000 in
theorem c_FR_begin (l : Launch) (D : va_G) (A : Nat → Prop) (ad : Nat → Nat) (cs : Nat → ClassId) (Z : va_W) (tt : Nat → Nat) (fu : Nat) (s0 sZ : xw_S) (f0 : Nat) (hb_f0 : f0 < 8) (p1 : Int) (p2 : Int) (p3 : Int) (p4 : Int) (h : f_FR_begin fu s0 f0 p1 p2 p3 p4 = some sZ) : Met l y_FR_begin w_FR_begin ({ frames := 1, cells := 0, slots := 0, locals := 23 }) (va_Pc [.ref (ad (24 + 3 * f0)), .int (xw_i p1), .int (xw_i p2), .int (xw_i p3), .int (xw_i p4)] (xw_H D vwCl A kdC 100 ad cs Z tt s0)) (va_Qv (fun u => u = sZ) (xw_H D vwCl A kdC 100 ad cs Z tt) A) 0 0 A := by
  refine Met.ofW (cc := b_FR_begin) (maxL := 5) (ret := none) (by decide) rfl ?_
  intro p e s m args below meth c s₁ B hml hv
  obtain ⟨rfl, hP, hK, hD, hX⟩ := hv
  have hx := B.exec
  have hb := B.bytes
  have hr := B.returns
  have hts0 := atoms_spec (ws := w_FR_begin) B.pre
  have hts := fun w (hw : w ∈ wAll) => hts0 w (List.mem_cons_of_mem _ hw)
  have hown : s.vm.findClass "AdviceWeaver$Frame" = some m.cls := findClass_of_methodNamed B.named
  have hlk := B.notSynchronized
  clear hts0 B
  have hS : va_S A s.heap s.heap [] := va_S.rf
  have hl := lv_entry [.ref (ad (24 + 3 * f0)), .int (xw_i p1), .int (xw_i p2), .int (xw_i p3), .int (xw_i p4)] (n := 5) (Nat.le_of_ble_eq_true rfl)
  rw [lg_entry_eq]
  generalize (lg_sl [.ref (ad (24 + 3 * f0)), .int (xw_i p1), .int (xw_i p2), .int (xw_i p3), .int (xw_i p4)] ++ List.replicate (5 - (lg_sl [.ref (ad (24 + 3 * f0)), .int (xw_i p1), .int (xw_i p2), .int (xw_i p3), .int (xw_i p4)]).length) Slot.unset).toArray = ls at hl ⊢
  have hl : lv_has ls 5 [(0, .ref (ad (24 + 3 * f0))), (1, .int (xw_i p1)), (2, .int (xw_i p2)), (3, .int (xw_i p3)), (4, .int (xw_i p4))] := hl
  unfold f_FR_begin at h
  refine lv_aload_n hx hb d_FR_begin_0 rfl (lv_at hl 0 rfl) ?_
  refine lv_iload_n hx hb d_FR_begin_1 rfl (lv_at hl 1 rfl) ?_
  refine xw_putI (C := "AdviceWeaver$Frame") (T := T_FR) hx hb hts hin_FR ty_FR ty_FR_ok nm_FR hown hK hP hD hS (by omega) (kc_Frame f0 (by omega)) (by decide) rfl 3 (by decide) (hts _ hw_297) (fun _ h9 => h9) rfl (by decide +kernel) rfl d_FR_begin_2 (fun s1 e2 H locs hP hS => ?_)
  replace h := xw_letI e2 h
  refine lv_aload_n hx hb d_FR_begin_5 rfl (lv_at hl 0 rfl) ?_
  refine lv_iconst (v := xw_i 0) hx hb d_FR_begin_6 rfl ?_
  refine xw_putI (C := "AdviceWeaver$Frame") (T := T_FR) hx hb hts hin_FR ty_FR ty_FR_ok nm_FR hown hK hP hD hS (by omega) (kc_Frame f0 (by omega)) (by decide) rfl 4 (by decide) (hts _ hw_298) (fun _ h9 => h9) rfl (by decide +kernel) rfl d_FR_begin_7 (fun s3 e4 H locs hP hS => ?_)
  replace h := xw_letI e4 h
  refine lv_aload_n hx hb d_FR_begin_10 rfl (lv_at hl 0 rfl) ?_
  refine lv_iconst (v := xw_i 0) hx hb d_FR_begin_11 rfl ?_
  refine xw_putI (C := "AdviceWeaver$Frame") (T := T_FR) hx hb hts hin_FR ty_FR ty_FR_ok nm_FR hown hK hP hD hS (by omega) (kc_Frame f0 (by omega)) (by decide) rfl 2 (by decide) (hts _ hw_299) (fun _ h9 => h9) rfl (by decide +kernel) rfl d_FR_begin_12 (fun s5 e6 H locs hP hS => ?_)
  replace h := xw_letI e6 h
  refine lv_aload_n hx hb d_FR_begin_15 rfl (lv_at hl 0 rfl) ?_
  refine xw_getR (C := "AdviceWeaver$Frame") (T := T_FR) hx hb hts hin_FR hown hK hP (by omega) (kc_Frame f0 (by omega)) (by decide) rfl 1 (by decide) (hts _ hw_300) (fun _ h9 => h9) rfl d_FR_begin_16 ?_
  refine lv_iconst (v := xw_i 0) hx hb d_FR_begin_19 rfl ?_
  obtain ⟨s7, hc8, h⟩ := xw_bndI h
  refine xw_callSv ⟨hx, hb, hml, hown, hts⟩ (c_AR_fill l D A ad cs Z tt fu s5 s7 (26 + 3 * f0) (by omega) 6 ⟨(kc_flocals f0 (by omega)), (by decide)⟩ 0 hc8) (va_cwS 2 hts (gd_S hw_301 hw_191 hw_192 hw_193) rfl rfl rfl (by decide +kernel) ⟨Nat.le_of_ble_eq_true rfl, Nat.le_of_ble_eq_true rfl⟩) hP hK hD hX hS rfl hl.1 rfl (Nat.le_of_ble_eq_true rfl) d_FR_begin_20 (fun H locs hP hS => ?_)
  refine lv_iload_n hx hb d_FR_begin_23 rfl (lv_at hl 2 rfl) ?_
  refine xw_jnI (fun j => ∀ (sq : xw_S), j sq = some sZ → ∀ (H : Heap) (locs : List Loc) (ls : Array Slot), va_P D vwCl (xw_ws kdC 100 ad cs Z sq) H → va_S A s.heap H locs → lv_has ls 5 [(0, .ref (ad (24 + 3 * f0))), (2, .int (xw_i p2)), (4, .int (xw_i p4))] → W p l e (headSpec w_FR_begin ({ frames := 1, cells := 0, slots := 0, locals := 23 })).room s m [.ref (ad (24 + 3 * f0)), .int (xw_i p1), .int (xw_i p2), .int (xw_i p3), .int (xw_i p4)].toArray below meth c H locs 0 0 (MQ below (va_Qv (fun u => u = sZ) (xw_H D vwCl A kdC 100 ad cs Z tt) A) [.ref (ad (24 + 3 * f0)), .int (xw_i p1), .int (xw_i p2), .int (xw_i p3), .int (xw_i p4)].toArray s 0 0 A) (F0 m 34 ls [])) h ?_ ?_
  · intro s14 h H locs ls hP hS hl
    refine lv_iload_n hx hb d_FR_begin_34 rfl (lv_at hl 1 rfl) ?_
    refine lv_iconst (v := xw_i 1) hx hb d_FR_begin_35 rfl ?_
    obtain ⟨hg15, h⟩ := xw_grdI h
    refine xw_icmp_le (tgt := 47) hx hb hg15 (by decide) d_FR_begin_36 (by decide) (fun hc16 => ?_) (fun hc16 => ?_)
    · replace h := xw_ifT hc16 h
      exact xw_vretE hx hb hr hlk hP hK hD hX hS h d_FR_begin_47
    · replace h := xw_ifF hc16 h
      refine lv_aload_n hx hb d_FR_begin_39 rfl (lv_at hl 0 rfl) ?_
      refine xw_getR (C := "AdviceWeaver$Frame") (T := T_FR) hx hb hts hin_FR hown hK hP (by omega) (kc_Frame f0 (by omega)) (by decide) rfl 1 (by decide) (hts _ hw_300) (fun _ h9 => h9) rfl d_FR_begin_40 ?_
      refine lv_iconst (v := xw_i 1) hx hb d_FR_begin_43 rfl ?_
      refine lv_iload hx hb d_FR_begin_44 (lv_at hl 2 rfl) ?_
      refine xw_iast hx hb hK hP hD hS (by omega) (kc_flocals f0 (by omega)) (by decide) (by decide) d_FR_begin_46 (fun s17 e18 H locs hP hS => ?_)
      replace h := xw_letI e18 h
      exact xw_vretE hx hb hr hlk hP hK hD hX hS h d_FR_begin_47
  · intro j34 hj34 h
    obtain ⟨hg10, h⟩ := xw_grdI h
    refine xw_if_le (tgt := 34) hx hb hg10 d_FR_begin_24 (by decide) (fun hc11 => ?_) (fun hc11 => ?_)
    · replace h := xw_ifT hc11 h
      exact hj34 s7 h _ _ _ hP hS (lv_sub hl [0, 2, 4] rfl)
    · replace h := xw_ifF hc11 h
      refine lv_aload_n hx hb d_FR_begin_27 rfl (lv_at hl 0 rfl) ?_
      refine xw_getR (C := "AdviceWeaver$Frame") (T := T_FR) hx hb hts hin_FR hown hK hP (by omega) (kc_Frame f0 (by omega)) (by decide) rfl 1 (by decide) (hts _ hw_300) (fun _ h9 => h9) rfl d_FR_begin_28 ?_
      refine lv_iconst (v := xw_i 0) hx hb d_FR_begin_31 rfl ?_
      refine lv_iload_n hx hb d_FR_begin_32 rfl (lv_at hl 3 rfl) ?_
      refine xw_iast hx hb hK hP hD hS (by omega) (kc_flocals f0 (by omega)) (by decide) (by decide) d_FR_begin_33 (fun s12 e13 H locs hP hS => ?_)
      replace h := xw_letI e13 h
      exact hj34 s12 h _ _ _ hP hS (lv_sub hl [0, 2, 4] rfl)
def f_FR_pop (fu : Nat) (s0 : xw_S) (f0 : Nat) : Option (xw_S × Int) :=
 xw_grd (xw_r (s0.1 (24 + 3 * f0) 2)) (xw_if (0 < s0.1 (24 + 3 * f0) 2) (xw_let (xw_st s0 (24 + 3 * f0) 2 ((s0.1 (24 + 3 * f0) 2) - 1)) (fun s3 => xw_grd ((0 ≤ s3.1 (24 + 3 * f0) 2 ∧ s3.1 (24 + 3 * f0) 2 < ((8 : Nat) : Int))) (some (s3, s3.1 (25 + 3 * f0) (s3.1 (24 + 3 * f0) 2).toNat))))
 (some (s0, 0)))
set_option maxRecDepth 100000 in
set_option maxHeartbeats 4000000 in
theorem c_FR_pop (l : Launch) (D : va_G) (A : Nat → Prop) (ad : Nat → Nat) (cs : Nat → ClassId) (Z : va_W) (tt : Nat → Nat) (fu : Nat) (s0 sZ : xw_S) (f0 : Nat) (hb_f0 : f0 < 8) (r0 : Int) (h : f_FR_pop fu s0 f0 = some (sZ, r0)) : Met l y_FR_pop w_FR_pop ({ frames := 0, cells := 0, slots := 0, locals := 0 }) (va_Pc [.ref (ad (24 + 3 * f0))] (xw_H D vwCl A kdC 100 ad cs Z tt s0)) (va_Qi (fun r u => r = xw_i r0 ∧ u = sZ) (xw_H D vwCl A kdC 100 ad cs Z tt) A) 0 0 A := by
  refine Met.ofW (cc := b_FR_pop) (maxL := 1) (ret := (some .int)) (by decide) rfl ?_
  intro p e s m args below meth c s₁ B hml hv
  obtain ⟨rfl, hP, hK, hD, hX⟩ := hv
  have hx := B.exec
  have hb := B.bytes
  have hr := B.returns
  have hts0 := atoms_spec (ws := w_FR_pop) B.pre
  have hts := fun w (hw : w ∈ wAll) => hts0 w (List.mem_cons_of_mem _ hw)
  have hown : s.vm.findClass "AdviceWeaver$Frame" = some m.cls := findClass_of_methodNamed B.named
  have hlk := B.notSynchronized
  clear hts0 B
  have hS : va_S A s.heap s.heap [] := va_S.rf
  have hl := lv_entry [.ref (ad (24 + 3 * f0))] (n := 1) (Nat.le_of_ble_eq_true rfl)
  rw [lg_entry_eq]
  generalize (lg_sl [.ref (ad (24 + 3 * f0))] ++ List.replicate (1 - (lg_sl [.ref (ad (24 + 3 * f0))]).length) Slot.unset).toArray = ls at hl ⊢
  have hl : lv_has ls 1 [(0, .ref (ad (24 + 3 * f0)))] := hl
  unfold f_FR_pop at h
  refine lv_aload_n hx hb d_FR_pop_0 rfl (lv_at hl 0 rfl) ?_
  refine xw_getI (C := "AdviceWeaver$Frame") (T := T_FR) hx hb hts hin_FR hown hK hP (by omega) (kc_Frame f0 (by omega)) (by decide) rfl 2 (by decide) (hts _ hw_299) (fun _ h9 => h9) rfl d_FR_pop_1 ?_
  obtain ⟨hg1, h⟩ := xw_grdI h
  refine xw_if_gt (tgt := 9) hx hb hg1 d_FR_pop_4 (by decide) (fun hc2 => ?_) (fun hc2 => ?_)
  · replace h := xw_ifT hc2 h
    refine lv_aload_n hx hb d_FR_pop_9 rfl (lv_at hl 0 rfl) ?_
    refine lv_dup hx hb d_FR_pop_10 rfl ?_
    refine xw_getI (C := "AdviceWeaver$Frame") (T := T_FR) hx hb hts hin_FR hown hK hP (by omega) (kc_Frame f0 (by omega)) (by decide) rfl 2 (by decide) (hts _ hw_299) (fun _ h9 => h9) rfl d_FR_pop_11 ?_
    refine lv_iconst (v := xw_i 1) hx hb d_FR_pop_14 rfl ?_
    refine xw_isub hx hb d_FR_pop_15 ?_
    refine xw_putI (C := "AdviceWeaver$Frame") (T := T_FR) hx hb hts hin_FR ty_FR ty_FR_ok nm_FR hown hK hP hD hS (by omega) (kc_Frame f0 (by omega)) (by decide) rfl 2 (by decide) (hts _ hw_299) (fun _ h9 => h9) rfl (by decide +kernel) rfl d_FR_pop_16 (fun s3 e4 H locs hP hS => ?_)
    replace h := xw_letI e4 h
    refine lv_aload_n hx hb d_FR_pop_19 rfl (lv_at hl 0 rfl) ?_
    refine xw_getR (C := "AdviceWeaver$Frame") (T := T_FR) hx hb hts hin_FR hown hK hP (by omega) (kc_Frame f0 (by omega)) (by decide) rfl 0 (by decide) (hts _ hw_304) (fun _ h9 => h9) rfl d_FR_pop_20 ?_
    refine lv_aload_n hx hb d_FR_pop_23 rfl (lv_at hl 0 rfl) ?_
    refine xw_getI (C := "AdviceWeaver$Frame") (T := T_FR) hx hb hts hin_FR hown hK hP (by omega) (kc_Frame f0 (by omega)) (by decide) rfl 2 (by decide) (hts _ hw_299) (fun _ h9 => h9) rfl d_FR_pop_24 ?_
    obtain ⟨hg5, h⟩ := xw_grdI h
    refine xw_iald hx hb hK hP (by omega) (kc_fstack f0 (by omega)) (by decide) hg5 d_FR_pop_27 ?_
    exact xw_iretE hx hb hr hlk hP hK hD hX hS h d_FR_pop_28
  · replace h := xw_ifF hc2 h
    refine lv_iconst (v := xw_i 0) hx hb d_FR_pop_7 rfl ?_
    exact xw_iretE hx hb hr hlk hP hK hD hX hS h d_FR_pop_8
def f_FR_push (fu : Nat) (s0 : xw_S) (f0 : Nat) (p1 : Int) : Option xw_S :=
 xw_grd (xw_r (s0.1 (24 + 3 * f0) 2)) (xw_if (8 ≤ s0.1 (24 + 3 * f0) 2) (some s0)
 (xw_grd ((0 ≤ s0.1 (24 + 3 * f0) 2 ∧ s0.1 (24 + 3 * f0) 2 < ((8 : Nat) : Int))) (xw_let (xw_st s0 (25 + 3 * f0) (s0.1 (24 + 3 * f0) 2).toNat p1) (fun s4 => xw_let (xw_st s4 (24 + 3 * f0) 2 ((s4.1 (24 + 3 * f0) 2) + 1)) (fun s6 => some s6)))))
set_option maxRecDepth 100000 in
set_option maxHeartbeats 4000000 in
theorem c_FR_push (l : Launch) (D : va_G) (A : Nat → Prop) (ad : Nat → Nat) (cs : Nat → ClassId) (Z : va_W) (tt : Nat → Nat) (fu : Nat) (s0 sZ : xw_S) (f0 : Nat) (hb_f0 : f0 < 8) (p1 : Int) (h : f_FR_push fu s0 f0 p1 = some sZ) : Met l y_FR_push w_FR_push ({ frames := 0, cells := 0, slots := 0, locals := 0 }) (va_Pc [.ref (ad (24 + 3 * f0)), .int (xw_i p1)] (xw_H D vwCl A kdC 100 ad cs Z tt s0)) (va_Qv (fun u => u = sZ) (xw_H D vwCl A kdC 100 ad cs Z tt) A) 0 0 A := by
  refine Met.ofW (cc := b_FR_push) (maxL := 2) (ret := none) (by decide) rfl ?_
  intro p e s m args below meth c s₁ B hml hv
  obtain ⟨rfl, hP, hK, hD, hX⟩ := hv
  have hx := B.exec
  have hb := B.bytes
  have hr := B.returns
  have hts0 := atoms_spec (ws := w_FR_push) B.pre
  have hts := fun w (hw : w ∈ wAll) => hts0 w (List.mem_cons_of_mem _ hw)
  have hown : s.vm.findClass "AdviceWeaver$Frame" = some m.cls := findClass_of_methodNamed B.named
  have hlk := B.notSynchronized
  clear hts0 B
  have hS : va_S A s.heap s.heap [] := va_S.rf
  have hl := lv_entry [.ref (ad (24 + 3 * f0)), .int (xw_i p1)] (n := 2) (Nat.le_of_ble_eq_true rfl)
  rw [lg_entry_eq]
  generalize (lg_sl [.ref (ad (24 + 3 * f0)), .int (xw_i p1)] ++ List.replicate (2 - (lg_sl [.ref (ad (24 + 3 * f0)), .int (xw_i p1)]).length) Slot.unset).toArray = ls at hl ⊢
  have hl : lv_has ls 2 [(0, .ref (ad (24 + 3 * f0))), (1, .int (xw_i p1))] := hl
  unfold f_FR_push at h
  refine lv_aload_n hx hb d_FR_push_0 rfl (lv_at hl 0 rfl) ?_
  refine xw_getI (C := "AdviceWeaver$Frame") (T := T_FR) hx hb hts hin_FR hown hK hP (by omega) (kc_Frame f0 (by omega)) (by decide) rfl 2 (by decide) (hts _ hw_299) (fun _ h9 => h9) rfl d_FR_push_1 ?_
  refine lv_bipush (v := xw_i 8) hx hb d_FR_push_4 (by decide) ?_
  obtain ⟨hg1, h⟩ := xw_grdI h
  refine xw_icmp_ge (tgt := 29) hx hb hg1 (by decide) d_FR_push_6 (by decide) (fun hc2 => ?_) (fun hc2 => ?_)
  · replace h := xw_ifT hc2 h
    exact xw_vretE hx hb hr hlk hP hK hD hX hS h d_FR_push_29
  · replace h := xw_ifF hc2 h
    refine lv_aload_n hx hb d_FR_push_9 rfl (lv_at hl 0 rfl) ?_
    refine xw_getR (C := "AdviceWeaver$Frame") (T := T_FR) hx hb hts hin_FR hown hK hP (by omega) (kc_Frame f0 (by omega)) (by decide) rfl 0 (by decide) (hts _ hw_304) (fun _ h9 => h9) rfl d_FR_push_10 ?_
    refine lv_aload_n hx hb d_FR_push_13 rfl (lv_at hl 0 rfl) ?_
    refine xw_getI (C := "AdviceWeaver$Frame") (T := T_FR) hx hb hts hin_FR hown hK hP (by omega) (kc_Frame f0 (by omega)) (by decide) rfl 2 (by decide) (hts _ hw_299) (fun _ h9 => h9) rfl d_FR_push_14 ?_
    refine lv_iload_n hx hb d_FR_push_17 rfl (lv_at hl 1 rfl) ?_
    obtain ⟨hg3, h⟩ := xw_grdI h
    refine xw_iast hx hb hK hP hD hS (by omega) (kc_fstack f0 (by omega)) (by decide) hg3 d_FR_push_18 (fun s4 e5 H locs hP hS => ?_)
    replace h := xw_letI e5 h
    refine lv_aload_n hx hb d_FR_push_19 rfl (lv_at hl 0 rfl) ?_
    refine lv_dup hx hb d_FR_push_20 rfl ?_
    refine xw_getI (C := "AdviceWeaver$Frame") (T := T_FR) hx hb hts hin_FR hown hK hP (by omega) (kc_Frame f0 (by omega)) (by decide) rfl 2 (by decide) (hts _ hw_299) (fun _ h9 => h9) rfl d_FR_push_21 ?_
    refine lv_iconst (v := xw_i 1) hx hb d_FR_push_24 rfl ?_
    refine xw_iadd hx hb d_FR_push_25 ?_
    refine xw_putI (C := "AdviceWeaver$Frame") (T := T_FR) hx hb hts hin_FR ty_FR ty_FR_ok nm_FR hown hK hP hD hS (by omega) (kc_Frame f0 (by omega)) (by decide) rfl 2 (by decide) (hts _ hw_299) (fun _ h9 => h9) rfl (by decide +kernel) rfl d_FR_push_26 (fun s6 e7 H locs hP hS => ?_)
    replace h := xw_letI e7 h
    exact xw_vretE hx hb hr hlk hP hK hD hX hS h d_FR_push_29
def f_FR_goOnWith (fu : Nat) (s0 : xw_S) (f0 : Nat) (p1 : Int) (p2 : Int) : Option xw_S :=
 xw_let (xw_st s0 (24 + 3 * f0) 2 0) (fun s1 => xw_bnd (f_FR_push fu s1 f0 p1) (fun s3 => xw_let (xw_st s3 (24 + 3 * f0) 4 p2) (fun s6 => some s6)))
set_option maxRecDepth 100000 in
set_option maxHeartbeats 4000000 in
theorem c_FR_goOnWith (l : Launch) (D : va_G) (A : Nat → Prop) (ad : Nat → Nat) (cs : Nat → ClassId) (Z : va_W) (tt : Nat → Nat) (fu : Nat) (s0 sZ : xw_S) (f0 : Nat) (hb_f0 : f0 < 8) (p1 : Int) (p2 : Int) (h : f_FR_goOnWith fu s0 f0 p1 p2 = some sZ) : Met l y_FR_goOnWith w_FR_goOnWith ({ frames := 1, cells := 0, slots := 0, locals := 21 }) (va_Pc [.ref (ad (24 + 3 * f0)), .int (xw_i p1), .int (xw_i p2)] (xw_H D vwCl A kdC 100 ad cs Z tt s0)) (va_Qv (fun u => u = sZ) (xw_H D vwCl A kdC 100 ad cs Z tt) A) 0 0 A := by
  refine Met.ofW (cc := b_FR_goOnWith) (maxL := 3) (ret := none) (by decide) rfl ?_
  intro p e s m args below meth c s₁ B hml hv
  obtain ⟨rfl, hP, hK, hD, hX⟩ := hv
  have hx := B.exec
  have hb := B.bytes
  have hr := B.returns
  have hts0 := atoms_spec (ws := w_FR_goOnWith) B.pre
  have hts := fun w (hw : w ∈ wAll) => hts0 w (List.mem_cons_of_mem _ hw)
  have hown : s.vm.findClass "AdviceWeaver$Frame" = some m.cls := findClass_of_methodNamed B.named
  have hlk := B.notSynchronized
  clear hts0 B
  have hS : va_S A s.heap s.heap [] := va_S.rf
  have hl := lv_entry [.ref (ad (24 + 3 * f0)), .int (xw_i p1), .int (xw_i p2)] (n := 3) (Nat.le_of_ble_eq_true rfl)
  rw [lg_entry_eq]
  generalize (lg_sl [.ref (ad (24 + 3 * f0)), .int (xw_i p1), .int (xw_i p2)] ++ List.replicate (3 - (lg_sl [.ref (ad (24 + 3 * f0)), .int (xw_i p1), .int (xw_i p2)]).length) Slot.unset).toArray = ls at hl ⊢
  have hl : lv_has ls 3 [(0, .ref (ad (24 + 3 * f0))), (1, .int (xw_i p1)), (2, .int (xw_i p2))] := hl
  unfold f_FR_goOnWith at h
  refine lv_aload_n hx hb d_FR_goOnWith_0 rfl (lv_at hl 0 rfl) ?_
  refine lv_iconst (v := xw_i 0) hx hb d_FR_goOnWith_1 rfl ?_
  refine xw_putI (C := "AdviceWeaver$Frame") (T := T_FR) hx hb hts hin_FR ty_FR ty_FR_ok nm_FR hown hK hP hD hS (by omega) (kc_Frame f0 (by omega)) (by decide) rfl 2 (by decide) (hts _ hw_299) (fun _ h9 => h9) rfl (by decide +kernel) rfl d_FR_goOnWith_2 (fun s1 e2 H locs hP hS => ?_)
  replace h := xw_letI e2 h
  refine lv_aload_n hx hb d_FR_goOnWith_5 rfl (lv_at hl 0 rfl) ?_
  refine lv_iload_n hx hb d_FR_goOnWith_6 rfl (lv_at hl 1 rfl) ?_
  obtain ⟨s3, hc4, h⟩ := xw_bndI h
  refine xw_callVv (C := "AdviceWeaver$Frame") (T := T_FR) ⟨hx, hb, hml, hown, hts⟩ (c_FR_push l D A ad cs Z tt fu s1 s3 f0 (by omega) p1 hc4) (cwV 1 hts (gd_V hw_329 hw_323 hw_324 hw_310 hw_325) rfl rfl rfl (by decide +kernel) ⟨Nat.le_of_ble_eq_true rfl, Nat.le_of_ble_eq_true rfl⟩) hP hK hD hX hS (by omega) (kc_Frame f0 (by omega)) (by decide) rfl rfl hl.1 rfl (Nat.le_of_ble_eq_true rfl) d_FR_goOnWith_7 (fun H locs hP hS => ?_)
  refine lv_aload_n hx hb d_FR_goOnWith_10 rfl (lv_at hl 0 rfl) ?_
  refine lv_iload_n hx hb d_FR_goOnWith_11 rfl (lv_at hl 2 rfl) ?_
  refine xw_putI (C := "AdviceWeaver$Frame") (T := T_FR) hx hb hts hin_FR ty_FR ty_FR_ok nm_FR hown hK hP hD hS (by omega) (kc_Frame f0 (by omega)) (by decide) rfl 4 (by decide) (hts _ hw_298) (fun _ h9 => h9) rfl (by decide +kernel) rfl d_FR_goOnWith_12 (fun s6 e7 H locs hP hS => ?_)
  replace h := xw_letI e7 h
  exact xw_vretE hx hb hr hlk hP hK hD hX hS h d_FR_goOnWith_15
def f_FR_getLocal (fu : Nat) (s0 : xw_S) (f0 : Nat) (p1 : Int) : Option (xw_S × Int) :=
 xw_grd (xw_r p1) (xw_if (p1 < 0) (some (s0, 0))
 (xw_if (6 ≤ p1) (some (s0, 0))
 (xw_grd ((0 ≤ p1 ∧ p1 < ((6 : Nat) : Int))) (some (s0, s0.1 (26 + 3 * f0) (p1).toNat)))))
set_option maxRecDepth 100000 in
set_option maxHeartbeats 4000000 in
theorem c_FR_getLocal (l : Launch) (D : va_G) (A : Nat → Prop) (ad : Nat → Nat) (cs : Nat → ClassId) (Z : va_W) (tt : Nat → Nat) (fu : Nat) (s0 sZ : xw_S) (f0 : Nat) (hb_f0 : f0 < 8) (p1 : Int) (r0 : Int) (h : f_FR_getLocal fu s0 f0 p1 = some (sZ, r0)) : Met l y_FR_getLocal w_FR_getLocal ({ frames := 0, cells := 0, slots := 0, locals := 0 }) (va_Pc [.ref (ad (24 + 3 * f0)), .int (xw_i p1)] (xw_H D vwCl A kdC 100 ad cs Z tt s0)) (va_Qi (fun r u => r = xw_i r0 ∧ u = sZ) (xw_H D vwCl A kdC 100 ad cs Z tt) A) 0 0 A := by
  refine Met.ofW (cc := b_FR_getLocal) (maxL := 2) (ret := (some .int)) (by decide) rfl ?_
  intro p e s m args below meth c s₁ B hml hv
  obtain ⟨rfl, hP, hK, hD, hX⟩ := hv
  have hx := B.exec
  have hb := B.bytes
  have hr := B.returns
  have hts0 := atoms_spec (ws := w_FR_getLocal) B.pre
  have hts := fun w (hw : w ∈ wAll) => hts0 w (List.mem_cons_of_mem _ hw)
  have hown : s.vm.findClass "AdviceWeaver$Frame" = some m.cls := findClass_of_methodNamed B.named
  have hlk := B.notSynchronized
  clear hts0 B
  have hS : va_S A s.heap s.heap [] := va_S.rf
  have hl := lv_entry [.ref (ad (24 + 3 * f0)), .int (xw_i p1)] (n := 2) (Nat.le_of_ble_eq_true rfl)
  rw [lg_entry_eq]
  generalize (lg_sl [.ref (ad (24 + 3 * f0)), .int (xw_i p1)] ++ List.replicate (2 - (lg_sl [.ref (ad (24 + 3 * f0)), .int (xw_i p1)]).length) Slot.unset).toArray = ls at hl ⊢
  have hl : lv_has ls 2 [(0, .ref (ad (24 + 3 * f0))), (1, .int (xw_i p1))] := hl
  unfold f_FR_getLocal at h
  refine lv_iload_n hx hb d_FR_getLocal_0 rfl (lv_at hl 1 rfl) ?_
  obtain ⟨hg1, h⟩ := xw_grdI h
  refine xw_if_lt (tgt := 19) hx hb hg1 d_FR_getLocal_1 (by decide) (fun hc2 => ?_) (fun hc2 => ?_)
  · replace h := xw_ifT hc2 h
    refine lv_iconst (v := xw_i 0) hx hb d_FR_getLocal_19 rfl ?_
    exact xw_iretE hx hb hr hlk hP hK hD hX hS h d_FR_getLocal_20
  · replace h := xw_ifF hc2 h
    refine lv_iload_n hx hb d_FR_getLocal_4 rfl (lv_at hl 1 rfl) ?_
    refine lv_bipush (v := xw_i 6) hx hb d_FR_getLocal_5 (by decide) ?_
    refine xw_icmp_ge (tgt := 19) hx hb hg1 (by decide) d_FR_getLocal_7 (by decide) (fun hc3 => ?_) (fun hc3 => ?_)
    · replace h := xw_ifT hc3 h
      refine lv_iconst (v := xw_i 0) hx hb d_FR_getLocal_19 rfl ?_
      exact xw_iretE hx hb hr hlk hP hK hD hX hS h d_FR_getLocal_20
    · replace h := xw_ifF hc3 h
      refine lv_aload_n hx hb d_FR_getLocal_10 rfl (lv_at hl 0 rfl) ?_
      refine xw_getR (C := "AdviceWeaver$Frame") (T := T_FR) hx hb hts hin_FR hown hK hP (by omega) (kc_Frame f0 (by omega)) (by decide) rfl 1 (by decide) (hts _ hw_300) (fun _ h9 => h9) rfl d_FR_getLocal_11 ?_
      refine lv_iload_n hx hb d_FR_getLocal_14 rfl (lv_at hl 1 rfl) ?_
      obtain ⟨hg4, h⟩ := xw_grdI h
      refine xw_iald hx hb hK hP (by omega) (kc_flocals f0 (by omega)) (by decide) hg4 d_FR_getLocal_15 ?_
      refine lv_goto (tgt := 20) hx hb d_FR_getLocal_16 (by decide) ?_
      exact xw_iretE hx hb hr hlk hP hK hD hX hS h d_FR_getLocal_20
def f_FR_setLocal (fu : Nat) (s0 : xw_S) (f0 : Nat) (p1 : Int) (p2 : Int) : Option xw_S :=
 xw_grd (xw_r p1) (xw_if (p1 < 0) (some s0)
 (xw_if (6 ≤ p1) (some s0)
 (xw_grd ((0 ≤ p1 ∧ p1 < ((6 : Nat) : Int))) (xw_let (xw_st s0 (26 + 3 * f0) (p1).toNat p2) (fun s5 => some s5)))))
set_option maxRecDepth 100000 in
set_option maxHeartbeats 4000000 in
theorem c_FR_setLocal (l : Launch) (D : va_G) (A : Nat → Prop) (ad : Nat → Nat) (cs : Nat → ClassId) (Z : va_W) (tt : Nat → Nat) (fu : Nat) (s0 sZ : xw_S) (f0 : Nat) (hb_f0 : f0 < 8) (p1 : Int) (p2 : Int) (h : f_FR_setLocal fu s0 f0 p1 p2 = some sZ) : Met l y_FR_setLocal w_FR_setLocal ({ frames := 0, cells := 0, slots := 0, locals := 0 }) (va_Pc [.ref (ad (24 + 3 * f0)), .int (xw_i p1), .int (xw_i p2)] (xw_H D vwCl A kdC 100 ad cs Z tt s0)) (va_Qv (fun u => u = sZ) (xw_H D vwCl A kdC 100 ad cs Z tt) A) 0 0 A := by
  refine Met.ofW (cc := b_FR_setLocal) (maxL := 3) (ret := none) (by decide) rfl ?_
  intro p e s m args below meth c s₁ B hml hv
  obtain ⟨rfl, hP, hK, hD, hX⟩ := hv
  have hx := B.exec
  have hb := B.bytes
  have hr := B.returns
  have hts0 := atoms_spec (ws := w_FR_setLocal) B.pre
  have hts := fun w (hw : w ∈ wAll) => hts0 w (List.mem_cons_of_mem _ hw)
  have hown : s.vm.findClass "AdviceWeaver$Frame" = some m.cls := findClass_of_methodNamed B.named
  have hlk := B.notSynchronized
  clear hts0 B
  have hS : va_S A s.heap s.heap [] := va_S.rf
  have hl := lv_entry [.ref (ad (24 + 3 * f0)), .int (xw_i p1), .int (xw_i p2)] (n := 3) (Nat.le_of_ble_eq_true rfl)
  rw [lg_entry_eq]
  generalize (lg_sl [.ref (ad (24 + 3 * f0)), .int (xw_i p1), .int (xw_i p2)] ++ List.replicate (3 - (lg_sl [.ref (ad (24 + 3 * f0)), .int (xw_i p1), .int (xw_i p2)]).length) Slot.unset).toArray = ls at hl ⊢
  have hl : lv_has ls 3 [(0, .ref (ad (24 + 3 * f0))), (1, .int (xw_i p1)), (2, .int (xw_i p2))] := hl
  unfold f_FR_setLocal at h
  refine lv_iload_n hx hb d_FR_setLocal_0 rfl (lv_at hl 1 rfl) ?_
  obtain ⟨hg1, h⟩ := xw_grdI h
  refine xw_if_lt (tgt := 17) hx hb hg1 d_FR_setLocal_1 (by decide) (fun hc2 => ?_) (fun hc2 => ?_)
  · replace h := xw_ifT hc2 h
    exact xw_vretE hx hb hr hlk hP hK hD hX hS h d_FR_setLocal_17
  · replace h := xw_ifF hc2 h
    refine lv_iload_n hx hb d_FR_setLocal_4 rfl (lv_at hl 1 rfl) ?_
    refine lv_bipush (v := xw_i 6) hx hb d_FR_setLocal_5 (by decide) ?_
    refine xw_icmp_ge (tgt := 17) hx hb hg1 (by decide) d_FR_setLocal_7 (by decide) (fun hc3 => ?_) (fun hc3 => ?_)
    · replace h := xw_ifT hc3 h
      exact xw_vretE hx hb hr hlk hP hK hD hX hS h d_FR_setLocal_17
    · replace h := xw_ifF hc3 h
      refine lv_aload_n hx hb d_FR_setLocal_10 rfl (lv_at hl 0 rfl) ?_
      refine xw_getR (C := "AdviceWeaver$Frame") (T := T_FR) hx hb hts hin_FR hown hK hP (by omega) (kc_Frame f0 (by omega)) (by decide) rfl 1 (by decide) (hts _ hw_300) (fun _ h9 => h9) rfl d_FR_setLocal_11 ?_
      refine lv_iload_n hx hb d_FR_setLocal_14 rfl (lv_at hl 1 rfl) ?_
      refine lv_iload_n hx hb d_FR_setLocal_15 rfl (lv_at hl 2 rfl) ?_
      obtain ⟨hg4, h⟩ := xw_grdI h
      refine xw_iast hx hb hK hP hD hS (by omega) (kc_flocals f0 (by omega)) (by decide) hg4 d_FR_setLocal_16 (fun s5 e6 H locs hP hS => ?_)
      replace h := xw_letI e6 h
      exact xw_vretE hx hb hr hlk hP hK hD hX hS h d_FR_setLocal_17
def f_FR_doubleTop (fu : Nat) (s0 : xw_S) (f0 : Nat) : Option xw_S :=
 xw_bn2 (f_FR_pop fu s0 f0) (fun s1 r3 => xw_bnd (f_FR_push fu s1 f0 r3) (fun s4 => xw_bnd (f_FR_push fu s4 f0 r3) (fun s7 => some s7)))
set_option maxRecDepth 100000 in
set_option maxHeartbeats 4000000 in
theorem c_FR_doubleTop (l : Launch) (D : va_G) (A : Nat → Prop) (ad : Nat → Nat) (cs : Nat → ClassId) (Z : va_W) (tt : Nat → Nat) (fu : Nat) (s0 sZ : xw_S) (f0 : Nat) (hb_f0 : f0 < 8) (h : f_FR_doubleTop fu s0 f0 = some sZ) : Met l y_FR_doubleTop w_FR_doubleTop ({ frames := 1, cells := 0, slots := 0, locals := 21 }) (va_Pc [.ref (ad (24 + 3 * f0))] (xw_H D vwCl A kdC 100 ad cs Z tt s0)) (va_Qv (fun u => u = sZ) (xw_H D vwCl A kdC 100 ad cs Z tt) A) 0 0 A := by
  refine Met.ofW (cc := b_FR_doubleTop) (maxL := 2) (ret := none) (by decide) rfl ?_
  intro p e s m args below meth c s₁ B hml hv
  obtain ⟨rfl, hP, hK, hD, hX⟩ := hv
  have hx := B.exec
  have hb := B.bytes
  have hr := B.returns
  have hts0 := atoms_spec (ws := w_FR_doubleTop) B.pre
  have hts := fun w (hw : w ∈ wAll) => hts0 w (List.mem_cons_of_mem _ hw)
  have hown : s.vm.findClass "AdviceWeaver$Frame" = some m.cls := findClass_of_methodNamed B.named
  have hlk := B.notSynchronized
  clear hts0 B
  have hS : va_S A s.heap s.heap [] := va_S.rf
  have hl := lv_entry [.ref (ad (24 + 3 * f0))] (n := 2) (Nat.le_of_ble_eq_true rfl)
  rw [lg_entry_eq]
  generalize (lg_sl [.ref (ad (24 + 3 * f0))] ++ List.replicate (2 - (lg_sl [.ref (ad (24 + 3 * f0))]).length) Slot.unset).toArray = ls at hl ⊢
  have hl : lv_has ls 2 [(0, .ref (ad (24 + 3 * f0)))] := hl
  unfold f_FR_doubleTop at h
  refine lv_aload_n hx hb d_FR_doubleTop_0 rfl (lv_at hl 0 rfl) ?_
  obtain ⟨s1, r3, hc2, h⟩ := xw_bn2I h
  refine xw_callVi (C := "AdviceWeaver$Frame") (T := T_FR) ⟨hx, hb, hml, hown, hts⟩ (c_FR_pop l D A ad cs Z tt fu s0 s1 f0 (by omega) r3 hc2) (cwV 0 hts (gd_V hw_346 hw_308 hw_309 hw_310 hw_311) rfl rfl rfl (by decide +kernel) ⟨Nat.le_of_ble_eq_true rfl, Nat.le_of_ble_eq_true rfl⟩) hP hK hD hX hS (by omega) (kc_Frame f0 (by omega)) (by decide) rfl rfl hl.1 rfl (Nat.le_of_ble_eq_true rfl) d_FR_doubleTop_1 (fun H locs hP hS => ?_)
  refine lv_istore_n hx hb d_FR_doubleTop_4 rfl hl (by decide) rfl (fun ls hl => ?_)
  refine lv_aload_n hx hb d_FR_doubleTop_5 rfl (lv_at hl 1 rfl) ?_
  refine lv_iload_n hx hb d_FR_doubleTop_6 rfl (lv_at hl 0 rfl) ?_
  obtain ⟨s4, hc5, h⟩ := xw_bndI h
  refine xw_callVv (C := "AdviceWeaver$Frame") (T := T_FR) ⟨hx, hb, hml, hown, hts⟩ (c_FR_push l D A ad cs Z tt fu s1 s4 f0 (by omega) r3 hc5) (cwV 1 hts (gd_V hw_329 hw_323 hw_324 hw_310 hw_325) rfl rfl rfl (by decide +kernel) ⟨Nat.le_of_ble_eq_true rfl, Nat.le_of_ble_eq_true rfl⟩) hP hK hD hX hS (by omega) (kc_Frame f0 (by omega)) (by decide) rfl rfl hl.1 rfl (Nat.le_of_ble_eq_true rfl) d_FR_doubleTop_7 (fun H locs hP hS => ?_)
  refine lv_aload_n hx hb d_FR_doubleTop_10 rfl (lv_at hl 1 rfl) ?_
  refine lv_iload_n hx hb d_FR_doubleTop_11 rfl (lv_at hl 0 rfl) ?_
  obtain ⟨s7, hc8, h⟩ := xw_bndI h
  refine xw_callVv (C := "AdviceWeaver$Frame") (T := T_FR) ⟨hx, hb, hml, hown, hts⟩ (c_FR_push l D A ad cs Z tt fu s4 s7 f0 (by omega) r3 hc8) (cwV 1 hts (gd_V hw_329 hw_323 hw_324 hw_310 hw_325) rfl rfl rfl (by decide +kernel) ⟨Nat.le_of_ble_eq_true rfl, Nat.le_of_ble_eq_true rfl⟩) hP hK hD hX hS (by omega) (kc_Frame f0 (by omega)) (by decide) rfl rfl hl.1 rfl (Nat.le_of_ble_eq_true rfl) d_FR_doubleTop_12 (fun H locs hP hS => ?_)
  exact xw_vretE hx hb hr hlk hP hK hD hX hS h d_FR_doubleTop_15
