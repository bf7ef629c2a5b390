/-! 10.op -/
theorem d_OP_size_0 : decode b_OP_size 0 = .ok (.iload_n 0, 1) := by decide +kernel
theorem d_OP_size_1 : decode b_OP_size 1 = .ok (.ifCond .lt 19, 3) := by decide +kernel
theorem d_OP_size_4 : decode b_OP_size 4 = .ok (.iload_n 0, 1) := by decide +kernel
theorem d_OP_size_5 : decode b_OP_size 5 = .ok (.getstatic 11, 3) := by decide +kernel
theorem d_OP_size_8 : decode b_OP_size 8 = .ok (.arraylength, 1) := by decide +kernel
theorem d_OP_size_9 : decode b_OP_size 9 = .ok (.if_icmp .ge 11, 3) := by decide +kernel
theorem d_OP_size_12 : decode b_OP_size 12 = .ok (.getstatic 11, 3) := by decide +kernel
theorem d_OP_size_15 : decode b_OP_size 15 = .ok (.iload_n 0, 1) := by decide +kernel
theorem d_OP_size_16 : decode b_OP_size 16 = .ok (.iaload, 1) := by decide +kernel
theorem d_OP_size_17 : decode b_OP_size 17 = .ok (.goto 4, 3) := by decide +kernel
theorem d_OP_size_20 : decode b_OP_size 20 = .ok (.iconst 0, 1) := by decide +kernel
theorem d_OP_size_21 : decode b_OP_size 21 = .ok (.ireturn, 1) := by decide +kernel
theorem d_OP_isShortBranch_0 : decode b_OP_isShortBranch 0 = .ok (.iload_n 0, 1) := by decide +kernel
theorem d_OP_isShortBranch_1 : decode b_OP_isShortBranch 1 = .ok (.bipush 10, 2) := by decide +kernel
theorem d_OP_isShortBranch_3 : decode b_OP_isShortBranch 3 = .ok (.if_icmp .lt 13, 3) := by decide +kernel
theorem d_OP_isShortBranch_6 : decode b_OP_isShortBranch 6 = .ok (.iload_n 0, 1) := by decide +kernel
theorem d_OP_isShortBranch_7 : decode b_OP_isShortBranch 7 = .ok (.bipush 12, 2) := by decide +kernel
theorem d_OP_isShortBranch_9 : decode b_OP_isShortBranch 9 = .ok (.if_icmp .gt 7, 3) := by decide +kernel
theorem d_OP_isShortBranch_12 : decode b_OP_isShortBranch 12 = .ok (.iconst 1, 1) := by decide +kernel
theorem d_OP_isShortBranch_13 : decode b_OP_isShortBranch 13 = .ok (.goto 4, 3) := by decide +kernel
theorem d_OP_isShortBranch_16 : decode b_OP_isShortBranch 16 = .ok (.iconst 0, 1) := by decide +kernel
theorem d_OP_isShortBranch_17 : decode b_OP_isShortBranch 17 = .ok (.ireturn, 1) := by decide +kernel
theorem d_OP_isWideBranch_0 : decode b_OP_isWideBranch 0 = .ok (.iload_n 0, 1) := by decide +kernel
theorem d_OP_isWideBranch_1 : decode b_OP_isWideBranch 1 = .ok (.bipush 20, 2) := by decide +kernel
theorem d_OP_isWideBranch_3 : decode b_OP_isWideBranch 3 = .ok (.if_icmp .lt 13, 3) := by decide +kernel
theorem d_OP_isWideBranch_6 : decode b_OP_isWideBranch 6 = .ok (.iload_n 0, 1) := by decide +kernel
theorem d_OP_isWideBranch_7 : decode b_OP_isWideBranch 7 = .ok (.bipush 22, 2) := by decide +kernel
theorem d_OP_isWideBranch_9 : decode b_OP_isWideBranch 9 = .ok (.if_icmp .gt 7, 3) := by decide +kernel
theorem d_OP_isWideBranch_12 : decode b_OP_isWideBranch 12 = .ok (.iconst 1, 1) := by decide +kernel
theorem d_OP_isWideBranch_13 : decode b_OP_isWideBranch 13 = .ok (.goto 4, 3) := by decide +kernel
theorem d_OP_isWideBranch_16 : decode b_OP_isWideBranch 16 = .ok (.iconst 0, 1) := by decide +kernel
theorem d_OP_isWideBranch_17 : decode b_OP_isWideBranch 17 = .ok (.ireturn, 1) := by decide +kernel
theorem d_OP_isBranch_0 : decode b_OP_isBranch 0 = .ok (.iload_n 0, 1) := by decide +kernel
theorem d_OP_isBranch_1 : decode b_OP_isBranch 1 = .ok (.invokestatic 21, 3) := by decide +kernel
theorem d_OP_isBranch_4 : decode b_OP_isBranch 4 = .ok (.ifCond .ne 10, 3) := by decide +kernel
theorem d_OP_isBranch_7 : decode b_OP_isBranch 7 = .ok (.iload_n 0, 1) := by decide +kernel
theorem d_OP_isBranch_8 : decode b_OP_isBranch 8 = .ok (.invokestatic 25, 3) := by decide +kernel
theorem d_OP_isBranch_11 : decode b_OP_isBranch 11 = .ok (.ifCond .eq 7, 3) := by decide +kernel
theorem d_OP_isBranch_14 : decode b_OP_isBranch 14 = .ok (.iconst 1, 1) := by decide +kernel
theorem d_OP_isBranch_15 : decode b_OP_isBranch 15 = .ok (.goto 4, 3) := by decide +kernel
theorem d_OP_isBranch_18 : decode b_OP_isBranch 18 = .ok (.iconst 0, 1) := by decide +kernel
theorem d_OP_isBranch_19 : decode b_OP_isBranch 19 = .ok (.ireturn, 1) := by decide +kernel
theorem d_OP_signedByte_0 : decode b_OP_signedByte 0 = .ok (.iload_n 0, 1) := by decide +kernel
theorem d_OP_signedByte_1 : decode b_OP_signedByte 1 = .ok (.sipush 128, 3) := by decide +kernel
theorem d_OP_signedByte_4 : decode b_OP_signedByte 4 = .ok (.if_icmp .ge 7, 3) := by decide +kernel
theorem d_OP_signedByte_7 : decode b_OP_signedByte 7 = .ok (.iload_n 0, 1) := by decide +kernel
theorem d_OP_signedByte_8 : decode b_OP_signedByte 8 = .ok (.goto 8, 3) := by decide +kernel
theorem d_OP_signedByte_11 : decode b_OP_signedByte 11 = .ok (.iload_n 0, 1) := by decide +kernel
theorem d_OP_signedByte_12 : decode b_OP_signedByte 12 = .ok (.sipush 256, 3) := by decide +kernel
theorem d_OP_signedByte_15 : decode b_OP_signedByte 15 = .ok (.isub, 1) := by decide +kernel
theorem d_OP_signedByte_16 : decode b_OP_signedByte 16 = .ok (.ireturn, 1) := by decide +kernel
theorem d_OP_isShortWay_0 : decode b_OP_isShortWay 0 = .ok (.iload_n 0, 1) := by decide +kernel
theorem d_OP_isShortWay_1 : decode b_OP_isShortWay 1 = .ok (.bipush (-24), 2) := by decide +kernel
theorem d_OP_isShortWay_3 : decode b_OP_isShortWay 3 = .ok (.if_icmp .lt 13, 3) := by decide +kernel
theorem d_OP_isShortWay_6 : decode b_OP_isShortWay 6 = .ok (.iload_n 0, 1) := by decide +kernel
theorem d_OP_isShortWay_7 : decode b_OP_isShortWay 7 = .ok (.bipush 24, 2) := by decide +kernel
theorem d_OP_isShortWay_9 : decode b_OP_isShortWay 9 = .ok (.if_icmp .gt 7, 3) := by decide +kernel
theorem d_OP_isShortWay_12 : decode b_OP_isShortWay 12 = .ok (.iconst 1, 1) := by decide +kernel
theorem d_OP_isShortWay_13 : decode b_OP_isShortWay 13 = .ok (.goto 4, 3) := by decide +kernel
theorem d_OP_isShortWay_16 : decode b_OP_isShortWay 16 = .ok (.iconst 0, 1) := by decide +kernel
theorem d_OP_isShortWay_17 : decode b_OP_isShortWay 17 = .ok (.ireturn, 1) := by decide +kernel
theorem d_OP_isWovenOnly_0 : decode b_OP_isWovenOnly 0 = .ok (.iload_n 0, 1) := by decide +kernel
theorem d_OP_isWovenOnly_1 : decode b_OP_isWovenOnly 1 = .ok (.bipush 30, 2) := by decide +kernel
theorem d_OP_isWovenOnly_3 : decode b_OP_isWovenOnly 3 = .ok (.if_icmp .eq 15, 3) := by decide +kernel
theorem d_OP_isWovenOnly_6 : decode b_OP_isWovenOnly 6 = .ok (.iload_n 0, 1) := by decide +kernel
theorem d_OP_isWovenOnly_7 : decode b_OP_isWovenOnly 7 = .ok (.bipush 31, 2) := by decide +kernel
theorem d_OP_isWovenOnly_9 : decode b_OP_isWovenOnly 9 = .ok (.if_icmp .eq 9, 3) := by decide +kernel
theorem d_OP_isWovenOnly_12 : decode b_OP_isWovenOnly 12 = .ok (.iload_n 0, 1) := by decide +kernel
theorem d_OP_isWovenOnly_13 : decode b_OP_isWovenOnly 13 = .ok (.bipush 32, 2) := by decide +kernel
theorem d_OP_isWovenOnly_15 : decode b_OP_isWovenOnly 15 = .ok (.if_icmp .ne 7, 3) := by decide +kernel
theorem d_OP_isWovenOnly_18 : decode b_OP_isWovenOnly 18 = .ok (.iconst 1, 1) := by decide +kernel
theorem d_OP_isWovenOnly_19 : decode b_OP_isWovenOnly 19 = .ok (.goto 4, 3) := by decide +kernel
theorem d_OP_isWovenOnly_22 : decode b_OP_isWovenOnly 22 = .ok (.iconst 0, 1) := by decide +kernel
theorem d_OP_isWovenOnly_23 : decode b_OP_isWovenOnly 23 = .ok (.ireturn, 1) := by decide +kernel
theorem d_OP_takes_0 : decode b_OP_takes 0 = .ok (.iload_n 0, 1) := by decide +kernel
theorem d_OP_takes_1 : decode b_OP_takes 1 = .ok (.ifCond .lt 19, 3) := by decide +kernel
theorem d_OP_takes_4 : decode b_OP_takes 4 = .ok (.iload_n 0, 1) := by decide +kernel
theorem d_OP_takes_5 : decode b_OP_takes 5 = .ok (.getstatic 15, 3) := by decide +kernel
theorem d_OP_takes_8 : decode b_OP_takes 8 = .ok (.arraylength, 1) := by decide +kernel
theorem d_OP_takes_9 : decode b_OP_takes 9 = .ok (.if_icmp .ge 11, 3) := by decide +kernel
theorem d_OP_takes_12 : decode b_OP_takes 12 = .ok (.getstatic 15, 3) := by decide +kernel
theorem d_OP_takes_15 : decode b_OP_takes 15 = .ok (.iload_n 0, 1) := by decide +kernel
theorem d_OP_takes_16 : decode b_OP_takes 16 = .ok (.iaload, 1) := by decide +kernel
theorem d_OP_takes_17 : decode b_OP_takes 17 = .ok (.goto 4, 3) := by decide +kernel
theorem d_OP_takes_20 : decode b_OP_takes 20 = .ok (.iconst 0, 1) := by decide +kernel
theorem d_OP_takes_21 : decode b_OP_takes 21 = .ok (.ireturn, 1) := by decide +kernel
theorem d_OP_puts_0 : decode b_OP_puts 0 = .ok (.iload_n 0, 1) := by decide +kernel
theorem d_OP_puts_1 : decode b_OP_puts 1 = .ok (.ifCond .lt 19, 3) := by decide +kernel
theorem d_OP_puts_4 : decode b_OP_puts 4 = .ok (.iload_n 0, 1) := by decide +kernel
theorem d_OP_puts_5 : decode b_OP_puts 5 = .ok (.getstatic 18, 3) := by decide +kernel
theorem d_OP_puts_8 : decode b_OP_puts 8 = .ok (.arraylength, 1) := by decide +kernel
theorem d_OP_puts_9 : decode b_OP_puts 9 = .ok (.if_icmp .ge 11, 3) := by decide +kernel
theorem d_OP_puts_12 : decode b_OP_puts 12 = .ok (.getstatic 18, 3) := by decide +kernel
theorem d_OP_puts_15 : decode b_OP_puts 15 = .ok (.iload_n 0, 1) := by decide +kernel
theorem d_OP_puts_16 : decode b_OP_puts 16 = .ok (.iaload, 1) := by decide +kernel
theorem d_OP_puts_17 : decode b_OP_puts 17 = .ok (.goto 4, 3) := by decide +kernel
theorem d_OP_puts_20 : decode b_OP_puts 20 = .ok (.iconst 0, 1) := by decide +kernel
theorem d_OP_puts_21 : decode b_OP_puts 21 = .ok (.ireturn, 1) := by decide +kernel
theorem d_OP_goesOn_0 : decode b_OP_goesOn 0 = .ok (.iload_n 0, 1) := by decide +kernel
theorem d_OP_goesOn_1 : decode b_OP_goesOn 1 = .ok (.bipush 10, 2) := by decide +kernel
theorem d_OP_goesOn_3 : decode b_OP_goesOn 3 = .ok (.if_icmp .eq 31, 3) := by decide +kernel
theorem d_OP_goesOn_6 : decode b_OP_goesOn 6 = .ok (.iload_n 0, 1) := by decide +kernel
theorem d_OP_goesOn_7 : decode b_OP_goesOn 7 = .ok (.bipush 20, 2) := by decide +kernel
theorem d_OP_goesOn_9 : decode b_OP_goesOn 9 = .ok (.if_icmp .eq 25, 3) := by decide +kernel
theorem d_OP_goesOn_12 : decode b_OP_goesOn 12 = .ok (.iload_n 0, 1) := by decide +kernel
theorem d_OP_goesOn_13 : decode b_OP_goesOn 13 = .ok (.bipush 14, 2) := by decide +kernel
theorem d_OP_goesOn_15 : decode b_OP_goesOn 15 = .ok (.if_icmp .eq 19, 3) := by decide +kernel
theorem d_OP_goesOn_18 : decode b_OP_goesOn 18 = .ok (.iload_n 0, 1) := by decide +kernel
theorem d_OP_goesOn_19 : decode b_OP_goesOn 19 = .ok (.bipush 15, 2) := by decide +kernel
theorem d_OP_goesOn_21 : decode b_OP_goesOn 21 = .ok (.if_icmp .eq 13, 3) := by decide +kernel
theorem d_OP_goesOn_24 : decode b_OP_goesOn 24 = .ok (.iload_n 0, 1) := by decide +kernel
theorem d_OP_goesOn_25 : decode b_OP_goesOn 25 = .ok (.bipush 32, 2) := by decide +kernel
theorem d_OP_goesOn_27 : decode b_OP_goesOn 27 = .ok (.if_icmp .eq 7, 3) := by decide +kernel
theorem d_OP_goesOn_30 : decode b_OP_goesOn 30 = .ok (.iconst 1, 1) := by decide +kernel
theorem d_OP_goesOn_31 : decode b_OP_goesOn 31 = .ok (.goto 4, 3) := by decide +kernel
theorem d_OP_goesOn_34 : decode b_OP_goesOn 34 = .ok (.iconst 0, 1) := by decide +kernel
theorem d_OP_goesOn_35 : decode b_OP_goesOn 35 = .ok (.ireturn, 1) := by decide +kernel
theorem d_AR_fill_0 : decode b_AR_fill 0 = .ok (.iconst 0, 1) := by decide +kernel
theorem d_AR_fill_1 : decode b_AR_fill 1 = .ok (.istore_n 2, 1) := by decide +kernel
theorem d_AR_fill_2 : decode b_AR_fill 2 = .ok (.aload_n 0, 1) := by decide +kernel
theorem d_AR_fill_3 : decode b_AR_fill 3 = .ok (.arraylength, 1) := by decide +kernel
theorem d_AR_fill_4 : decode b_AR_fill 4 = .ok (.istore_n 3, 1) := by decide +kernel
theorem d_AR_fill_5 : decode b_AR_fill 5 = .ok (.iload_n 2, 1) := by decide +kernel
theorem d_AR_fill_6 : decode b_AR_fill 6 = .ok (.iload_n 3, 1) := by decide +kernel
theorem d_AR_fill_7 : decode b_AR_fill 7 = .ok (.if_icmp .ge 13, 3) := by decide +kernel
theorem d_AR_fill_10 : decode b_AR_fill 10 = .ok (.aload_n 0, 1) := by decide +kernel
theorem d_AR_fill_11 : decode b_AR_fill 11 = .ok (.iload_n 2, 1) := by decide +kernel
theorem d_AR_fill_12 : decode b_AR_fill 12 = .ok (.iload_n 1, 1) := by decide +kernel
theorem d_AR_fill_13 : decode b_AR_fill 13 = .ok (.iastore, 1) := by decide +kernel
theorem d_AR_fill_14 : decode b_AR_fill 14 = .ok (.iinc 2 1, 3) := by decide +kernel
theorem d_AR_fill_17 : decode b_AR_fill 17 = .ok (.goto (-12), 3) := by decide +kernel
theorem d_AR_fill_20 : decode b_AR_fill 20 = .ok (.return_, 1) := by decide +kernel
def f_OP_size (fu : Nat) (s0 : xw_S) (p0 : Int) : Option (xw_S × Int) :=
 xw_grd (xw_r p0) (xw_if (p0 < 0) (some (s0, 0))
 (xw_if (33 ≤ p0) (some (s0, 0))
 (xw_grd ((0 ≤ p0 ∧ p0 < ((33 : Nat) : Int))) (some (s0, (xw_sa 0).getD (p0).toNat 0)))))
set_option maxRecDepth 100000 in
set_option maxHeartbeats 4000000 in
theorem c_OP_size (l : Launch) (D : va_G) (A : Nat → Prop) (ad : Nat → Nat) (cs : Nat → ClassId) (Z : va_W) (tt : Nat → Nat) (fu : Nat) (s0 sZ : xw_S) (p0 : Int) (r0 : Int) (h : f_OP_size fu s0 p0 = some (sZ, r0)) : Met l y_OP_size w_OP_size ({ frames := 0, cells := 0, slots := 0, locals := 0 }) (va_Pc [.int (xw_i p0)] (xw_H D vwCl A kdC 100 ad cs Z tt s0)) (va_Qi (fun r u => r = xw_i r0 ∧ u = sZ) (xw_H D vwCl A kdC 100 ad cs Z tt) A) 0 0 A := by
  refine Met.ofW (cc := b_OP_size) (maxL := 1) (ret := (some .int)) (by decide) rfl ?_
  intro p e s m args below meth c s₁ B hml hv
  obtain ⟨rfl, hP, hK, hD, hX⟩ := hv
  have hx := B.exec
  have hb := B.bytes
  have hr := B.returns
  have hts0 := atoms_spec (ws := w_OP_size) B.pre
  have hts := fun w (hw : w ∈ wAll) => hts0 w (List.mem_cons_of_mem _ hw)
  have hown : s.vm.findClass "AdviceWeaver$Op" = some m.cls := findClass_of_methodNamed B.named
  have hlk := B.notSynchronized
  clear hts0 B
  have hS : va_S A s.heap s.heap [] := va_S.rf
  have hl := lv_entry [.int (xw_i p0)] (n := 1) (Nat.le_of_ble_eq_true rfl)
  rw [lg_entry_eq]
  generalize (lg_sl [.int (xw_i p0)] ++ List.replicate (1 - (lg_sl [.int (xw_i p0)]).length) Slot.unset).toArray = ls at hl ⊢
  have hl : lv_has ls 1 [(0, .int (xw_i p0))] := hl
  unfold f_OP_size at h
  refine lv_iload_n hx hb d_OP_size_0 rfl (lv_at hl 0 rfl) ?_
  obtain ⟨hg1, h⟩ := xw_grdI h
  refine xw_if_lt (tgt := 20) hx hb hg1 d_OP_size_1 (by decide) (fun hc2 => ?_) (fun hc2 => ?_)
  · replace h := xw_ifT hc2 h
    refine lv_iconst (v := xw_i 0) hx hb d_OP_size_20 rfl ?_
    exact xw_iretE hx hb hr hlk hP hK hD hX hS h d_OP_size_21
  · replace h := xw_ifF hc2 h
    refine lv_iload_n hx hb d_OP_size_4 rfl (lv_at hl 0 rfl) ?_
    refine xw_gets hx hb hX hS 0 (by decide) hown (hts _ hw_41) d_OP_size_5 ?_
    refine xw_tlen hx hb hX hS 0 (by decide) d_OP_size_8 ?_
    refine xw_icmp_ge (tgt := 20) hx hb hg1 (by decide) d_OP_size_9 (by decide) (fun hc3 => ?_) (fun hc3 => ?_)
    · replace h := xw_ifT hc3 h
      refine lv_iconst (v := xw_i 0) hx hb d_OP_size_20 rfl ?_
      exact xw_iretE hx hb hr hlk hP hK hD hX hS h d_OP_size_21
    · replace h := xw_ifF hc3 h
      refine xw_gets hx hb hX hS 0 (by decide) hown (hts _ hw_41) d_OP_size_12 ?_
      refine lv_iload_n hx hb d_OP_size_15 rfl (lv_at hl 0 rfl) ?_
      obtain ⟨hg4, h⟩ := xw_grdI h
      refine xw_ti hx hb hX hS 0 (by decide) hg4 d_OP_size_16 ?_
      refine lv_goto (tgt := 21) hx hb d_OP_size_17 (by decide) ?_
      exact xw_iretE hx hb hr hlk hP hK hD hX hS h d_OP_size_21
def f_OP_isShortBranch (fu : Nat) (s0 : xw_S) (p0 : Int) : Option (xw_S × Int) :=
 xw_grd (xw_r p0) (xw_if (p0 < 10) (some (s0, 0))
 (xw_if (12 < p0) (some (s0, 0))
 (some (s0, 1))))
set_option maxRecDepth 100000 in
set_option maxHeartbeats 4000000 in
theorem c_OP_isShortBranch (l : Launch) (D : va_G) (A : Nat → Prop) (ad : Nat → Nat) (cs : Nat → ClassId) (Z : va_W) (tt : Nat → Nat) (fu : Nat) (s0 sZ : xw_S) (p0 : Int) (r0 : Int) (h : f_OP_isShortBranch fu s0 p0 = some (sZ, r0)) : Met l y_OP_isShortBranch w_OP_isShortBranch ({ frames := 0, cells := 0, slots := 0, locals := 0 }) (va_Pc [.int (xw_i p0)] (xw_H D vwCl A kdC 100 ad cs Z tt s0)) (va_Qi (fun r u => r = xw_i r0 ∧ u = sZ) (xw_H D vwCl A kdC 100 ad cs Z tt) A) 0 0 A := by
  refine Met.ofW (cc := b_OP_isShortBranch) (maxL := 1) (ret := (some .boolean)) (by decide) rfl ?_
  intro p e s m args below meth c s₁ B hml hv
  obtain ⟨rfl, hP, hK, hD, hX⟩ := hv
  have hx := B.exec
  have hb := B.bytes
  have hr := B.returns
  have hts0 := atoms_spec (ws := w_OP_isShortBranch) B.pre
  have hts := fun w (hw : w ∈ wAll) => hts0 w (List.mem_cons_of_mem _ hw)
  have hown : s.vm.findClass "AdviceWeaver$Op" = some m.cls := findClass_of_methodNamed B.named
  have hlk := B.notSynchronized
  clear hts0 B
  have hS : va_S A s.heap s.heap [] := va_S.rf
  have hl := lv_entry [.int (xw_i p0)] (n := 1) (Nat.le_of_ble_eq_true rfl)
  rw [lg_entry_eq]
  generalize (lg_sl [.int (xw_i p0)] ++ List.replicate (1 - (lg_sl [.int (xw_i p0)]).length) Slot.unset).toArray = ls at hl ⊢
  have hl : lv_has ls 1 [(0, .int (xw_i p0))] := hl
  unfold f_OP_isShortBranch at h
  refine lv_iload_n hx hb d_OP_isShortBranch_0 rfl (lv_at hl 0 rfl) ?_
  refine lv_bipush (v := xw_i 10) hx hb d_OP_isShortBranch_1 (by decide) ?_
  obtain ⟨hg1, h⟩ := xw_grdI h
  refine xw_icmp_lt (tgt := 16) hx hb hg1 (by decide) d_OP_isShortBranch_3 (by decide) (fun hc2 => ?_) (fun hc2 => ?_)
  · replace h := xw_ifT hc2 h
    refine lv_iconst (v := xw_i 0) hx hb d_OP_isShortBranch_16 rfl ?_
    exact xw_zretE hx hb hr hlk hP hK hD hX hS h (by decide) d_OP_isShortBranch_17
  · replace h := xw_ifF hc2 h
    refine lv_iload_n hx hb d_OP_isShortBranch_6 rfl (lv_at hl 0 rfl) ?_
    refine lv_bipush (v := xw_i 12) hx hb d_OP_isShortBranch_7 (by decide) ?_
    refine xw_icmp_gt (tgt := 16) hx hb hg1 (by decide) d_OP_isShortBranch_9 (by decide) (fun hc3 => ?_) (fun hc3 => ?_)
    · replace h := xw_ifT hc3 h
      refine lv_iconst (v := xw_i 0) hx hb d_OP_isShortBranch_16 rfl ?_
      exact xw_zretE hx hb hr hlk hP hK hD hX hS h (by decide) d_OP_isShortBranch_17
    · replace h := xw_ifF hc3 h
      refine lv_iconst (v := xw_i 1) hx hb d_OP_isShortBranch_12 rfl ?_
      refine lv_goto (tgt := 17) hx hb d_OP_isShortBranch_13 (by decide) ?_
      exact xw_zretE hx hb hr hlk hP hK hD hX hS h (by decide) d_OP_isShortBranch_17
def f_OP_isWideBranch (fu : Nat) (s0 : xw_S) (p0 : Int) : Option (xw_S × Int) :=
 xw_grd (xw_r p0) (xw_if (p0 < 20) (some (s0, 0))
 (xw_if (22 < p0) (some (s0, 0))
 (some (s0, 1))))
set_option maxRecDepth 100000 in
set_option maxHeartbeats 4000000 in
theorem c_OP_isWideBranch (l : Launch) (D : va_G) (A : Nat → Prop) (ad : Nat → Nat) (cs : Nat → ClassId) (Z : va_W) (tt : Nat → Nat) (fu : Nat) (s0 sZ : xw_S) (p0 : Int) (r0 : Int) (h : f_OP_isWideBranch fu s0 p0 = some (sZ, r0)) : Met l y_OP_isWideBranch w_OP_isWideBranch ({ frames := 0, cells := 0, slots := 0, locals := 0 }) (va_Pc [.int (xw_i p0)] (xw_H D vwCl A kdC 100 ad cs Z tt s0)) (va_Qi (fun r u => r = xw_i r0 ∧ u = sZ) (xw_H D vwCl A kdC 100 ad cs Z tt) A) 0 0 A := by
  refine Met.ofW (cc := b_OP_isWideBranch) (maxL := 1) (ret := (some .boolean)) (by decide) rfl ?_
  intro p e s m args below meth c s₁ B hml hv
  obtain ⟨rfl, hP, hK, hD, hX⟩ := hv
  have hx := B.exec
  have hb := B.bytes
  have hr := B.returns
  have hts0 := atoms_spec (ws := w_OP_isWideBranch) B.pre
  have hts := fun w (hw : w ∈ wAll) => hts0 w (List.mem_cons_of_mem _ hw)
  have hown : s.vm.findClass "AdviceWeaver$Op" = some m.cls := findClass_of_methodNamed B.named
  have hlk := B.notSynchronized
  clear hts0 B
  have hS : va_S A s.heap s.heap [] := va_S.rf
  have hl := lv_entry [.int (xw_i p0)] (n := 1) (Nat.le_of_ble_eq_true rfl)
  rw [lg_entry_eq]
  generalize (lg_sl [.int (xw_i p0)] ++ List.replicate (1 - (lg_sl [.int (xw_i p0)]).length) Slot.unset).toArray = ls at hl ⊢
  have hl : lv_has ls 1 [(0, .int (xw_i p0))] := hl
  unfold f_OP_isWideBranch at h
  refine lv_iload_n hx hb d_OP_isWideBranch_0 rfl (lv_at hl 0 rfl) ?_
  refine lv_bipush (v := xw_i 20) hx hb d_OP_isWideBranch_1 (by decide) ?_
  obtain ⟨hg1, h⟩ := xw_grdI h
  refine xw_icmp_lt (tgt := 16) hx hb hg1 (by decide) d_OP_isWideBranch_3 (by decide) (fun hc2 => ?_) (fun hc2 => ?_)
  · replace h := xw_ifT hc2 h
    refine lv_iconst (v := xw_i 0) hx hb d_OP_isWideBranch_16 rfl ?_
    exact xw_zretE hx hb hr hlk hP hK hD hX hS h (by decide) d_OP_isWideBranch_17
  · replace h := xw_ifF hc2 h
    refine lv_iload_n hx hb d_OP_isWideBranch_6 rfl (lv_at hl 0 rfl) ?_
    refine lv_bipush (v := xw_i 22) hx hb d_OP_isWideBranch_7 (by decide) ?_
    refine xw_icmp_gt (tgt := 16) hx hb hg1 (by decide) d_OP_isWideBranch_9 (by decide) (fun hc3 => ?_) (fun hc3 => ?_)
    · replace h := xw_ifT hc3 h
      refine lv_iconst (v := xw_i 0) hx hb d_OP_isWideBranch_16 rfl ?_
      exact xw_zretE hx hb hr hlk hP hK hD hX hS h (by decide) d_OP_isWideBranch_17
    · replace h := xw_ifF hc3 h
      refine lv_iconst (v := xw_i 1) hx hb d_OP_isWideBranch_12 rfl ?_
      refine lv_goto (tgt := 17) hx hb d_OP_isWideBranch_13 (by decide) ?_
      exact xw_zretE hx hb hr hlk hP hK hD hX hS h (by decide) d_OP_isWideBranch_17
def f_OP_isBranch (fu : Nat) (s0 : xw_S) (p0 : Int) : Option (xw_S × Int) :=
 xw_bn2 (f_OP_isShortBranch fu s0 p0) (fun s1 r3 => xw_jn (fun (s11 : xw_S) => some (s11, 1))
 (fun (j14 : xw_S → Option (xw_S × Int)) => xw_grd (xw_r r3) (xw_if (r3 = 0) (xw_bn2 (f_OP_isWideBranch fu s1 p0) (fun s6 r8 => xw_grd (xw_r r8) (xw_if (r8 = 0) (some (s6, 0))
 (j14 s6))))
 (j14 s1))))
set_option maxRecDepth 100000 in
set_option maxHeartbeats 4000000 in
theorem c_OP_isBranch (l : Launch) (D : va_G) (A : Nat → Prop) (ad : Nat → Nat) (cs : Nat → ClassId) (Z : va_W) (tt : Nat → Nat) (fu : Nat) (s0 sZ : xw_S) (p0 : Int) (r0 : Int) (h : f_OP_isBranch fu s0 p0 = some (sZ, r0)) : Met l y_OP_isBranch w_OP_isBranch ({ frames := 1, cells := 0, slots := 0, locals := 20 }) (va_Pc [.int (xw_i p0)] (xw_H D vwCl A kdC 100 ad cs Z tt s0)) (va_Qi (fun r u => r = xw_i r0 ∧ u = sZ) (xw_H D vwCl A kdC 100 ad cs Z tt) A) 0 0 A := by
  refine Met.ofW (cc := b_OP_isBranch) (maxL := 1) (ret := (some .boolean)) (by decide) rfl ?_
  intro p e s m args below meth c s₁ B hml hv
  obtain ⟨rfl, hP, hK, hD, hX⟩ := hv
  have hx := B.exec
  have hb := B.bytes
  have hr := B.returns
  have hts0 := atoms_spec (ws := w_OP_isBranch) B.pre
  have hts := fun w (hw : w ∈ wAll) => hts0 w (List.mem_cons_of_mem _ hw)
  have hown : s.vm.findClass "AdviceWeaver$Op" = some m.cls := findClass_of_methodNamed B.named
  have hlk := B.notSynchronized
  clear hts0 B
  have hS : va_S A s.heap s.heap [] := va_S.rf
  have hl := lv_entry [.int (xw_i p0)] (n := 1) (Nat.le_of_ble_eq_true rfl)
  rw [lg_entry_eq]
  generalize (lg_sl [.int (xw_i p0)] ++ List.replicate (1 - (lg_sl [.int (xw_i p0)]).length) Slot.unset).toArray = ls at hl ⊢
  have hl : lv_has ls 1 [(0, .int (xw_i p0))] := hl
  unfold f_OP_isBranch at h
  refine lv_iload_n hx hb d_OP_isBranch_0 rfl (lv_at hl 0 rfl) ?_
  obtain ⟨s1, r3, hc2, h⟩ := xw_bn2I h
  refine xw_callSi ⟨hx, hb, hml, hown, hts⟩ (c_OP_isShortBranch l D A ad cs Z tt fu s0 s1 p0 r3 hc2) (va_cwS 1 hts (gd_S hw_50 hw_51 hw_48 hw_52) rfl rfl rfl (by decide +kernel) ⟨Nat.le_of_ble_eq_true rfl, Nat.le_of_ble_eq_true rfl⟩) hP hK hD hX hS rfl hl.1 rfl (Nat.le_of_ble_eq_true rfl) d_OP_isBranch_1 (fun H locs hP hS => ?_)
  refine xw_jnI (fun j => ∀ (sq : xw_S), j sq = some (sZ, r0) → ∀ (H : Heap) (locs : List Loc) (ls : Array Slot), va_P D vwCl (xw_ws kdC 100 ad cs Z sq) H → va_S A s.heap H locs → lv_has ls 1 [] → W p l e (headSpec w_OP_isBranch ({ frames := 1, cells := 0, slots := 0, locals := 20 })).room s m [.int (xw_i p0)].toArray below meth c H locs 0 0 (MQ below (va_Qi (fun r u => r = xw_i r0 ∧ u = sZ) (xw_H D vwCl A kdC 100 ad cs Z tt) A) [.int (xw_i p0)].toArray s 0 0 A) (F0 m 14 ls [])) h ?_ ?_
  · intro s11 h H locs ls hP hS hl
    refine lv_iconst (v := xw_i 1) hx hb d_OP_isBranch_14 rfl ?_
    refine lv_goto (tgt := 19) hx hb d_OP_isBranch_15 (by decide) ?_
    exact xw_zretE hx hb hr hlk hP hK hD hX hS h (by decide) d_OP_isBranch_19
  · intro j14 hj14 h
    obtain ⟨hg4, h⟩ := xw_grdI h
    refine xw_if_ne (tgt := 14) hx hb hg4 d_OP_isBranch_4 (by decide) (fun hc5 => ?_) (fun hc5 => ?_)
    · replace h := xw_ifF hc5 h
      exact hj14 s1 h _ _ _ hP hS (lv_sub hl [] rfl)
    · replace h := xw_ifT hc5 h
      refine lv_iload_n hx hb d_OP_isBranch_7 rfl (lv_at hl 0 rfl) ?_
      obtain ⟨s6, r8, hc7, h⟩ := xw_bn2I h
      refine xw_callSi ⟨hx, hb, hml, hown, hts⟩ (c_OP_isWideBranch l D A ad cs Z tt fu s1 s6 p0 r8 hc7) (va_cwS 1 hts (gd_S hw_53 hw_54 hw_48 hw_55) rfl rfl rfl (by decide +kernel) ⟨Nat.le_of_ble_eq_true rfl, Nat.le_of_ble_eq_true rfl⟩) hP hK hD hX hS rfl hl.1 rfl (Nat.le_of_ble_eq_true rfl) d_OP_isBranch_8 (fun H locs hP hS => ?_)
      obtain ⟨hg9, h⟩ := xw_grdI h
      refine xw_if_eq (tgt := 18) hx hb hg9 d_OP_isBranch_11 (by decide) (fun hc10 => ?_) (fun hc10 => ?_)
      · replace h := xw_ifT hc10 h
        refine lv_iconst (v := xw_i 0) hx hb d_OP_isBranch_18 rfl ?_
        exact xw_zretE hx hb hr hlk hP hK hD hX hS h (by decide) d_OP_isBranch_19
      · replace h := xw_ifF hc10 h
        exact hj14 s6 h _ _ _ hP hS (lv_sub hl [] rfl)
def f_OP_signedByte (fu : Nat) (s0 : xw_S) (p0 : Int) : Option (xw_S × Int) :=
 xw_grd (xw_r p0) (xw_if (128 ≤ p0) (some (s0, p0 - 256))
 (some (s0, p0)))
set_option maxRecDepth 100000 in
set_option maxHeartbeats 4000000 in
theorem c_OP_signedByte (l : Launch) (D : va_G) (A : Nat → Prop) (ad : Nat → Nat) (cs : Nat → ClassId) (Z : va_W) (tt : Nat → Nat) (fu : Nat) (s0 sZ : xw_S) (p0 : Int) (r0 : Int) (h : f_OP_signedByte fu s0 p0 = some (sZ, r0)) : Met l y_OP_signedByte w_OP_signedByte ({ frames := 0, cells := 0, slots := 0, locals := 0 }) (va_Pc [.int (xw_i p0)] (xw_H D vwCl A kdC 100 ad cs Z tt s0)) (va_Qi (fun r u => r = xw_i r0 ∧ u = sZ) (xw_H D vwCl A kdC 100 ad cs Z tt) A) 0 0 A := by
  refine Met.ofW (cc := b_OP_signedByte) (maxL := 1) (ret := (some .int)) (by decide) rfl ?_
  intro p e s m args below meth c s₁ B hml hv
  obtain ⟨rfl, hP, hK, hD, hX⟩ := hv
  have hx := B.exec
  have hb := B.bytes
  have hr := B.returns
  have hts0 := atoms_spec (ws := w_OP_signedByte) B.pre
  have hts := fun w (hw : w ∈ wAll) => hts0 w (List.mem_cons_of_mem _ hw)
  have hown : s.vm.findClass "AdviceWeaver$Op" = some m.cls := findClass_of_methodNamed B.named
  have hlk := B.notSynchronized
  clear hts0 B
  have hS : va_S A s.heap s.heap [] := va_S.rf
  have hl := lv_entry [.int (xw_i p0)] (n := 1) (Nat.le_of_ble_eq_true rfl)
  rw [lg_entry_eq]
  generalize (lg_sl [.int (xw_i p0)] ++ List.replicate (1 - (lg_sl [.int (xw_i p0)]).length) Slot.unset).toArray = ls at hl ⊢
  have hl : lv_has ls 1 [(0, .int (xw_i p0))] := hl
  unfold f_OP_signedByte at h
  refine lv_iload_n hx hb d_OP_signedByte_0 rfl (lv_at hl 0 rfl) ?_
  refine lv_sipush (v := xw_i 128) hx hb d_OP_signedByte_1 (by decide) ?_
  obtain ⟨hg1, h⟩ := xw_grdI h
  refine xw_icmp_ge (tgt := 11) hx hb hg1 (by decide) d_OP_signedByte_4 (by decide) (fun hc2 => ?_) (fun hc2 => ?_)
  · replace h := xw_ifT hc2 h
    refine lv_iload_n hx hb d_OP_signedByte_11 rfl (lv_at hl 0 rfl) ?_
    refine lv_sipush (v := xw_i 256) hx hb d_OP_signedByte_12 (by decide) ?_
    refine xw_isub hx hb d_OP_signedByte_15 ?_
    exact xw_iretE hx hb hr hlk hP hK hD hX hS h d_OP_signedByte_16
  · replace h := xw_ifF hc2 h
    refine lv_iload_n hx hb d_OP_signedByte_7 rfl (lv_at hl 0 rfl) ?_
    refine lv_goto (tgt := 16) hx hb d_OP_signedByte_8 (by decide) ?_
    exact xw_iretE hx hb hr hlk hP hK hD hX hS h d_OP_signedByte_16
def f_OP_isShortWay (fu : Nat) (s0 : xw_S) (p0 : Int) : Option (xw_S × Int) :=
 xw_grd (xw_r p0) (xw_if (p0 < -24) (some (s0, 0))
 (xw_if (24 < p0) (some (s0, 0))
 (some (s0, 1))))
set_option maxRecDepth 100000 in
set_option maxHeartbeats 4000000 in
theorem c_OP_isShortWay (l : Launch) (D : va_G) (A : Nat → Prop) (ad : Nat → Nat) (cs : Nat → ClassId) (Z : va_W) (tt : Nat → Nat) (fu : Nat) (s0 sZ : xw_S) (p0 : Int) (r0 : Int) (h : f_OP_isShortWay fu s0 p0 = some (sZ, r0)) : Met l y_OP_isShortWay w_OP_isShortWay ({ frames := 0, cells := 0, slots := 0, locals := 0 }) (va_Pc [.int (xw_i p0)] (xw_H D vwCl A kdC 100 ad cs Z tt s0)) (va_Qi (fun r u => r = xw_i r0 ∧ u = sZ) (xw_H D vwCl A kdC 100 ad cs Z tt) A) 0 0 A := by
  refine Met.ofW (cc := b_OP_isShortWay) (maxL := 1) (ret := (some .boolean)) (by decide) rfl ?_
  intro p e s m args below meth c s₁ B hml hv
  obtain ⟨rfl, hP, hK, hD, hX⟩ := hv
  have hx := B.exec
  have hb := B.bytes
  have hr := B.returns
  have hts0 := atoms_spec (ws := w_OP_isShortWay) B.pre
  have hts := fun w (hw : w ∈ wAll) => hts0 w (List.mem_cons_of_mem _ hw)
  have hown : s.vm.findClass "AdviceWeaver$Op" = some m.cls := findClass_of_methodNamed B.named
  have hlk := B.notSynchronized
  clear hts0 B
  have hS : va_S A s.heap s.heap [] := va_S.rf
  have hl := lv_entry [.int (xw_i p0)] (n := 1) (Nat.le_of_ble_eq_true rfl)
  rw [lg_entry_eq]
  generalize (lg_sl [.int (xw_i p0)] ++ List.replicate (1 - (lg_sl [.int (xw_i p0)]).length) Slot.unset).toArray = ls at hl ⊢
  have hl : lv_has ls 1 [(0, .int (xw_i p0))] := hl
  unfold f_OP_isShortWay at h
  refine lv_iload_n hx hb d_OP_isShortWay_0 rfl (lv_at hl 0 rfl) ?_
  refine lv_bipush (v := xw_i (-24)) hx hb d_OP_isShortWay_1 (by decide) ?_
  obtain ⟨hg1, h⟩ := xw_grdI h
  refine xw_icmp_lt (tgt := 16) hx hb hg1 (by decide) d_OP_isShortWay_3 (by decide) (fun hc2 => ?_) (fun hc2 => ?_)
  · replace h := xw_ifT hc2 h
    refine lv_iconst (v := xw_i 0) hx hb d_OP_isShortWay_16 rfl ?_
    exact xw_zretE hx hb hr hlk hP hK hD hX hS h (by decide) d_OP_isShortWay_17
  · replace h := xw_ifF hc2 h
    refine lv_iload_n hx hb d_OP_isShortWay_6 rfl (lv_at hl 0 rfl) ?_
    refine lv_bipush (v := xw_i 24) hx hb d_OP_isShortWay_7 (by decide) ?_
    refine xw_icmp_gt (tgt := 16) hx hb hg1 (by decide) d_OP_isShortWay_9 (by decide) (fun hc3 => ?_) (fun hc3 => ?_)
    · replace h := xw_ifT hc3 h
      refine lv_iconst (v := xw_i 0) hx hb d_OP_isShortWay_16 rfl ?_
      exact xw_zretE hx hb hr hlk hP hK hD hX hS h (by decide) d_OP_isShortWay_17
    · replace h := xw_ifF hc3 h
      refine lv_iconst (v := xw_i 1) hx hb d_OP_isShortWay_12 rfl ?_
      refine lv_goto (tgt := 17) hx hb d_OP_isShortWay_13 (by decide) ?_
      exact xw_zretE hx hb hr hlk hP hK hD hX hS h (by decide) d_OP_isShortWay_17
def f_OP_isWovenOnly (fu : Nat) (s0 : xw_S) (p0 : Int) : Option (xw_S × Int) :=
 xw_jn (fun (s5 : xw_S) => some (s5, 1))
 (fun (j18 : xw_S → Option (xw_S × Int)) => xw_grd (xw_r p0) (xw_if (p0 = 30) (j18 s0)
 (xw_if (p0 = 31) (j18 s0)
 (xw_if (p0 = 32) (j18 s0)
 (some (s0, 0))))))
set_option maxRecDepth 100000 in
set_option maxHeartbeats 4000000 in
theorem c_OP_isWovenOnly (l : Launch) (D : va_G) (A : Nat → Prop) (ad : Nat → Nat) (cs : Nat → ClassId) (Z : va_W) (tt : Nat → Nat) (fu : Nat) (s0 sZ : xw_S) (p0 : Int) (r0 : Int) (h : f_OP_isWovenOnly fu s0 p0 = some (sZ, r0)) : Met l y_OP_isWovenOnly w_OP_isWovenOnly ({ frames := 0, cells := 0, slots := 0, locals := 0 }) (va_Pc [.int (xw_i p0)] (xw_H D vwCl A kdC 100 ad cs Z tt s0)) (va_Qi (fun r u => r = xw_i r0 ∧ u = sZ) (xw_H D vwCl A kdC 100 ad cs Z tt) A) 0 0 A := by
  refine Met.ofW (cc := b_OP_isWovenOnly) (maxL := 1) (ret := (some .boolean)) (by decide) rfl ?_
  intro p e s m args below meth c s₁ B hml hv
  obtain ⟨rfl, hP, hK, hD, hX⟩ := hv
  have hx := B.exec
  have hb := B.bytes
  have hr := B.returns
  have hts0 := atoms_spec (ws := w_OP_isWovenOnly) B.pre
  have hts := fun w (hw : w ∈ wAll) => hts0 w (List.mem_cons_of_mem _ hw)
  have hown : s.vm.findClass "AdviceWeaver$Op" = some m.cls := findClass_of_methodNamed B.named
  have hlk := B.notSynchronized
  clear hts0 B
  have hS : va_S A s.heap s.heap [] := va_S.rf
  have hl := lv_entry [.int (xw_i p0)] (n := 1) (Nat.le_of_ble_eq_true rfl)
  rw [lg_entry_eq]
  generalize (lg_sl [.int (xw_i p0)] ++ List.replicate (1 - (lg_sl [.int (xw_i p0)]).length) Slot.unset).toArray = ls at hl ⊢
  have hl : lv_has ls 1 [(0, .int (xw_i p0))] := hl
  unfold f_OP_isWovenOnly at h
  refine lv_iload_n hx hb d_OP_isWovenOnly_0 rfl (lv_at hl 0 rfl) ?_
  refine lv_bipush (v := xw_i 30) hx hb d_OP_isWovenOnly_1 (by decide) ?_
  refine xw_jnI (fun j => ∀ (sq : xw_S), j sq = some (sZ, r0) → ∀ (H : Heap) (locs : List Loc) (ls : Array Slot), va_P D vwCl (xw_ws kdC 100 ad cs Z sq) H → va_S A s.heap H locs → lv_has ls 1 [] → W p l e (headSpec w_OP_isWovenOnly ({ frames := 0, cells := 0, slots := 0, locals := 0 })).room s m [.int (xw_i p0)].toArray below meth c H locs 0 0 (MQ below (va_Qi (fun r u => r = xw_i r0 ∧ u = sZ) (xw_H D vwCl A kdC 100 ad cs Z tt) A) [.int (xw_i p0)].toArray s 0 0 A) (F0 m 18 ls [])) h ?_ ?_
  · intro s5 h H locs ls hP hS hl
    refine lv_iconst (v := xw_i 1) hx hb d_OP_isWovenOnly_18 rfl ?_
    refine lv_goto (tgt := 23) hx hb d_OP_isWovenOnly_19 (by decide) ?_
    exact xw_zretE hx hb hr hlk hP hK hD hX hS h (by decide) d_OP_isWovenOnly_23
  · intro j18 hj18 h
    obtain ⟨hg1, h⟩ := xw_grdI h
    refine xw_icmp_eq (tgt := 18) hx hb hg1 (by decide) d_OP_isWovenOnly_3 (by decide) (fun hc2 => ?_) (fun hc2 => ?_)
    · replace h := xw_ifT hc2 h
      exact hj18 s0 h _ _ _ hP hS (lv_sub hl [] rfl)
    · replace h := xw_ifF hc2 h
      refine lv_iload_n hx hb d_OP_isWovenOnly_6 rfl (lv_at hl 0 rfl) ?_
      refine lv_bipush (v := xw_i 31) hx hb d_OP_isWovenOnly_7 (by decide) ?_
      refine xw_icmp_eq (tgt := 18) hx hb hg1 (by decide) d_OP_isWovenOnly_9 (by decide) (fun hc3 => ?_) (fun hc3 => ?_)
      · replace h := xw_ifT hc3 h
        exact hj18 s0 h _ _ _ hP hS (lv_sub hl [] rfl)
      · replace h := xw_ifF hc3 h
        refine lv_iload_n hx hb d_OP_isWovenOnly_12 rfl (lv_at hl 0 rfl) ?_
        refine lv_bipush (v := xw_i 32) hx hb d_OP_isWovenOnly_13 (by decide) ?_
        refine xw_icmp_ne (tgt := 22) hx hb hg1 (by decide) d_OP_isWovenOnly_15 (by decide) (fun hc4 => ?_) (fun hc4 => ?_)
        · replace h := xw_ifF hc4 h
          refine lv_iconst (v := xw_i 0) hx hb d_OP_isWovenOnly_22 rfl ?_
          exact xw_zretE hx hb hr hlk hP hK hD hX hS h (by decide) d_OP_isWovenOnly_23
        · replace h := xw_ifT hc4 h
          exact hj18 s0 h _ _ _ hP hS (lv_sub hl [] rfl)
def f_OP_takes (fu : Nat) (s0 : xw_S) (p0 : Int) : Option (xw_S × Int) :=
 xw_grd (xw_r p0) (xw_if (p0 < 0) (some (s0, 0))
 (xw_if (33 ≤ p0) (some (s0, 0))
 (xw_grd ((0 ≤ p0 ∧ p0 < ((33 : Nat) : Int))) (some (s0, (xw_sa 1).getD (p0).toNat 0)))))
set_option maxRecDepth 100000 in
set_option maxHeartbeats 4000000 in
theorem c_OP_takes (l : Launch) (D : va_G) (A : Nat → Prop) (ad : Nat → Nat) (cs : Nat → ClassId) (Z : va_W) (tt : Nat → Nat) (fu : Nat) (s0 sZ : xw_S) (p0 : Int) (r0 : Int) (h : f_OP_takes fu s0 p0 = some (sZ, r0)) : Met l y_OP_takes w_OP_takes ({ frames := 0, cells := 0, slots := 0, locals := 0 }) (va_Pc [.int (xw_i p0)] (xw_H D vwCl A kdC 100 ad cs Z tt s0)) (va_Qi (fun r u => r = xw_i r0 ∧ u = sZ) (xw_H D vwCl A kdC 100 ad cs Z tt) A) 0 0 A := by
  refine Met.ofW (cc := b_OP_takes) (maxL := 1) (ret := (some .int)) (by decide) rfl ?_
  intro p e s m args below meth c s₁ B hml hv
  obtain ⟨rfl, hP, hK, hD, hX⟩ := hv
  have hx := B.exec
  have hb := B.bytes
  have hr := B.returns
  have hts0 := atoms_spec (ws := w_OP_takes) B.pre
  have hts := fun w (hw : w ∈ wAll) => hts0 w (List.mem_cons_of_mem _ hw)
  have hown : s.vm.findClass "AdviceWeaver$Op" = some m.cls := findClass_of_methodNamed B.named
  have hlk := B.notSynchronized
  clear hts0 B
  have hS : va_S A s.heap s.heap [] := va_S.rf
  have hl := lv_entry [.int (xw_i p0)] (n := 1) (Nat.le_of_ble_eq_true rfl)
  rw [lg_entry_eq]
  generalize (lg_sl [.int (xw_i p0)] ++ List.replicate (1 - (lg_sl [.int (xw_i p0)]).length) Slot.unset).toArray = ls at hl ⊢
  have hl : lv_has ls 1 [(0, .int (xw_i p0))] := hl
  unfold f_OP_takes at h
  refine lv_iload_n hx hb d_OP_takes_0 rfl (lv_at hl 0 rfl) ?_
  obtain ⟨hg1, h⟩ := xw_grdI h
  refine xw_if_lt (tgt := 20) hx hb hg1 d_OP_takes_1 (by decide) (fun hc2 => ?_) (fun hc2 => ?_)
  · replace h := xw_ifT hc2 h
    refine lv_iconst (v := xw_i 0) hx hb d_OP_takes_20 rfl ?_
    exact xw_iretE hx hb hr hlk hP hK hD hX hS h d_OP_takes_21
  · replace h := xw_ifF hc2 h
    refine lv_iload_n hx hb d_OP_takes_4 rfl (lv_at hl 0 rfl) ?_
    refine xw_gets hx hb hX hS 1 (by decide) hown (hts _ hw_103) d_OP_takes_5 ?_
    refine xw_tlen hx hb hX hS 1 (by decide) d_OP_takes_8 ?_
    refine xw_icmp_ge (tgt := 20) hx hb hg1 (by decide) d_OP_takes_9 (by decide) (fun hc3 => ?_) (fun hc3 => ?_)
    · replace h := xw_ifT hc3 h
      refine lv_iconst (v := xw_i 0) hx hb d_OP_takes_20 rfl ?_
      exact xw_iretE hx hb hr hlk hP hK hD hX hS h d_OP_takes_21
    · replace h := xw_ifF hc3 h
      refine xw_gets hx hb hX hS 1 (by decide) hown (hts _ hw_103) d_OP_takes_12 ?_
      refine lv_iload_n hx hb d_OP_takes_15 rfl (lv_at hl 0 rfl) ?_
      obtain ⟨hg4, h⟩ := xw_grdI h
      refine xw_ti hx hb hX hS 1 (by decide) hg4 d_OP_takes_16 ?_
      refine lv_goto (tgt := 21) hx hb d_OP_takes_17 (by decide) ?_
      exact xw_iretE hx hb hr hlk hP hK hD hX hS h d_OP_takes_21
def f_OP_puts (fu : Nat) (s0 : xw_S) (p0 : Int) : Option (xw_S × Int) :=
 xw_grd (xw_r p0) (xw_if (p0 < 0) (some (s0, 0))
 (xw_if (33 ≤ p0) (some (s0, 0))
 (xw_grd ((0 ≤ p0 ∧ p0 < ((33 : Nat) : Int))) (some (s0, (xw_sa 2).getD (p0).toNat 0)))))
set_option maxRecDepth 100000 in
set_option maxHeartbeats 4000000 in
theorem c_OP_puts (l : Launch) (D : va_G) (A : Nat → Prop) (ad : Nat → Nat) (cs : Nat → ClassId) (Z : va_W) (tt : Nat → Nat) (fu : Nat) (s0 sZ : xw_S) (p0 : Int) (r0 : Int) (h : f_OP_puts fu s0 p0 = some (sZ, r0)) : Met l y_OP_puts w_OP_puts ({ frames := 0, cells := 0, slots := 0, locals := 0 }) (va_Pc [.int (xw_i p0)] (xw_H D vwCl A kdC 100 ad cs Z tt s0)) (va_Qi (fun r u => r = xw_i r0 ∧ u = sZ) (xw_H D vwCl A kdC 100 ad cs Z tt) A) 0 0 A := by
  refine Met.ofW (cc := b_OP_puts) (maxL := 1) (ret := (some .int)) (by decide) rfl ?_
  intro p e s m args below meth c s₁ B hml hv
  obtain ⟨rfl, hP, hK, hD, hX⟩ := hv
  have hx := B.exec
  have hb := B.bytes
  have hr := B.returns
  have hts0 := atoms_spec (ws := w_OP_puts) B.pre
  have hts := fun w (hw : w ∈ wAll) => hts0 w (List.mem_cons_of_mem _ hw)
  have hown : s.vm.findClass "AdviceWeaver$Op" = some m.cls := findClass_of_methodNamed B.named
  have hlk := B.notSynchronized
  clear hts0 B
  have hS : va_S A s.heap s.heap [] := va_S.rf
  have hl := lv_entry [.int (xw_i p0)] (n := 1) (Nat.le_of_ble_eq_true rfl)
  rw [lg_entry_eq]
  generalize (lg_sl [.int (xw_i p0)] ++ List.replicate (1 - (lg_sl [.int (xw_i p0)]).length) Slot.unset).toArray = ls at hl ⊢
  have hl : lv_has ls 1 [(0, .int (xw_i p0))] := hl
  unfold f_OP_puts at h
  refine lv_iload_n hx hb d_OP_puts_0 rfl (lv_at hl 0 rfl) ?_
  obtain ⟨hg1, h⟩ := xw_grdI h
  refine xw_if_lt (tgt := 20) hx hb hg1 d_OP_puts_1 (by decide) (fun hc2 => ?_) (fun hc2 => ?_)
  · replace h := xw_ifT hc2 h
    refine lv_iconst (v := xw_i 0) hx hb d_OP_puts_20 rfl ?_
    exact xw_iretE hx hb hr hlk hP hK hD hX hS h d_OP_puts_21
  · replace h := xw_ifF hc2 h
    refine lv_iload_n hx hb d_OP_puts_4 rfl (lv_at hl 0 rfl) ?_
    refine xw_gets hx hb hX hS 2 (by decide) hown (hts _ hw_104) d_OP_puts_5 ?_
    refine xw_tlen hx hb hX hS 2 (by decide) d_OP_puts_8 ?_
    refine xw_icmp_ge (tgt := 20) hx hb hg1 (by decide) d_OP_puts_9 (by decide) (fun hc3 => ?_) (fun hc3 => ?_)
    · replace h := xw_ifT hc3 h
      refine lv_iconst (v := xw_i 0) hx hb d_OP_puts_20 rfl ?_
      exact xw_iretE hx hb hr hlk hP hK hD hX hS h d_OP_puts_21
    · replace h := xw_ifF hc3 h
      refine xw_gets hx hb hX hS 2 (by decide) hown (hts _ hw_104) d_OP_puts_12 ?_
      refine lv_iload_n hx hb d_OP_puts_15 rfl (lv_at hl 0 rfl) ?_
      obtain ⟨hg4, h⟩ := xw_grdI h
      refine xw_ti hx hb hX hS 2 (by decide) hg4 d_OP_puts_16 ?_
      refine lv_goto (tgt := 21) hx hb d_OP_puts_17 (by decide) ?_
      exact xw_iretE hx hb hr hlk hP hK hD hX hS h d_OP_puts_21
def f_OP_goesOn (fu : Nat) (s0 : xw_S) (p0 : Int) : Option (xw_S × Int) :=
 xw_grd (xw_r p0) (xw_if (p0 = 10) (some (s0, 0))
 (xw_if (p0 = 20) (some (s0, 0))
 (xw_if (p0 = 14) (some (s0, 0))
 (xw_if (p0 = 15) (some (s0, 0))
 (xw_if (p0 = 32) (some (s0, 0))
 (some (s0, 1)))))))
set_option maxRecDepth 100000 in
set_option maxHeartbeats 4000000 in
theorem c_OP_goesOn (l : Launch) (D : va_G) (A : Nat → Prop) (ad : Nat → Nat) (cs : Nat → ClassId) (Z : va_W) (tt : Nat → Nat) (fu : Nat) (s0 sZ : xw_S) (p0 : Int) (r0 : Int) (h : f_OP_goesOn fu s0 p0 = some (sZ, r0)) : Met l y_OP_goesOn w_OP_goesOn ({ frames := 0, cells := 0, slots := 0, locals := 0 }) (va_Pc [.int (xw_i p0)] (xw_H D vwCl A kdC 100 ad cs Z tt s0)) (va_Qi (fun r u => r = xw_i r0 ∧ u = sZ) (xw_H D vwCl A kdC 100 ad cs Z tt) A) 0 0 A := by
  refine Met.ofW (cc := b_OP_goesOn) (maxL := 1) (ret := (some .boolean)) (by decide) rfl ?_
  intro p e s m args below meth c s₁ B hml hv
  obtain ⟨rfl, hP, hK, hD, hX⟩ := hv
  have hx := B.exec
  have hb := B.bytes
  have hr := B.returns
  have hts0 := atoms_spec (ws := w_OP_goesOn) B.pre
  have hts := fun w (hw : w ∈ wAll) => hts0 w (List.mem_cons_of_mem _ hw)
  have hown : s.vm.findClass "AdviceWeaver$Op" = some m.cls := findClass_of_methodNamed B.named
  have hlk := B.notSynchronized
  clear hts0 B
  have hS : va_S A s.heap s.heap [] := va_S.rf
  have hl := lv_entry [.int (xw_i p0)] (n := 1) (Nat.le_of_ble_eq_true rfl)
  rw [lg_entry_eq]
  generalize (lg_sl [.int (xw_i p0)] ++ List.replicate (1 - (lg_sl [.int (xw_i p0)]).length) Slot.unset).toArray = ls at hl ⊢
  have hl : lv_has ls 1 [(0, .int (xw_i p0))] := hl
  unfold f_OP_goesOn at h
  refine lv_iload_n hx hb d_OP_goesOn_0 rfl (lv_at hl 0 rfl) ?_
  refine lv_bipush (v := xw_i 10) hx hb d_OP_goesOn_1 (by decide) ?_
  obtain ⟨hg1, h⟩ := xw_grdI h
  refine xw_icmp_eq (tgt := 34) hx hb hg1 (by decide) d_OP_goesOn_3 (by decide) (fun hc2 => ?_) (fun hc2 => ?_)
  · replace h := xw_ifT hc2 h
    refine lv_iconst (v := xw_i 0) hx hb d_OP_goesOn_34 rfl ?_
    exact xw_zretE hx hb hr hlk hP hK hD hX hS h (by decide) d_OP_goesOn_35
  · replace h := xw_ifF hc2 h
    refine lv_iload_n hx hb d_OP_goesOn_6 rfl (lv_at hl 0 rfl) ?_
    refine lv_bipush (v := xw_i 20) hx hb d_OP_goesOn_7 (by decide) ?_
    refine xw_icmp_eq (tgt := 34) hx hb hg1 (by decide) d_OP_goesOn_9 (by decide) (fun hc3 => ?_) (fun hc3 => ?_)
    · replace h := xw_ifT hc3 h
      refine lv_iconst (v := xw_i 0) hx hb d_OP_goesOn_34 rfl ?_
      exact xw_zretE hx hb hr hlk hP hK hD hX hS h (by decide) d_OP_goesOn_35
    · replace h := xw_ifF hc3 h
      refine lv_iload_n hx hb d_OP_goesOn_12 rfl (lv_at hl 0 rfl) ?_
      refine lv_bipush (v := xw_i 14) hx hb d_OP_goesOn_13 (by decide) ?_
      refine xw_icmp_eq (tgt := 34) hx hb hg1 (by decide) d_OP_goesOn_15 (by decide) (fun hc4 => ?_) (fun hc4 => ?_)
      · replace h := xw_ifT hc4 h
        refine lv_iconst (v := xw_i 0) hx hb d_OP_goesOn_34 rfl ?_
        exact xw_zretE hx hb hr hlk hP hK hD hX hS h (by decide) d_OP_goesOn_35
      · replace h := xw_ifF hc4 h
        refine lv_iload_n hx hb d_OP_goesOn_18 rfl (lv_at hl 0 rfl) ?_
        refine lv_bipush (v := xw_i 15) hx hb d_OP_goesOn_19 (by decide) ?_
        refine xw_icmp_eq (tgt := 34) hx hb hg1 (by decide) d_OP_goesOn_21 (by decide) (fun hc5 => ?_) (fun hc5 => ?_)
        · replace h := xw_ifT hc5 h
          refine lv_iconst (v := xw_i 0) hx hb d_OP_goesOn_34 rfl ?_
          exact xw_zretE hx hb hr hlk hP hK hD hX hS h (by decide) d_OP_goesOn_35
        · replace h := xw_ifF hc5 h
          refine lv_iload_n hx hb d_OP_goesOn_24 rfl (lv_at hl 0 rfl) ?_
          refine lv_bipush (v := xw_i 32) hx hb d_OP_goesOn_25 (by decide) ?_
          refine xw_icmp_eq (tgt := 34) hx hb hg1 (by decide) d_OP_goesOn_27 (by decide) (fun hc6 => ?_) (fun hc6 => ?_)
          · replace h := xw_ifT hc6 h
            refine lv_iconst (v := xw_i 0) hx hb d_OP_goesOn_34 rfl ?_
            exact xw_zretE hx hb hr hlk hP hK hD hX hS h (by decide) d_OP_goesOn_35
          · replace h := xw_ifF hc6 h
            refine lv_iconst (v := xw_i 1) hx hb d_OP_goesOn_30 rfl ?_
            refine lv_goto (tgt := 35) hx hb d_OP_goesOn_31 (by decide) ?_
            exact xw_zretE hx hb hr hlk hP hK hD hX hS h (by decide) d_OP_goesOn_35
def lp_AR_fill_5 (fu : Nat) (q : Nat) (N : Nat) (c1_5 : Int) (c3_5 : Int) (k20 : xw_S → Option xw_S) : Nat → xw_S → Int → Option xw_S
  | 0, _, _ => none
  | n + 1, s3, i2_5 =>
    xw_grd (xw_r i2_5 ∧ xw_r c3_5) (xw_if (c3_5 ≤ i2_5) (k20 s3)
     (xw_grd ((0 ≤ i2_5 ∧ i2_5 < ((N : Nat) : Int))) (xw_let (xw_st s3 q (i2_5).toNat c1_5) (fun s7 => xw_let (i2_5 + 1) (fun v9 => lp_AR_fill_5 fu q N c1_5 c3_5 k20 n s7 v9)))))
def f_AR_fill (fu : Nat) (s0 : xw_S) (q : Nat) (N : Nat) (p1 : Int) : Option xw_S :=
 xw_let ((N : Nat) : Int) (fun v1 => xw_jn (fun (s11 : xw_S) => some s11)
 (fun (k20 : xw_S → Option xw_S) => lp_AR_fill_5 fu q N p1 v1 k20 fu s0 0))
set_option maxRecDepth 100000 in
set_option maxHeartbeats 4000000 in
theorem c_AR_fill (l : Launch) (D : va_G) (A : Nat → Prop) (ad : Nat → Nat) (cs : Nat → ClassId) (Z : va_W) (tt : Nat → Nat) (fu : Nat) (s0 sZ : xw_S) (q : Nat) (hb_q : q < 100) (N : Nat) (hb_N : kdC q = (20, N, []) ∧ N < 2147483648) (p1 : Int) (h : f_AR_fill fu s0 q N p1 = some sZ) : Met l y_AR_fill w_AR_fill ({ frames := 0, cells := 0, slots := 0, locals := 0 }) (va_Pc [.ref (ad q), .int (xw_i p1)] (xw_H D vwCl A kdC 100 ad cs Z tt s0)) (va_Qv (fun u => u = sZ) (xw_H D vwCl A kdC 100 ad cs Z tt) A) 0 0 A := by
  refine Met.ofW (cc := b_AR_fill) (maxL := 4) (ret := none) (by decide) rfl ?_
  intro p e s m args below meth c s₁ B hml hv
  obtain ⟨rfl, hP, hK, hD, hX⟩ := hv
  have hx := B.exec
  have hb := B.bytes
  have hr := B.returns
  have hts0 := atoms_spec (ws := w_AR_fill) B.pre
  have hts := fun w (hw : w ∈ wAll) => hts0 w (List.mem_cons_of_mem _ hw)
  have hown : s.vm.findClass "java/util/Arrays" = some m.cls := findClass_of_methodNamed B.named
  have hlk := B.notSynchronized
  clear hts0 B
  have hS : va_S A s.heap s.heap [] := va_S.rf
  have hl := lv_entry [.ref (ad q), .int (xw_i p1)] (n := 4) (Nat.le_of_ble_eq_true rfl)
  rw [lg_entry_eq]
  generalize (lg_sl [.ref (ad q), .int (xw_i p1)] ++ List.replicate (4 - (lg_sl [.ref (ad q), .int (xw_i p1)]).length) Slot.unset).toArray = ls at hl ⊢
  have hl : lv_has ls 4 [(0, .ref (ad q)), (1, .int (xw_i p1))] := hl
  have hlp5 : ∀ (c1_5 : Int) (c3_5 : Int) (k20 : xw_S → Option xw_S) (hk20 : ∀ (sq : xw_S), k20 sq = some sZ → ∀ (H : Heap) (locs : List Loc) (ls : Array Slot), va_P D vwCl (xw_ws kdC 100 ad cs Z sq) H → va_S A s.heap H locs → lv_has ls 4 [] → W p l e (headSpec w_AR_fill ({ frames := 0, cells := 0, slots := 0, locals := 0 })).room s m [.ref (ad q), .int (xw_i p1)].toArray below meth c H locs 0 0 (MQ below (va_Qv (fun u => u = sZ) (xw_H D vwCl A kdC 100 ad cs Z tt) A) [.ref (ad q), .int (xw_i p1)].toArray s 0 0 A) (F0 m 20 ls [])) (n : Nat), ∀ (sq : xw_S) (i2_5 : Int), lp_AR_fill_5 fu q N c1_5 c3_5 k20 n sq i2_5 = some sZ → ∀ (H : Heap) (locs : List Loc) (ls : Array Slot), va_P D vwCl (xw_ws kdC 100 ad cs Z sq) H → va_S A s.heap H locs → lv_has ls 4 [(0, .ref (ad q)), (1, .int (xw_i c1_5)), (2, .int (xw_i i2_5)), (3, .int (xw_i c3_5))] → W p l e (headSpec w_AR_fill ({ frames := 0, cells := 0, slots := 0, locals := 0 })).room s m [.ref (ad q), .int (xw_i p1)].toArray below meth c H locs 0 0 (MQ below (va_Qv (fun u => u = sZ) (xw_H D vwCl A kdC 100 ad cs Z tt) A) [.ref (ad q), .int (xw_i p1)].toArray s 0 0 A) (F0 m 5 ls []) := by
    intro c1_5 c3_5 k20 hk20 n
    induction n with
    | zero =>
      intro sq i2_5 h
      cases (show (none : Option xw_S) = some sZ from h)
    | succ n ih5 =>
      intro s3 i2_5 h H locs ls hP hS hl
      unfold lp_AR_fill_5 at h
      refine lv_iload_n hx hb d_AR_fill_5 rfl (lv_at hl 2 rfl) ?_
      refine lv_iload_n hx hb d_AR_fill_6 rfl (lv_at hl 3 rfl) ?_
      obtain ⟨hg4, h⟩ := xw_grdI h
      refine xw_icmp_ge (tgt := 20) hx hb hg4.1 hg4.2 d_AR_fill_7 (by decide) (fun hc5 => ?_) (fun hc5 => ?_)
      · replace h := xw_ifT hc5 h
        exact hk20 s3 h _ _ _ hP hS (lv_sub hl [] rfl)
      · replace h := xw_ifF hc5 h
        refine lv_aload_n hx hb d_AR_fill_10 rfl (lv_at hl 0 rfl) ?_
        refine lv_iload_n hx hb d_AR_fill_11 rfl (lv_at hl 2 rfl) ?_
        refine lv_iload_n hx hb d_AR_fill_12 rfl (lv_at hl 1 rfl) ?_
        obtain ⟨hg6, h⟩ := xw_grdI h
        refine xw_iast hx hb hK hP hD hS hb_q hb_N.1 hb_N.2 hg6 d_AR_fill_13 (fun s7 e8 H locs hP hS => ?_)
        replace h := xw_letI e8 h
        obtain ⟨v9, e10⟩ : ∃ z, z = i2_5 + 1 := ⟨_, rfl⟩
        replace h := xw_letI e10 h
        refine xw_iinc (lv' := [(2, .int (xw_i v9)), (0, .ref (ad q)), (1, .int (xw_i c1_5)), (3, .int (xw_i c3_5))]) hx hb d_AR_fill_14 hl (k := 2) rfl (by decide) (by rw [e10]; rfl) (fun ls hl => ?_)
        refine lv_goto (tgt := 5) hx hb d_AR_fill_17 (by decide) ?_
        exact ih5 s7 v9 h _ _ _ hP hS (lv_sub hl [1, 2, 0, 3] rfl)
  unfold f_AR_fill at h
  refine lv_iconst (v := xw_i 0) hx hb d_AR_fill_0 rfl ?_
  refine lv_istore_n hx hb d_AR_fill_1 rfl hl (by decide) rfl (fun ls hl => ?_)
  refine lv_aload_n hx hb d_AR_fill_2 rfl (lv_at hl 1 rfl) ?_
  refine xw_alenI hx hb hK hP hb_q hb_N.1 d_AR_fill_3 ?_
  refine xw_topi (fun v1 e2 => ?_)
  replace h := xw_letI e2 h
  refine lv_istore_n hx hb d_AR_fill_4 rfl hl (by decide) rfl (fun ls hl => ?_)
  refine xw_jnI (fun j => ∀ (sq : xw_S), j sq = some sZ → ∀ (H : Heap) (locs : List Loc) (ls : Array Slot), va_P D vwCl (xw_ws kdC 100 ad cs Z sq) H → va_S A s.heap H locs → lv_has ls 4 [] → W p l e (headSpec w_AR_fill ({ frames := 0, cells := 0, slots := 0, locals := 0 })).room s m [.ref (ad q), .int (xw_i p1)].toArray below meth c H locs 0 0 (MQ below (va_Qv (fun u => u = sZ) (xw_H D vwCl A kdC 100 ad cs Z tt) A) [.ref (ad q), .int (xw_i p1)].toArray s 0 0 A) (F0 m 20 ls [])) h ?_ ?_
  · intro s11 h H locs ls hP hS hl
    exact xw_vretE hx hb hr hlk hP hK hD hX hS h d_AR_fill_20
  · intro k20 hk20 h
    exact hlp5 p1 v1 k20 hk20 fu s0 0 h _ _ _ hP hS (lv_sub hl [2, 3, 1, 0] rfl)
