/-! 40: constructors (written by wip/gen/ctor.py) -/
section XN
variable {p : Program} {l : Launch} {e : Env} {R : Room} {s : State} {m : MethodId} {args : Array Value} {below : List Frame} {meth : Method} {c : Code} {H : Heap} {locs : List Loc} {cells slots : Nat} {Q : State → Prop}
variable {cc : ByteArray} {pc : Nat} {ls : Array Slot} {rest : List Value} {D : va_G} {cl : List vw_C} {A : Nat → Prop} {cs : Nat → ClassId} {ws : va_W} {H0 : Heap} {N : Nat}
theorem xn_n0 {N : Nat} (hN : N ≤ 100000) : ¬ xw_i (N : Int) < 0 ∧ (xw_i (N : Int)).toNatClampNeg = N := by
  have hr : xw_r (N : Int) := ⟨by omega, by omega⟩
  refine ⟨fun q => ?_, ?_⟩
  · rw [← xw_i0, xw_lt hr xw_r0] at q; omega
  · rw [← Int32.toNat_toInt, xw_toInt hr]; simp
theorem xn_newI (hexec : p.tables.exec = Jvm.exec) (hb : c.code = cc) (harr : (Cond.arrayClass .int).before args s = true) (hK : va_K D cl (xw_ty cs) s) (hP : va_P D cl ws H) (hD : va_D A ws) (hS : va_S A H0 H locs) (hA : ∀ q, H0.size ≤ q → A q) (hN : N ≤ 100000) (hcells : cells + 1 ≤ R.cells) (hslots : slots + N ≤ R.slots) (hdg : decode cc pc = .ok (.newarray .int, 2)) (kk : ∀ (q : Nat) (H1 : Heap), va_P D cl (ws ++ [(q, .inl (cs 20, N, .inl (fun _ => xw_i 0)))]) H1 → va_D A (ws ++ [(q, .inl (cs 20, N, .inl (fun _ => xw_i 0)))]) → va_S A H0 H1 locs → W p l e R s m args below meth c H1 locs (cells + 1) (slots + N) Q (F0 m (pc + 2) ls (.ref q :: rest))) : W p l e R s m args below meth c H locs cells slots Q (F0 m pc ls (.int (xw_i (N : Int)) :: rest)) := by
  refine va_newa (atype := .int) (ty := .int) (a0 := (N, .inl (fun _ => xw_i 0))) hexec hb harr rfl hK hP hD hS hA (fun cA => ?_) (xn_n0 hN).1 (xn_n0 hN).2 (by show N * 4 ≤ _; omega) hcells hslots hdg (fun q cA H1 hK1 hP1 hD1 hS1 => ?_)
  · rw [vp_cell_i, xw_i0]; rfl
  · have h1 := (hK.2 0 (cs 20, .int) rfl).2
    have h2 := (hK1.2 6 (cA, .int) rfl).2
    have e1 : cA = cs 20 := Option.some.inj (Eq.trans (Eq.symm h2) h1)
    rw [e1] at hP1 hD1
    exact kk q H1 hP1 hD1 hS1
theorem xn_newB (hexec : p.tables.exec = Jvm.exec) (hb : c.code = cc) (harr : (Cond.arrayClass .boolean).before args s = true) (hK : va_K D cl (xw_ty cs) s) (hP : va_P D cl ws H) (hD : va_D A ws) (hS : va_S A H0 H locs) (hA : ∀ q, H0.size ≤ q → A q) (hN : N ≤ 100000) (hcells : cells + 1 ≤ R.cells) (hslots : slots + N ≤ R.slots) (hdg : decode cc pc = .ok (.newarray .boolean, 2)) (kk : ∀ (q : Nat) (H1 : Heap), va_P D cl (ws ++ [(q, .inl (cs 21, N, .inl (fun _ => xw_i 0)))]) H1 → va_D A (ws ++ [(q, .inl (cs 21, N, .inl (fun _ => xw_i 0)))]) → va_S A H0 H1 locs → W p l e R s m args below meth c H1 locs (cells + 1) (slots + N) Q (F0 m (pc + 2) ls (.ref q :: rest))) : W p l e R s m args below meth c H locs cells slots Q (F0 m pc ls (.int (xw_i (N : Int)) :: rest)) := by
  refine va_newa (atype := .boolean) (ty := .boolean) (a0 := (N, .inl (fun _ => xw_i 0))) hexec hb harr rfl hK hP hD hS hA (fun cA => ?_) (xn_n0 hN).1 (xn_n0 hN).2 (by show N * 1 ≤ _; omega) hcells hslots hdg (fun q cA H1 hK1 hP1 hD1 hS1 => ?_)
  · rw [vp_cell_i, xw_i0]; rfl
  · have h1 := (hK.2 1 (cs 21, .boolean) rfl).2
    have h2 := (hK1.2 6 (cA, .boolean) rfl).2
    have e1 : cA = cs 21 := Option.some.inj (Eq.trans (Eq.symm h2) h1)
    rw [e1] at hP1 hD1
    exact kk q H1 hP1 hD1 hS1
theorem xn_newL (hexec : p.tables.exec = Jvm.exec) (hb : c.code = cc) (harr : (Cond.arrayClass .long).before args s = true) (hK : va_K D cl (xw_ty cs) s) (hP : va_P D cl ws H) (hD : va_D A ws) (hS : va_S A H0 H locs) (hA : ∀ q, H0.size ≤ q → A q) (hN : N ≤ 100000) (hcells : cells + 1 ≤ R.cells) (hslots : slots + N ≤ R.slots) (hdg : decode cc pc = .ok (.newarray .long, 2)) (kk : ∀ (q : Nat) (H1 : Heap), va_P D cl (ws ++ [(q, .inl (cs 22, N, .inr (.inl (fun _ => 0))))]) H1 → va_D A (ws ++ [(q, .inl (cs 22, N, .inr (.inl (fun _ => 0))))]) → va_S A H0 H1 locs → W p l e R s m args below meth c H1 locs (cells + 1) (slots + N) Q (F0 m (pc + 2) ls (.ref q :: rest))) : W p l e R s m args below meth c H locs cells slots Q (F0 m pc ls (.int (xw_i (N : Int)) :: rest)) := by
  refine va_newa (atype := .long) (ty := .long) (a0 := (N, .inr (.inl (fun _ => 0)))) hexec hb harr rfl hK hP hD hS hA (fun cA => ?_) (xn_n0 hN).1 (xn_n0 hN).2 (by show N * 8 ≤ _; omega) hcells hslots hdg (fun q cA H1 hK1 hP1 hD1 hS1 => ?_)
  · rfl
  · have h1 := (hK.2 2 (cs 22, .long) rfl).2
    have h2 := (hK1.2 6 (cA, .long) rfl).2
    have e1 : cA = cs 22 := Option.some.inj (Eq.trans (Eq.symm h2) h1)
    rw [e1] at hP1 hD1
    exact kk q H1 hP1 hD1 hS1
theorem xn_newR23 (hexec : p.tables.exec = Jvm.exec) (hb : c.code = cc) {own : String} {index : Nat} (hown : s.vm.findClass own = some m.cls) (hclink : (Cond.classLink own index "AdviceWeaver$Body").before args s = true) (hover : va_AO "AdviceWeaver$Body" s) (hK : va_K D cl (xw_ty cs) s) (hP : va_P D cl ws H) (hD : va_D A ws) (hS : va_S A H0 H locs) (hA : ∀ q, H0.size ≤ q → A q) (hN : N ≤ 100000) (hcells : cells + 1 ≤ R.cells) (hslots : slots + N ≤ R.slots) (hdg : decode cc pc = .ok (.anewarray index, 3)) (kk : ∀ (q : Nat) (H1 : Heap), va_P D cl (ws ++ [(q, .inl (cs 23, N, .inr (.inr (.inr (.inr (fun _ => none))))))]) H1 → va_D A (ws ++ [(q, .inl (cs 23, N, .inr (.inr (.inr (.inr (fun _ => none))))))]) → va_S A H0 H1 locs → W p l e R s m args below meth c H1 locs (cells + 1) (slots + N) Q (F0 m (pc + 3) ls (.ref q :: rest))) : W p l e R s m args below meth c H locs cells slots Q (F0 m pc ls (.int (xw_i (N : Int)) :: rest)) := by
  refine va_newq hexec hb hown hclink hover hK hP hD hS hA (xn_n0 hN).1 (xn_n0 hN).2 (by omega) hcells hslots hdg (fun q cA H1 hK1 hP1 hD1 hS1 => ?_)
  obtain ⟨_, _, _, _, _, h1⟩ := (hK.2 3 (cs 23, .object "AdviceWeaver$Body") rfl).2
  obtain ⟨_, _, _, _, _, h2⟩ := (hK1.2 6 (cA, .object "AdviceWeaver$Body") rfl).2
  have e1 : cA = cs 23 := Option.some.inj (Eq.trans (Eq.symm h2) h1)
  rw [e1] at hP1 hD1
  exact kk q H1 hP1 hD1 hS1
theorem xn_newR24 (hexec : p.tables.exec = Jvm.exec) (hb : c.code = cc) {own : String} {index : Nat} (hown : s.vm.findClass own = some m.cls) (hclink : (Cond.classLink own index "AdviceWeaver$Transformer").before args s = true) (hover : va_AO "AdviceWeaver$Transformer" s) (hK : va_K D cl (xw_ty cs) s) (hP : va_P D cl ws H) (hD : va_D A ws) (hS : va_S A H0 H locs) (hA : ∀ q, H0.size ≤ q → A q) (hN : N ≤ 100000) (hcells : cells + 1 ≤ R.cells) (hslots : slots + N ≤ R.slots) (hdg : decode cc pc = .ok (.anewarray index, 3)) (kk : ∀ (q : Nat) (H1 : Heap), va_P D cl (ws ++ [(q, .inl (cs 24, N, .inr (.inr (.inr (.inr (fun _ => none))))))]) H1 → va_D A (ws ++ [(q, .inl (cs 24, N, .inr (.inr (.inr (.inr (fun _ => none))))))]) → va_S A H0 H1 locs → W p l e R s m args below meth c H1 locs (cells + 1) (slots + N) Q (F0 m (pc + 3) ls (.ref q :: rest))) : W p l e R s m args below meth c H locs cells slots Q (F0 m pc ls (.int (xw_i (N : Int)) :: rest)) := by
  refine va_newq hexec hb hown hclink hover hK hP hD hS hA (xn_n0 hN).1 (xn_n0 hN).2 (by omega) hcells hslots hdg (fun q cA H1 hK1 hP1 hD1 hS1 => ?_)
  obtain ⟨_, _, _, _, _, h1⟩ := (hK.2 4 (cs 24, .object "AdviceWeaver$Transformer") rfl).2
  obtain ⟨_, _, _, _, _, h2⟩ := (hK1.2 6 (cA, .object "AdviceWeaver$Transformer") rfl).2
  have e1 : cA = cs 24 := Option.some.inj (Eq.trans (Eq.symm h2) h1)
  rw [e1] at hP1 hD1
  exact kk q H1 hP1 hD1 hS1
theorem xn_newR25 (hexec : p.tables.exec = Jvm.exec) (hb : c.code = cc) {own : String} {index : Nat} (hown : s.vm.findClass own = some m.cls) (hclink : (Cond.classLink own index "AdviceWeaver$Frame").before args s = true) (hover : va_AO "AdviceWeaver$Frame" s) (hK : va_K D cl (xw_ty cs) s) (hP : va_P D cl ws H) (hD : va_D A ws) (hS : va_S A H0 H locs) (hA : ∀ q, H0.size ≤ q → A q) (hN : N ≤ 100000) (hcells : cells + 1 ≤ R.cells) (hslots : slots + N ≤ R.slots) (hdg : decode cc pc = .ok (.anewarray index, 3)) (kk : ∀ (q : Nat) (H1 : Heap), va_P D cl (ws ++ [(q, .inl (cs 25, N, .inr (.inr (.inr (.inr (fun _ => none))))))]) H1 → va_D A (ws ++ [(q, .inl (cs 25, N, .inr (.inr (.inr (.inr (fun _ => none))))))]) → va_S A H0 H1 locs → W p l e R s m args below meth c H1 locs (cells + 1) (slots + N) Q (F0 m (pc + 3) ls (.ref q :: rest))) : W p l e R s m args below meth c H locs cells slots Q (F0 m pc ls (.int (xw_i (N : Int)) :: rest)) := by
  refine va_newq hexec hb hown hclink hover hK hP hD hS hA (xn_n0 hN).1 (xn_n0 hN).2 (by omega) hcells hslots hdg (fun q cA H1 hK1 hP1 hD1 hS1 => ?_)
  obtain ⟨_, _, _, _, _, h1⟩ := (hK.2 5 (cs 25, .object "AdviceWeaver$Frame") rfl).2
  obtain ⟨_, _, _, _, _, h2⟩ := (hK1.2 6 (cA, .object "AdviceWeaver$Frame") rfl).2
  have e1 : cA = cs 25 := Option.some.inj (Eq.trans (Eq.symm h2) h1)
  rw [e1] at hP1 hD1
  exact kk q H1 hP1 hD1 hS1
theorem xn_aast (hexec : p.tables.exec = Jvm.exec) (hb : c.code = cc) (hK : va_K D cl (xw_ty cs) s) (hP : va_P D cl ws H) (hD : va_D A ws) (hS : va_S A H0 H locs) (q0 t0 qk ci : Nat) {a v : Nat} {cA : ClassId} {r : vw_C} {vs : List Value} {f : Nat → Option Nat} (ha : ws[q0]? = some (a, .inl (cA, N, .inr (.inr (.inr (.inr f)))))) (ht : (xw_ty cs)[t0]? = some (cA, .object r.1)) (hv : ws[qk]? = some (v, .inr (ci, vs))) (hc : cl[ci]? = some r) {x : Nat} (hx : x < N) (hN : N ≤ 100000) (hdg : decode cc pc = .ok (.aastore, 1)) (kk : ∀ (H1 : Heap) (locs1 : List Loc), va_P D cl (ws.set q0 (a, .inl (cA, N, .inr (.inr (.inr (.inr (va_up f x (some v)))))))) H1 → va_D A (ws.set q0 (a, .inl (cA, N, .inr (.inr (.inr (.inr (va_up f x (some v)))))))) → va_S A H0 H1 locs1 → W p l e R s m args below meth c H1 locs1 cells slots Q (F0 m (pc + 1) ls rest)) : W p l e R s m args below meth c H locs cells slots Q (F0 m pc ls (.ref v :: .int (xw_i (x : Int)) :: .ref a :: rest)) := by
  have hi := xw_in (i := (x : Int)) (n := N) ⟨by omega, by omega⟩ (by omega)
  refine va_astq hexec hb hK hP hD hS q0 t0 qk ci ha ht hv hc hi.1 hdg (fun H1 locs1 hP1 hD1 hS1 => kk H1 locs1 ?_ ?_ hS1)
  · rw [hi.2] at hP1; simpa using hP1
  · rw [hi.2] at hD1; simpa using hD1
end XN
theorem gd_I {y : MethodName} {b : ByteArray} {mL : Nat} {ret : Option FieldType} (h5 : Cond.code y b mL ret ∈ wAll) : GoodIn wAll (.code y b mL ret :: wAll) := by
  intro w hw
  rcases List.mem_cons.mp hw with rfl | hw
  · exact gd_all _ h5
  · exact gd_all _ hw
def xn_X (U : State) : Prop := va_Nw (.methodLinkNest "AdviceWeaver" 9 y_CF_init "AdviceWeaver") U ∧ va_Nw (.methodLinkNest "AdviceWeaver" 37 y_TR_init "AdviceWeaver") U ∧ va_Nw (.methodLinkNest "AdviceWeaver" 44 y_FL_init "AdviceWeaver") U ∧ va_Nw (.methodLinkNest "AdviceWeaver" 51 y_LM_init "AdviceWeaver") U ∧ va_Nw (.methodLinkNest "AdviceWeaver$Machine" 24 y_FR_init "AdviceWeaver") U ∧ va_AO "AdviceWeaver$Body" U ∧ va_AO "AdviceWeaver$Transformer" U ∧ va_AO "AdviceWeaver$Frame" U
theorem xn_X.warm {s U : State} (hW : s.WarmedH U.vm) (h : xn_X s) : xn_X U := by
  obtain ⟨h1, h2, h3, h4, h5, h6, h7, h8⟩ := h
  exact ⟨va_Nw.warmM hW h1, va_Nw.warmM hW h2, va_Nw.warmM hW h3, va_Nw.warmM hW h4, va_Nw.warmM hW h5, h6.moved hW.alike, h7.moved hW.alike, h8.moved hW.alike⟩
theorem xn_X.call {U : State} {g : JFrame} {mk : MethodId} {a : Array Value} (h : xn_X U) : xn_X (U.calling g mk a) := by
  obtain ⟨h1, h2, h3, h4, h5, h6, h7, h8⟩ := h
  exact ⟨va_Nw.same rfl rfl h1, va_Nw.same rfl rfl h2, va_Nw.same rfl rfl h3, va_Nw.same rfl rfl h4, va_Nw.same rfl rfl h5, h6.moved (Vm.Alike.refl U.vm), h7.moved (Vm.Alike.refl U.vm), h8.moved (Vm.Alike.refl U.vm)⟩
theorem xn_df_B : ∀ j, j < 12 → defaultValue (ty_B j) = vp_V [.null, .null, .null, .int (xw_i 0), .int (xw_i 0), .int (xw_i 0), .int (xw_i 0), .int (xw_i 0), .int (xw_i 0), .int (xw_i 0), .int (xw_i 0), .int (xw_i 0)] j := by
  intro j hj
  rcases (show j = 0 ∨ j = 1 ∨ j = 2 ∨ j = 3 ∨ j = 4 ∨ j = 5 ∨ j = 6 ∨ j = 7 ∨ j = 8 ∨ j = 9 ∨ j = 10 ∨ j = 11 by omega) with rfl | rfl | rfl | rfl | rfl | rfl | rfl | rfl | rfl | rfl | rfl | rfl <;> first | rfl | exact congrArg Value.int xw_i0.symm
theorem xn_df_CF : ∀ j, j < 4 → defaultValue (ty_CF j) = vp_V [.null, .int (xw_i 0), .int (xw_i 0), .int (xw_i 0)] j := by
  intro j hj
  rcases (show j = 0 ∨ j = 1 ∨ j = 2 ∨ j = 3 by omega) with rfl | rfl | rfl | rfl <;> first | rfl | exact congrArg Value.int xw_i0.symm
theorem xn_df_FL : ∀ j, j < 3 → defaultValue (ty_FL j) = vp_V [.null, .int (xw_i 0), .int (xw_i 0)] j := by
  intro j hj
  rcases (show j = 0 ∨ j = 1 ∨ j = 2 by omega) with rfl | rfl | rfl <;> first | rfl | exact congrArg Value.int xw_i0.symm
theorem xn_df_FR : ∀ j, j < 5 → defaultValue (ty_FR j) = vp_V [.null, .null, .int (xw_i 0), .int (xw_i 0), .int (xw_i 0)] j := by
  intro j hj
  rcases (show j = 0 ∨ j = 1 ∨ j = 2 ∨ j = 3 ∨ j = 4 by omega) with rfl | rfl | rfl | rfl | rfl <;> first | rfl | exact congrArg Value.int xw_i0.symm
theorem xn_df_LM : ∀ j, j < 8 → defaultValue (ty_LM j) = vp_V [.null, .null, .null, .null, .null, .null, .null, .int (xw_i 0)] j := by
  intro j hj
  rcases (show j = 0 ∨ j = 1 ∨ j = 2 ∨ j = 3 ∨ j = 4 ∨ j = 5 ∨ j = 6 ∨ j = 7 by omega) with rfl | rfl | rfl | rfl | rfl | rfl | rfl | rfl <;> first | rfl | exact congrArg Value.int xw_i0.symm
theorem xn_df_MC : ∀ j, j < 9 → defaultValue (ty_MC j) = vp_V [.null, .null, .null, .int (xw_i 0), .int (xw_i 0), .int (xw_i 0), .int (xw_i 0), .int (xw_i 0), .int (xw_i 0)] j := by
  intro j hj
  rcases (show j = 0 ∨ j = 1 ∨ j = 2 ∨ j = 3 ∨ j = 4 ∨ j = 5 ∨ j = 6 ∨ j = 7 ∨ j = 8 by omega) with rfl | rfl | rfl | rfl | rfl | rfl | rfl | rfl | rfl <;> first | rfl | exact congrArg Value.int xw_i0.symm
theorem xn_df_TR : ∀ j, j < 3 → defaultValue (ty_TR j) = vp_V [.int (xw_i 0), .int (xw_i 0), .int (xw_i 0)] j := by
  intro j hj
  rcases (show j = 0 ∨ j = 1 ∨ j = 2 by omega) with rfl | rfl | rfl <;> first | rfl | exact congrArg Value.int xw_i0.symm
theorem xn_df_AW : ∀ j, j < 12 → defaultValue (ty_AW j) = vp_V [.null, .null, .null, .null, .null, .null, .null, .null, .null, .int (xw_i 0), .int (xw_i 0), .int (xw_i 0)] j := by
  intro j hj
  rcases (show j = 0 ∨ j = 1 ∨ j = 2 ∨ j = 3 ∨ j = 4 ∨ j = 5 ∨ j = 6 ∨ j = 7 ∨ j = 8 ∨ j = 9 ∨ j = 10 ∨ j = 11 by omega) with rfl | rfl | rfl | rfl | rfl | rfl | rfl | rfl | rfl | rfl | rfl | rfl <;> first | rfl | exact congrArg Value.int xw_i0.symm
theorem xn_df_MD : ∀ j, j < 43 → defaultValue (ty_MD j) = vp_V [.null, .int (xw_i 0), .null, .null, .null, .null, .null, .null, .null, .null, .int (xw_i 0), .int (xw_i 0), .int (xw_i 0), .int (xw_i 0), .int (xw_i 0), .int (xw_i 0), .null, .null, .null, .null, .null, .null, .null, .int (xw_i 0), .int (xw_i 0), .null, .null, .null, .null, .int (xw_i 0), .null, .int (xw_i 0), .null, .null, .null, .null, .null, .int (xw_i 0), .int (xw_i 0), .int (xw_i 0), .int (xw_i 0), .null, .null] j := by
  intro j hj
  rcases (show j = 0 ∨ j = 1 ∨ j = 2 ∨ j = 3 ∨ j = 4 ∨ j = 5 ∨ j = 6 ∨ j = 7 ∨ j = 8 ∨ j = 9 ∨ j = 10 ∨ j = 11 ∨ j = 12 ∨ j = 13 ∨ j = 14 ∨ j = 15 ∨ j = 16 ∨ j = 17 ∨ j = 18 ∨ j = 19 ∨ j = 20 ∨ j = 21 ∨ j = 22 ∨ j = 23 ∨ j = 24 ∨ j = 25 ∨ j = 26 ∨ j = 27 ∨ j = 28 ∨ j = 29 ∨ j = 30 ∨ j = 31 ∨ j = 32 ∨ j = 33 ∨ j = 34 ∨ j = 35 ∨ j = 36 ∨ j = 37 ∨ j = 38 ∨ j = 39 ∨ j = 40 ∨ j = 41 ∨ j = 42 by omega) with rfl | rfl | rfl | rfl | rfl | rfl | rfl | rfl | rfl | rfl | rfl | rfl | rfl | rfl | rfl | rfl | rfl | rfl | rfl | rfl | rfl | rfl | rfl | rfl | rfl | rfl | rfl | rfl | rfl | rfl | rfl | rfl | rfl | rfl | rfl | rfl | rfl | rfl | rfl | rfl | rfl | rfl | rfl <;> first | rfl | exact congrArg Value.int xw_i0.symm
theorem xw_iinc' {p : Program} {l : Launch} {e : Env} {R : Room} {s : State} {m : MethodId} {args : Array Value} {below : List Frame} {meth : Method} {c : Code} {H : Heap} {locs : List Loc} {cells slots : Nat} {Q : State → Prop} {cc : ByteArray} {pc : Nat} {ls : Array Slot} {rest : List Value} {x : Int} (hexec : p.tables.exec = Jvm.exec) (hb : c.code = cc) {i nL k : Nat} {n : Int} {lv lv' : List (Nat × Value)} (hdg : decode cc pc = .ok (.iinc i n, 3)) (h : lv_has ls nL lv) (hk : lv[k]? = some (i, .int (xw_i x))) (hn : i < nL) (hl : (i, Value.int (xw_i (x + n))) :: lv.filter (fun q => !(q.1 == i) && !(q.1 + 1 == i && q.2.category == 2)) = lv') (kk : ∀ ls' : Array Slot, lv_has ls' nL lv' → W p l e R s m args below meth c H locs cells slots Q (F0 m (pc + 3) ls' rest)) : W p l e R s m args below meth c H locs cells slots Q (F0 m pc ls rest) := lv_iinc hexec hb hdg h hk (xw_add x n) hn hl kk
theorem xw_imul' {p : Program} {l : Launch} {e : Env} {R : Room} {s : State} {m : MethodId} {args : Array Value} {below : List Frame} {meth : Method} {c : Code} {H : Heap} {locs : List Loc} {cells slots : Nat} {Q : State → Prop} {cc : ByteArray} {pc : Nat} {ls : Array Slot} {rest : List Value} {x y z : Int} (hexec : p.tables.exec = Jvm.exec) (hb : c.code = cc) (hdg : decode cc pc = .ok (.imul, 1)) (hz : x * y = z) (k : W p l e R s m args below meth c H locs cells slots Q (F0 m (pc + 1) ls (.int (xw_i z) :: rest))) : W p l e R s m args below meth c H locs cells slots Q (F0 m pc ls (.int (xw_i y) :: .int (xw_i x) :: rest)) := lv_imul hexec hb hdg (by rw [xw_mul, hz]; exact k)
theorem d_TR_init_0 : decode b_TR_init 0 = .ok (.aload_n 0, 1) := by decide +kernel
theorem d_TR_init_1 : decode b_TR_init 1 = .ok (.invokespecial 1, 3) := by decide +kernel
theorem d_TR_init_4 : decode b_TR_init 4 = .ok (.return_, 1) := by decide +kernel
theorem d_CF_init_0 : decode b_CF_init 0 = .ok (.aload_n 0, 1) := by decide +kernel
theorem d_CF_init_1 : decode b_CF_init 1 = .ok (.invokespecial 3, 3) := by decide +kernel
theorem d_CF_init_4 : decode b_CF_init 4 = .ok (.aload_n 0, 1) := by decide +kernel
theorem d_CF_init_5 : decode b_CF_init 5 = .ok (.sipush 240, 3) := by decide +kernel
theorem d_CF_init_8 : decode b_CF_init 8 = .ok (.newarray .int, 2) := by decide +kernel
theorem d_CF_init_10 : decode b_CF_init 10 = .ok (.putfield 9, 3) := by decide +kernel
theorem d_CF_init_13 : decode b_CF_init 13 = .ok (.return_, 1) := by decide +kernel
theorem d_FL_init_0 : decode b_FL_init 0 = .ok (.aload_n 0, 1) := by decide +kernel
theorem d_FL_init_1 : decode b_FL_init 1 = .ok (.invokespecial 3, 3) := by decide +kernel
theorem d_FL_init_4 : decode b_FL_init 4 = .ok (.aload_n 0, 1) := by decide +kernel
theorem d_FL_init_5 : decode b_FL_init 5 = .ok (.bipush 120, 2) := by decide +kernel
theorem d_FL_init_7 : decode b_FL_init 7 = .ok (.newarray .int, 2) := by decide +kernel
theorem d_FL_init_9 : decode b_FL_init 9 = .ok (.putfield 9, 3) := by decide +kernel
theorem d_FL_init_12 : decode b_FL_init 12 = .ok (.return_, 1) := by decide +kernel
theorem d_FR_init_0 : decode b_FR_init 0 = .ok (.aload_n 0, 1) := by decide +kernel
theorem d_FR_init_1 : decode b_FR_init 1 = .ok (.invokespecial 3, 3) := by decide +kernel
theorem d_FR_init_4 : decode b_FR_init 4 = .ok (.aload_n 0, 1) := by decide +kernel
theorem d_FR_init_5 : decode b_FR_init 5 = .ok (.bipush 8, 2) := by decide +kernel
theorem d_FR_init_7 : decode b_FR_init 7 = .ok (.newarray .int, 2) := by decide +kernel
theorem d_FR_init_9 : decode b_FR_init 9 = .ok (.putfield 9, 3) := by decide +kernel
theorem d_FR_init_12 : decode b_FR_init 12 = .ok (.aload_n 0, 1) := by decide +kernel
theorem d_FR_init_13 : decode b_FR_init 13 = .ok (.bipush 6, 2) := by decide +kernel
theorem d_FR_init_15 : decode b_FR_init 15 = .ok (.newarray .int, 2) := by decide +kernel
theorem d_FR_init_17 : decode b_FR_init 17 = .ok (.putfield 15, 3) := by decide +kernel
theorem d_FR_init_20 : decode b_FR_init 20 = .ok (.return_, 1) := by decide +kernel
theorem d_B_init_0 : decode b_B_init 0 = .ok (.aload_n 0, 1) := by decide +kernel
theorem d_B_init_1 : decode b_B_init 1 = .ok (.invokespecial 3, 3) := by decide +kernel
theorem d_B_init_4 : decode b_B_init 4 = .ok (.aload_n 0, 1) := by decide +kernel
theorem d_B_init_5 : decode b_B_init 5 = .ok (.iload_n 1, 1) := by decide +kernel
theorem d_B_init_6 : decode b_B_init 6 = .ok (.newarray .int, 2) := by decide +kernel
theorem d_B_init_8 : decode b_B_init 8 = .ok (.putfield 9, 3) := by decide +kernel
theorem d_B_init_11 : decode b_B_init 11 = .ok (.aload_n 0, 1) := by decide +kernel
theorem d_B_init_12 : decode b_B_init 12 = .ok (.iload_n 1, 1) := by decide +kernel
theorem d_B_init_13 : decode b_B_init 13 = .ok (.newarray .int, 2) := by decide +kernel
theorem d_B_init_15 : decode b_B_init 15 = .ok (.putfield 15, 3) := by decide +kernel
theorem d_B_init_18 : decode b_B_init 18 = .ok (.aload_n 0, 1) := by decide +kernel
theorem d_B_init_19 : decode b_B_init 19 = .ok (.iload_n 2, 1) := by decide +kernel
theorem d_B_init_20 : decode b_B_init 20 = .ok (.iconst 4, 1) := by decide +kernel
theorem d_B_init_21 : decode b_B_init 21 = .ok (.imul, 1) := by decide +kernel
theorem d_B_init_22 : decode b_B_init 22 = .ok (.newarray .int, 2) := by decide +kernel
theorem d_B_init_24 : decode b_B_init 24 = .ok (.putfield 18, 3) := by decide +kernel
theorem d_B_init_27 : decode b_B_init 27 = .ok (.aload_n 0, 1) := by decide +kernel
theorem d_B_init_28 : decode b_B_init 28 = .ok (.iload_n 2, 1) := by decide +kernel
theorem d_B_init_29 : decode b_B_init 29 = .ok (.putfield 21, 3) := by decide +kernel
theorem d_B_init_32 : decode b_B_init 32 = .ok (.return_, 1) := by decide +kernel
theorem d_LM_init_0 : decode b_LM_init 0 = .ok (.aload_n 0, 1) := by decide +kernel
theorem d_LM_init_1 : decode b_LM_init 1 = .ok (.invokespecial 3, 3) := by decide +kernel
theorem d_LM_init_4 : decode b_LM_init 4 = .ok (.aload_n 0, 1) := by decide +kernel
theorem d_LM_init_5 : decode b_LM_init 5 = .ok (.new 9, 3) := by decide +kernel
theorem d_LM_init_8 : decode b_LM_init 8 = .ok (.dup, 1) := by decide +kernel
theorem d_LM_init_9 : decode b_LM_init 9 = .ok (.bipush 120, 2) := by decide +kernel
theorem d_LM_init_11 : decode b_LM_init 11 = .ok (.iconst 5, 1) := by decide +kernel
theorem d_LM_init_12 : decode b_LM_init 12 = .ok (.invokespecial 11, 3) := by decide +kernel
theorem d_LM_init_15 : decode b_LM_init 15 = .ok (.putfield 14, 3) := by decide +kernel
theorem d_LM_init_18 : decode b_LM_init 18 = .ok (.aload_n 0, 1) := by decide +kernel
theorem d_LM_init_19 : decode b_LM_init 19 = .ok (.sipush 243, 3) := by decide +kernel
theorem d_LM_init_22 : decode b_LM_init 22 = .ok (.newarray .int, 2) := by decide +kernel
theorem d_LM_init_24 : decode b_LM_init 24 = .ok (.putfield 20, 3) := by decide +kernel
theorem d_LM_init_27 : decode b_LM_init 27 = .ok (.aload_n 0, 1) := by decide +kernel
theorem d_LM_init_28 : decode b_LM_init 28 = .ok (.sipush 243, 3) := by decide +kernel
theorem d_LM_init_31 : decode b_LM_init 31 = .ok (.newarray .int, 2) := by decide +kernel
theorem d_LM_init_33 : decode b_LM_init 33 = .ok (.putfield 24, 3) := by decide +kernel
theorem d_LM_init_36 : decode b_LM_init 36 = .ok (.aload_n 0, 1) := by decide +kernel
theorem d_LM_init_37 : decode b_LM_init 37 = .ok (.sipush 243, 3) := by decide +kernel
theorem d_LM_init_40 : decode b_LM_init 40 = .ok (.newarray .int, 2) := by decide +kernel
theorem d_LM_init_42 : decode b_LM_init 42 = .ok (.putfield 27, 3) := by decide +kernel
theorem d_LM_init_45 : decode b_LM_init 45 = .ok (.aload_n 0, 1) := by decide +kernel
theorem d_LM_init_46 : decode b_LM_init 46 = .ok (.sipush 244, 3) := by decide +kernel
theorem d_LM_init_49 : decode b_LM_init 49 = .ok (.newarray .int, 2) := by decide +kernel
theorem d_LM_init_51 : decode b_LM_init 51 = .ok (.putfield 30, 3) := by decide +kernel
theorem d_LM_init_54 : decode b_LM_init 54 = .ok (.aload_n 0, 1) := by decide +kernel
theorem d_LM_init_55 : decode b_LM_init 55 = .ok (.bipush 121, 2) := by decide +kernel
theorem d_LM_init_57 : decode b_LM_init 57 = .ok (.newarray .int, 2) := by decide +kernel
theorem d_LM_init_59 : decode b_LM_init 59 = .ok (.putfield 33, 3) := by decide +kernel
theorem d_LM_init_62 : decode b_LM_init 62 = .ok (.aload_n 0, 1) := by decide +kernel
theorem d_LM_init_63 : decode b_LM_init 63 = .ok (.bipush 121, 2) := by decide +kernel
theorem d_LM_init_65 : decode b_LM_init 65 = .ok (.newarray .int, 2) := by decide +kernel
theorem d_LM_init_67 : decode b_LM_init 67 = .ok (.putfield 36, 3) := by decide +kernel
theorem d_LM_init_70 : decode b_LM_init 70 = .ok (.return_, 1) := by decide +kernel
theorem d_MC_init_0 : decode b_MC_init 0 = .ok (.aload_n 0, 1) := by decide +kernel
theorem d_MC_init_1 : decode b_MC_init 1 = .ok (.invokespecial 3, 3) := by decide +kernel
theorem d_MC_init_4 : decode b_MC_init 4 = .ok (.aload_n 0, 1) := by decide +kernel
theorem d_MC_init_5 : decode b_MC_init 5 = .ok (.bipush 8, 2) := by decide +kernel
theorem d_MC_init_7 : decode b_MC_init 7 = .ok (.anewarray 11, 3) := by decide +kernel
theorem d_MC_init_10 : decode b_MC_init 10 = .ok (.putfield 13, 3) := by decide +kernel
theorem d_MC_init_13 : decode b_MC_init 13 = .ok (.aload_n 0, 1) := by decide +kernel
theorem d_MC_init_14 : decode b_MC_init 14 = .ok (.bipush 100, 2) := by decide +kernel
theorem d_MC_init_16 : decode b_MC_init 16 = .ok (.newarray .int, 2) := by decide +kernel
theorem d_MC_init_18 : decode b_MC_init 18 = .ok (.putfield 17, 3) := by decide +kernel
theorem d_MC_init_21 : decode b_MC_init 21 = .ok (.aload_n 0, 1) := by decide +kernel
theorem d_MC_init_22 : decode b_MC_init 22 = .ok (.sipush 160, 3) := by decide +kernel
theorem d_MC_init_25 : decode b_MC_init 25 = .ok (.newarray .int, 2) := by decide +kernel
theorem d_MC_init_27 : decode b_MC_init 27 = .ok (.putfield 21, 3) := by decide +kernel
theorem d_MC_init_30 : decode b_MC_init 30 = .ok (.iconst 0, 1) := by decide +kernel
theorem d_MC_init_31 : decode b_MC_init 31 = .ok (.istore_n 1, 1) := by decide +kernel
theorem d_MC_init_32 : decode b_MC_init 32 = .ok (.iload_n 1, 1) := by decide +kernel
theorem d_MC_init_33 : decode b_MC_init 33 = .ok (.bipush 8, 2) := by decide +kernel
theorem d_MC_init_35 : decode b_MC_init 35 = .ok (.if_icmp .ge 22, 3) := by decide +kernel
theorem d_MC_init_38 : decode b_MC_init 38 = .ok (.aload_n 0, 1) := by decide +kernel
theorem d_MC_init_39 : decode b_MC_init 39 = .ok (.getfield 13, 3) := by decide +kernel
theorem d_MC_init_42 : decode b_MC_init 42 = .ok (.iload_n 1, 1) := by decide +kernel
theorem d_MC_init_43 : decode b_MC_init 43 = .ok (.new 11, 3) := by decide +kernel
theorem d_MC_init_46 : decode b_MC_init 46 = .ok (.dup, 1) := by decide +kernel
theorem d_MC_init_47 : decode b_MC_init 47 = .ok (.invokespecial 24, 3) := by decide +kernel
theorem d_MC_init_50 : decode b_MC_init 50 = .ok (.aastore, 1) := by decide +kernel
theorem d_MC_init_51 : decode b_MC_init 51 = .ok (.iinc 1 1, 3) := by decide +kernel
theorem d_MC_init_54 : decode b_MC_init 54 = .ok (.goto (-22), 3) := by decide +kernel
theorem d_MC_init_57 : decode b_MC_init 57 = .ok (.return_, 1) := by decide +kernel
abbrev xn_TR (cs : Nat → ClassId) (h0 : Nat) (u : Nat → Nat) : va_W := [(h0, .inr (6, [.int (xw_i 0), .int (xw_i 0), .int (xw_i 0)]))]
set_option maxRecDepth 100000 in
set_option maxHeartbeats 4000000 in
theorem c_TR_init (l : Launch) (D : va_G) (cs : Nat → ClassId) (h0 sz : Nat) : Met l y_TR_init w_TR_init ({ frames := 1, cells := 0, slots := 0, locals := 20 }) (va_Pc [.ref h0] (fun U => U.heap.size = sz ∧ va_P D vwCl [(h0, .inr (6, [.int (xw_i 0), .int (xw_i 0), .int (xw_i 0)]))] U.heap ∧ va_K D vwCl (xw_ty cs) U ∧ va_D (fun _ => True) [(h0, .inr (6, [.int (xw_i 0), .int (xw_i 0), .int (xw_i 0)]))])) (va_Qv (fun _ : Nat → Nat => True) (fun u t => va_P D vwCl (xn_TR cs h0 u) t.heap ∧ va_K D vwCl (xw_ty cs) t ∧ va_D (va_A [(h0, .inr (6, [.int (xw_i 0), .int (xw_i 0), .int (xw_i 0)]))] sz) (xn_TR cs h0 u)) (va_A [(h0, .inr (6, [.int (xw_i 0), .int (xw_i 0), .int (xw_i 0)]))] sz)) 0 0 (va_A [(h0, .inr (6, [.int (xw_i 0), .int (xw_i 0), .int (xw_i 0)]))] sz) := by
  refine Met.ofW (cc := b_TR_init) (maxL := 1) (ret := none) (by decide) rfl ?_
  intro p e s m args below meth c s₁ B hml hv
  obtain ⟨rfl, hsz, hP, hK, hD0⟩ := hv
  have hx := B.exec
  have hb := B.bytes
  have hr := B.returns
  have hts0 := atoms_spec (ws := w_TR_init) B.pre
  have hts := fun w (hw : w ∈ wAll) => hts0 w (List.mem_cons_of_mem _ hw)
  have hown : s.vm.findClass "AdviceWeaver$Transformer" = some m.cls := findClass_of_methodNamed B.named
  have hlocks := B.notSynchronized
  have hin : meth.name = "<init>" := (name_of_methodNamed B.named B.method).1
  subst hsz
  have hD := hD0.self (sz := s.heap.size)
  generalize hAe : va_A [(h0, .inr (6, [.int (xw_i 0), .int (xw_i 0), .int (xw_i 0)]))] s.heap.size = A at hD ⊢
  have hA : ∀ q : Nat, s.heap.size ≤ q → A q := fun q h => by rw [← hAe]; exact Or.inr h
  have hS : va_S A s.heap s.heap [] := va_S.rf
  have hl := lv_entry [.ref h0] (n := 1) (Nat.le_of_ble_eq_true rfl)
  rw [lg_entry_eq]
  generalize (lg_sl [.ref h0] ++ List.replicate (1 - (lg_sl [.ref h0]).length) Slot.unset).toArray = ls at hl ⊢
  have hl : lv_has ls 1 [(0, .ref h0)] := hl
  refine lv_aload_n hx hb d_TR_init_0 rfl (lv_at hl 0 rfl) ?_
  refine W.objInit hx hb hown (hts _ hw_624) (hts _ hw_641) (hts _ hw_642) rfl (by rw [hml]; exact hl.1) rfl d_TR_init_1 (Nat.le_of_ble_eq_true rfl) (Nat.le_of_ble_eq_true rfl) ?_
  refine W.eq (g2 := F0 m 4 ls []) rfl ?_
  exact W.vret hx hb hr (fun t ht hW => ⟨⟨fun k => ([] : List Nat).getD k 0, rfl, trivial, by rw [ht]; exact hP, va_K.moved hW.alike hK, hD⟩, hS.F ht⟩) hS.2.2 d_TR_init_4

abbrev xn_CF (cs : Nat → ClassId) (h0 : Nat) (u : Nat → Nat) : va_W := [(h0, .inr (1, [.ref (u 0), .int (xw_i 0), .int (xw_i 0), .int (xw_i 0)])), ((u 0), .inl (cs 20, 240, .inl (fun _ => xw_i 0)))]
set_option maxRecDepth 100000 in
set_option maxHeartbeats 4000000 in
theorem c_CF_init (l : Launch) (D : va_G) (cs : Nat → ClassId) (h0 sz : Nat) : Met l y_CF_init w_CF_init ({ frames := 1, cells := 1, slots := 240, locals := 20 }) (va_Pc [.ref h0] (fun U => U.heap.size = sz ∧ va_P D vwCl [(h0, .inr (1, [.null, .int (xw_i 0), .int (xw_i 0), .int (xw_i 0)]))] U.heap ∧ va_K D vwCl (xw_ty cs) U ∧ va_D (fun _ => True) [(h0, .inr (1, [.null, .int (xw_i 0), .int (xw_i 0), .int (xw_i 0)]))])) (va_Qv (fun _ : Nat → Nat => True) (fun u t => va_P D vwCl (xn_CF cs h0 u) t.heap ∧ va_K D vwCl (xw_ty cs) t ∧ va_D (va_A [(h0, .inr (1, [.null, .int (xw_i 0), .int (xw_i 0), .int (xw_i 0)]))] sz) (xn_CF cs h0 u)) (va_A [(h0, .inr (1, [.null, .int (xw_i 0), .int (xw_i 0), .int (xw_i 0)]))] sz)) 1 240 (va_A [(h0, .inr (1, [.null, .int (xw_i 0), .int (xw_i 0), .int (xw_i 0)]))] sz) := by
  refine Met.ofW (cc := b_CF_init) (maxL := 1) (ret := none) (by decide) rfl ?_
  intro p e s m args below meth c s₁ B hml hv
  obtain ⟨rfl, hsz, hP, hK, hD0⟩ := hv
  have hx := B.exec
  have hb := B.bytes
  have hr := B.returns
  have hts0 := atoms_spec (ws := w_CF_init) B.pre
  have hts := fun w (hw : w ∈ wAll) => hts0 w (List.mem_cons_of_mem _ hw)
  have hown : s.vm.findClass "AdviceWeaver$ClassFile" = some m.cls := findClass_of_methodNamed B.named
  have hlocks := B.notSynchronized
  have hin : meth.name = "<init>" := (name_of_methodNamed B.named B.method).1
  subst hsz
  have hD := hD0.self (sz := s.heap.size)
  generalize hAe : va_A [(h0, .inr (1, [.null, .int (xw_i 0), .int (xw_i 0), .int (xw_i 0)]))] s.heap.size = A at hD ⊢
  have hA : ∀ q : Nat, s.heap.size ≤ q → A q := fun q h => by rw [← hAe]; exact Or.inr h
  have hS : va_S A s.heap s.heap [] := va_S.rf
  have hl := lv_entry [.ref h0] (n := 1) (Nat.le_of_ble_eq_true rfl)
  rw [lg_entry_eq]
  generalize (lg_sl [.ref h0] ++ List.replicate (1 - (lg_sl [.ref h0]).length) Slot.unset).toArray = ls at hl ⊢
  have hl : lv_has ls 1 [(0, .ref h0)] := hl
  refine lv_aload_n hx hb d_CF_init_0 rfl (lv_at hl 0 rfl) ?_
  refine W.objInit hx hb hown (hts _ hw_618) (hts _ hw_641) (hts _ hw_642) rfl (by rw [hml]; exact hl.1) rfl d_CF_init_1 (Nat.le_of_ble_eq_true rfl) (Nat.le_of_ble_eq_true rfl) ?_
  refine W.eq (g2 := F0 m 4 ls []) rfl ?_
  refine lv_aload_n hx hb d_CF_init_4 rfl (lv_at hl 0 rfl) ?_
  refine lv_sipush (v := xw_i 240) hx hb d_CF_init_5 (by decide) ?_
  refine xn_newI (N := 240) hx hb (hts _ hw_643) hK hP hD hS hA (by decide) (Nat.le_of_ble_eq_true rfl) (Nat.le_of_ble_eq_true rfl) d_CF_init_8 (fun q8_5 H hP hD hS => ?_)
  refine W.widen (k := 1) (n := 240) (Nat.le_of_ble_eq_true rfl) (Nat.le_of_ble_eq_true rfl) ?_
  have hP : va_P D vwCl ([(h0, .inr (1, [.null, .int (xw_i 0), .int (xw_i 0), .int (xw_i 0)])), (q8_5, .inl (cs 20, 240, .inl (fun _ => xw_i 0)))]) H := hP
  have hD : va_D A ([(h0, .inr (1, [.null, .int (xw_i 0), .int (xw_i 0), .int (xw_i 0)])), (q8_5, .inl (cs 20, 240, .inl (fun _ => xw_i 0)))]) := hD
  refine va_putF (D := D) (ci := 1) (v := .ref q8_5) (ty := .array (.int)) (C := "AdviceWeaver$ClassFile") (T := T_CF) (N := 4) hx hb hts hin_CF ty_CF ty_CF_ok nm_CF hown hK hP hD hS 0 rfl rfl 0 (by decide) (hts _ hw_1) (fun _ h9 => h9) rfl hin rfl (by decide +kernel) (by first | rfl | decide) (by first | rfl | decide) (Nat.le_of_ble_eq_true rfl) d_CF_init_10 (fun H locs hP hD hS => ?_)
  have hP : va_P D vwCl ([(h0, .inr (1, [.ref q8_5, .int (xw_i 0), .int (xw_i 0), .int (xw_i 0)])), (q8_5, .inl (cs 20, 240, .inl (fun _ => xw_i 0)))]) H := hP
  have hD : va_D A ([(h0, .inr (1, [.ref q8_5, .int (xw_i 0), .int (xw_i 0), .int (xw_i 0)])), (q8_5, .inl (cs 20, 240, .inl (fun _ => xw_i 0)))]) := hD
  exact W.vret hx hb hr (fun t ht hW => ⟨⟨fun k => ([q8_5] : List Nat).getD k 0, rfl, trivial, by rw [ht]; exact hP, va_K.moved hW.alike hK, hD⟩, hS.F ht⟩) hS.2.2 d_CF_init_13

abbrev xn_FL (cs : Nat → ClassId) (h0 : Nat) (u : Nat → Nat) : va_W := [(h0, .inr (2, [.ref (u 0), .int (xw_i 0), .int (xw_i 0)])), ((u 0), .inl (cs 20, 120, .inl (fun _ => xw_i 0)))]
set_option maxRecDepth 100000 in
set_option maxHeartbeats 4000000 in
theorem c_FL_init (l : Launch) (D : va_G) (cs : Nat → ClassId) (h0 sz : Nat) : Met l y_FL_init w_FL_init ({ frames := 1, cells := 1, slots := 120, locals := 20 }) (va_Pc [.ref h0] (fun U => U.heap.size = sz ∧ va_P D vwCl [(h0, .inr (2, [.null, .int (xw_i 0), .int (xw_i 0)]))] U.heap ∧ va_K D vwCl (xw_ty cs) U ∧ va_D (fun _ => True) [(h0, .inr (2, [.null, .int (xw_i 0), .int (xw_i 0)]))])) (va_Qv (fun _ : Nat → Nat => True) (fun u t => va_P D vwCl (xn_FL cs h0 u) t.heap ∧ va_K D vwCl (xw_ty cs) t ∧ va_D (va_A [(h0, .inr (2, [.null, .int (xw_i 0), .int (xw_i 0)]))] sz) (xn_FL cs h0 u)) (va_A [(h0, .inr (2, [.null, .int (xw_i 0), .int (xw_i 0)]))] sz)) 1 120 (va_A [(h0, .inr (2, [.null, .int (xw_i 0), .int (xw_i 0)]))] sz) := by
  refine Met.ofW (cc := b_FL_init) (maxL := 1) (ret := none) (by decide) rfl ?_
  intro p e s m args below meth c s₁ B hml hv
  obtain ⟨rfl, hsz, hP, hK, hD0⟩ := hv
  have hx := B.exec
  have hb := B.bytes
  have hr := B.returns
  have hts0 := atoms_spec (ws := w_FL_init) B.pre
  have hts := fun w (hw : w ∈ wAll) => hts0 w (List.mem_cons_of_mem _ hw)
  have hown : s.vm.findClass "AdviceWeaver$Flow" = some m.cls := findClass_of_methodNamed B.named
  have hlocks := B.notSynchronized
  have hin : meth.name = "<init>" := (name_of_methodNamed B.named B.method).1
  subst hsz
  have hD := hD0.self (sz := s.heap.size)
  generalize hAe : va_A [(h0, .inr (2, [.null, .int (xw_i 0), .int (xw_i 0)]))] s.heap.size = A at hD ⊢
  have hA : ∀ q : Nat, s.heap.size ≤ q → A q := fun q h => by rw [← hAe]; exact Or.inr h
  have hS : va_S A s.heap s.heap [] := va_S.rf
  have hl := lv_entry [.ref h0] (n := 1) (Nat.le_of_ble_eq_true rfl)
  rw [lg_entry_eq]
  generalize (lg_sl [.ref h0] ++ List.replicate (1 - (lg_sl [.ref h0]).length) Slot.unset).toArray = ls at hl ⊢
  have hl : lv_has ls 1 [(0, .ref h0)] := hl
  refine lv_aload_n hx hb d_FL_init_0 rfl (lv_at hl 0 rfl) ?_
  refine W.objInit hx hb hown (hts _ hw_627) (hts _ hw_641) (hts _ hw_642) rfl (by rw [hml]; exact hl.1) rfl d_FL_init_1 (Nat.le_of_ble_eq_true rfl) (Nat.le_of_ble_eq_true rfl) ?_
  refine W.eq (g2 := F0 m 4 ls []) rfl ?_
  refine lv_aload_n hx hb d_FL_init_4 rfl (lv_at hl 0 rfl) ?_
  refine lv_bipush (v := xw_i 120) hx hb d_FL_init_5 (by decide) ?_
  refine xn_newI (N := 120) hx hb (hts _ hw_643) hK hP hD hS hA (by decide) (Nat.le_of_ble_eq_true rfl) (Nat.le_of_ble_eq_true rfl) d_FL_init_7 (fun q7_5 H hP hD hS => ?_)
  refine W.widen (k := 1) (n := 120) (Nat.le_of_ble_eq_true rfl) (Nat.le_of_ble_eq_true rfl) ?_
  have hP : va_P D vwCl ([(h0, .inr (2, [.null, .int (xw_i 0), .int (xw_i 0)])), (q7_5, .inl (cs 20, 120, .inl (fun _ => xw_i 0)))]) H := hP
  have hD : va_D A ([(h0, .inr (2, [.null, .int (xw_i 0), .int (xw_i 0)])), (q7_5, .inl (cs 20, 120, .inl (fun _ => xw_i 0)))]) := hD
  refine va_putF (D := D) (ci := 2) (v := .ref q7_5) (ty := .array (.int)) (C := "AdviceWeaver$Flow") (T := T_FL) (N := 3) hx hb hts hin_FL ty_FL ty_FL_ok nm_FL hown hK hP hD hS 0 rfl rfl 0 (by decide) (hts _ hw_100) (fun _ h9 => h9) rfl hin rfl (by decide +kernel) (by first | rfl | decide) (by first | rfl | decide) (Nat.le_of_ble_eq_true rfl) d_FL_init_9 (fun H locs hP hD hS => ?_)
  have hP : va_P D vwCl ([(h0, .inr (2, [.ref q7_5, .int (xw_i 0), .int (xw_i 0)])), (q7_5, .inl (cs 20, 120, .inl (fun _ => xw_i 0)))]) H := hP
  have hD : va_D A ([(h0, .inr (2, [.ref q7_5, .int (xw_i 0), .int (xw_i 0)])), (q7_5, .inl (cs 20, 120, .inl (fun _ => xw_i 0)))]) := hD
  exact W.vret hx hb hr (fun t ht hW => ⟨⟨fun k => ([q7_5] : List Nat).getD k 0, rfl, trivial, by rw [ht]; exact hP, va_K.moved hW.alike hK, hD⟩, hS.F ht⟩) hS.2.2 d_FL_init_12

abbrev xn_FR (cs : Nat → ClassId) (h0 : Nat) (u : Nat → Nat) : va_W := [(h0, .inr (3, [.ref (u 0), .ref (u 1), .int (xw_i 0), .int (xw_i 0), .int (xw_i 0)])), ((u 0), .inl (cs 20, 8, .inl (fun _ => xw_i 0))), ((u 1), .inl (cs 20, 6, .inl (fun _ => xw_i 0)))]
set_option maxRecDepth 100000 in
set_option maxHeartbeats 4000000 in
theorem c_FR_init (l : Launch) (D : va_G) (cs : Nat → ClassId) (h0 sz : Nat) : Met l y_FR_init w_FR_init ({ frames := 1, cells := 2, slots := 14, locals := 20 }) (va_Pc [.ref h0] (fun U => U.heap.size = sz ∧ va_P D vwCl [(h0, .inr (3, [.null, .null, .int (xw_i 0), .int (xw_i 0), .int (xw_i 0)]))] U.heap ∧ va_K D vwCl (xw_ty cs) U ∧ va_D (fun _ => True) [(h0, .inr (3, [.null, .null, .int (xw_i 0), .int (xw_i 0), .int (xw_i 0)]))])) (va_Qv (fun _ : Nat → Nat => True) (fun u t => va_P D vwCl (xn_FR cs h0 u) t.heap ∧ va_K D vwCl (xw_ty cs) t ∧ va_D (va_A [(h0, .inr (3, [.null, .null, .int (xw_i 0), .int (xw_i 0), .int (xw_i 0)]))] sz) (xn_FR cs h0 u)) (va_A [(h0, .inr (3, [.null, .null, .int (xw_i 0), .int (xw_i 0), .int (xw_i 0)]))] sz)) 2 14 (va_A [(h0, .inr (3, [.null, .null, .int (xw_i 0), .int (xw_i 0), .int (xw_i 0)]))] sz) := by
  refine Met.ofW (cc := b_FR_init) (maxL := 1) (ret := none) (by decide) rfl ?_
  intro p e s m args below meth c s₁ B hml hv
  obtain ⟨rfl, hsz, hP, hK, hD0⟩ := hv
  have hx := B.exec
  have hb := B.bytes
  have hr := B.returns
  have hts0 := atoms_spec (ws := w_FR_init) B.pre
  have hts := fun w (hw : w ∈ wAll) => hts0 w (List.mem_cons_of_mem _ hw)
  have hown : s.vm.findClass "AdviceWeaver$Frame" = some m.cls := findClass_of_methodNamed B.named
  have hlocks := B.notSynchronized
  have hin : meth.name = "<init>" := (name_of_methodNamed B.named B.method).1
  subst hsz
  have hD := hD0.self (sz := s.heap.size)
  generalize hAe : va_A [(h0, .inr (3, [.null, .null, .int (xw_i 0), .int (xw_i 0), .int (xw_i 0)]))] s.heap.size = A at hD ⊢
  have hA : ∀ q : Nat, s.heap.size ≤ q → A q := fun q h => by rw [← hAe]; exact Or.inr h
  have hS : va_S A s.heap s.heap [] := va_S.rf
  have hl := lv_entry [.ref h0] (n := 1) (Nat.le_of_ble_eq_true rfl)
  rw [lg_entry_eq]
  generalize (lg_sl [.ref h0] ++ List.replicate (1 - (lg_sl [.ref h0]).length) Slot.unset).toArray = ls at hl ⊢
  have hl : lv_has ls 1 [(0, .ref h0)] := hl
  refine lv_aload_n hx hb d_FR_init_0 rfl (lv_at hl 0 rfl) ?_
  refine W.objInit hx hb hown (hts _ hw_637) (hts _ hw_641) (hts _ hw_642) rfl (by rw [hml]; exact hl.1) rfl d_FR_init_1 (Nat.le_of_ble_eq_true rfl) (Nat.le_of_ble_eq_true rfl) ?_
  refine W.eq (g2 := F0 m 4 ls []) rfl ?_
  refine lv_aload_n hx hb d_FR_init_4 rfl (lv_at hl 0 rfl) ?_
  refine lv_bipush (v := xw_i 8) hx hb d_FR_init_5 (by decide) ?_
  refine xn_newI (N := 8) hx hb (hts _ hw_643) hK hP hD hS hA (by decide) (Nat.le_of_ble_eq_true rfl) (Nat.le_of_ble_eq_true rfl) d_FR_init_7 (fun q7_5 H hP hD hS => ?_)
  refine W.widen (k := 1) (n := 8) (Nat.le_of_ble_eq_true rfl) (Nat.le_of_ble_eq_true rfl) ?_
  have hP : va_P D vwCl ([(h0, .inr (3, [.null, .null, .int (xw_i 0), .int (xw_i 0), .int (xw_i 0)])), (q7_5, .inl (cs 20, 8, .inl (fun _ => xw_i 0)))]) H := hP
  have hD : va_D A ([(h0, .inr (3, [.null, .null, .int (xw_i 0), .int (xw_i 0), .int (xw_i 0)])), (q7_5, .inl (cs 20, 8, .inl (fun _ => xw_i 0)))]) := hD
  refine va_putF (D := D) (ci := 3) (v := .ref q7_5) (ty := .array (.int)) (C := "AdviceWeaver$Frame") (T := T_FR) (N := 5) hx hb hts hin_FR ty_FR ty_FR_ok nm_FR hown hK hP hD hS 0 rfl rfl 0 (by decide) (hts _ hw_304) (fun _ h9 => h9) rfl hin rfl (by decide +kernel) (by first | rfl | decide) (by first | rfl | decide) (Nat.le_of_ble_eq_true rfl) d_FR_init_9 (fun H locs hP hD hS => ?_)
  have hP : va_P D vwCl ([(h0, .inr (3, [.ref q7_5, .null, .int (xw_i 0), .int (xw_i 0), .int (xw_i 0)])), (q7_5, .inl (cs 20, 8, .inl (fun _ => xw_i 0)))]) H := hP
  have hD : va_D A ([(h0, .inr (3, [.ref q7_5, .null, .int (xw_i 0), .int (xw_i 0), .int (xw_i 0)])), (q7_5, .inl (cs 20, 8, .inl (fun _ => xw_i 0)))]) := hD
  refine lv_aload_n hx hb d_FR_init_12 rfl (lv_at hl 0 rfl) ?_
  refine lv_bipush (v := xw_i 6) hx hb d_FR_init_13 (by decide) ?_
  refine xn_newI (N := 6) hx hb (hts _ hw_643) hK hP hD hS hA (by decide) (Nat.le_of_ble_eq_true rfl) (Nat.le_of_ble_eq_true rfl) d_FR_init_15 (fun q15_9 H hP hD hS => ?_)
  refine W.widen (k := 2) (n := 14) (Nat.le_of_ble_eq_true rfl) (Nat.le_of_ble_eq_true rfl) ?_
  have hP : va_P D vwCl ([(h0, .inr (3, [.ref q7_5, .null, .int (xw_i 0), .int (xw_i 0), .int (xw_i 0)])), (q7_5, .inl (cs 20, 8, .inl (fun _ => xw_i 0))), (q15_9, .inl (cs 20, 6, .inl (fun _ => xw_i 0)))]) H := hP
  have hD : va_D A ([(h0, .inr (3, [.ref q7_5, .null, .int (xw_i 0), .int (xw_i 0), .int (xw_i 0)])), (q7_5, .inl (cs 20, 8, .inl (fun _ => xw_i 0))), (q15_9, .inl (cs 20, 6, .inl (fun _ => xw_i 0)))]) := hD
  refine va_putF (D := D) (ci := 3) (v := .ref q15_9) (ty := .array (.int)) (C := "AdviceWeaver$Frame") (T := T_FR) (N := 5) hx hb hts hin_FR ty_FR ty_FR_ok nm_FR hown hK hP hD hS 0 rfl rfl 1 (by decide) (hts _ hw_300) (fun _ h9 => h9) rfl hin rfl (by decide +kernel) (by first | rfl | decide) (by first | rfl | decide) (Nat.le_of_ble_eq_true rfl) d_FR_init_17 (fun H locs hP hD hS => ?_)
  have hP : va_P D vwCl ([(h0, .inr (3, [.ref q7_5, .ref q15_9, .int (xw_i 0), .int (xw_i 0), .int (xw_i 0)])), (q7_5, .inl (cs 20, 8, .inl (fun _ => xw_i 0))), (q15_9, .inl (cs 20, 6, .inl (fun _ => xw_i 0)))]) H := hP
  have hD : va_D A ([(h0, .inr (3, [.ref q7_5, .ref q15_9, .int (xw_i 0), .int (xw_i 0), .int (xw_i 0)])), (q7_5, .inl (cs 20, 8, .inl (fun _ => xw_i 0))), (q15_9, .inl (cs 20, 6, .inl (fun _ => xw_i 0)))]) := hD
  exact W.vret hx hb hr (fun t ht hW => ⟨⟨fun k => ([q7_5, q15_9] : List Nat).getD k 0, rfl, trivial, by rw [ht]; exact hP, va_K.moved hW.alike hK, hD⟩, hS.F ht⟩) hS.2.2 d_FR_init_20

abbrev xn_B40 (cs : Nat → ClassId) (h0 : Nat) (u : Nat → Nat) : va_W := [(h0, .inr (0, [.ref (u 0), .ref (u 1), .ref (u 2), .int (xw_i 3), .int (xw_i 0), .int (xw_i 0), .int (xw_i 0), .int (xw_i 0), .int (xw_i 0), .int (xw_i 0), .int (xw_i 0), .int (xw_i 0)])), ((u 0), .inl (cs 20, 40, .inl (fun _ => xw_i 0))), ((u 1), .inl (cs 20, 40, .inl (fun _ => xw_i 0))), ((u 2), .inl (cs 20, 12, .inl (fun _ => xw_i 0)))]
set_option maxRecDepth 100000 in
set_option maxHeartbeats 4000000 in
theorem c_B_init40 (l : Launch) (D : va_G) (cs : Nat → ClassId) (h0 sz : Nat) : Met l y_B_init w_B_init ({ frames := 1, cells := 3, slots := 92, locals := 20 }) (va_Pc [.ref h0, .int (xw_i 40), .int (xw_i 3)] (fun U => U.heap.size = sz ∧ va_P D vwCl [(h0, .inr (0, [.null, .null, .null, .int (xw_i 0), .int (xw_i 0), .int (xw_i 0), .int (xw_i 0), .int (xw_i 0), .int (xw_i 0), .int (xw_i 0), .int (xw_i 0), .int (xw_i 0)]))] U.heap ∧ va_K D vwCl (xw_ty cs) U ∧ va_D (fun _ => True) [(h0, .inr (0, [.null, .null, .null, .int (xw_i 0), .int (xw_i 0), .int (xw_i 0), .int (xw_i 0), .int (xw_i 0), .int (xw_i 0), .int (xw_i 0), .int (xw_i 0), .int (xw_i 0)]))])) (va_Qv (fun _ : Nat → Nat => True) (fun u t => va_P D vwCl (xn_B40 cs h0 u) t.heap ∧ va_K D vwCl (xw_ty cs) t ∧ va_D (va_A [(h0, .inr (0, [.null, .null, .null, .int (xw_i 0), .int (xw_i 0), .int (xw_i 0), .int (xw_i 0), .int (xw_i 0), .int (xw_i 0), .int (xw_i 0), .int (xw_i 0), .int (xw_i 0)]))] sz) (xn_B40 cs h0 u)) (va_A [(h0, .inr (0, [.null, .null, .null, .int (xw_i 0), .int (xw_i 0), .int (xw_i 0), .int (xw_i 0), .int (xw_i 0), .int (xw_i 0), .int (xw_i 0), .int (xw_i 0), .int (xw_i 0)]))] sz)) 3 92 (va_A [(h0, .inr (0, [.null, .null, .null, .int (xw_i 0), .int (xw_i 0), .int (xw_i 0), .int (xw_i 0), .int (xw_i 0), .int (xw_i 0), .int (xw_i 0), .int (xw_i 0), .int (xw_i 0)]))] sz) := by
  refine Met.ofW (cc := b_B_init) (maxL := 3) (ret := none) (by decide) rfl ?_
  intro p e s m args below meth c s₁ B hml hv
  obtain ⟨rfl, hsz, hP, hK, hD0⟩ := hv
  have hx := B.exec
  have hb := B.bytes
  have hr := B.returns
  have hts0 := atoms_spec (ws := w_B_init) B.pre
  have hts := fun w (hw : w ∈ wAll) => hts0 w (List.mem_cons_of_mem _ hw)
  have hown : s.vm.findClass "AdviceWeaver$Body" = some m.cls := findClass_of_methodNamed B.named
  have hlocks := B.notSynchronized
  have hin : meth.name = "<init>" := (name_of_methodNamed B.named B.method).1
  subst hsz
  have hD := hD0.self (sz := s.heap.size)
  generalize hAe : va_A [(h0, .inr (0, [.null, .null, .null, .int (xw_i 0), .int (xw_i 0), .int (xw_i 0), .int (xw_i 0), .int (xw_i 0), .int (xw_i 0), .int (xw_i 0), .int (xw_i 0), .int (xw_i 0)]))] s.heap.size = A at hD ⊢
  have hA : ∀ q : Nat, s.heap.size ≤ q → A q := fun q h => by rw [← hAe]; exact Or.inr h
  have hS : va_S A s.heap s.heap [] := va_S.rf
  have hl := lv_entry [.ref h0, .int (xw_i 40), .int (xw_i 3)] (n := 3) (Nat.le_of_ble_eq_true rfl)
  rw [lg_entry_eq]
  generalize (lg_sl [.ref h0, .int (xw_i 40), .int (xw_i 3)] ++ List.replicate (3 - (lg_sl [.ref h0, .int (xw_i 40), .int (xw_i 3)]).length) Slot.unset).toArray = ls at hl ⊢
  have hl : lv_has ls 3 [(0, .ref h0), (1, .int (xw_i 40)), (2, .int (xw_i 3))] := hl
  refine lv_aload_n hx hb d_B_init_0 rfl (lv_at hl 0 rfl) ?_
  refine W.objInit hx hb hown (hts _ hw_621) (hts _ hw_641) (hts _ hw_642) rfl (by rw [hml]; exact hl.1) rfl d_B_init_1 (Nat.le_of_ble_eq_true rfl) (Nat.le_of_ble_eq_true rfl) ?_
  refine W.eq (g2 := F0 m 4 ls []) rfl ?_
  refine lv_aload_n hx hb d_B_init_4 rfl (lv_at hl 0 rfl) ?_
  refine lv_iload_n hx hb d_B_init_5 rfl (lv_at hl 1 rfl) ?_
  refine xn_newI (N := 40) hx hb (hts _ hw_643) hK hP hD hS hA (by decide) (Nat.le_of_ble_eq_true rfl) (Nat.le_of_ble_eq_true rfl) d_B_init_6 (fun q6_5 H hP hD hS => ?_)
  refine W.widen (k := 1) (n := 40) (Nat.le_of_ble_eq_true rfl) (Nat.le_of_ble_eq_true rfl) ?_
  have hP : va_P D vwCl ([(h0, .inr (0, [.null, .null, .null, .int (xw_i 0), .int (xw_i 0), .int (xw_i 0), .int (xw_i 0), .int (xw_i 0), .int (xw_i 0), .int (xw_i 0), .int (xw_i 0), .int (xw_i 0)])), (q6_5, .inl (cs 20, 40, .inl (fun _ => xw_i 0)))]) H := hP
  have hD : va_D A ([(h0, .inr (0, [.null, .null, .null, .int (xw_i 0), .int (xw_i 0), .int (xw_i 0), .int (xw_i 0), .int (xw_i 0), .int (xw_i 0), .int (xw_i 0), .int (xw_i 0), .int (xw_i 0)])), (q6_5, .inl (cs 20, 40, .inl (fun _ => xw_i 0)))]) := hD
  refine va_putF (D := D) (ci := 0) (v := .ref q6_5) (ty := .array (.int)) (C := "AdviceWeaver$Body") (T := T_B) (N := 12) hx hb hts hin_B ty_B ty_B_ok nm_B hown hK hP hD hS 0 rfl rfl 0 (by decide) (hts _ hw_45) (fun _ h9 => h9) rfl hin rfl (by decide +kernel) (by first | rfl | decide) (by first | rfl | decide) (Nat.le_of_ble_eq_true rfl) d_B_init_8 (fun H locs hP hD hS => ?_)
  have hP : va_P D vwCl ([(h0, .inr (0, [.ref q6_5, .null, .null, .int (xw_i 0), .int (xw_i 0), .int (xw_i 0), .int (xw_i 0), .int (xw_i 0), .int (xw_i 0), .int (xw_i 0), .int (xw_i 0), .int (xw_i 0)])), (q6_5, .inl (cs 20, 40, .inl (fun _ => xw_i 0)))]) H := hP
  have hD : va_D A ([(h0, .inr (0, [.ref q6_5, .null, .null, .int (xw_i 0), .int (xw_i 0), .int (xw_i 0), .int (xw_i 0), .int (xw_i 0), .int (xw_i 0), .int (xw_i 0), .int (xw_i 0), .int (xw_i 0)])), (q6_5, .inl (cs 20, 40, .inl (fun _ => xw_i 0)))]) := hD
  refine lv_aload_n hx hb d_B_init_11 rfl (lv_at hl 0 rfl) ?_
  refine lv_iload_n hx hb d_B_init_12 rfl (lv_at hl 1 rfl) ?_
  refine xn_newI (N := 40) hx hb (hts _ hw_643) hK hP hD hS hA (by decide) (Nat.le_of_ble_eq_true rfl) (Nat.le_of_ble_eq_true rfl) d_B_init_13 (fun q13_9 H hP hD hS => ?_)
  refine W.widen (k := 2) (n := 80) (Nat.le_of_ble_eq_true rfl) (Nat.le_of_ble_eq_true rfl) ?_
  have hP : va_P D vwCl ([(h0, .inr (0, [.ref q6_5, .null, .null, .int (xw_i 0), .int (xw_i 0), .int (xw_i 0), .int (xw_i 0), .int (xw_i 0), .int (xw_i 0), .int (xw_i 0), .int (xw_i 0), .int (xw_i 0)])), (q6_5, .inl (cs 20, 40, .inl (fun _ => xw_i 0))), (q13_9, .inl (cs 20, 40, .inl (fun _ => xw_i 0)))]) H := hP
  have hD : va_D A ([(h0, .inr (0, [.ref q6_5, .null, .null, .int (xw_i 0), .int (xw_i 0), .int (xw_i 0), .int (xw_i 0), .int (xw_i 0), .int (xw_i 0), .int (xw_i 0), .int (xw_i 0), .int (xw_i 0)])), (q6_5, .inl (cs 20, 40, .inl (fun _ => xw_i 0))), (q13_9, .inl (cs 20, 40, .inl (fun _ => xw_i 0)))]) := hD
  refine va_putF (D := D) (ci := 0) (v := .ref q13_9) (ty := .array (.int)) (C := "AdviceWeaver$Body") (T := T_B) (N := 12) hx hb hts hin_B ty_B ty_B_ok nm_B hown hK hP hD hS 0 rfl rfl 1 (by decide) (hts _ hw_44) (fun _ h9 => h9) rfl hin rfl (by decide +kernel) (by first | rfl | decide) (by first | rfl | decide) (Nat.le_of_ble_eq_true rfl) d_B_init_15 (fun H locs hP hD hS => ?_)
  have hP : va_P D vwCl ([(h0, .inr (0, [.ref q6_5, .ref q13_9, .null, .int (xw_i 0), .int (xw_i 0), .int (xw_i 0), .int (xw_i 0), .int (xw_i 0), .int (xw_i 0), .int (xw_i 0), .int (xw_i 0), .int (xw_i 0)])), (q6_5, .inl (cs 20, 40, .inl (fun _ => xw_i 0))), (q13_9, .inl (cs 20, 40, .inl (fun _ => xw_i 0)))]) H := hP
  have hD : va_D A ([(h0, .inr (0, [.ref q6_5, .ref q13_9, .null, .int (xw_i 0), .int (xw_i 0), .int (xw_i 0), .int (xw_i 0), .int (xw_i 0), .int (xw_i 0), .int (xw_i 0), .int (xw_i 0), .int (xw_i 0)])), (q6_5, .inl (cs 20, 40, .inl (fun _ => xw_i 0))), (q13_9, .inl (cs 20, 40, .inl (fun _ => xw_i 0)))]) := hD
  refine lv_aload_n hx hb d_B_init_18 rfl (lv_at hl 0 rfl) ?_
  refine lv_iload_n hx hb d_B_init_19 rfl (lv_at hl 2 rfl) ?_
  refine lv_iconst (v := xw_i 4) hx hb d_B_init_20 rfl ?_
  refine xw_imul' (z := 12) hx hb d_B_init_21 (by decide) ?_
  refine xn_newI (N := 12) hx hb (hts _ hw_643) hK hP hD hS hA (by decide) (Nat.le_of_ble_eq_true rfl) (Nat.le_of_ble_eq_true rfl) d_B_init_22 (fun q22_15 H hP hD hS => ?_)
  refine W.widen (k := 3) (n := 92) (Nat.le_of_ble_eq_true rfl) (Nat.le_of_ble_eq_true rfl) ?_
  have hP : va_P D vwCl ([(h0, .inr (0, [.ref q6_5, .ref q13_9, .null, .int (xw_i 0), .int (xw_i 0), .int (xw_i 0), .int (xw_i 0), .int (xw_i 0), .int (xw_i 0), .int (xw_i 0), .int (xw_i 0), .int (xw_i 0)])), (q6_5, .inl (cs 20, 40, .inl (fun _ => xw_i 0))), (q13_9, .inl (cs 20, 40, .inl (fun _ => xw_i 0))), (q22_15, .inl (cs 20, 12, .inl (fun _ => xw_i 0)))]) H := hP
  have hD : va_D A ([(h0, .inr (0, [.ref q6_5, .ref q13_9, .null, .int (xw_i 0), .int (xw_i 0), .int (xw_i 0), .int (xw_i 0), .int (xw_i 0), .int (xw_i 0), .int (xw_i 0), .int (xw_i 0), .int (xw_i 0)])), (q6_5, .inl (cs 20, 40, .inl (fun _ => xw_i 0))), (q13_9, .inl (cs 20, 40, .inl (fun _ => xw_i 0))), (q22_15, .inl (cs 20, 12, .inl (fun _ => xw_i 0)))]) := hD
  refine va_putF (D := D) (ci := 0) (v := .ref q22_15) (ty := .array (.int)) (C := "AdviceWeaver$Body") (T := T_B) (N := 12) hx hb hts hin_B ty_B ty_B_ok nm_B hown hK hP hD hS 0 rfl rfl 2 (by decide) (hts _ hw_16) (fun _ h9 => h9) rfl hin rfl (by decide +kernel) (by first | rfl | decide) (by first | rfl | decide) (Nat.le_of_ble_eq_true rfl) d_B_init_24 (fun H locs hP hD hS => ?_)
  have hP : va_P D vwCl ([(h0, .inr (0, [.ref q6_5, .ref q13_9, .ref q22_15, .int (xw_i 0), .int (xw_i 0), .int (xw_i 0), .int (xw_i 0), .int (xw_i 0), .int (xw_i 0), .int (xw_i 0), .int (xw_i 0), .int (xw_i 0)])), (q6_5, .inl (cs 20, 40, .inl (fun _ => xw_i 0))), (q13_9, .inl (cs 20, 40, .inl (fun _ => xw_i 0))), (q22_15, .inl (cs 20, 12, .inl (fun _ => xw_i 0)))]) H := hP
  have hD : va_D A ([(h0, .inr (0, [.ref q6_5, .ref q13_9, .ref q22_15, .int (xw_i 0), .int (xw_i 0), .int (xw_i 0), .int (xw_i 0), .int (xw_i 0), .int (xw_i 0), .int (xw_i 0), .int (xw_i 0), .int (xw_i 0)])), (q6_5, .inl (cs 20, 40, .inl (fun _ => xw_i 0))), (q13_9, .inl (cs 20, 40, .inl (fun _ => xw_i 0))), (q22_15, .inl (cs 20, 12, .inl (fun _ => xw_i 0)))]) := hD
  refine lv_aload_n hx hb d_B_init_27 rfl (lv_at hl 0 rfl) ?_
  refine lv_iload_n hx hb d_B_init_28 rfl (lv_at hl 2 rfl) ?_
  refine va_putF (D := D) (ci := 0) (v := .int (xw_i 3)) (ty := .int) (C := "AdviceWeaver$Body") (T := T_B) (N := 12) hx hb hts hin_B ty_B ty_B_ok nm_B hown hK hP hD hS 0 rfl rfl 3 (by decide) (hts _ hw_15) (fun _ h9 => h9) rfl hin rfl (by decide +kernel) (by first | rfl | decide) (by first | rfl | decide) (Nat.le_of_ble_eq_true rfl) d_B_init_29 (fun H locs hP hD hS => ?_)
  have hP : va_P D vwCl ([(h0, .inr (0, [.ref q6_5, .ref q13_9, .ref q22_15, .int (xw_i 3), .int (xw_i 0), .int (xw_i 0), .int (xw_i 0), .int (xw_i 0), .int (xw_i 0), .int (xw_i 0), .int (xw_i 0), .int (xw_i 0)])), (q6_5, .inl (cs 20, 40, .inl (fun _ => xw_i 0))), (q13_9, .inl (cs 20, 40, .inl (fun _ => xw_i 0))), (q22_15, .inl (cs 20, 12, .inl (fun _ => xw_i 0)))]) H := hP
  have hD : va_D A ([(h0, .inr (0, [.ref q6_5, .ref q13_9, .ref q22_15, .int (xw_i 3), .int (xw_i 0), .int (xw_i 0), .int (xw_i 0), .int (xw_i 0), .int (xw_i 0), .int (xw_i 0), .int (xw_i 0), .int (xw_i 0)])), (q6_5, .inl (cs 20, 40, .inl (fun _ => xw_i 0))), (q13_9, .inl (cs 20, 40, .inl (fun _ => xw_i 0))), (q22_15, .inl (cs 20, 12, .inl (fun _ => xw_i 0)))]) := hD
  exact W.vret hx hb hr (fun t ht hW => ⟨⟨fun k => ([q6_5, q13_9, q22_15] : List Nat).getD k 0, rfl, trivial, by rw [ht]; exact hP, va_K.moved hW.alike hK, hD⟩, hS.F ht⟩) hS.2.2 d_B_init_32

abbrev xn_B120 (cs : Nat → ClassId) (h0 : Nat) (u : Nat → Nat) : va_W := [(h0, .inr (0, [.ref (u 0), .ref (u 1), .ref (u 2), .int (xw_i 5), .int (xw_i 0), .int (xw_i 0), .int (xw_i 0), .int (xw_i 0), .int (xw_i 0), .int (xw_i 0), .int (xw_i 0), .int (xw_i 0)])), ((u 0), .inl (cs 20, 120, .inl (fun _ => xw_i 0))), ((u 1), .inl (cs 20, 120, .inl (fun _ => xw_i 0))), ((u 2), .inl (cs 20, 20, .inl (fun _ => xw_i 0)))]
set_option maxRecDepth 100000 in
set_option maxHeartbeats 4000000 in
theorem c_B_init120 (l : Launch) (D : va_G) (cs : Nat → ClassId) (h0 sz : Nat) : Met l y_B_init w_B_init ({ frames := 1, cells := 3, slots := 260, locals := 20 }) (va_Pc [.ref h0, .int (xw_i 120), .int (xw_i 5)] (fun U => U.heap.size = sz ∧ va_P D vwCl [(h0, .inr (0, [.null, .null, .null, .int (xw_i 0), .int (xw_i 0), .int (xw_i 0), .int (xw_i 0), .int (xw_i 0), .int (xw_i 0), .int (xw_i 0), .int (xw_i 0), .int (xw_i 0)]))] U.heap ∧ va_K D vwCl (xw_ty cs) U ∧ va_D (fun _ => True) [(h0, .inr (0, [.null, .null, .null, .int (xw_i 0), .int (xw_i 0), .int (xw_i 0), .int (xw_i 0), .int (xw_i 0), .int (xw_i 0), .int (xw_i 0), .int (xw_i 0), .int (xw_i 0)]))])) (va_Qv (fun _ : Nat → Nat => True) (fun u t => va_P D vwCl (xn_B120 cs h0 u) t.heap ∧ va_K D vwCl (xw_ty cs) t ∧ va_D (va_A [(h0, .inr (0, [.null, .null, .null, .int (xw_i 0), .int (xw_i 0), .int (xw_i 0), .int (xw_i 0), .int (xw_i 0), .int (xw_i 0), .int (xw_i 0), .int (xw_i 0), .int (xw_i 0)]))] sz) (xn_B120 cs h0 u)) (va_A [(h0, .inr (0, [.null, .null, .null, .int (xw_i 0), .int (xw_i 0), .int (xw_i 0), .int (xw_i 0), .int (xw_i 0), .int (xw_i 0), .int (xw_i 0), .int (xw_i 0), .int (xw_i 0)]))] sz)) 3 260 (va_A [(h0, .inr (0, [.null, .null, .null, .int (xw_i 0), .int (xw_i 0), .int (xw_i 0), .int (xw_i 0), .int (xw_i 0), .int (xw_i 0), .int (xw_i 0), .int (xw_i 0), .int (xw_i 0)]))] sz) := by
  refine Met.ofW (cc := b_B_init) (maxL := 3) (ret := none) (by decide) rfl ?_
  intro p e s m args below meth c s₁ B hml hv
  obtain ⟨rfl, hsz, hP, hK, hD0⟩ := hv
  have hx := B.exec
  have hb := B.bytes
  have hr := B.returns
  have hts0 := atoms_spec (ws := w_B_init) B.pre
  have hts := fun w (hw : w ∈ wAll) => hts0 w (List.mem_cons_of_mem _ hw)
  have hown : s.vm.findClass "AdviceWeaver$Body" = some m.cls := findClass_of_methodNamed B.named
  have hlocks := B.notSynchronized
  have hin : meth.name = "<init>" := (name_of_methodNamed B.named B.method).1
  subst hsz
  have hD := hD0.self (sz := s.heap.size)
  generalize hAe : va_A [(h0, .inr (0, [.null, .null, .null, .int (xw_i 0), .int (xw_i 0), .int (xw_i 0), .int (xw_i 0), .int (xw_i 0), .int (xw_i 0), .int (xw_i 0), .int (xw_i 0), .int (xw_i 0)]))] s.heap.size = A at hD ⊢
  have hA : ∀ q : Nat, s.heap.size ≤ q → A q := fun q h => by rw [← hAe]; exact Or.inr h
  have hS : va_S A s.heap s.heap [] := va_S.rf
  have hl := lv_entry [.ref h0, .int (xw_i 120), .int (xw_i 5)] (n := 3) (Nat.le_of_ble_eq_true rfl)
  rw [lg_entry_eq]
  generalize (lg_sl [.ref h0, .int (xw_i 120), .int (xw_i 5)] ++ List.replicate (3 - (lg_sl [.ref h0, .int (xw_i 120), .int (xw_i 5)]).length) Slot.unset).toArray = ls at hl ⊢
  have hl : lv_has ls 3 [(0, .ref h0), (1, .int (xw_i 120)), (2, .int (xw_i 5))] := hl
  refine lv_aload_n hx hb d_B_init_0 rfl (lv_at hl 0 rfl) ?_
  refine W.objInit hx hb hown (hts _ hw_621) (hts _ hw_641) (hts _ hw_642) rfl (by rw [hml]; exact hl.1) rfl d_B_init_1 (Nat.le_of_ble_eq_true rfl) (Nat.le_of_ble_eq_true rfl) ?_
  refine W.eq (g2 := F0 m 4 ls []) rfl ?_
  refine lv_aload_n hx hb d_B_init_4 rfl (lv_at hl 0 rfl) ?_
  refine lv_iload_n hx hb d_B_init_5 rfl (lv_at hl 1 rfl) ?_
  refine xn_newI (N := 120) hx hb (hts _ hw_643) hK hP hD hS hA (by decide) (Nat.le_of_ble_eq_true rfl) (Nat.le_of_ble_eq_true rfl) d_B_init_6 (fun q6_5 H hP hD hS => ?_)
  refine W.widen (k := 1) (n := 120) (Nat.le_of_ble_eq_true rfl) (Nat.le_of_ble_eq_true rfl) ?_
  have hP : va_P D vwCl ([(h0, .inr (0, [.null, .null, .null, .int (xw_i 0), .int (xw_i 0), .int (xw_i 0), .int (xw_i 0), .int (xw_i 0), .int (xw_i 0), .int (xw_i 0), .int (xw_i 0), .int (xw_i 0)])), (q6_5, .inl (cs 20, 120, .inl (fun _ => xw_i 0)))]) H := hP
  have hD : va_D A ([(h0, .inr (0, [.null, .null, .null, .int (xw_i 0), .int (xw_i 0), .int (xw_i 0), .int (xw_i 0), .int (xw_i 0), .int (xw_i 0), .int (xw_i 0), .int (xw_i 0), .int (xw_i 0)])), (q6_5, .inl (cs 20, 120, .inl (fun _ => xw_i 0)))]) := hD
  refine va_putF (D := D) (ci := 0) (v := .ref q6_5) (ty := .array (.int)) (C := "AdviceWeaver$Body") (T := T_B) (N := 12) hx hb hts hin_B ty_B ty_B_ok nm_B hown hK hP hD hS 0 rfl rfl 0 (by decide) (hts _ hw_45) (fun _ h9 => h9) rfl hin rfl (by decide +kernel) (by first | rfl | decide) (by first | rfl | decide) (Nat.le_of_ble_eq_true rfl) d_B_init_8 (fun H locs hP hD hS => ?_)
  have hP : va_P D vwCl ([(h0, .inr (0, [.ref q6_5, .null, .null, .int (xw_i 0), .int (xw_i 0), .int (xw_i 0), .int (xw_i 0), .int (xw_i 0), .int (xw_i 0), .int (xw_i 0), .int (xw_i 0), .int (xw_i 0)])), (q6_5, .inl (cs 20, 120, .inl (fun _ => xw_i 0)))]) H := hP
  have hD : va_D A ([(h0, .inr (0, [.ref q6_5, .null, .null, .int (xw_i 0), .int (xw_i 0), .int (xw_i 0), .int (xw_i 0), .int (xw_i 0), .int (xw_i 0), .int (xw_i 0), .int (xw_i 0), .int (xw_i 0)])), (q6_5, .inl (cs 20, 120, .inl (fun _ => xw_i 0)))]) := hD
  refine lv_aload_n hx hb d_B_init_11 rfl (lv_at hl 0 rfl) ?_
  refine lv_iload_n hx hb d_B_init_12 rfl (lv_at hl 1 rfl) ?_
  refine xn_newI (N := 120) hx hb (hts _ hw_643) hK hP hD hS hA (by decide) (Nat.le_of_ble_eq_true rfl) (Nat.le_of_ble_eq_true rfl) d_B_init_13 (fun q13_9 H hP hD hS => ?_)
  refine W.widen (k := 2) (n := 240) (Nat.le_of_ble_eq_true rfl) (Nat.le_of_ble_eq_true rfl) ?_
  have hP : va_P D vwCl ([(h0, .inr (0, [.ref q6_5, .null, .null, .int (xw_i 0), .int (xw_i 0), .int (xw_i 0), .int (xw_i 0), .int (xw_i 0), .int (xw_i 0), .int (xw_i 0), .int (xw_i 0), .int (xw_i 0)])), (q6_5, .inl (cs 20, 120, .inl (fun _ => xw_i 0))), (q13_9, .inl (cs 20, 120, .inl (fun _ => xw_i 0)))]) H := hP
  have hD : va_D A ([(h0, .inr (0, [.ref q6_5, .null, .null, .int (xw_i 0), .int (xw_i 0), .int (xw_i 0), .int (xw_i 0), .int (xw_i 0), .int (xw_i 0), .int (xw_i 0), .int (xw_i 0), .int (xw_i 0)])), (q6_5, .inl (cs 20, 120, .inl (fun _ => xw_i 0))), (q13_9, .inl (cs 20, 120, .inl (fun _ => xw_i 0)))]) := hD
  refine va_putF (D := D) (ci := 0) (v := .ref q13_9) (ty := .array (.int)) (C := "AdviceWeaver$Body") (T := T_B) (N := 12) hx hb hts hin_B ty_B ty_B_ok nm_B hown hK hP hD hS 0 rfl rfl 1 (by decide) (hts _ hw_44) (fun _ h9 => h9) rfl hin rfl (by decide +kernel) (by first | rfl | decide) (by first | rfl | decide) (Nat.le_of_ble_eq_true rfl) d_B_init_15 (fun H locs hP hD hS => ?_)
  have hP : va_P D vwCl ([(h0, .inr (0, [.ref q6_5, .ref q13_9, .null, .int (xw_i 0), .int (xw_i 0), .int (xw_i 0), .int (xw_i 0), .int (xw_i 0), .int (xw_i 0), .int (xw_i 0), .int (xw_i 0), .int (xw_i 0)])), (q6_5, .inl (cs 20, 120, .inl (fun _ => xw_i 0))), (q13_9, .inl (cs 20, 120, .inl (fun _ => xw_i 0)))]) H := hP
  have hD : va_D A ([(h0, .inr (0, [.ref q6_5, .ref q13_9, .null, .int (xw_i 0), .int (xw_i 0), .int (xw_i 0), .int (xw_i 0), .int (xw_i 0), .int (xw_i 0), .int (xw_i 0), .int (xw_i 0), .int (xw_i 0)])), (q6_5, .inl (cs 20, 120, .inl (fun _ => xw_i 0))), (q13_9, .inl (cs 20, 120, .inl (fun _ => xw_i 0)))]) := hD
  refine lv_aload_n hx hb d_B_init_18 rfl (lv_at hl 0 rfl) ?_
  refine lv_iload_n hx hb d_B_init_19 rfl (lv_at hl 2 rfl) ?_
  refine lv_iconst (v := xw_i 4) hx hb d_B_init_20 rfl ?_
  refine xw_imul' (z := 20) hx hb d_B_init_21 (by decide) ?_
  refine xn_newI (N := 20) hx hb (hts _ hw_643) hK hP hD hS hA (by decide) (Nat.le_of_ble_eq_true rfl) (Nat.le_of_ble_eq_true rfl) d_B_init_22 (fun q22_15 H hP hD hS => ?_)
  refine W.widen (k := 3) (n := 260) (Nat.le_of_ble_eq_true rfl) (Nat.le_of_ble_eq_true rfl) ?_
  have hP : va_P D vwCl ([(h0, .inr (0, [.ref q6_5, .ref q13_9, .null, .int (xw_i 0), .int (xw_i 0), .int (xw_i 0), .int (xw_i 0), .int (xw_i 0), .int (xw_i 0), .int (xw_i 0), .int (xw_i 0), .int (xw_i 0)])), (q6_5, .inl (cs 20, 120, .inl (fun _ => xw_i 0))), (q13_9, .inl (cs 20, 120, .inl (fun _ => xw_i 0))), (q22_15, .inl (cs 20, 20, .inl (fun _ => xw_i 0)))]) H := hP
  have hD : va_D A ([(h0, .inr (0, [.ref q6_5, .ref q13_9, .null, .int (xw_i 0), .int (xw_i 0), .int (xw_i 0), .int (xw_i 0), .int (xw_i 0), .int (xw_i 0), .int (xw_i 0), .int (xw_i 0), .int (xw_i 0)])), (q6_5, .inl (cs 20, 120, .inl (fun _ => xw_i 0))), (q13_9, .inl (cs 20, 120, .inl (fun _ => xw_i 0))), (q22_15, .inl (cs 20, 20, .inl (fun _ => xw_i 0)))]) := hD
  refine va_putF (D := D) (ci := 0) (v := .ref q22_15) (ty := .array (.int)) (C := "AdviceWeaver$Body") (T := T_B) (N := 12) hx hb hts hin_B ty_B ty_B_ok nm_B hown hK hP hD hS 0 rfl rfl 2 (by decide) (hts _ hw_16) (fun _ h9 => h9) rfl hin rfl (by decide +kernel) (by first | rfl | decide) (by first | rfl | decide) (Nat.le_of_ble_eq_true rfl) d_B_init_24 (fun H locs hP hD hS => ?_)
  have hP : va_P D vwCl ([(h0, .inr (0, [.ref q6_5, .ref q13_9, .ref q22_15, .int (xw_i 0), .int (xw_i 0), .int (xw_i 0), .int (xw_i 0), .int (xw_i 0), .int (xw_i 0), .int (xw_i 0), .int (xw_i 0), .int (xw_i 0)])), (q6_5, .inl (cs 20, 120, .inl (fun _ => xw_i 0))), (q13_9, .inl (cs 20, 120, .inl (fun _ => xw_i 0))), (q22_15, .inl (cs 20, 20, .inl (fun _ => xw_i 0)))]) H := hP
  have hD : va_D A ([(h0, .inr (0, [.ref q6_5, .ref q13_9, .ref q22_15, .int (xw_i 0), .int (xw_i 0), .int (xw_i 0), .int (xw_i 0), .int (xw_i 0), .int (xw_i 0), .int (xw_i 0), .int (xw_i 0), .int (xw_i 0)])), (q6_5, .inl (cs 20, 120, .inl (fun _ => xw_i 0))), (q13_9, .inl (cs 20, 120, .inl (fun _ => xw_i 0))), (q22_15, .inl (cs 20, 20, .inl (fun _ => xw_i 0)))]) := hD
  refine lv_aload_n hx hb d_B_init_27 rfl (lv_at hl 0 rfl) ?_
  refine lv_iload_n hx hb d_B_init_28 rfl (lv_at hl 2 rfl) ?_
  refine va_putF (D := D) (ci := 0) (v := .int (xw_i 5)) (ty := .int) (C := "AdviceWeaver$Body") (T := T_B) (N := 12) hx hb hts hin_B ty_B ty_B_ok nm_B hown hK hP hD hS 0 rfl rfl 3 (by decide) (hts _ hw_15) (fun _ h9 => h9) rfl hin rfl (by decide +kernel) (by first | rfl | decide) (by first | rfl | decide) (Nat.le_of_ble_eq_true rfl) d_B_init_29 (fun H locs hP hD hS => ?_)
  have hP : va_P D vwCl ([(h0, .inr (0, [.ref q6_5, .ref q13_9, .ref q22_15, .int (xw_i 5), .int (xw_i 0), .int (xw_i 0), .int (xw_i 0), .int (xw_i 0), .int (xw_i 0), .int (xw_i 0), .int (xw_i 0), .int (xw_i 0)])), (q6_5, .inl (cs 20, 120, .inl (fun _ => xw_i 0))), (q13_9, .inl (cs 20, 120, .inl (fun _ => xw_i 0))), (q22_15, .inl (cs 20, 20, .inl (fun _ => xw_i 0)))]) H := hP
  have hD : va_D A ([(h0, .inr (0, [.ref q6_5, .ref q13_9, .ref q22_15, .int (xw_i 5), .int (xw_i 0), .int (xw_i 0), .int (xw_i 0), .int (xw_i 0), .int (xw_i 0), .int (xw_i 0), .int (xw_i 0), .int (xw_i 0)])), (q6_5, .inl (cs 20, 120, .inl (fun _ => xw_i 0))), (q13_9, .inl (cs 20, 120, .inl (fun _ => xw_i 0))), (q22_15, .inl (cs 20, 20, .inl (fun _ => xw_i 0)))]) := hD
  exact W.vret hx hb hr (fun t ht hW => ⟨⟨fun k => ([q6_5, q13_9, q22_15] : List Nat).getD k 0, rfl, trivial, by rw [ht]; exact hP, va_K.moved hW.alike hK, hD⟩, hS.F ht⟩) hS.2.2 d_B_init_32

abbrev xn_LM (cs : Nat → ClassId) (h0 : Nat) (u : Nat → Nat) : va_W := [(h0, .inr (4, [.ref (u 0), .ref (u 4), .ref (u 5), .ref (u 6), .ref (u 7), .ref (u 8), .ref (u 9), .int (xw_i 0)]))] ++ xn_B120 cs (u 0) (fun k => u (k + 1)) ++ [((u 4), .inl (cs 20, 243, .inl (fun _ => xw_i 0)))] ++ [((u 5), .inl (cs 20, 243, .inl (fun _ => xw_i 0)))] ++ [((u 6), .inl (cs 20, 243, .inl (fun _ => xw_i 0)))] ++ [((u 7), .inl (cs 20, 244, .inl (fun _ => xw_i 0)))] ++ [((u 8), .inl (cs 20, 121, .inl (fun _ => xw_i 0)))] ++ [((u 9), .inl (cs 20, 121, .inl (fun _ => xw_i 0)))]
set_option maxRecDepth 100000 in
set_option maxHeartbeats 4000000 in
theorem c_LM_init (l : Launch) (D : va_G) (cs : Nat → ClassId) (h0 sz : Nat) : Met l y_LM_init w_LM_init ({ frames := 2, cells := 10, slots := 1487, locals := 42 }) (va_Pc [.ref h0] (fun U => U.heap.size = sz ∧ va_P D vwCl [(h0, .inr (4, [.null, .null, .null, .null, .null, .null, .null, .int (xw_i 0)]))] U.heap ∧ va_K D vwCl (xw_ty cs) U ∧ va_D (fun _ => True) [(h0, .inr (4, [.null, .null, .null, .null, .null, .null, .null, .int (xw_i 0)]))])) (va_Qv (fun _ : Nat → Nat => True) (fun u t => va_P D vwCl (xn_LM cs h0 u) t.heap ∧ va_K D vwCl (xw_ty cs) t ∧ va_D (va_A [(h0, .inr (4, [.null, .null, .null, .null, .null, .null, .null, .int (xw_i 0)]))] sz) (xn_LM cs h0 u)) (va_A [(h0, .inr (4, [.null, .null, .null, .null, .null, .null, .null, .int (xw_i 0)]))] sz)) 10 1487 (va_A [(h0, .inr (4, [.null, .null, .null, .null, .null, .null, .null, .int (xw_i 0)]))] sz) := by
  refine Met.ofW (cc := b_LM_init) (maxL := 1) (ret := none) (by decide) rfl ?_
  intro p e s m args below meth c s₁ B hml hv
  obtain ⟨rfl, hsz, hP, hK, hD0⟩ := hv
  have hx := B.exec
  have hb := B.bytes
  have hr := B.returns
  have hts0 := atoms_spec (ws := w_LM_init) B.pre
  have hts := fun w (hw : w ∈ wAll) => hts0 w (List.mem_cons_of_mem _ hw)
  have hown : s.vm.findClass "AdviceWeaver$Loom" = some m.cls := findClass_of_methodNamed B.named
  have hlocks := B.notSynchronized
  have hin : meth.name = "<init>" := (name_of_methodNamed B.named B.method).1
  subst hsz
  have hD := hD0.self (sz := s.heap.size)
  generalize hAe : va_A [(h0, .inr (4, [.null, .null, .null, .null, .null, .null, .null, .int (xw_i 0)]))] s.heap.size = A at hD ⊢
  have hA : ∀ q : Nat, s.heap.size ≤ q → A q := fun q h => by rw [← hAe]; exact Or.inr h
  have hS : va_S A s.heap s.heap [] := va_S.rf
  have hl := lv_entry [.ref h0] (n := 1) (Nat.le_of_ble_eq_true rfl)
  rw [lg_entry_eq]
  generalize (lg_sl [.ref h0] ++ List.replicate (1 - (lg_sl [.ref h0]).length) Slot.unset).toArray = ls at hl ⊢
  have hl : lv_has ls 1 [(0, .ref h0)] := hl
  refine lv_aload_n hx hb d_LM_init_0 rfl (lv_at hl 0 rfl) ?_
  refine W.objInit hx hb hown (hts _ hw_630) (hts _ hw_641) (hts _ hw_642) rfl (by rw [hml]; exact hl.1) rfl d_LM_init_1 (Nat.le_of_ble_eq_true rfl) (Nat.le_of_ble_eq_true rfl) ?_
  refine W.eq (g2 := F0 m 4 ls []) rfl ?_
  refine lv_aload_n hx hb d_LM_init_4 rfl (lv_at hl 0 rfl) ?_
  refine va_new (ci := 0) (fs := [.null, .null, .null, .int (xw_i 0), .int (xw_i 0), .int (xw_i 0), .int (xw_i 0), .int (xw_i 0), .int (xw_i 0), .int (xw_i 0), .int (xw_i 0), .int (xw_i 0)]) (C := "AdviceWeaver$Body") (T := T_B) (N := 12) hx hb hts hin_B ty_B ty_B_ok hown (hts _ hw_661) (hts _ hw_648) (hts _ hw_25) hK hP hD hS hA rfl (xn_df_B) (Nat.le_of_ble_eq_true rfl) (Nat.le_of_ble_eq_true rfl) d_LM_init_5 (fun q5_4 H hP hD hS => ?_)
  refine W.widen (k := 1) (n := 12) (Nat.le_of_ble_eq_true rfl) (Nat.le_of_ble_eq_true rfl) ?_
  have hP : va_P D vwCl ([(h0, .inr (4, [.null, .null, .null, .null, .null, .null, .null, .int (xw_i 0)]))] ++ [(q5_4, .inr (0, [.null, .null, .null, .int (xw_i 0), .int (xw_i 0), .int (xw_i 0), .int (xw_i 0), .int (xw_i 0), .int (xw_i 0), .int (xw_i 0), .int (xw_i 0), .int (xw_i 0)]))]) H := hP
  have hD : va_D A ([(h0, .inr (4, [.null, .null, .null, .null, .null, .null, .null, .int (xw_i 0)]))] ++ [(q5_4, .inr (0, [.null, .null, .null, .int (xw_i 0), .int (xw_i 0), .int (xw_i 0), .int (xw_i 0), .int (xw_i 0), .int (xw_i 0), .int (xw_i 0), .int (xw_i 0), .int (xw_i 0)]))]) := hD
  refine lv_dup hx hb d_LM_init_8 rfl ?_
  refine lv_bipush (v := xw_i 120) hx hb d_LM_init_9 (by decide) ?_
  refine lv_iconst (v := xw_i 5) hx hb d_LM_init_11 rfl ?_
  have hPc := hP.sub (ws' := [(q5_4, .inr (0, [.null, .null, .null, .int (xw_i 0), .int (xw_i 0), .int (xw_i 0), .int (xw_i 0), .int (xw_i 0), .int (xw_i 0), .int (xw_i 0), .int (xw_i 0), .int (xw_i 0)]))]) [1] rfl
  have hDc := hD.sub (ws' := [(q5_4, .inr (0, [.null, .null, .null, .int (xw_i 0), .int (xw_i 0), .int (xw_i 0), .int (xw_i 0), .int (xw_i 0), .int (xw_i 0), .int (xw_i 0), .int (xw_i 0), .int (xw_i 0)]))]) [1] (by decide) rfl
  have hFc := va_free (wc := [(q5_4, .inr (0, [.null, .null, .null, .int (xw_i 0), .int (xw_i 0), .int (xw_i 0), .int (xw_i 0), .int (xw_i 0), .int (xw_i 0), .int (xw_i 0), .int (xw_i 0), .int (xw_i 0)]))]) hD hS hA [1] rfl
  refine va_callv (va_runI (As := [.int (xw_i 120), .int (xw_i 5)]) (rest := [.ref q5_4, .ref h0]) ⟨hx, hb, hml, hown, hts⟩ (c_B_init120 l D cs q5_4 H.size) (cwI 2 hts (gd_I hw_620) rfl rfl rfl (hts _ hw_25) (hts _ hw_631) (hts _ hw_619) rfl (by decide +kernel) ⟨(Nat.le_of_ble_eq_true rfl), (Nat.le_of_ble_eq_true rfl)⟩) ⟨fun a U g mk q => by obtain ⟨q0, q1, qP, qK, qD⟩ := q; exact ⟨q0, q1, qP, va_K.moved (u := U) (U := U.calling g mk a) (Vm.Alike.refl U.vm) qK, qD⟩, fun U hU hW => ⟨rfl, by rw [hU], by rw [hU]; exact hPc, va_K.moved hW.alike hK, hDc.weaken (fun _ _ _ _ => trivial)⟩⟩ rfl rfl hl.1 rfl (lv_room (Nat.le_of_ble_eq_true rfl)) d_LM_init_12 ⟨(Nat.le_of_ble_eq_true rfl), (Nat.le_of_ble_eq_true rfl)⟩) hS (fun q _ h => hFc q h) hFc (fun u12_8 t H1 locs ht hvm h9 hB hz1 hk1 hS => ?_)
  obtain ⟨hP1, hK1, hD1⟩ := hB
  rw [ht] at hP1
  obtain ⟨hP, hD⟩ := va_join (wr := [(h0, .inr (4, [.null, .null, .null, .null, .null, .null, .null, .int (xw_i 0)]))]) (w1 := xn_B120 cs q5_4 u12_8) hP hD [1] [0] rfl rfl (by decide) (by decide) hk1 hFc hP1 hD1
  generalize H1 = H at hP hS ⊢
  refine W.widen (k := 4) (n := 272) (Nat.le_of_ble_eq_true rfl) (Nat.le_of_ble_eq_true rfl) ?_
  have hP : va_P D vwCl ([(h0, .inr (4, [.null, .null, .null, .null, .null, .null, .null, .int (xw_i 0)]))] ++ xn_B120 cs q5_4 u12_8) H := hP
  have hD : va_D A ([(h0, .inr (4, [.null, .null, .null, .null, .null, .null, .null, .int (xw_i 0)]))] ++ xn_B120 cs q5_4 u12_8) := hD
  refine va_putF (D := D) (ci := 4) (v := .ref q5_4) (ty := .object "AdviceWeaver$Body") (C := "AdviceWeaver$Loom") (T := T_LM) (N := 8) hx hb hts hin_LM ty_LM ty_LM_ok nm_LM hown hK hP hD hS 0 rfl rfl 0 (by decide) (hts _ hw_194) (fun _ h9 => h9) rfl hin rfl (by decide +kernel) (by first | rfl | decide) (by first | rfl | decide) (Nat.le_of_ble_eq_true rfl) d_LM_init_15 (fun H locs hP hD hS => ?_)
  have hP : va_P D vwCl ([(h0, .inr (4, [.ref q5_4, .null, .null, .null, .null, .null, .null, .int (xw_i 0)]))] ++ xn_B120 cs q5_4 u12_8) H := hP
  have hD : va_D A ([(h0, .inr (4, [.ref q5_4, .null, .null, .null, .null, .null, .null, .int (xw_i 0)]))] ++ xn_B120 cs q5_4 u12_8) := hD
  refine lv_aload_n hx hb d_LM_init_18 rfl (lv_at hl 0 rfl) ?_
  refine lv_sipush (v := xw_i 243) hx hb d_LM_init_19 (by decide) ?_
  refine xn_newI (N := 243) hx hb (hts _ hw_643) hK hP hD hS hA (by decide) (Nat.le_of_ble_eq_true rfl) (Nat.le_of_ble_eq_true rfl) d_LM_init_22 (fun q22_12 H hP hD hS => ?_)
  refine W.widen (k := 5) (n := 515) (Nat.le_of_ble_eq_true rfl) (Nat.le_of_ble_eq_true rfl) ?_
  have hP : va_P D vwCl ([(h0, .inr (4, [.ref q5_4, .null, .null, .null, .null, .null, .null, .int (xw_i 0)]))] ++ xn_B120 cs q5_4 u12_8 ++ [(q22_12, .inl (cs 20, 243, .inl (fun _ => xw_i 0)))]) H := hP
  have hD : va_D A ([(h0, .inr (4, [.ref q5_4, .null, .null, .null, .null, .null, .null, .int (xw_i 0)]))] ++ xn_B120 cs q5_4 u12_8 ++ [(q22_12, .inl (cs 20, 243, .inl (fun _ => xw_i 0)))]) := hD
  refine va_putF (D := D) (ci := 4) (v := .ref q22_12) (ty := .array (.int)) (C := "AdviceWeaver$Loom") (T := T_LM) (N := 8) hx hb hts hin_LM ty_LM ty_LM_ok nm_LM hown hK hP hD hS 0 rfl rfl 1 (by decide) (hts _ hw_210) (fun _ h9 => h9) rfl hin rfl (by decide +kernel) (by first | rfl | decide) (by first | rfl | decide) (Nat.le_of_ble_eq_true rfl) d_LM_init_24 (fun H locs hP hD hS => ?_)
  have hP : va_P D vwCl ([(h0, .inr (4, [.ref q5_4, .ref q22_12, .null, .null, .null, .null, .null, .int (xw_i 0)]))] ++ xn_B120 cs q5_4 u12_8 ++ [(q22_12, .inl (cs 20, 243, .inl (fun _ => xw_i 0)))]) H := hP
  have hD : va_D A ([(h0, .inr (4, [.ref q5_4, .ref q22_12, .null, .null, .null, .null, .null, .int (xw_i 0)]))] ++ xn_B120 cs q5_4 u12_8 ++ [(q22_12, .inl (cs 20, 243, .inl (fun _ => xw_i 0)))]) := hD
  refine lv_aload_n hx hb d_LM_init_27 rfl (lv_at hl 0 rfl) ?_
  refine lv_sipush (v := xw_i 243) hx hb d_LM_init_28 (by decide) ?_
  refine xn_newI (N := 243) hx hb (hts _ hw_643) hK hP hD hS hA (by decide) (Nat.le_of_ble_eq_true rfl) (Nat.le_of_ble_eq_true rfl) d_LM_init_31 (fun q31_16 H hP hD hS => ?_)
  refine W.widen (k := 6) (n := 758) (Nat.le_of_ble_eq_true rfl) (Nat.le_of_ble_eq_true rfl) ?_
  have hP : va_P D vwCl ([(h0, .inr (4, [.ref q5_4, .ref q22_12, .null, .null, .null, .null, .null, .int (xw_i 0)]))] ++ xn_B120 cs q5_4 u12_8 ++ [(q22_12, .inl (cs 20, 243, .inl (fun _ => xw_i 0)))] ++ [(q31_16, .inl (cs 20, 243, .inl (fun _ => xw_i 0)))]) H := hP
  have hD : va_D A ([(h0, .inr (4, [.ref q5_4, .ref q22_12, .null, .null, .null, .null, .null, .int (xw_i 0)]))] ++ xn_B120 cs q5_4 u12_8 ++ [(q22_12, .inl (cs 20, 243, .inl (fun _ => xw_i 0)))] ++ [(q31_16, .inl (cs 20, 243, .inl (fun _ => xw_i 0)))]) := hD
  refine va_putF (D := D) (ci := 4) (v := .ref q31_16) (ty := .array (.int)) (C := "AdviceWeaver$Loom") (T := T_LM) (N := 8) hx hb hts hin_LM ty_LM ty_LM_ok nm_LM hown hK hP hD hS 0 rfl rfl 2 (by decide) (hts _ hw_211) (fun _ h9 => h9) rfl hin rfl (by decide +kernel) (by first | rfl | decide) (by first | rfl | decide) (Nat.le_of_ble_eq_true rfl) d_LM_init_33 (fun H locs hP hD hS => ?_)
  have hP : va_P D vwCl ([(h0, .inr (4, [.ref q5_4, .ref q22_12, .ref q31_16, .null, .null, .null, .null, .int (xw_i 0)]))] ++ xn_B120 cs q5_4 u12_8 ++ [(q22_12, .inl (cs 20, 243, .inl (fun _ => xw_i 0)))] ++ [(q31_16, .inl (cs 20, 243, .inl (fun _ => xw_i 0)))]) H := hP
  have hD : va_D A ([(h0, .inr (4, [.ref q5_4, .ref q22_12, .ref q31_16, .null, .null, .null, .null, .int (xw_i 0)]))] ++ xn_B120 cs q5_4 u12_8 ++ [(q22_12, .inl (cs 20, 243, .inl (fun _ => xw_i 0)))] ++ [(q31_16, .inl (cs 20, 243, .inl (fun _ => xw_i 0)))]) := hD
  refine lv_aload_n hx hb d_LM_init_36 rfl (lv_at hl 0 rfl) ?_
  refine lv_sipush (v := xw_i 243) hx hb d_LM_init_37 (by decide) ?_
  refine xn_newI (N := 243) hx hb (hts _ hw_643) hK hP hD hS hA (by decide) (Nat.le_of_ble_eq_true rfl) (Nat.le_of_ble_eq_true rfl) d_LM_init_40 (fun q40_20 H hP hD hS => ?_)
  refine W.widen (k := 7) (n := 1001) (Nat.le_of_ble_eq_true rfl) (Nat.le_of_ble_eq_true rfl) ?_
  have hP : va_P D vwCl ([(h0, .inr (4, [.ref q5_4, .ref q22_12, .ref q31_16, .null, .null, .null, .null, .int (xw_i 0)]))] ++ xn_B120 cs q5_4 u12_8 ++ [(q22_12, .inl (cs 20, 243, .inl (fun _ => xw_i 0)))] ++ [(q31_16, .inl (cs 20, 243, .inl (fun _ => xw_i 0)))] ++ [(q40_20, .inl (cs 20, 243, .inl (fun _ => xw_i 0)))]) H := hP
  have hD : va_D A ([(h0, .inr (4, [.ref q5_4, .ref q22_12, .ref q31_16, .null, .null, .null, .null, .int (xw_i 0)]))] ++ xn_B120 cs q5_4 u12_8 ++ [(q22_12, .inl (cs 20, 243, .inl (fun _ => xw_i 0)))] ++ [(q31_16, .inl (cs 20, 243, .inl (fun _ => xw_i 0)))] ++ [(q40_20, .inl (cs 20, 243, .inl (fun _ => xw_i 0)))]) := hD
  refine va_putF (D := D) (ci := 4) (v := .ref q40_20) (ty := .array (.int)) (C := "AdviceWeaver$Loom") (T := T_LM) (N := 8) hx hb hts hin_LM ty_LM ty_LM_ok nm_LM hown hK hP hD hS 0 rfl rfl 3 (by decide) (hts _ hw_212) (fun _ h9 => h9) rfl hin rfl (by decide +kernel) (by first | rfl | decide) (by first | rfl | decide) (Nat.le_of_ble_eq_true rfl) d_LM_init_42 (fun H locs hP hD hS => ?_)
  have hP : va_P D vwCl ([(h0, .inr (4, [.ref q5_4, .ref q22_12, .ref q31_16, .ref q40_20, .null, .null, .null, .int (xw_i 0)]))] ++ xn_B120 cs q5_4 u12_8 ++ [(q22_12, .inl (cs 20, 243, .inl (fun _ => xw_i 0)))] ++ [(q31_16, .inl (cs 20, 243, .inl (fun _ => xw_i 0)))] ++ [(q40_20, .inl (cs 20, 243, .inl (fun _ => xw_i 0)))]) H := hP
  have hD : va_D A ([(h0, .inr (4, [.ref q5_4, .ref q22_12, .ref q31_16, .ref q40_20, .null, .null, .null, .int (xw_i 0)]))] ++ xn_B120 cs q5_4 u12_8 ++ [(q22_12, .inl (cs 20, 243, .inl (fun _ => xw_i 0)))] ++ [(q31_16, .inl (cs 20, 243, .inl (fun _ => xw_i 0)))] ++ [(q40_20, .inl (cs 20, 243, .inl (fun _ => xw_i 0)))]) := hD
  refine lv_aload_n hx hb d_LM_init_45 rfl (lv_at hl 0 rfl) ?_
  refine lv_sipush (v := xw_i 244) hx hb d_LM_init_46 (by decide) ?_
  refine xn_newI (N := 244) hx hb (hts _ hw_643) hK hP hD hS hA (by decide) (Nat.le_of_ble_eq_true rfl) (Nat.le_of_ble_eq_true rfl) d_LM_init_49 (fun q49_24 H hP hD hS => ?_)
  refine W.widen (k := 8) (n := 1245) (Nat.le_of_ble_eq_true rfl) (Nat.le_of_ble_eq_true rfl) ?_
  have hP : va_P D vwCl ([(h0, .inr (4, [.ref q5_4, .ref q22_12, .ref q31_16, .ref q40_20, .null, .null, .null, .int (xw_i 0)]))] ++ xn_B120 cs q5_4 u12_8 ++ [(q22_12, .inl (cs 20, 243, .inl (fun _ => xw_i 0)))] ++ [(q31_16, .inl (cs 20, 243, .inl (fun _ => xw_i 0)))] ++ [(q40_20, .inl (cs 20, 243, .inl (fun _ => xw_i 0)))] ++ [(q49_24, .inl (cs 20, 244, .inl (fun _ => xw_i 0)))]) H := hP
  have hD : va_D A ([(h0, .inr (4, [.ref q5_4, .ref q22_12, .ref q31_16, .ref q40_20, .null, .null, .null, .int (xw_i 0)]))] ++ xn_B120 cs q5_4 u12_8 ++ [(q22_12, .inl (cs 20, 243, .inl (fun _ => xw_i 0)))] ++ [(q31_16, .inl (cs 20, 243, .inl (fun _ => xw_i 0)))] ++ [(q40_20, .inl (cs 20, 243, .inl (fun _ => xw_i 0)))] ++ [(q49_24, .inl (cs 20, 244, .inl (fun _ => xw_i 0)))]) := hD
  refine va_putF (D := D) (ci := 4) (v := .ref q49_24) (ty := .array (.int)) (C := "AdviceWeaver$Loom") (T := T_LM) (N := 8) hx hb hts hin_LM ty_LM ty_LM_ok nm_LM hown hK hP hD hS 0 rfl rfl 4 (by decide) (hts _ hw_226) (fun _ h9 => h9) rfl hin rfl (by decide +kernel) (by first | rfl | decide) (by first | rfl | decide) (Nat.le_of_ble_eq_true rfl) d_LM_init_51 (fun H locs hP hD hS => ?_)
  have hP : va_P D vwCl ([(h0, .inr (4, [.ref q5_4, .ref q22_12, .ref q31_16, .ref q40_20, .ref q49_24, .null, .null, .int (xw_i 0)]))] ++ xn_B120 cs q5_4 u12_8 ++ [(q22_12, .inl (cs 20, 243, .inl (fun _ => xw_i 0)))] ++ [(q31_16, .inl (cs 20, 243, .inl (fun _ => xw_i 0)))] ++ [(q40_20, .inl (cs 20, 243, .inl (fun _ => xw_i 0)))] ++ [(q49_24, .inl (cs 20, 244, .inl (fun _ => xw_i 0)))]) H := hP
  have hD : va_D A ([(h0, .inr (4, [.ref q5_4, .ref q22_12, .ref q31_16, .ref q40_20, .ref q49_24, .null, .null, .int (xw_i 0)]))] ++ xn_B120 cs q5_4 u12_8 ++ [(q22_12, .inl (cs 20, 243, .inl (fun _ => xw_i 0)))] ++ [(q31_16, .inl (cs 20, 243, .inl (fun _ => xw_i 0)))] ++ [(q40_20, .inl (cs 20, 243, .inl (fun _ => xw_i 0)))] ++ [(q49_24, .inl (cs 20, 244, .inl (fun _ => xw_i 0)))]) := hD
  refine lv_aload_n hx hb d_LM_init_54 rfl (lv_at hl 0 rfl) ?_
  refine lv_bipush (v := xw_i 121) hx hb d_LM_init_55 (by decide) ?_
  refine xn_newI (N := 121) hx hb (hts _ hw_643) hK hP hD hS hA (by decide) (Nat.le_of_ble_eq_true rfl) (Nat.le_of_ble_eq_true rfl) d_LM_init_57 (fun q57_28 H hP hD hS => ?_)
  refine W.widen (k := 9) (n := 1366) (Nat.le_of_ble_eq_true rfl) (Nat.le_of_ble_eq_true rfl) ?_
  have hP : va_P D vwCl ([(h0, .inr (4, [.ref q5_4, .ref q22_12, .ref q31_16, .ref q40_20, .ref q49_24, .null, .null, .int (xw_i 0)]))] ++ xn_B120 cs q5_4 u12_8 ++ [(q22_12, .inl (cs 20, 243, .inl (fun _ => xw_i 0)))] ++ [(q31_16, .inl (cs 20, 243, .inl (fun _ => xw_i 0)))] ++ [(q40_20, .inl (cs 20, 243, .inl (fun _ => xw_i 0)))] ++ [(q49_24, .inl (cs 20, 244, .inl (fun _ => xw_i 0)))] ++ [(q57_28, .inl (cs 20, 121, .inl (fun _ => xw_i 0)))]) H := hP
  have hD : va_D A ([(h0, .inr (4, [.ref q5_4, .ref q22_12, .ref q31_16, .ref q40_20, .ref q49_24, .null, .null, .int (xw_i 0)]))] ++ xn_B120 cs q5_4 u12_8 ++ [(q22_12, .inl (cs 20, 243, .inl (fun _ => xw_i 0)))] ++ [(q31_16, .inl (cs 20, 243, .inl (fun _ => xw_i 0)))] ++ [(q40_20, .inl (cs 20, 243, .inl (fun _ => xw_i 0)))] ++ [(q49_24, .inl (cs 20, 244, .inl (fun _ => xw_i 0)))] ++ [(q57_28, .inl (cs 20, 121, .inl (fun _ => xw_i 0)))]) := hD
  refine va_putF (D := D) (ci := 4) (v := .ref q57_28) (ty := .array (.int)) (C := "AdviceWeaver$Loom") (T := T_LM) (N := 8) hx hb hts hin_LM ty_LM ty_LM_ok nm_LM hown hK hP hD hS 0 rfl rfl 5 (by decide) (hts _ hw_221) (fun _ h9 => h9) rfl hin rfl (by decide +kernel) (by first | rfl | decide) (by first | rfl | decide) (Nat.le_of_ble_eq_true rfl) d_LM_init_59 (fun H locs hP hD hS => ?_)
  have hP : va_P D vwCl ([(h0, .inr (4, [.ref q5_4, .ref q22_12, .ref q31_16, .ref q40_20, .ref q49_24, .ref q57_28, .null, .int (xw_i 0)]))] ++ xn_B120 cs q5_4 u12_8 ++ [(q22_12, .inl (cs 20, 243, .inl (fun _ => xw_i 0)))] ++ [(q31_16, .inl (cs 20, 243, .inl (fun _ => xw_i 0)))] ++ [(q40_20, .inl (cs 20, 243, .inl (fun _ => xw_i 0)))] ++ [(q49_24, .inl (cs 20, 244, .inl (fun _ => xw_i 0)))] ++ [(q57_28, .inl (cs 20, 121, .inl (fun _ => xw_i 0)))]) H := hP
  have hD : va_D A ([(h0, .inr (4, [.ref q5_4, .ref q22_12, .ref q31_16, .ref q40_20, .ref q49_24, .ref q57_28, .null, .int (xw_i 0)]))] ++ xn_B120 cs q5_4 u12_8 ++ [(q22_12, .inl (cs 20, 243, .inl (fun _ => xw_i 0)))] ++ [(q31_16, .inl (cs 20, 243, .inl (fun _ => xw_i 0)))] ++ [(q40_20, .inl (cs 20, 243, .inl (fun _ => xw_i 0)))] ++ [(q49_24, .inl (cs 20, 244, .inl (fun _ => xw_i 0)))] ++ [(q57_28, .inl (cs 20, 121, .inl (fun _ => xw_i 0)))]) := hD
  refine lv_aload_n hx hb d_LM_init_62 rfl (lv_at hl 0 rfl) ?_
  refine lv_bipush (v := xw_i 121) hx hb d_LM_init_63 (by decide) ?_
  refine xn_newI (N := 121) hx hb (hts _ hw_643) hK hP hD hS hA (by decide) (Nat.le_of_ble_eq_true rfl) (Nat.le_of_ble_eq_true rfl) d_LM_init_65 (fun q65_32 H hP hD hS => ?_)
  refine W.widen (k := 10) (n := 1487) (Nat.le_of_ble_eq_true rfl) (Nat.le_of_ble_eq_true rfl) ?_
  have hP : va_P D vwCl ([(h0, .inr (4, [.ref q5_4, .ref q22_12, .ref q31_16, .ref q40_20, .ref q49_24, .ref q57_28, .null, .int (xw_i 0)]))] ++ xn_B120 cs q5_4 u12_8 ++ [(q22_12, .inl (cs 20, 243, .inl (fun _ => xw_i 0)))] ++ [(q31_16, .inl (cs 20, 243, .inl (fun _ => xw_i 0)))] ++ [(q40_20, .inl (cs 20, 243, .inl (fun _ => xw_i 0)))] ++ [(q49_24, .inl (cs 20, 244, .inl (fun _ => xw_i 0)))] ++ [(q57_28, .inl (cs 20, 121, .inl (fun _ => xw_i 0)))] ++ [(q65_32, .inl (cs 20, 121, .inl (fun _ => xw_i 0)))]) H := hP
  have hD : va_D A ([(h0, .inr (4, [.ref q5_4, .ref q22_12, .ref q31_16, .ref q40_20, .ref q49_24, .ref q57_28, .null, .int (xw_i 0)]))] ++ xn_B120 cs q5_4 u12_8 ++ [(q22_12, .inl (cs 20, 243, .inl (fun _ => xw_i 0)))] ++ [(q31_16, .inl (cs 20, 243, .inl (fun _ => xw_i 0)))] ++ [(q40_20, .inl (cs 20, 243, .inl (fun _ => xw_i 0)))] ++ [(q49_24, .inl (cs 20, 244, .inl (fun _ => xw_i 0)))] ++ [(q57_28, .inl (cs 20, 121, .inl (fun _ => xw_i 0)))] ++ [(q65_32, .inl (cs 20, 121, .inl (fun _ => xw_i 0)))]) := hD
  refine va_putF (D := D) (ci := 4) (v := .ref q65_32) (ty := .array (.int)) (C := "AdviceWeaver$Loom") (T := T_LM) (N := 8) hx hb hts hin_LM ty_LM ty_LM_ok nm_LM hown hK hP hD hS 0 rfl rfl 6 (by decide) (hts _ hw_189) (fun _ h9 => h9) rfl hin rfl (by decide +kernel) (by first | rfl | decide) (by first | rfl | decide) (Nat.le_of_ble_eq_true rfl) d_LM_init_67 (fun H locs hP hD hS => ?_)
  have hP : va_P D vwCl ([(h0, .inr (4, [.ref q5_4, .ref q22_12, .ref q31_16, .ref q40_20, .ref q49_24, .ref q57_28, .ref q65_32, .int (xw_i 0)]))] ++ xn_B120 cs q5_4 u12_8 ++ [(q22_12, .inl (cs 20, 243, .inl (fun _ => xw_i 0)))] ++ [(q31_16, .inl (cs 20, 243, .inl (fun _ => xw_i 0)))] ++ [(q40_20, .inl (cs 20, 243, .inl (fun _ => xw_i 0)))] ++ [(q49_24, .inl (cs 20, 244, .inl (fun _ => xw_i 0)))] ++ [(q57_28, .inl (cs 20, 121, .inl (fun _ => xw_i 0)))] ++ [(q65_32, .inl (cs 20, 121, .inl (fun _ => xw_i 0)))]) H := hP
  have hD : va_D A ([(h0, .inr (4, [.ref q5_4, .ref q22_12, .ref q31_16, .ref q40_20, .ref q49_24, .ref q57_28, .ref q65_32, .int (xw_i 0)]))] ++ xn_B120 cs q5_4 u12_8 ++ [(q22_12, .inl (cs 20, 243, .inl (fun _ => xw_i 0)))] ++ [(q31_16, .inl (cs 20, 243, .inl (fun _ => xw_i 0)))] ++ [(q40_20, .inl (cs 20, 243, .inl (fun _ => xw_i 0)))] ++ [(q49_24, .inl (cs 20, 244, .inl (fun _ => xw_i 0)))] ++ [(q57_28, .inl (cs 20, 121, .inl (fun _ => xw_i 0)))] ++ [(q65_32, .inl (cs 20, 121, .inl (fun _ => xw_i 0)))]) := hD
  exact W.vret hx hb hr (fun t ht hW => ⟨⟨fun k => ([q5_4, (u12_8 0), (u12_8 1), (u12_8 2), q22_12, q31_16, q40_20, q49_24, q57_28, q65_32] : List Nat).getD k 0, rfl, trivial, by rw [ht]; exact hP, va_K.moved hW.alike hK, hD⟩, hS.F ht⟩) hS.2.2 d_LM_init_70

abbrev xn_MC (cs : Nat → ClassId) (h0 : Nat) (u : Nat → Nat) : va_W := [(h0, .inr (5, [.ref (u 0), .ref (u 1), .ref (u 2), .int (xw_i 0), .int (xw_i 0), .int (xw_i 0), .int (xw_i 0), .int (xw_i 0), .int (xw_i 0)])), ((u 0), .inl (cs 25, 8, .inr (.inr (.inr (.inr (va_up (va_up (va_up (va_up (va_up (va_up (va_up (va_up (fun _ => none) 0 (some (u 3))) 1 (some (u 6))) 2 (some (u 9))) 3 (some (u 12))) 4 (some (u 15))) 5 (some (u 18))) 6 (some (u 21))) 7 (some (u 24)))))))), ((u 1), .inl (cs 20, 100, .inl (fun _ => xw_i 0))), ((u 2), .inl (cs 20, 160, .inl (fun _ => xw_i 0)))] ++ xn_FR cs (u 3) (fun k => u (k + 4)) ++ xn_FR cs (u 6) (fun k => u (k + 7)) ++ xn_FR cs (u 9) (fun k => u (k + 10)) ++ xn_FR cs (u 12) (fun k => u (k + 13)) ++ xn_FR cs (u 15) (fun k => u (k + 16)) ++ xn_FR cs (u 18) (fun k => u (k + 19)) ++ xn_FR cs (u 21) (fun k => u (k + 22)) ++ xn_FR cs (u 24) (fun k => u (k + 25))
set_option maxRecDepth 100000 in
set_option maxHeartbeats 4000000 in
theorem c_MC_init (l : Launch) (D : va_G) (cs : Nat → ClassId) (h0 sz : Nat) : Met l y_MC_init w_MC_init ({ frames := 2, cells := 27, slots := 420, locals := 40 }) (va_Pc [.ref h0] (fun U => U.heap.size = sz ∧ va_P D vwCl [(h0, .inr (5, [.null, .null, .null, .int (xw_i 0), .int (xw_i 0), .int (xw_i 0), .int (xw_i 0), .int (xw_i 0), .int (xw_i 0)]))] U.heap ∧ va_K D vwCl (xw_ty cs) U ∧ va_D (fun _ => True) [(h0, .inr (5, [.null, .null, .null, .int (xw_i 0), .int (xw_i 0), .int (xw_i 0), .int (xw_i 0), .int (xw_i 0), .int (xw_i 0)]))] ∧ xn_X U)) (va_Qv (fun _ : Nat → Nat => True) (fun u t => va_P D vwCl (xn_MC cs h0 u) t.heap ∧ va_K D vwCl (xw_ty cs) t ∧ va_D (va_A [(h0, .inr (5, [.null, .null, .null, .int (xw_i 0), .int (xw_i 0), .int (xw_i 0), .int (xw_i 0), .int (xw_i 0), .int (xw_i 0)]))] sz) (xn_MC cs h0 u)) (va_A [(h0, .inr (5, [.null, .null, .null, .int (xw_i 0), .int (xw_i 0), .int (xw_i 0), .int (xw_i 0), .int (xw_i 0), .int (xw_i 0)]))] sz)) 27 420 (va_A [(h0, .inr (5, [.null, .null, .null, .int (xw_i 0), .int (xw_i 0), .int (xw_i 0), .int (xw_i 0), .int (xw_i 0), .int (xw_i 0)]))] sz) := by
  refine Met.ofW (cc := b_MC_init) (maxL := 2) (ret := none) (by decide) rfl ?_
  intro p e s m args below meth c s₁ B hml hv
  obtain ⟨rfl, hsz, hP, hK, hD0, hX⟩ := hv
  have hx := B.exec
  have hb := B.bytes
  have hr := B.returns
  have hts0 := atoms_spec (ws := w_MC_init) B.pre
  have hts := fun w (hw : w ∈ wAll) => hts0 w (List.mem_cons_of_mem _ hw)
  have hown : s.vm.findClass "AdviceWeaver$Machine" = some m.cls := findClass_of_methodNamed B.named
  have hlocks := B.notSynchronized
  have hin : meth.name = "<init>" := (name_of_methodNamed B.named B.method).1
  subst hsz
  have hD := hD0.self (sz := s.heap.size)
  generalize hAe : va_A [(h0, .inr (5, [.null, .null, .null, .int (xw_i 0), .int (xw_i 0), .int (xw_i 0), .int (xw_i 0), .int (xw_i 0), .int (xw_i 0)]))] s.heap.size = A at hD ⊢
  have hA : ∀ q : Nat, s.heap.size ≤ q → A q := fun q h => by rw [← hAe]; exact Or.inr h
  have hS : va_S A s.heap s.heap [] := va_S.rf
  have hl := lv_entry [.ref h0] (n := 2) (Nat.le_of_ble_eq_true rfl)
  rw [lg_entry_eq]
  generalize (lg_sl [.ref h0] ++ List.replicate (2 - (lg_sl [.ref h0]).length) Slot.unset).toArray = ls at hl ⊢
  have hl : lv_has ls 2 [(0, .ref h0)] := hl
  refine lv_aload_n hx hb d_MC_init_0 rfl (lv_at hl 0 rfl) ?_
  refine W.objInit hx hb hown (hts _ hw_634) (hts _ hw_641) (hts _ hw_642) rfl (by rw [hml]; exact hl.1) rfl d_MC_init_1 (Nat.le_of_ble_eq_true rfl) (Nat.le_of_ble_eq_true rfl) ?_
  refine W.eq (g2 := F0 m 4 ls []) rfl ?_
  refine lv_aload_n hx hb d_MC_init_4 rfl (lv_at hl 0 rfl) ?_
  refine lv_bipush (v := xw_i 8) hx hb d_MC_init_5 (by decide) ?_
  refine xn_newR25 (N := 8) hx hb hown (hts _ hw_663) hX.2.2.2.2.2.2.2 hK hP hD hS hA (by decide) (Nat.le_of_ble_eq_true rfl) (Nat.le_of_ble_eq_true rfl) d_MC_init_7 (fun q7_5 H hP hD hS => ?_)
  refine W.widen (k := 1) (n := 8) (Nat.le_of_ble_eq_true rfl) (Nat.le_of_ble_eq_true rfl) ?_
  have hP : va_P D vwCl ([(h0, .inr (5, [.null, .null, .null, .int (xw_i 0), .int (xw_i 0), .int (xw_i 0), .int (xw_i 0), .int (xw_i 0), .int (xw_i 0)])), (q7_5, .inl (cs 25, 8, .inr (.inr (.inr (.inr (fun _ => none))))))]) H := hP
  have hD : va_D A ([(h0, .inr (5, [.null, .null, .null, .int (xw_i 0), .int (xw_i 0), .int (xw_i 0), .int (xw_i 0), .int (xw_i 0), .int (xw_i 0)])), (q7_5, .inl (cs 25, 8, .inr (.inr (.inr (.inr (fun _ => none))))))]) := hD
  refine va_putF (D := D) (ci := 5) (v := .ref q7_5) (ty := .array (.object "AdviceWeaver$Frame")) (C := "AdviceWeaver$Machine") (T := T_MC) (N := 9) hx hb hts hin_MC ty_MC ty_MC_ok nm_MC hown hK hP hD hS 0 rfl rfl 0 (by decide) (hts _ hw_312) (fun _ h9 => h9) rfl hin rfl (by decide +kernel) (by first | rfl | decide) (by first | rfl | decide) (Nat.le_of_ble_eq_true rfl) d_MC_init_10 (fun H locs hP hD hS => ?_)
  have hP : va_P D vwCl ([(h0, .inr (5, [.ref q7_5, .null, .null, .int (xw_i 0), .int (xw_i 0), .int (xw_i 0), .int (xw_i 0), .int (xw_i 0), .int (xw_i 0)])), (q7_5, .inl (cs 25, 8, .inr (.inr (.inr (.inr (fun _ => none))))))]) H := hP
  have hD : va_D A ([(h0, .inr (5, [.ref q7_5, .null, .null, .int (xw_i 0), .int (xw_i 0), .int (xw_i 0), .int (xw_i 0), .int (xw_i 0), .int (xw_i 0)])), (q7_5, .inl (cs 25, 8, .inr (.inr (.inr (.inr (fun _ => none))))))]) := hD
  refine lv_aload_n hx hb d_MC_init_13 rfl (lv_at hl 0 rfl) ?_
  refine lv_bipush (v := xw_i 100) hx hb d_MC_init_14 (by decide) ?_
  refine xn_newI (N := 100) hx hb (hts _ hw_643) hK hP hD hS hA (by decide) (Nat.le_of_ble_eq_true rfl) (Nat.le_of_ble_eq_true rfl) d_MC_init_16 (fun q16_9 H hP hD hS => ?_)
  refine W.widen (k := 2) (n := 108) (Nat.le_of_ble_eq_true rfl) (Nat.le_of_ble_eq_true rfl) ?_
  have hP : va_P D vwCl ([(h0, .inr (5, [.ref q7_5, .null, .null, .int (xw_i 0), .int (xw_i 0), .int (xw_i 0), .int (xw_i 0), .int (xw_i 0), .int (xw_i 0)])), (q7_5, .inl (cs 25, 8, .inr (.inr (.inr (.inr (fun _ => none)))))), (q16_9, .inl (cs 20, 100, .inl (fun _ => xw_i 0)))]) H := hP
  have hD : va_D A ([(h0, .inr (5, [.ref q7_5, .null, .null, .int (xw_i 0), .int (xw_i 0), .int (xw_i 0), .int (xw_i 0), .int (xw_i 0), .int (xw_i 0)])), (q7_5, .inl (cs 25, 8, .inr (.inr (.inr (.inr (fun _ => none)))))), (q16_9, .inl (cs 20, 100, .inl (fun _ => xw_i 0)))]) := hD
  refine va_putF (D := D) (ci := 5) (v := .ref q16_9) (ty := .array (.int)) (C := "AdviceWeaver$Machine") (T := T_MC) (N := 9) hx hb hts hin_MC ty_MC ty_MC_ok nm_MC hown hK hP hD hS 0 rfl rfl 1 (by decide) (hts _ hw_344) (fun _ h9 => h9) rfl hin rfl (by decide +kernel) (by first | rfl | decide) (by first | rfl | decide) (Nat.le_of_ble_eq_true rfl) d_MC_init_18 (fun H locs hP hD hS => ?_)
  have hP : va_P D vwCl ([(h0, .inr (5, [.ref q7_5, .ref q16_9, .null, .int (xw_i 0), .int (xw_i 0), .int (xw_i 0), .int (xw_i 0), .int (xw_i 0), .int (xw_i 0)])), (q7_5, .inl (cs 25, 8, .inr (.inr (.inr (.inr (fun _ => none)))))), (q16_9, .inl (cs 20, 100, .inl (fun _ => xw_i 0)))]) H := hP
  have hD : va_D A ([(h0, .inr (5, [.ref q7_5, .ref q16_9, .null, .int (xw_i 0), .int (xw_i 0), .int (xw_i 0), .int (xw_i 0), .int (xw_i 0), .int (xw_i 0)])), (q7_5, .inl (cs 25, 8, .inr (.inr (.inr (.inr (fun _ => none)))))), (q16_9, .inl (cs 20, 100, .inl (fun _ => xw_i 0)))]) := hD
  refine lv_aload_n hx hb d_MC_init_21 rfl (lv_at hl 0 rfl) ?_
  refine lv_sipush (v := xw_i 160) hx hb d_MC_init_22 (by decide) ?_
  refine xn_newI (N := 160) hx hb (hts _ hw_643) hK hP hD hS hA (by decide) (Nat.le_of_ble_eq_true rfl) (Nat.le_of_ble_eq_true rfl) d_MC_init_25 (fun q25_13 H hP hD hS => ?_)
  refine W.widen (k := 3) (n := 268) (Nat.le_of_ble_eq_true rfl) (Nat.le_of_ble_eq_true rfl) ?_
  have hP : va_P D vwCl ([(h0, .inr (5, [.ref q7_5, .ref q16_9, .null, .int (xw_i 0), .int (xw_i 0), .int (xw_i 0), .int (xw_i 0), .int (xw_i 0), .int (xw_i 0)])), (q7_5, .inl (cs 25, 8, .inr (.inr (.inr (.inr (fun _ => none)))))), (q16_9, .inl (cs 20, 100, .inl (fun _ => xw_i 0))), (q25_13, .inl (cs 20, 160, .inl (fun _ => xw_i 0)))]) H := hP
  have hD : va_D A ([(h0, .inr (5, [.ref q7_5, .ref q16_9, .null, .int (xw_i 0), .int (xw_i 0), .int (xw_i 0), .int (xw_i 0), .int (xw_i 0), .int (xw_i 0)])), (q7_5, .inl (cs 25, 8, .inr (.inr (.inr (.inr (fun _ => none)))))), (q16_9, .inl (cs 20, 100, .inl (fun _ => xw_i 0))), (q25_13, .inl (cs 20, 160, .inl (fun _ => xw_i 0)))]) := hD
  refine va_putF (D := D) (ci := 5) (v := .ref q25_13) (ty := .array (.int)) (C := "AdviceWeaver$Machine") (T := T_MC) (N := 9) hx hb hts hin_MC ty_MC ty_MC_ok nm_MC hown hK hP hD hS 0 rfl rfl 2 (by decide) (hts _ hw_345) (fun _ h9 => h9) rfl hin rfl (by decide +kernel) (by first | rfl | decide) (by first | rfl | decide) (Nat.le_of_ble_eq_true rfl) d_MC_init_27 (fun H locs hP hD hS => ?_)
  have hP : va_P D vwCl ([(h0, .inr (5, [.ref q7_5, .ref q16_9, .ref q25_13, .int (xw_i 0), .int (xw_i 0), .int (xw_i 0), .int (xw_i 0), .int (xw_i 0), .int (xw_i 0)])), (q7_5, .inl (cs 25, 8, .inr (.inr (.inr (.inr (fun _ => none)))))), (q16_9, .inl (cs 20, 100, .inl (fun _ => xw_i 0))), (q25_13, .inl (cs 20, 160, .inl (fun _ => xw_i 0)))]) H := hP
  have hD : va_D A ([(h0, .inr (5, [.ref q7_5, .ref q16_9, .ref q25_13, .int (xw_i 0), .int (xw_i 0), .int (xw_i 0), .int (xw_i 0), .int (xw_i 0), .int (xw_i 0)])), (q7_5, .inl (cs 25, 8, .inr (.inr (.inr (.inr (fun _ => none)))))), (q16_9, .inl (cs 20, 100, .inl (fun _ => xw_i 0))), (q25_13, .inl (cs 20, 160, .inl (fun _ => xw_i 0)))]) := hD
  refine lv_iconst (v := xw_i 0) hx hb d_MC_init_30 rfl ?_
  refine lv_istore_n hx hb d_MC_init_31 rfl hl (by decide) rfl (fun ls hl => ?_)
  refine lv_iload_n hx hb d_MC_init_32 rfl (lv_at hl 0 rfl) ?_
  refine lv_bipush (v := xw_i 8) hx hb d_MC_init_33 (by decide) ?_
  refine lv_icmp_ge (tgt := 57) hx hb d_MC_init_35 (by decide) (fun h9 => absurd h9 (show ¬ xw_i 8 ≤ xw_i 0 by decide)) (fun _ => ?_)
  refine lv_aload_n hx hb d_MC_init_38 rfl (lv_at hl 1 rfl) ?_
  refine va_get (D := D) (ci := 5) (v := .ref q7_5) (C := "AdviceWeaver$Machine") (T := T_MC) (N := 9) hx hb hts hin_MC hown hK hP 0 rfl rfl 0 (by decide) (hts _ hw_312) (fun _ h9 => h9) rfl d_MC_init_39 ?_
  refine lv_iload_n hx hb d_MC_init_42 rfl (lv_at hl 0 rfl) ?_
  refine va_new (ci := 3) (fs := [.null, .null, .int (xw_i 0), .int (xw_i 0), .int (xw_i 0)]) (C := "AdviceWeaver$Frame") (T := T_FR) (N := 5) hx hb hts hin_FR ty_FR ty_FR_ok hown (hts _ hw_663) (hts _ hw_653) (hts _ hw_310) hK hP hD hS hA rfl (xn_df_FR) (Nat.le_of_ble_eq_true rfl) (Nat.le_of_ble_eq_true rfl) d_MC_init_43 (fun q43_23 H hP hD hS => ?_)
  refine W.widen (k := 4) (n := 273) (Nat.le_of_ble_eq_true rfl) (Nat.le_of_ble_eq_true rfl) ?_
  have hP : va_P D vwCl ([(h0, .inr (5, [.ref q7_5, .ref q16_9, .ref q25_13, .int (xw_i 0), .int (xw_i 0), .int (xw_i 0), .int (xw_i 0), .int (xw_i 0), .int (xw_i 0)])), (q7_5, .inl (cs 25, 8, .inr (.inr (.inr (.inr (fun _ => none)))))), (q16_9, .inl (cs 20, 100, .inl (fun _ => xw_i 0))), (q25_13, .inl (cs 20, 160, .inl (fun _ => xw_i 0)))] ++ [(q43_23, .inr (3, [.null, .null, .int (xw_i 0), .int (xw_i 0), .int (xw_i 0)]))]) H := hP
  have hD : va_D A ([(h0, .inr (5, [.ref q7_5, .ref q16_9, .ref q25_13, .int (xw_i 0), .int (xw_i 0), .int (xw_i 0), .int (xw_i 0), .int (xw_i 0), .int (xw_i 0)])), (q7_5, .inl (cs 25, 8, .inr (.inr (.inr (.inr (fun _ => none)))))), (q16_9, .inl (cs 20, 100, .inl (fun _ => xw_i 0))), (q25_13, .inl (cs 20, 160, .inl (fun _ => xw_i 0)))] ++ [(q43_23, .inr (3, [.null, .null, .int (xw_i 0), .int (xw_i 0), .int (xw_i 0)]))]) := hD
  refine lv_dup hx hb d_MC_init_46 rfl ?_
  have hPc := hP.sub (ws' := [(q43_23, .inr (3, [.null, .null, .int (xw_i 0), .int (xw_i 0), .int (xw_i 0)]))]) [4] rfl
  have hDc := hD.sub (ws' := [(q43_23, .inr (3, [.null, .null, .int (xw_i 0), .int (xw_i 0), .int (xw_i 0)]))]) [4] (by decide) rfl
  have hFc := va_free (wc := [(q43_23, .inr (3, [.null, .null, .int (xw_i 0), .int (xw_i 0), .int (xw_i 0)]))]) hD hS hA [4] rfl
  refine va_callv (va_runIN (As := []) (rest := [.ref q43_23, .int (xw_i 0), .ref q7_5]) ⟨hx, hb, hml, hown, hts⟩ (c_FR_init l D cs q43_23 H.size) ⟨va_cnB 0 hts (gd_I hw_636) rfl rfl rfl hX.2.2.2.2.1 (hts _ hw_310) (by decide +kernel) ⟨(Nat.le_of_ble_eq_true rfl), (Nat.le_of_ble_eq_true rfl)⟩, rfl, hts _ hw_635⟩ ⟨fun a U g mk q => by obtain ⟨q0, q1, qP, qK, qD⟩ := q; exact ⟨q0, q1, qP, va_K.moved (u := U) (U := U.calling g mk a) (Vm.Alike.refl U.vm) qK, qD⟩, fun U hU hW => ⟨rfl, by rw [hU], by rw [hU]; exact hPc, va_K.moved hW.alike hK, hDc.weaken (fun _ _ _ _ => trivial)⟩⟩ rfl rfl hl.1 rfl (lv_room (Nat.le_of_ble_eq_true rfl)) d_MC_init_47 ⟨(Nat.le_of_ble_eq_true rfl), (Nat.le_of_ble_eq_true rfl)⟩) hS (fun q _ h => hFc q h) hFc (fun u47_25 t H1 locs ht hvm h9 hB hz1 hk1 hS => ?_)
  obtain ⟨hP1, hK1, hD1⟩ := hB
  rw [ht] at hP1
  obtain ⟨hP, hD⟩ := va_join (wr := [(h0, .inr (5, [.ref q7_5, .ref q16_9, .ref q25_13, .int (xw_i 0), .int (xw_i 0), .int (xw_i 0), .int (xw_i 0), .int (xw_i 0), .int (xw_i 0)])), (q7_5, .inl (cs 25, 8, .inr (.inr (.inr (.inr (fun _ => none)))))), (q16_9, .inl (cs 20, 100, .inl (fun _ => xw_i 0))), (q25_13, .inl (cs 20, 160, .inl (fun _ => xw_i 0)))]) (w1 := xn_FR cs q43_23 u47_25) hP hD [4] [0, 1, 2, 3] rfl rfl (by decide) (by decide) hk1 hFc hP1 hD1
  generalize H1 = H at hP hS ⊢
  refine W.widen (k := 6) (n := 287) (Nat.le_of_ble_eq_true rfl) (Nat.le_of_ble_eq_true rfl) ?_
  have hP : va_P D vwCl ([(h0, .inr (5, [.ref q7_5, .ref q16_9, .ref q25_13, .int (xw_i 0), .int (xw_i 0), .int (xw_i 0), .int (xw_i 0), .int (xw_i 0), .int (xw_i 0)])), (q7_5, .inl (cs 25, 8, .inr (.inr (.inr (.inr (fun _ => none)))))), (q16_9, .inl (cs 20, 100, .inl (fun _ => xw_i 0))), (q25_13, .inl (cs 20, 160, .inl (fun _ => xw_i 0)))] ++ xn_FR cs q43_23 u47_25) H := hP
  have hD : va_D A ([(h0, .inr (5, [.ref q7_5, .ref q16_9, .ref q25_13, .int (xw_i 0), .int (xw_i 0), .int (xw_i 0), .int (xw_i 0), .int (xw_i 0), .int (xw_i 0)])), (q7_5, .inl (cs 25, 8, .inr (.inr (.inr (.inr (fun _ => none)))))), (q16_9, .inl (cs 20, 100, .inl (fun _ => xw_i 0))), (q25_13, .inl (cs 20, 160, .inl (fun _ => xw_i 0)))] ++ xn_FR cs q43_23 u47_25) := hD
  refine xn_aast (x := 0) hx hb hK hP hD hS 1 5 4 3 rfl rfl rfl rfl (by decide) (by decide) d_MC_init_50 (fun H locs hP hD hS => ?_)
  have hP : va_P D vwCl ([(h0, .inr (5, [.ref q7_5, .ref q16_9, .ref q25_13, .int (xw_i 0), .int (xw_i 0), .int (xw_i 0), .int (xw_i 0), .int (xw_i 0), .int (xw_i 0)])), (q7_5, .inl (cs 25, 8, .inr (.inr (.inr (.inr (va_up (fun _ => none) 0 (some q43_23))))))), (q16_9, .inl (cs 20, 100, .inl (fun _ => xw_i 0))), (q25_13, .inl (cs 20, 160, .inl (fun _ => xw_i 0)))] ++ xn_FR cs q43_23 u47_25) H := hP
  have hD : va_D A ([(h0, .inr (5, [.ref q7_5, .ref q16_9, .ref q25_13, .int (xw_i 0), .int (xw_i 0), .int (xw_i 0), .int (xw_i 0), .int (xw_i 0), .int (xw_i 0)])), (q7_5, .inl (cs 25, 8, .inr (.inr (.inr (.inr (va_up (fun _ => none) 0 (some q43_23))))))), (q16_9, .inl (cs 20, 100, .inl (fun _ => xw_i 0))), (q25_13, .inl (cs 20, 160, .inl (fun _ => xw_i 0)))] ++ xn_FR cs q43_23 u47_25) := hD
  refine xw_iinc' (lv' := [(1, .int (xw_i 1)), (0, .ref h0)]) hx hb d_MC_init_51 hl (k := 0) rfl (by decide) rfl (fun ls hl => ?_)
  refine lv_goto (tgt := 32) hx hb d_MC_init_54 (by decide) ?_
  refine lv_iload_n hx hb d_MC_init_32 rfl (lv_at hl 0 rfl) ?_
  refine lv_bipush (v := xw_i 8) hx hb d_MC_init_33 (by decide) ?_
  refine lv_icmp_ge (tgt := 57) hx hb d_MC_init_35 (by decide) (fun h9 => absurd h9 (show ¬ xw_i 8 ≤ xw_i 1 by decide)) (fun _ => ?_)
  refine lv_aload_n hx hb d_MC_init_38 rfl (lv_at hl 1 rfl) ?_
  refine va_get (D := D) (ci := 5) (v := .ref q7_5) (C := "AdviceWeaver$Machine") (T := T_MC) (N := 9) hx hb hts hin_MC hown hK hP 0 rfl rfl 0 (by decide) (hts _ hw_312) (fun _ h9 => h9) rfl d_MC_init_39 ?_
  refine lv_iload_n hx hb d_MC_init_42 rfl (lv_at hl 0 rfl) ?_
  refine va_new (ci := 3) (fs := [.null, .null, .int (xw_i 0), .int (xw_i 0), .int (xw_i 0)]) (C := "AdviceWeaver$Frame") (T := T_FR) (N := 5) hx hb hts hin_FR ty_FR ty_FR_ok hown (hts _ hw_663) (hts _ hw_653) (hts _ hw_310) hK hP hD hS hA rfl (xn_df_FR) (Nat.le_of_ble_eq_true rfl) (Nat.le_of_ble_eq_true rfl) d_MC_init_43 (fun q43_35 H hP hD hS => ?_)
  refine W.widen (k := 7) (n := 292) (Nat.le_of_ble_eq_true rfl) (Nat.le_of_ble_eq_true rfl) ?_
  have hP : va_P D vwCl ([(h0, .inr (5, [.ref q7_5, .ref q16_9, .ref q25_13, .int (xw_i 0), .int (xw_i 0), .int (xw_i 0), .int (xw_i 0), .int (xw_i 0), .int (xw_i 0)])), (q7_5, .inl (cs 25, 8, .inr (.inr (.inr (.inr (va_up (fun _ => none) 0 (some q43_23))))))), (q16_9, .inl (cs 20, 100, .inl (fun _ => xw_i 0))), (q25_13, .inl (cs 20, 160, .inl (fun _ => xw_i 0)))] ++ xn_FR cs q43_23 u47_25 ++ [(q43_35, .inr (3, [.null, .null, .int (xw_i 0), .int (xw_i 0), .int (xw_i 0)]))]) H := hP
  have hD : va_D A ([(h0, .inr (5, [.ref q7_5, .ref q16_9, .ref q25_13, .int (xw_i 0), .int (xw_i 0), .int (xw_i 0), .int (xw_i 0), .int (xw_i 0), .int (xw_i 0)])), (q7_5, .inl (cs 25, 8, .inr (.inr (.inr (.inr (va_up (fun _ => none) 0 (some q43_23))))))), (q16_9, .inl (cs 20, 100, .inl (fun _ => xw_i 0))), (q25_13, .inl (cs 20, 160, .inl (fun _ => xw_i 0)))] ++ xn_FR cs q43_23 u47_25 ++ [(q43_35, .inr (3, [.null, .null, .int (xw_i 0), .int (xw_i 0), .int (xw_i 0)]))]) := hD
  refine lv_dup hx hb d_MC_init_46 rfl ?_
  have hPc := hP.sub (ws' := [(q43_35, .inr (3, [.null, .null, .int (xw_i 0), .int (xw_i 0), .int (xw_i 0)]))]) [7] rfl
  have hDc := hD.sub (ws' := [(q43_35, .inr (3, [.null, .null, .int (xw_i 0), .int (xw_i 0), .int (xw_i 0)]))]) [7] (by decide) rfl
  have hFc := va_free (wc := [(q43_35, .inr (3, [.null, .null, .int (xw_i 0), .int (xw_i 0), .int (xw_i 0)]))]) hD hS hA [7] rfl
  refine va_callv (va_runIN (As := []) (rest := [.ref q43_35, .int (xw_i 1), .ref q7_5]) ⟨hx, hb, hml, hown, hts⟩ (c_FR_init l D cs q43_35 H.size) ⟨va_cnB 0 hts (gd_I hw_636) rfl rfl rfl hX.2.2.2.2.1 (hts _ hw_310) (by decide +kernel) ⟨(Nat.le_of_ble_eq_true rfl), (Nat.le_of_ble_eq_true rfl)⟩, rfl, hts _ hw_635⟩ ⟨fun a U g mk q => by obtain ⟨q0, q1, qP, qK, qD⟩ := q; exact ⟨q0, q1, qP, va_K.moved (u := U) (U := U.calling g mk a) (Vm.Alike.refl U.vm) qK, qD⟩, fun U hU hW => ⟨rfl, by rw [hU], by rw [hU]; exact hPc, va_K.moved hW.alike hK, hDc.weaken (fun _ _ _ _ => trivial)⟩⟩ rfl rfl hl.1 rfl (lv_room (Nat.le_of_ble_eq_true rfl)) d_MC_init_47 ⟨(Nat.le_of_ble_eq_true rfl), (Nat.le_of_ble_eq_true rfl)⟩) hS (fun q _ h => hFc q h) hFc (fun u47_37 t H1 locs ht hvm h9 hB hz1 hk1 hS => ?_)
  obtain ⟨hP1, hK1, hD1⟩ := hB
  rw [ht] at hP1
  obtain ⟨hP, hD⟩ := va_join (wr := [(h0, .inr (5, [.ref q7_5, .ref q16_9, .ref q25_13, .int (xw_i 0), .int (xw_i 0), .int (xw_i 0), .int (xw_i 0), .int (xw_i 0), .int (xw_i 0)])), (q7_5, .inl (cs 25, 8, .inr (.inr (.inr (.inr (va_up (fun _ => none) 0 (some q43_23))))))), (q16_9, .inl (cs 20, 100, .inl (fun _ => xw_i 0))), (q25_13, .inl (cs 20, 160, .inl (fun _ => xw_i 0)))] ++ xn_FR cs q43_23 u47_25) (w1 := xn_FR cs q43_35 u47_37) hP hD [7] [0, 1, 2, 3, 4, 5, 6] rfl rfl (by decide) (by decide) hk1 hFc hP1 hD1
  generalize H1 = H at hP hS ⊢
  refine W.widen (k := 9) (n := 306) (Nat.le_of_ble_eq_true rfl) (Nat.le_of_ble_eq_true rfl) ?_
  have hP : va_P D vwCl ([(h0, .inr (5, [.ref q7_5, .ref q16_9, .ref q25_13, .int (xw_i 0), .int (xw_i 0), .int (xw_i 0), .int (xw_i 0), .int (xw_i 0), .int (xw_i 0)])), (q7_5, .inl (cs 25, 8, .inr (.inr (.inr (.inr (va_up (fun _ => none) 0 (some q43_23))))))), (q16_9, .inl (cs 20, 100, .inl (fun _ => xw_i 0))), (q25_13, .inl (cs 20, 160, .inl (fun _ => xw_i 0)))] ++ xn_FR cs q43_23 u47_25 ++ xn_FR cs q43_35 u47_37) H := hP
  have hD : va_D A ([(h0, .inr (5, [.ref q7_5, .ref q16_9, .ref q25_13, .int (xw_i 0), .int (xw_i 0), .int (xw_i 0), .int (xw_i 0), .int (xw_i 0), .int (xw_i 0)])), (q7_5, .inl (cs 25, 8, .inr (.inr (.inr (.inr (va_up (fun _ => none) 0 (some q43_23))))))), (q16_9, .inl (cs 20, 100, .inl (fun _ => xw_i 0))), (q25_13, .inl (cs 20, 160, .inl (fun _ => xw_i 0)))] ++ xn_FR cs q43_23 u47_25 ++ xn_FR cs q43_35 u47_37) := hD
  refine xn_aast (x := 1) hx hb hK hP hD hS 1 5 7 3 rfl rfl rfl rfl (by decide) (by decide) d_MC_init_50 (fun H locs hP hD hS => ?_)
  have hP : va_P D vwCl ([(h0, .inr (5, [.ref q7_5, .ref q16_9, .ref q25_13, .int (xw_i 0), .int (xw_i 0), .int (xw_i 0), .int (xw_i 0), .int (xw_i 0), .int (xw_i 0)])), (q7_5, .inl (cs 25, 8, .inr (.inr (.inr (.inr (va_up (va_up (fun _ => none) 0 (some q43_23)) 1 (some q43_35))))))), (q16_9, .inl (cs 20, 100, .inl (fun _ => xw_i 0))), (q25_13, .inl (cs 20, 160, .inl (fun _ => xw_i 0)))] ++ xn_FR cs q43_23 u47_25 ++ xn_FR cs q43_35 u47_37) H := hP
  have hD : va_D A ([(h0, .inr (5, [.ref q7_5, .ref q16_9, .ref q25_13, .int (xw_i 0), .int (xw_i 0), .int (xw_i 0), .int (xw_i 0), .int (xw_i 0), .int (xw_i 0)])), (q7_5, .inl (cs 25, 8, .inr (.inr (.inr (.inr (va_up (va_up (fun _ => none) 0 (some q43_23)) 1 (some q43_35))))))), (q16_9, .inl (cs 20, 100, .inl (fun _ => xw_i 0))), (q25_13, .inl (cs 20, 160, .inl (fun _ => xw_i 0)))] ++ xn_FR cs q43_23 u47_25 ++ xn_FR cs q43_35 u47_37) := hD
  refine xw_iinc' (lv' := [(1, .int (xw_i 2)), (0, .ref h0)]) hx hb d_MC_init_51 hl (k := 0) rfl (by decide) rfl (fun ls hl => ?_)
  refine lv_goto (tgt := 32) hx hb d_MC_init_54 (by decide) ?_
  refine lv_iload_n hx hb d_MC_init_32 rfl (lv_at hl 0 rfl) ?_
  refine lv_bipush (v := xw_i 8) hx hb d_MC_init_33 (by decide) ?_
  refine lv_icmp_ge (tgt := 57) hx hb d_MC_init_35 (by decide) (fun h9 => absurd h9 (show ¬ xw_i 8 ≤ xw_i 2 by decide)) (fun _ => ?_)
  refine lv_aload_n hx hb d_MC_init_38 rfl (lv_at hl 1 rfl) ?_
  refine va_get (D := D) (ci := 5) (v := .ref q7_5) (C := "AdviceWeaver$Machine") (T := T_MC) (N := 9) hx hb hts hin_MC hown hK hP 0 rfl rfl 0 (by decide) (hts _ hw_312) (fun _ h9 => h9) rfl d_MC_init_39 ?_
  refine lv_iload_n hx hb d_MC_init_42 rfl (lv_at hl 0 rfl) ?_
  refine va_new (ci := 3) (fs := [.null, .null, .int (xw_i 0), .int (xw_i 0), .int (xw_i 0)]) (C := "AdviceWeaver$Frame") (T := T_FR) (N := 5) hx hb hts hin_FR ty_FR ty_FR_ok hown (hts _ hw_663) (hts _ hw_653) (hts _ hw_310) hK hP hD hS hA rfl (xn_df_FR) (Nat.le_of_ble_eq_true rfl) (Nat.le_of_ble_eq_true rfl) d_MC_init_43 (fun q43_47 H hP hD hS => ?_)
  refine W.widen (k := 10) (n := 311) (Nat.le_of_ble_eq_true rfl) (Nat.le_of_ble_eq_true rfl) ?_
  have hP : va_P D vwCl ([(h0, .inr (5, [.ref q7_5, .ref q16_9, .ref q25_13, .int (xw_i 0), .int (xw_i 0), .int (xw_i 0), .int (xw_i 0), .int (xw_i 0), .int (xw_i 0)])), (q7_5, .inl (cs 25, 8, .inr (.inr (.inr (.inr (va_up (va_up (fun _ => none) 0 (some q43_23)) 1 (some q43_35))))))), (q16_9, .inl (cs 20, 100, .inl (fun _ => xw_i 0))), (q25_13, .inl (cs 20, 160, .inl (fun _ => xw_i 0)))] ++ xn_FR cs q43_23 u47_25 ++ xn_FR cs q43_35 u47_37 ++ [(q43_47, .inr (3, [.null, .null, .int (xw_i 0), .int (xw_i 0), .int (xw_i 0)]))]) H := hP
  have hD : va_D A ([(h0, .inr (5, [.ref q7_5, .ref q16_9, .ref q25_13, .int (xw_i 0), .int (xw_i 0), .int (xw_i 0), .int (xw_i 0), .int (xw_i 0), .int (xw_i 0)])), (q7_5, .inl (cs 25, 8, .inr (.inr (.inr (.inr (va_up (va_up (fun _ => none) 0 (some q43_23)) 1 (some q43_35))))))), (q16_9, .inl (cs 20, 100, .inl (fun _ => xw_i 0))), (q25_13, .inl (cs 20, 160, .inl (fun _ => xw_i 0)))] ++ xn_FR cs q43_23 u47_25 ++ xn_FR cs q43_35 u47_37 ++ [(q43_47, .inr (3, [.null, .null, .int (xw_i 0), .int (xw_i 0), .int (xw_i 0)]))]) := hD
  refine lv_dup hx hb d_MC_init_46 rfl ?_
  have hPc := hP.sub (ws' := [(q43_47, .inr (3, [.null, .null, .int (xw_i 0), .int (xw_i 0), .int (xw_i 0)]))]) [10] rfl
  have hDc := hD.sub (ws' := [(q43_47, .inr (3, [.null, .null, .int (xw_i 0), .int (xw_i 0), .int (xw_i 0)]))]) [10] (by decide) rfl
  have hFc := va_free (wc := [(q43_47, .inr (3, [.null, .null, .int (xw_i 0), .int (xw_i 0), .int (xw_i 0)]))]) hD hS hA [10] rfl
  refine va_callv (va_runIN (As := []) (rest := [.ref q43_47, .int (xw_i 2), .ref q7_5]) ⟨hx, hb, hml, hown, hts⟩ (c_FR_init l D cs q43_47 H.size) ⟨va_cnB 0 hts (gd_I hw_636) rfl rfl rfl hX.2.2.2.2.1 (hts _ hw_310) (by decide +kernel) ⟨(Nat.le_of_ble_eq_true rfl), (Nat.le_of_ble_eq_true rfl)⟩, rfl, hts _ hw_635⟩ ⟨fun a U g mk q => by obtain ⟨q0, q1, qP, qK, qD⟩ := q; exact ⟨q0, q1, qP, va_K.moved (u := U) (U := U.calling g mk a) (Vm.Alike.refl U.vm) qK, qD⟩, fun U hU hW => ⟨rfl, by rw [hU], by rw [hU]; exact hPc, va_K.moved hW.alike hK, hDc.weaken (fun _ _ _ _ => trivial)⟩⟩ rfl rfl hl.1 rfl (lv_room (Nat.le_of_ble_eq_true rfl)) d_MC_init_47 ⟨(Nat.le_of_ble_eq_true rfl), (Nat.le_of_ble_eq_true rfl)⟩) hS (fun q _ h => hFc q h) hFc (fun u47_49 t H1 locs ht hvm h9 hB hz1 hk1 hS => ?_)
  obtain ⟨hP1, hK1, hD1⟩ := hB
  rw [ht] at hP1
  obtain ⟨hP, hD⟩ := va_join (wr := [(h0, .inr (5, [.ref q7_5, .ref q16_9, .ref q25_13, .int (xw_i 0), .int (xw_i 0), .int (xw_i 0), .int (xw_i 0), .int (xw_i 0), .int (xw_i 0)])), (q7_5, .inl (cs 25, 8, .inr (.inr (.inr (.inr (va_up (va_up (fun _ => none) 0 (some q43_23)) 1 (some q43_35))))))), (q16_9, .inl (cs 20, 100, .inl (fun _ => xw_i 0))), (q25_13, .inl (cs 20, 160, .inl (fun _ => xw_i 0)))] ++ xn_FR cs q43_23 u47_25 ++ xn_FR cs q43_35 u47_37) (w1 := xn_FR cs q43_47 u47_49) hP hD [10] [0, 1, 2, 3, 4, 5, 6, 7, 8, 9] rfl rfl (by decide) (by decide) hk1 hFc hP1 hD1
  generalize H1 = H at hP hS ⊢
  refine W.widen (k := 12) (n := 325) (Nat.le_of_ble_eq_true rfl) (Nat.le_of_ble_eq_true rfl) ?_
  have hP : va_P D vwCl ([(h0, .inr (5, [.ref q7_5, .ref q16_9, .ref q25_13, .int (xw_i 0), .int (xw_i 0), .int (xw_i 0), .int (xw_i 0), .int (xw_i 0), .int (xw_i 0)])), (q7_5, .inl (cs 25, 8, .inr (.inr (.inr (.inr (va_up (va_up (fun _ => none) 0 (some q43_23)) 1 (some q43_35))))))), (q16_9, .inl (cs 20, 100, .inl (fun _ => xw_i 0))), (q25_13, .inl (cs 20, 160, .inl (fun _ => xw_i 0)))] ++ xn_FR cs q43_23 u47_25 ++ xn_FR cs q43_35 u47_37 ++ xn_FR cs q43_47 u47_49) H := hP
  have hD : va_D A ([(h0, .inr (5, [.ref q7_5, .ref q16_9, .ref q25_13, .int (xw_i 0), .int (xw_i 0), .int (xw_i 0), .int (xw_i 0), .int (xw_i 0), .int (xw_i 0)])), (q7_5, .inl (cs 25, 8, .inr (.inr (.inr (.inr (va_up (va_up (fun _ => none) 0 (some q43_23)) 1 (some q43_35))))))), (q16_9, .inl (cs 20, 100, .inl (fun _ => xw_i 0))), (q25_13, .inl (cs 20, 160, .inl (fun _ => xw_i 0)))] ++ xn_FR cs q43_23 u47_25 ++ xn_FR cs q43_35 u47_37 ++ xn_FR cs q43_47 u47_49) := hD
  refine xn_aast (x := 2) hx hb hK hP hD hS 1 5 10 3 rfl rfl rfl rfl (by decide) (by decide) d_MC_init_50 (fun H locs hP hD hS => ?_)
  have hP : va_P D vwCl ([(h0, .inr (5, [.ref q7_5, .ref q16_9, .ref q25_13, .int (xw_i 0), .int (xw_i 0), .int (xw_i 0), .int (xw_i 0), .int (xw_i 0), .int (xw_i 0)])), (q7_5, .inl (cs 25, 8, .inr (.inr (.inr (.inr (va_up (va_up (va_up (fun _ => none) 0 (some q43_23)) 1 (some q43_35)) 2 (some q43_47))))))), (q16_9, .inl (cs 20, 100, .inl (fun _ => xw_i 0))), (q25_13, .inl (cs 20, 160, .inl (fun _ => xw_i 0)))] ++ xn_FR cs q43_23 u47_25 ++ xn_FR cs q43_35 u47_37 ++ xn_FR cs q43_47 u47_49) H := hP
  have hD : va_D A ([(h0, .inr (5, [.ref q7_5, .ref q16_9, .ref q25_13, .int (xw_i 0), .int (xw_i 0), .int (xw_i 0), .int (xw_i 0), .int (xw_i 0), .int (xw_i 0)])), (q7_5, .inl (cs 25, 8, .inr (.inr (.inr (.inr (va_up (va_up (va_up (fun _ => none) 0 (some q43_23)) 1 (some q43_35)) 2 (some q43_47))))))), (q16_9, .inl (cs 20, 100, .inl (fun _ => xw_i 0))), (q25_13, .inl (cs 20, 160, .inl (fun _ => xw_i 0)))] ++ xn_FR cs q43_23 u47_25 ++ xn_FR cs q43_35 u47_37 ++ xn_FR cs q43_47 u47_49) := hD
  refine xw_iinc' (lv' := [(1, .int (xw_i 3)), (0, .ref h0)]) hx hb d_MC_init_51 hl (k := 0) rfl (by decide) rfl (fun ls hl => ?_)
  refine lv_goto (tgt := 32) hx hb d_MC_init_54 (by decide) ?_
  refine lv_iload_n hx hb d_MC_init_32 rfl (lv_at hl 0 rfl) ?_
  refine lv_bipush (v := xw_i 8) hx hb d_MC_init_33 (by decide) ?_
  refine lv_icmp_ge (tgt := 57) hx hb d_MC_init_35 (by decide) (fun h9 => absurd h9 (show ¬ xw_i 8 ≤ xw_i 3 by decide)) (fun _ => ?_)
  refine lv_aload_n hx hb d_MC_init_38 rfl (lv_at hl 1 rfl) ?_
  refine va_get (D := D) (ci := 5) (v := .ref q7_5) (C := "AdviceWeaver$Machine") (T := T_MC) (N := 9) hx hb hts hin_MC hown hK hP 0 rfl rfl 0 (by decide) (hts _ hw_312) (fun _ h9 => h9) rfl d_MC_init_39 ?_
  refine lv_iload_n hx hb d_MC_init_42 rfl (lv_at hl 0 rfl) ?_
  refine va_new (ci := 3) (fs := [.null, .null, .int (xw_i 0), .int (xw_i 0), .int (xw_i 0)]) (C := "AdviceWeaver$Frame") (T := T_FR) (N := 5) hx hb hts hin_FR ty_FR ty_FR_ok hown (hts _ hw_663) (hts _ hw_653) (hts _ hw_310) hK hP hD hS hA rfl (xn_df_FR) (Nat.le_of_ble_eq_true rfl) (Nat.le_of_ble_eq_true rfl) d_MC_init_43 (fun q43_59 H hP hD hS => ?_)
  refine W.widen (k := 13) (n := 330) (Nat.le_of_ble_eq_true rfl) (Nat.le_of_ble_eq_true rfl) ?_
  have hP : va_P D vwCl ([(h0, .inr (5, [.ref q7_5, .ref q16_9, .ref q25_13, .int (xw_i 0), .int (xw_i 0), .int (xw_i 0), .int (xw_i 0), .int (xw_i 0), .int (xw_i 0)])), (q7_5, .inl (cs 25, 8, .inr (.inr (.inr (.inr (va_up (va_up (va_up (fun _ => none) 0 (some q43_23)) 1 (some q43_35)) 2 (some q43_47))))))), (q16_9, .inl (cs 20, 100, .inl (fun _ => xw_i 0))), (q25_13, .inl (cs 20, 160, .inl (fun _ => xw_i 0)))] ++ xn_FR cs q43_23 u47_25 ++ xn_FR cs q43_35 u47_37 ++ xn_FR cs q43_47 u47_49 ++ [(q43_59, .inr (3, [.null, .null, .int (xw_i 0), .int (xw_i 0), .int (xw_i 0)]))]) H := hP
  have hD : va_D A ([(h0, .inr (5, [.ref q7_5, .ref q16_9, .ref q25_13, .int (xw_i 0), .int (xw_i 0), .int (xw_i 0), .int (xw_i 0), .int (xw_i 0), .int (xw_i 0)])), (q7_5, .inl (cs 25, 8, .inr (.inr (.inr (.inr (va_up (va_up (va_up (fun _ => none) 0 (some q43_23)) 1 (some q43_35)) 2 (some q43_47))))))), (q16_9, .inl (cs 20, 100, .inl (fun _ => xw_i 0))), (q25_13, .inl (cs 20, 160, .inl (fun _ => xw_i 0)))] ++ xn_FR cs q43_23 u47_25 ++ xn_FR cs q43_35 u47_37 ++ xn_FR cs q43_47 u47_49 ++ [(q43_59, .inr (3, [.null, .null, .int (xw_i 0), .int (xw_i 0), .int (xw_i 0)]))]) := hD
  refine lv_dup hx hb d_MC_init_46 rfl ?_
  have hPc := hP.sub (ws' := [(q43_59, .inr (3, [.null, .null, .int (xw_i 0), .int (xw_i 0), .int (xw_i 0)]))]) [13] rfl
  have hDc := hD.sub (ws' := [(q43_59, .inr (3, [.null, .null, .int (xw_i 0), .int (xw_i 0), .int (xw_i 0)]))]) [13] (by decide) rfl
  have hFc := va_free (wc := [(q43_59, .inr (3, [.null, .null, .int (xw_i 0), .int (xw_i 0), .int (xw_i 0)]))]) hD hS hA [13] rfl
  refine va_callv (va_runIN (As := []) (rest := [.ref q43_59, .int (xw_i 3), .ref q7_5]) ⟨hx, hb, hml, hown, hts⟩ (c_FR_init l D cs q43_59 H.size) ⟨va_cnB 0 hts (gd_I hw_636) rfl rfl rfl hX.2.2.2.2.1 (hts _ hw_310) (by decide +kernel) ⟨(Nat.le_of_ble_eq_true rfl), (Nat.le_of_ble_eq_true rfl)⟩, rfl, hts _ hw_635⟩ ⟨fun a U g mk q => by obtain ⟨q0, q1, qP, qK, qD⟩ := q; exact ⟨q0, q1, qP, va_K.moved (u := U) (U := U.calling g mk a) (Vm.Alike.refl U.vm) qK, qD⟩, fun U hU hW => ⟨rfl, by rw [hU], by rw [hU]; exact hPc, va_K.moved hW.alike hK, hDc.weaken (fun _ _ _ _ => trivial)⟩⟩ rfl rfl hl.1 rfl (lv_room (Nat.le_of_ble_eq_true rfl)) d_MC_init_47 ⟨(Nat.le_of_ble_eq_true rfl), (Nat.le_of_ble_eq_true rfl)⟩) hS (fun q _ h => hFc q h) hFc (fun u47_61 t H1 locs ht hvm h9 hB hz1 hk1 hS => ?_)
  obtain ⟨hP1, hK1, hD1⟩ := hB
  rw [ht] at hP1
  obtain ⟨hP, hD⟩ := va_join (wr := [(h0, .inr (5, [.ref q7_5, .ref q16_9, .ref q25_13, .int (xw_i 0), .int (xw_i 0), .int (xw_i 0), .int (xw_i 0), .int (xw_i 0), .int (xw_i 0)])), (q7_5, .inl (cs 25, 8, .inr (.inr (.inr (.inr (va_up (va_up (va_up (fun _ => none) 0 (some q43_23)) 1 (some q43_35)) 2 (some q43_47))))))), (q16_9, .inl (cs 20, 100, .inl (fun _ => xw_i 0))), (q25_13, .inl (cs 20, 160, .inl (fun _ => xw_i 0)))] ++ xn_FR cs q43_23 u47_25 ++ xn_FR cs q43_35 u47_37 ++ xn_FR cs q43_47 u47_49) (w1 := xn_FR cs q43_59 u47_61) hP hD [13] [0, 1, 2, 3, 4, 5, 6, 7, 8, 9, 10, 11, 12] rfl rfl (by decide) (by decide) hk1 hFc hP1 hD1
  generalize H1 = H at hP hS ⊢
  refine W.widen (k := 15) (n := 344) (Nat.le_of_ble_eq_true rfl) (Nat.le_of_ble_eq_true rfl) ?_
  have hP : va_P D vwCl ([(h0, .inr (5, [.ref q7_5, .ref q16_9, .ref q25_13, .int (xw_i 0), .int (xw_i 0), .int (xw_i 0), .int (xw_i 0), .int (xw_i 0), .int (xw_i 0)])), (q7_5, .inl (cs 25, 8, .inr (.inr (.inr (.inr (va_up (va_up (va_up (fun _ => none) 0 (some q43_23)) 1 (some q43_35)) 2 (some q43_47))))))), (q16_9, .inl (cs 20, 100, .inl (fun _ => xw_i 0))), (q25_13, .inl (cs 20, 160, .inl (fun _ => xw_i 0)))] ++ xn_FR cs q43_23 u47_25 ++ xn_FR cs q43_35 u47_37 ++ xn_FR cs q43_47 u47_49 ++ xn_FR cs q43_59 u47_61) H := hP
  have hD : va_D A ([(h0, .inr (5, [.ref q7_5, .ref q16_9, .ref q25_13, .int (xw_i 0), .int (xw_i 0), .int (xw_i 0), .int (xw_i 0), .int (xw_i 0), .int (xw_i 0)])), (q7_5, .inl (cs 25, 8, .inr (.inr (.inr (.inr (va_up (va_up (va_up (fun _ => none) 0 (some q43_23)) 1 (some q43_35)) 2 (some q43_47))))))), (q16_9, .inl (cs 20, 100, .inl (fun _ => xw_i 0))), (q25_13, .inl (cs 20, 160, .inl (fun _ => xw_i 0)))] ++ xn_FR cs q43_23 u47_25 ++ xn_FR cs q43_35 u47_37 ++ xn_FR cs q43_47 u47_49 ++ xn_FR cs q43_59 u47_61) := hD
  refine xn_aast (x := 3) hx hb hK hP hD hS 1 5 13 3 rfl rfl rfl rfl (by decide) (by decide) d_MC_init_50 (fun H locs hP hD hS => ?_)
  have hP : va_P D vwCl ([(h0, .inr (5, [.ref q7_5, .ref q16_9, .ref q25_13, .int (xw_i 0), .int (xw_i 0), .int (xw_i 0), .int (xw_i 0), .int (xw_i 0), .int (xw_i 0)])), (q7_5, .inl (cs 25, 8, .inr (.inr (.inr (.inr (va_up (va_up (va_up (va_up (fun _ => none) 0 (some q43_23)) 1 (some q43_35)) 2 (some q43_47)) 3 (some q43_59))))))), (q16_9, .inl (cs 20, 100, .inl (fun _ => xw_i 0))), (q25_13, .inl (cs 20, 160, .inl (fun _ => xw_i 0)))] ++ xn_FR cs q43_23 u47_25 ++ xn_FR cs q43_35 u47_37 ++ xn_FR cs q43_47 u47_49 ++ xn_FR cs q43_59 u47_61) H := hP
  have hD : va_D A ([(h0, .inr (5, [.ref q7_5, .ref q16_9, .ref q25_13, .int (xw_i 0), .int (xw_i 0), .int (xw_i 0), .int (xw_i 0), .int (xw_i 0), .int (xw_i 0)])), (q7_5, .inl (cs 25, 8, .inr (.inr (.inr (.inr (va_up (va_up (va_up (va_up (fun _ => none) 0 (some q43_23)) 1 (some q43_35)) 2 (some q43_47)) 3 (some q43_59))))))), (q16_9, .inl (cs 20, 100, .inl (fun _ => xw_i 0))), (q25_13, .inl (cs 20, 160, .inl (fun _ => xw_i 0)))] ++ xn_FR cs q43_23 u47_25 ++ xn_FR cs q43_35 u47_37 ++ xn_FR cs q43_47 u47_49 ++ xn_FR cs q43_59 u47_61) := hD
  refine xw_iinc' (lv' := [(1, .int (xw_i 4)), (0, .ref h0)]) hx hb d_MC_init_51 hl (k := 0) rfl (by decide) rfl (fun ls hl => ?_)
  refine lv_goto (tgt := 32) hx hb d_MC_init_54 (by decide) ?_
  refine lv_iload_n hx hb d_MC_init_32 rfl (lv_at hl 0 rfl) ?_
  refine lv_bipush (v := xw_i 8) hx hb d_MC_init_33 (by decide) ?_
  refine lv_icmp_ge (tgt := 57) hx hb d_MC_init_35 (by decide) (fun h9 => absurd h9 (show ¬ xw_i 8 ≤ xw_i 4 by decide)) (fun _ => ?_)
  refine lv_aload_n hx hb d_MC_init_38 rfl (lv_at hl 1 rfl) ?_
  refine va_get (D := D) (ci := 5) (v := .ref q7_5) (C := "AdviceWeaver$Machine") (T := T_MC) (N := 9) hx hb hts hin_MC hown hK hP 0 rfl rfl 0 (by decide) (hts _ hw_312) (fun _ h9 => h9) rfl d_MC_init_39 ?_
  refine lv_iload_n hx hb d_MC_init_42 rfl (lv_at hl 0 rfl) ?_
  refine va_new (ci := 3) (fs := [.null, .null, .int (xw_i 0), .int (xw_i 0), .int (xw_i 0)]) (C := "AdviceWeaver$Frame") (T := T_FR) (N := 5) hx hb hts hin_FR ty_FR ty_FR_ok hown (hts _ hw_663) (hts _ hw_653) (hts _ hw_310) hK hP hD hS hA rfl (xn_df_FR) (Nat.le_of_ble_eq_true rfl) (Nat.le_of_ble_eq_true rfl) d_MC_init_43 (fun q43_71 H hP hD hS => ?_)
  refine W.widen (k := 16) (n := 349) (Nat.le_of_ble_eq_true rfl) (Nat.le_of_ble_eq_true rfl) ?_
  have hP : va_P D vwCl ([(h0, .inr (5, [.ref q7_5, .ref q16_9, .ref q25_13, .int (xw_i 0), .int (xw_i 0), .int (xw_i 0), .int (xw_i 0), .int (xw_i 0), .int (xw_i 0)])), (q7_5, .inl (cs 25, 8, .inr (.inr (.inr (.inr (va_up (va_up (va_up (va_up (fun _ => none) 0 (some q43_23)) 1 (some q43_35)) 2 (some q43_47)) 3 (some q43_59))))))), (q16_9, .inl (cs 20, 100, .inl (fun _ => xw_i 0))), (q25_13, .inl (cs 20, 160, .inl (fun _ => xw_i 0)))] ++ xn_FR cs q43_23 u47_25 ++ xn_FR cs q43_35 u47_37 ++ xn_FR cs q43_47 u47_49 ++ xn_FR cs q43_59 u47_61 ++ [(q43_71, .inr (3, [.null, .null, .int (xw_i 0), .int (xw_i 0), .int (xw_i 0)]))]) H := hP
  have hD : va_D A ([(h0, .inr (5, [.ref q7_5, .ref q16_9, .ref q25_13, .int (xw_i 0), .int (xw_i 0), .int (xw_i 0), .int (xw_i 0), .int (xw_i 0), .int (xw_i 0)])), (q7_5, .inl (cs 25, 8, .inr (.inr (.inr (.inr (va_up (va_up (va_up (va_up (fun _ => none) 0 (some q43_23)) 1 (some q43_35)) 2 (some q43_47)) 3 (some q43_59))))))), (q16_9, .inl (cs 20, 100, .inl (fun _ => xw_i 0))), (q25_13, .inl (cs 20, 160, .inl (fun _ => xw_i 0)))] ++ xn_FR cs q43_23 u47_25 ++ xn_FR cs q43_35 u47_37 ++ xn_FR cs q43_47 u47_49 ++ xn_FR cs q43_59 u47_61 ++ [(q43_71, .inr (3, [.null, .null, .int (xw_i 0), .int (xw_i 0), .int (xw_i 0)]))]) := hD
  refine lv_dup hx hb d_MC_init_46 rfl ?_
  have hPc := hP.sub (ws' := [(q43_71, .inr (3, [.null, .null, .int (xw_i 0), .int (xw_i 0), .int (xw_i 0)]))]) [16] rfl
  have hDc := hD.sub (ws' := [(q43_71, .inr (3, [.null, .null, .int (xw_i 0), .int (xw_i 0), .int (xw_i 0)]))]) [16] (by decide) rfl
  have hFc := va_free (wc := [(q43_71, .inr (3, [.null, .null, .int (xw_i 0), .int (xw_i 0), .int (xw_i 0)]))]) hD hS hA [16] rfl
  refine va_callv (va_runIN (As := []) (rest := [.ref q43_71, .int (xw_i 4), .ref q7_5]) ⟨hx, hb, hml, hown, hts⟩ (c_FR_init l D cs q43_71 H.size) ⟨va_cnB 0 hts (gd_I hw_636) rfl rfl rfl hX.2.2.2.2.1 (hts _ hw_310) (by decide +kernel) ⟨(Nat.le_of_ble_eq_true rfl), (Nat.le_of_ble_eq_true rfl)⟩, rfl, hts _ hw_635⟩ ⟨fun a U g mk q => by obtain ⟨q0, q1, qP, qK, qD⟩ := q; exact ⟨q0, q1, qP, va_K.moved (u := U) (U := U.calling g mk a) (Vm.Alike.refl U.vm) qK, qD⟩, fun U hU hW => ⟨rfl, by rw [hU], by rw [hU]; exact hPc, va_K.moved hW.alike hK, hDc.weaken (fun _ _ _ _ => trivial)⟩⟩ rfl rfl hl.1 rfl (lv_room (Nat.le_of_ble_eq_true rfl)) d_MC_init_47 ⟨(Nat.le_of_ble_eq_true rfl), (Nat.le_of_ble_eq_true rfl)⟩) hS (fun q _ h => hFc q h) hFc (fun u47_73 t H1 locs ht hvm h9 hB hz1 hk1 hS => ?_)
  obtain ⟨hP1, hK1, hD1⟩ := hB
  rw [ht] at hP1
  obtain ⟨hP, hD⟩ := va_join (wr := [(h0, .inr (5, [.ref q7_5, .ref q16_9, .ref q25_13, .int (xw_i 0), .int (xw_i 0), .int (xw_i 0), .int (xw_i 0), .int (xw_i 0), .int (xw_i 0)])), (q7_5, .inl (cs 25, 8, .inr (.inr (.inr (.inr (va_up (va_up (va_up (va_up (fun _ => none) 0 (some q43_23)) 1 (some q43_35)) 2 (some q43_47)) 3 (some q43_59))))))), (q16_9, .inl (cs 20, 100, .inl (fun _ => xw_i 0))), (q25_13, .inl (cs 20, 160, .inl (fun _ => xw_i 0)))] ++ xn_FR cs q43_23 u47_25 ++ xn_FR cs q43_35 u47_37 ++ xn_FR cs q43_47 u47_49 ++ xn_FR cs q43_59 u47_61) (w1 := xn_FR cs q43_71 u47_73) hP hD [16] [0, 1, 2, 3, 4, 5, 6, 7, 8, 9, 10, 11, 12, 13, 14, 15] rfl rfl (by decide) (by decide) hk1 hFc hP1 hD1
  generalize H1 = H at hP hS ⊢
  refine W.widen (k := 18) (n := 363) (Nat.le_of_ble_eq_true rfl) (Nat.le_of_ble_eq_true rfl) ?_
  have hP : va_P D vwCl ([(h0, .inr (5, [.ref q7_5, .ref q16_9, .ref q25_13, .int (xw_i 0), .int (xw_i 0), .int (xw_i 0), .int (xw_i 0), .int (xw_i 0), .int (xw_i 0)])), (q7_5, .inl (cs 25, 8, .inr (.inr (.inr (.inr (va_up (va_up (va_up (va_up (fun _ => none) 0 (some q43_23)) 1 (some q43_35)) 2 (some q43_47)) 3 (some q43_59))))))), (q16_9, .inl (cs 20, 100, .inl (fun _ => xw_i 0))), (q25_13, .inl (cs 20, 160, .inl (fun _ => xw_i 0)))] ++ xn_FR cs q43_23 u47_25 ++ xn_FR cs q43_35 u47_37 ++ xn_FR cs q43_47 u47_49 ++ xn_FR cs q43_59 u47_61 ++ xn_FR cs q43_71 u47_73) H := hP
  have hD : va_D A ([(h0, .inr (5, [.ref q7_5, .ref q16_9, .ref q25_13, .int (xw_i 0), .int (xw_i 0), .int (xw_i 0), .int (xw_i 0), .int (xw_i 0), .int (xw_i 0)])), (q7_5, .inl (cs 25, 8, .inr (.inr (.inr (.inr (va_up (va_up (va_up (va_up (fun _ => none) 0 (some q43_23)) 1 (some q43_35)) 2 (some q43_47)) 3 (some q43_59))))))), (q16_9, .inl (cs 20, 100, .inl (fun _ => xw_i 0))), (q25_13, .inl (cs 20, 160, .inl (fun _ => xw_i 0)))] ++ xn_FR cs q43_23 u47_25 ++ xn_FR cs q43_35 u47_37 ++ xn_FR cs q43_47 u47_49 ++ xn_FR cs q43_59 u47_61 ++ xn_FR cs q43_71 u47_73) := hD
  refine xn_aast (x := 4) hx hb hK hP hD hS 1 5 16 3 rfl rfl rfl rfl (by decide) (by decide) d_MC_init_50 (fun H locs hP hD hS => ?_)
  have hP : va_P D vwCl ([(h0, .inr (5, [.ref q7_5, .ref q16_9, .ref q25_13, .int (xw_i 0), .int (xw_i 0), .int (xw_i 0), .int (xw_i 0), .int (xw_i 0), .int (xw_i 0)])), (q7_5, .inl (cs 25, 8, .inr (.inr (.inr (.inr (va_up (va_up (va_up (va_up (va_up (fun _ => none) 0 (some q43_23)) 1 (some q43_35)) 2 (some q43_47)) 3 (some q43_59)) 4 (some q43_71))))))), (q16_9, .inl (cs 20, 100, .inl (fun _ => xw_i 0))), (q25_13, .inl (cs 20, 160, .inl (fun _ => xw_i 0)))] ++ xn_FR cs q43_23 u47_25 ++ xn_FR cs q43_35 u47_37 ++ xn_FR cs q43_47 u47_49 ++ xn_FR cs q43_59 u47_61 ++ xn_FR cs q43_71 u47_73) H := hP
  have hD : va_D A ([(h0, .inr (5, [.ref q7_5, .ref q16_9, .ref q25_13, .int (xw_i 0), .int (xw_i 0), .int (xw_i 0), .int (xw_i 0), .int (xw_i 0), .int (xw_i 0)])), (q7_5, .inl (cs 25, 8, .inr (.inr (.inr (.inr (va_up (va_up (va_up (va_up (va_up (fun _ => none) 0 (some q43_23)) 1 (some q43_35)) 2 (some q43_47)) 3 (some q43_59)) 4 (some q43_71))))))), (q16_9, .inl (cs 20, 100, .inl (fun _ => xw_i 0))), (q25_13, .inl (cs 20, 160, .inl (fun _ => xw_i 0)))] ++ xn_FR cs q43_23 u47_25 ++ xn_FR cs q43_35 u47_37 ++ xn_FR cs q43_47 u47_49 ++ xn_FR cs q43_59 u47_61 ++ xn_FR cs q43_71 u47_73) := hD
  refine xw_iinc' (lv' := [(1, .int (xw_i 5)), (0, .ref h0)]) hx hb d_MC_init_51 hl (k := 0) rfl (by decide) rfl (fun ls hl => ?_)
  refine lv_goto (tgt := 32) hx hb d_MC_init_54 (by decide) ?_
  refine lv_iload_n hx hb d_MC_init_32 rfl (lv_at hl 0 rfl) ?_
  refine lv_bipush (v := xw_i 8) hx hb d_MC_init_33 (by decide) ?_
  refine lv_icmp_ge (tgt := 57) hx hb d_MC_init_35 (by decide) (fun h9 => absurd h9 (show ¬ xw_i 8 ≤ xw_i 5 by decide)) (fun _ => ?_)
  refine lv_aload_n hx hb d_MC_init_38 rfl (lv_at hl 1 rfl) ?_
  refine va_get (D := D) (ci := 5) (v := .ref q7_5) (C := "AdviceWeaver$Machine") (T := T_MC) (N := 9) hx hb hts hin_MC hown hK hP 0 rfl rfl 0 (by decide) (hts _ hw_312) (fun _ h9 => h9) rfl d_MC_init_39 ?_
  refine lv_iload_n hx hb d_MC_init_42 rfl (lv_at hl 0 rfl) ?_
  refine va_new (ci := 3) (fs := [.null, .null, .int (xw_i 0), .int (xw_i 0), .int (xw_i 0)]) (C := "AdviceWeaver$Frame") (T := T_FR) (N := 5) hx hb hts hin_FR ty_FR ty_FR_ok hown (hts _ hw_663) (hts _ hw_653) (hts _ hw_310) hK hP hD hS hA rfl (xn_df_FR) (Nat.le_of_ble_eq_true rfl) (Nat.le_of_ble_eq_true rfl) d_MC_init_43 (fun q43_83 H hP hD hS => ?_)
  refine W.widen (k := 19) (n := 368) (Nat.le_of_ble_eq_true rfl) (Nat.le_of_ble_eq_true rfl) ?_
  have hP : va_P D vwCl ([(h0, .inr (5, [.ref q7_5, .ref q16_9, .ref q25_13, .int (xw_i 0), .int (xw_i 0), .int (xw_i 0), .int (xw_i 0), .int (xw_i 0), .int (xw_i 0)])), (q7_5, .inl (cs 25, 8, .inr (.inr (.inr (.inr (va_up (va_up (va_up (va_up (va_up (fun _ => none) 0 (some q43_23)) 1 (some q43_35)) 2 (some q43_47)) 3 (some q43_59)) 4 (some q43_71))))))), (q16_9, .inl (cs 20, 100, .inl (fun _ => xw_i 0))), (q25_13, .inl (cs 20, 160, .inl (fun _ => xw_i 0)))] ++ xn_FR cs q43_23 u47_25 ++ xn_FR cs q43_35 u47_37 ++ xn_FR cs q43_47 u47_49 ++ xn_FR cs q43_59 u47_61 ++ xn_FR cs q43_71 u47_73 ++ [(q43_83, .inr (3, [.null, .null, .int (xw_i 0), .int (xw_i 0), .int (xw_i 0)]))]) H := hP
  have hD : va_D A ([(h0, .inr (5, [.ref q7_5, .ref q16_9, .ref q25_13, .int (xw_i 0), .int (xw_i 0), .int (xw_i 0), .int (xw_i 0), .int (xw_i 0), .int (xw_i 0)])), (q7_5, .inl (cs 25, 8, .inr (.inr (.inr (.inr (va_up (va_up (va_up (va_up (va_up (fun _ => none) 0 (some q43_23)) 1 (some q43_35)) 2 (some q43_47)) 3 (some q43_59)) 4 (some q43_71))))))), (q16_9, .inl (cs 20, 100, .inl (fun _ => xw_i 0))), (q25_13, .inl (cs 20, 160, .inl (fun _ => xw_i 0)))] ++ xn_FR cs q43_23 u47_25 ++ xn_FR cs q43_35 u47_37 ++ xn_FR cs q43_47 u47_49 ++ xn_FR cs q43_59 u47_61 ++ xn_FR cs q43_71 u47_73 ++ [(q43_83, .inr (3, [.null, .null, .int (xw_i 0), .int (xw_i 0), .int (xw_i 0)]))]) := hD
  refine lv_dup hx hb d_MC_init_46 rfl ?_
  have hPc := hP.sub (ws' := [(q43_83, .inr (3, [.null, .null, .int (xw_i 0), .int (xw_i 0), .int (xw_i 0)]))]) [19] rfl
  have hDc := hD.sub (ws' := [(q43_83, .inr (3, [.null, .null, .int (xw_i 0), .int (xw_i 0), .int (xw_i 0)]))]) [19] (by decide) rfl
  have hFc := va_free (wc := [(q43_83, .inr (3, [.null, .null, .int (xw_i 0), .int (xw_i 0), .int (xw_i 0)]))]) hD hS hA [19] rfl
  refine va_callv (va_runIN (As := []) (rest := [.ref q43_83, .int (xw_i 5), .ref q7_5]) ⟨hx, hb, hml, hown, hts⟩ (c_FR_init l D cs q43_83 H.size) ⟨va_cnB 0 hts (gd_I hw_636) rfl rfl rfl hX.2.2.2.2.1 (hts _ hw_310) (by decide +kernel) ⟨(Nat.le_of_ble_eq_true rfl), (Nat.le_of_ble_eq_true rfl)⟩, rfl, hts _ hw_635⟩ ⟨fun a U g mk q => by obtain ⟨q0, q1, qP, qK, qD⟩ := q; exact ⟨q0, q1, qP, va_K.moved (u := U) (U := U.calling g mk a) (Vm.Alike.refl U.vm) qK, qD⟩, fun U hU hW => ⟨rfl, by rw [hU], by rw [hU]; exact hPc, va_K.moved hW.alike hK, hDc.weaken (fun _ _ _ _ => trivial)⟩⟩ rfl rfl hl.1 rfl (lv_room (Nat.le_of_ble_eq_true rfl)) d_MC_init_47 ⟨(Nat.le_of_ble_eq_true rfl), (Nat.le_of_ble_eq_true rfl)⟩) hS (fun q _ h => hFc q h) hFc (fun u47_85 t H1 locs ht hvm h9 hB hz1 hk1 hS => ?_)
  obtain ⟨hP1, hK1, hD1⟩ := hB
  rw [ht] at hP1
  obtain ⟨hP, hD⟩ := va_join (wr := [(h0, .inr (5, [.ref q7_5, .ref q16_9, .ref q25_13, .int (xw_i 0), .int (xw_i 0), .int (xw_i 0), .int (xw_i 0), .int (xw_i 0), .int (xw_i 0)])), (q7_5, .inl (cs 25, 8, .inr (.inr (.inr (.inr (va_up (va_up (va_up (va_up (va_up (fun _ => none) 0 (some q43_23)) 1 (some q43_35)) 2 (some q43_47)) 3 (some q43_59)) 4 (some q43_71))))))), (q16_9, .inl (cs 20, 100, .inl (fun _ => xw_i 0))), (q25_13, .inl (cs 20, 160, .inl (fun _ => xw_i 0)))] ++ xn_FR cs q43_23 u47_25 ++ xn_FR cs q43_35 u47_37 ++ xn_FR cs q43_47 u47_49 ++ xn_FR cs q43_59 u47_61 ++ xn_FR cs q43_71 u47_73) (w1 := xn_FR cs q43_83 u47_85) hP hD [19] [0, 1, 2, 3, 4, 5, 6, 7, 8, 9, 10, 11, 12, 13, 14, 15, 16, 17, 18] rfl rfl (by decide) (by decide) hk1 hFc hP1 hD1
  generalize H1 = H at hP hS ⊢
  refine W.widen (k := 21) (n := 382) (Nat.le_of_ble_eq_true rfl) (Nat.le_of_ble_eq_true rfl) ?_
  have hP : va_P D vwCl ([(h0, .inr (5, [.ref q7_5, .ref q16_9, .ref q25_13, .int (xw_i 0), .int (xw_i 0), .int (xw_i 0), .int (xw_i 0), .int (xw_i 0), .int (xw_i 0)])), (q7_5, .inl (cs 25, 8, .inr (.inr (.inr (.inr (va_up (va_up (va_up (va_up (va_up (fun _ => none) 0 (some q43_23)) 1 (some q43_35)) 2 (some q43_47)) 3 (some q43_59)) 4 (some q43_71))))))), (q16_9, .inl (cs 20, 100, .inl (fun _ => xw_i 0))), (q25_13, .inl (cs 20, 160, .inl (fun _ => xw_i 0)))] ++ xn_FR cs q43_23 u47_25 ++ xn_FR cs q43_35 u47_37 ++ xn_FR cs q43_47 u47_49 ++ xn_FR cs q43_59 u47_61 ++ xn_FR cs q43_71 u47_73 ++ xn_FR cs q43_83 u47_85) H := hP
  have hD : va_D A ([(h0, .inr (5, [.ref q7_5, .ref q16_9, .ref q25_13, .int (xw_i 0), .int (xw_i 0), .int (xw_i 0), .int (xw_i 0), .int (xw_i 0), .int (xw_i 0)])), (q7_5, .inl (cs 25, 8, .inr (.inr (.inr (.inr (va_up (va_up (va_up (va_up (va_up (fun _ => none) 0 (some q43_23)) 1 (some q43_35)) 2 (some q43_47)) 3 (some q43_59)) 4 (some q43_71))))))), (q16_9, .inl (cs 20, 100, .inl (fun _ => xw_i 0))), (q25_13, .inl (cs 20, 160, .inl (fun _ => xw_i 0)))] ++ xn_FR cs q43_23 u47_25 ++ xn_FR cs q43_35 u47_37 ++ xn_FR cs q43_47 u47_49 ++ xn_FR cs q43_59 u47_61 ++ xn_FR cs q43_71 u47_73 ++ xn_FR cs q43_83 u47_85) := hD
  refine xn_aast (x := 5) hx hb hK hP hD hS 1 5 19 3 rfl rfl rfl rfl (by decide) (by decide) d_MC_init_50 (fun H locs hP hD hS => ?_)
  have hP : va_P D vwCl ([(h0, .inr (5, [.ref q7_5, .ref q16_9, .ref q25_13, .int (xw_i 0), .int (xw_i 0), .int (xw_i 0), .int (xw_i 0), .int (xw_i 0), .int (xw_i 0)])), (q7_5, .inl (cs 25, 8, .inr (.inr (.inr (.inr (va_up (va_up (va_up (va_up (va_up (va_up (fun _ => none) 0 (some q43_23)) 1 (some q43_35)) 2 (some q43_47)) 3 (some q43_59)) 4 (some q43_71)) 5 (some q43_83))))))), (q16_9, .inl (cs 20, 100, .inl (fun _ => xw_i 0))), (q25_13, .inl (cs 20, 160, .inl (fun _ => xw_i 0)))] ++ xn_FR cs q43_23 u47_25 ++ xn_FR cs q43_35 u47_37 ++ xn_FR cs q43_47 u47_49 ++ xn_FR cs q43_59 u47_61 ++ xn_FR cs q43_71 u47_73 ++ xn_FR cs q43_83 u47_85) H := hP
  have hD : va_D A ([(h0, .inr (5, [.ref q7_5, .ref q16_9, .ref q25_13, .int (xw_i 0), .int (xw_i 0), .int (xw_i 0), .int (xw_i 0), .int (xw_i 0), .int (xw_i 0)])), (q7_5, .inl (cs 25, 8, .inr (.inr (.inr (.inr (va_up (va_up (va_up (va_up (va_up (va_up (fun _ => none) 0 (some q43_23)) 1 (some q43_35)) 2 (some q43_47)) 3 (some q43_59)) 4 (some q43_71)) 5 (some q43_83))))))), (q16_9, .inl (cs 20, 100, .inl (fun _ => xw_i 0))), (q25_13, .inl (cs 20, 160, .inl (fun _ => xw_i 0)))] ++ xn_FR cs q43_23 u47_25 ++ xn_FR cs q43_35 u47_37 ++ xn_FR cs q43_47 u47_49 ++ xn_FR cs q43_59 u47_61 ++ xn_FR cs q43_71 u47_73 ++ xn_FR cs q43_83 u47_85) := hD
  refine xw_iinc' (lv' := [(1, .int (xw_i 6)), (0, .ref h0)]) hx hb d_MC_init_51 hl (k := 0) rfl (by decide) rfl (fun ls hl => ?_)
  refine lv_goto (tgt := 32) hx hb d_MC_init_54 (by decide) ?_
  refine lv_iload_n hx hb d_MC_init_32 rfl (lv_at hl 0 rfl) ?_
  refine lv_bipush (v := xw_i 8) hx hb d_MC_init_33 (by decide) ?_
  refine lv_icmp_ge (tgt := 57) hx hb d_MC_init_35 (by decide) (fun h9 => absurd h9 (show ¬ xw_i 8 ≤ xw_i 6 by decide)) (fun _ => ?_)
  refine lv_aload_n hx hb d_MC_init_38 rfl (lv_at hl 1 rfl) ?_
  refine va_get (D := D) (ci := 5) (v := .ref q7_5) (C := "AdviceWeaver$Machine") (T := T_MC) (N := 9) hx hb hts hin_MC hown hK hP 0 rfl rfl 0 (by decide) (hts _ hw_312) (fun _ h9 => h9) rfl d_MC_init_39 ?_
  refine lv_iload_n hx hb d_MC_init_42 rfl (lv_at hl 0 rfl) ?_
  refine va_new (ci := 3) (fs := [.null, .null, .int (xw_i 0), .int (xw_i 0), .int (xw_i 0)]) (C := "AdviceWeaver$Frame") (T := T_FR) (N := 5) hx hb hts hin_FR ty_FR ty_FR_ok hown (hts _ hw_663) (hts _ hw_653) (hts _ hw_310) hK hP hD hS hA rfl (xn_df_FR) (Nat.le_of_ble_eq_true rfl) (Nat.le_of_ble_eq_true rfl) d_MC_init_43 (fun q43_95 H hP hD hS => ?_)
  refine W.widen (k := 22) (n := 387) (Nat.le_of_ble_eq_true rfl) (Nat.le_of_ble_eq_true rfl) ?_
  have hP : va_P D vwCl ([(h0, .inr (5, [.ref q7_5, .ref q16_9, .ref q25_13, .int (xw_i 0), .int (xw_i 0), .int (xw_i 0), .int (xw_i 0), .int (xw_i 0), .int (xw_i 0)])), (q7_5, .inl (cs 25, 8, .inr (.inr (.inr (.inr (va_up (va_up (va_up (va_up (va_up (va_up (fun _ => none) 0 (some q43_23)) 1 (some q43_35)) 2 (some q43_47)) 3 (some q43_59)) 4 (some q43_71)) 5 (some q43_83))))))), (q16_9, .inl (cs 20, 100, .inl (fun _ => xw_i 0))), (q25_13, .inl (cs 20, 160, .inl (fun _ => xw_i 0)))] ++ xn_FR cs q43_23 u47_25 ++ xn_FR cs q43_35 u47_37 ++ xn_FR cs q43_47 u47_49 ++ xn_FR cs q43_59 u47_61 ++ xn_FR cs q43_71 u47_73 ++ xn_FR cs q43_83 u47_85 ++ [(q43_95, .inr (3, [.null, .null, .int (xw_i 0), .int (xw_i 0), .int (xw_i 0)]))]) H := hP
  have hD : va_D A ([(h0, .inr (5, [.ref q7_5, .ref q16_9, .ref q25_13, .int (xw_i 0), .int (xw_i 0), .int (xw_i 0), .int (xw_i 0), .int (xw_i 0), .int (xw_i 0)])), (q7_5, .inl (cs 25, 8, .inr (.inr (.inr (.inr (va_up (va_up (va_up (va_up (va_up (va_up (fun _ => none) 0 (some q43_23)) 1 (some q43_35)) 2 (some q43_47)) 3 (some q43_59)) 4 (some q43_71)) 5 (some q43_83))))))), (q16_9, .inl (cs 20, 100, .inl (fun _ => xw_i 0))), (q25_13, .inl (cs 20, 160, .inl (fun _ => xw_i 0)))] ++ xn_FR cs q43_23 u47_25 ++ xn_FR cs q43_35 u47_37 ++ xn_FR cs q43_47 u47_49 ++ xn_FR cs q43_59 u47_61 ++ xn_FR cs q43_71 u47_73 ++ xn_FR cs q43_83 u47_85 ++ [(q43_95, .inr (3, [.null, .null, .int (xw_i 0), .int (xw_i 0), .int (xw_i 0)]))]) := hD
  refine lv_dup hx hb d_MC_init_46 rfl ?_
  have hPc := hP.sub (ws' := [(q43_95, .inr (3, [.null, .null, .int (xw_i 0), .int (xw_i 0), .int (xw_i 0)]))]) [22] rfl
  have hDc := hD.sub (ws' := [(q43_95, .inr (3, [.null, .null, .int (xw_i 0), .int (xw_i 0), .int (xw_i 0)]))]) [22] (by decide) rfl
  have hFc := va_free (wc := [(q43_95, .inr (3, [.null, .null, .int (xw_i 0), .int (xw_i 0), .int (xw_i 0)]))]) hD hS hA [22] rfl
  refine va_callv (va_runIN (As := []) (rest := [.ref q43_95, .int (xw_i 6), .ref q7_5]) ⟨hx, hb, hml, hown, hts⟩ (c_FR_init l D cs q43_95 H.size) ⟨va_cnB 0 hts (gd_I hw_636) rfl rfl rfl hX.2.2.2.2.1 (hts _ hw_310) (by decide +kernel) ⟨(Nat.le_of_ble_eq_true rfl), (Nat.le_of_ble_eq_true rfl)⟩, rfl, hts _ hw_635⟩ ⟨fun a U g mk q => by obtain ⟨q0, q1, qP, qK, qD⟩ := q; exact ⟨q0, q1, qP, va_K.moved (u := U) (U := U.calling g mk a) (Vm.Alike.refl U.vm) qK, qD⟩, fun U hU hW => ⟨rfl, by rw [hU], by rw [hU]; exact hPc, va_K.moved hW.alike hK, hDc.weaken (fun _ _ _ _ => trivial)⟩⟩ rfl rfl hl.1 rfl (lv_room (Nat.le_of_ble_eq_true rfl)) d_MC_init_47 ⟨(Nat.le_of_ble_eq_true rfl), (Nat.le_of_ble_eq_true rfl)⟩) hS (fun q _ h => hFc q h) hFc (fun u47_97 t H1 locs ht hvm h9 hB hz1 hk1 hS => ?_)
  obtain ⟨hP1, hK1, hD1⟩ := hB
  rw [ht] at hP1
  obtain ⟨hP, hD⟩ := va_join (wr := [(h0, .inr (5, [.ref q7_5, .ref q16_9, .ref q25_13, .int (xw_i 0), .int (xw_i 0), .int (xw_i 0), .int (xw_i 0), .int (xw_i 0), .int (xw_i 0)])), (q7_5, .inl (cs 25, 8, .inr (.inr (.inr (.inr (va_up (va_up (va_up (va_up (va_up (va_up (fun _ => none) 0 (some q43_23)) 1 (some q43_35)) 2 (some q43_47)) 3 (some q43_59)) 4 (some q43_71)) 5 (some q43_83))))))), (q16_9, .inl (cs 20, 100, .inl (fun _ => xw_i 0))), (q25_13, .inl (cs 20, 160, .inl (fun _ => xw_i 0)))] ++ xn_FR cs q43_23 u47_25 ++ xn_FR cs q43_35 u47_37 ++ xn_FR cs q43_47 u47_49 ++ xn_FR cs q43_59 u47_61 ++ xn_FR cs q43_71 u47_73 ++ xn_FR cs q43_83 u47_85) (w1 := xn_FR cs q43_95 u47_97) hP hD [22] [0, 1, 2, 3, 4, 5, 6, 7, 8, 9, 10, 11, 12, 13, 14, 15, 16, 17, 18, 19, 20, 21] rfl rfl (by decide) (by decide) hk1 hFc hP1 hD1
  generalize H1 = H at hP hS ⊢
  refine W.widen (k := 24) (n := 401) (Nat.le_of_ble_eq_true rfl) (Nat.le_of_ble_eq_true rfl) ?_
  have hP : va_P D vwCl ([(h0, .inr (5, [.ref q7_5, .ref q16_9, .ref q25_13, .int (xw_i 0), .int (xw_i 0), .int (xw_i 0), .int (xw_i 0), .int (xw_i 0), .int (xw_i 0)])), (q7_5, .inl (cs 25, 8, .inr (.inr (.inr (.inr (va_up (va_up (va_up (va_up (va_up (va_up (fun _ => none) 0 (some q43_23)) 1 (some q43_35)) 2 (some q43_47)) 3 (some q43_59)) 4 (some q43_71)) 5 (some q43_83))))))), (q16_9, .inl (cs 20, 100, .inl (fun _ => xw_i 0))), (q25_13, .inl (cs 20, 160, .inl (fun _ => xw_i 0)))] ++ xn_FR cs q43_23 u47_25 ++ xn_FR cs q43_35 u47_37 ++ xn_FR cs q43_47 u47_49 ++ xn_FR cs q43_59 u47_61 ++ xn_FR cs q43_71 u47_73 ++ xn_FR cs q43_83 u47_85 ++ xn_FR cs q43_95 u47_97) H := hP
  have hD : va_D A ([(h0, .inr (5, [.ref q7_5, .ref q16_9, .ref q25_13, .int (xw_i 0), .int (xw_i 0), .int (xw_i 0), .int (xw_i 0), .int (xw_i 0), .int (xw_i 0)])), (q7_5, .inl (cs 25, 8, .inr (.inr (.inr (.inr (va_up (va_up (va_up (va_up (va_up (va_up (fun _ => none) 0 (some q43_23)) 1 (some q43_35)) 2 (some q43_47)) 3 (some q43_59)) 4 (some q43_71)) 5 (some q43_83))))))), (q16_9, .inl (cs 20, 100, .inl (fun _ => xw_i 0))), (q25_13, .inl (cs 20, 160, .inl (fun _ => xw_i 0)))] ++ xn_FR cs q43_23 u47_25 ++ xn_FR cs q43_35 u47_37 ++ xn_FR cs q43_47 u47_49 ++ xn_FR cs q43_59 u47_61 ++ xn_FR cs q43_71 u47_73 ++ xn_FR cs q43_83 u47_85 ++ xn_FR cs q43_95 u47_97) := hD
  refine xn_aast (x := 6) hx hb hK hP hD hS 1 5 22 3 rfl rfl rfl rfl (by decide) (by decide) d_MC_init_50 (fun H locs hP hD hS => ?_)
  have hP : va_P D vwCl ([(h0, .inr (5, [.ref q7_5, .ref q16_9, .ref q25_13, .int (xw_i 0), .int (xw_i 0), .int (xw_i 0), .int (xw_i 0), .int (xw_i 0), .int (xw_i 0)])), (q7_5, .inl (cs 25, 8, .inr (.inr (.inr (.inr (va_up (va_up (va_up (va_up (va_up (va_up (va_up (fun _ => none) 0 (some q43_23)) 1 (some q43_35)) 2 (some q43_47)) 3 (some q43_59)) 4 (some q43_71)) 5 (some q43_83)) 6 (some q43_95))))))), (q16_9, .inl (cs 20, 100, .inl (fun _ => xw_i 0))), (q25_13, .inl (cs 20, 160, .inl (fun _ => xw_i 0)))] ++ xn_FR cs q43_23 u47_25 ++ xn_FR cs q43_35 u47_37 ++ xn_FR cs q43_47 u47_49 ++ xn_FR cs q43_59 u47_61 ++ xn_FR cs q43_71 u47_73 ++ xn_FR cs q43_83 u47_85 ++ xn_FR cs q43_95 u47_97) H := hP
  have hD : va_D A ([(h0, .inr (5, [.ref q7_5, .ref q16_9, .ref q25_13, .int (xw_i 0), .int (xw_i 0), .int (xw_i 0), .int (xw_i 0), .int (xw_i 0), .int (xw_i 0)])), (q7_5, .inl (cs 25, 8, .inr (.inr (.inr (.inr (va_up (va_up (va_up (va_up (va_up (va_up (va_up (fun _ => none) 0 (some q43_23)) 1 (some q43_35)) 2 (some q43_47)) 3 (some q43_59)) 4 (some q43_71)) 5 (some q43_83)) 6 (some q43_95))))))), (q16_9, .inl (cs 20, 100, .inl (fun _ => xw_i 0))), (q25_13, .inl (cs 20, 160, .inl (fun _ => xw_i 0)))] ++ xn_FR cs q43_23 u47_25 ++ xn_FR cs q43_35 u47_37 ++ xn_FR cs q43_47 u47_49 ++ xn_FR cs q43_59 u47_61 ++ xn_FR cs q43_71 u47_73 ++ xn_FR cs q43_83 u47_85 ++ xn_FR cs q43_95 u47_97) := hD
  refine xw_iinc' (lv' := [(1, .int (xw_i 7)), (0, .ref h0)]) hx hb d_MC_init_51 hl (k := 0) rfl (by decide) rfl (fun ls hl => ?_)
  refine lv_goto (tgt := 32) hx hb d_MC_init_54 (by decide) ?_
  refine lv_iload_n hx hb d_MC_init_32 rfl (lv_at hl 0 rfl) ?_
  refine lv_bipush (v := xw_i 8) hx hb d_MC_init_33 (by decide) ?_
  refine lv_icmp_ge (tgt := 57) hx hb d_MC_init_35 (by decide) (fun h9 => absurd h9 (show ¬ xw_i 8 ≤ xw_i 7 by decide)) (fun _ => ?_)
  refine lv_aload_n hx hb d_MC_init_38 rfl (lv_at hl 1 rfl) ?_
  refine va_get (D := D) (ci := 5) (v := .ref q7_5) (C := "AdviceWeaver$Machine") (T := T_MC) (N := 9) hx hb hts hin_MC hown hK hP 0 rfl rfl 0 (by decide) (hts _ hw_312) (fun _ h9 => h9) rfl d_MC_init_39 ?_
  refine lv_iload_n hx hb d_MC_init_42 rfl (lv_at hl 0 rfl) ?_
  refine va_new (ci := 3) (fs := [.null, .null, .int (xw_i 0), .int (xw_i 0), .int (xw_i 0)]) (C := "AdviceWeaver$Frame") (T := T_FR) (N := 5) hx hb hts hin_FR ty_FR ty_FR_ok hown (hts _ hw_663) (hts _ hw_653) (hts _ hw_310) hK hP hD hS hA rfl (xn_df_FR) (Nat.le_of_ble_eq_true rfl) (Nat.le_of_ble_eq_true rfl) d_MC_init_43 (fun q43_107 H hP hD hS => ?_)
  refine W.widen (k := 25) (n := 406) (Nat.le_of_ble_eq_true rfl) (Nat.le_of_ble_eq_true rfl) ?_
  have hP : va_P D vwCl ([(h0, .inr (5, [.ref q7_5, .ref q16_9, .ref q25_13, .int (xw_i 0), .int (xw_i 0), .int (xw_i 0), .int (xw_i 0), .int (xw_i 0), .int (xw_i 0)])), (q7_5, .inl (cs 25, 8, .inr (.inr (.inr (.inr (va_up (va_up (va_up (va_up (va_up (va_up (va_up (fun _ => none) 0 (some q43_23)) 1 (some q43_35)) 2 (some q43_47)) 3 (some q43_59)) 4 (some q43_71)) 5 (some q43_83)) 6 (some q43_95))))))), (q16_9, .inl (cs 20, 100, .inl (fun _ => xw_i 0))), (q25_13, .inl (cs 20, 160, .inl (fun _ => xw_i 0)))] ++ xn_FR cs q43_23 u47_25 ++ xn_FR cs q43_35 u47_37 ++ xn_FR cs q43_47 u47_49 ++ xn_FR cs q43_59 u47_61 ++ xn_FR cs q43_71 u47_73 ++ xn_FR cs q43_83 u47_85 ++ xn_FR cs q43_95 u47_97 ++ [(q43_107, .inr (3, [.null, .null, .int (xw_i 0), .int (xw_i 0), .int (xw_i 0)]))]) H := hP
  have hD : va_D A ([(h0, .inr (5, [.ref q7_5, .ref q16_9, .ref q25_13, .int (xw_i 0), .int (xw_i 0), .int (xw_i 0), .int (xw_i 0), .int (xw_i 0), .int (xw_i 0)])), (q7_5, .inl (cs 25, 8, .inr (.inr (.inr (.inr (va_up (va_up (va_up (va_up (va_up (va_up (va_up (fun _ => none) 0 (some q43_23)) 1 (some q43_35)) 2 (some q43_47)) 3 (some q43_59)) 4 (some q43_71)) 5 (some q43_83)) 6 (some q43_95))))))), (q16_9, .inl (cs 20, 100, .inl (fun _ => xw_i 0))), (q25_13, .inl (cs 20, 160, .inl (fun _ => xw_i 0)))] ++ xn_FR cs q43_23 u47_25 ++ xn_FR cs q43_35 u47_37 ++ xn_FR cs q43_47 u47_49 ++ xn_FR cs q43_59 u47_61 ++ xn_FR cs q43_71 u47_73 ++ xn_FR cs q43_83 u47_85 ++ xn_FR cs q43_95 u47_97 ++ [(q43_107, .inr (3, [.null, .null, .int (xw_i 0), .int (xw_i 0), .int (xw_i 0)]))]) := hD
  refine lv_dup hx hb d_MC_init_46 rfl ?_
  have hPc := hP.sub (ws' := [(q43_107, .inr (3, [.null, .null, .int (xw_i 0), .int (xw_i 0), .int (xw_i 0)]))]) [25] rfl
  have hDc := hD.sub (ws' := [(q43_107, .inr (3, [.null, .null, .int (xw_i 0), .int (xw_i 0), .int (xw_i 0)]))]) [25] (by decide) rfl
  have hFc := va_free (wc := [(q43_107, .inr (3, [.null, .null, .int (xw_i 0), .int (xw_i 0), .int (xw_i 0)]))]) hD hS hA [25] rfl
  refine va_callv (va_runIN (As := []) (rest := [.ref q43_107, .int (xw_i 7), .ref q7_5]) ⟨hx, hb, hml, hown, hts⟩ (c_FR_init l D cs q43_107 H.size) ⟨va_cnB 0 hts (gd_I hw_636) rfl rfl rfl hX.2.2.2.2.1 (hts _ hw_310) (by decide +kernel) ⟨(Nat.le_of_ble_eq_true rfl), (Nat.le_of_ble_eq_true rfl)⟩, rfl, hts _ hw_635⟩ ⟨fun a U g mk q => by obtain ⟨q0, q1, qP, qK, qD⟩ := q; exact ⟨q0, q1, qP, va_K.moved (u := U) (U := U.calling g mk a) (Vm.Alike.refl U.vm) qK, qD⟩, fun U hU hW => ⟨rfl, by rw [hU], by rw [hU]; exact hPc, va_K.moved hW.alike hK, hDc.weaken (fun _ _ _ _ => trivial)⟩⟩ rfl rfl hl.1 rfl (lv_room (Nat.le_of_ble_eq_true rfl)) d_MC_init_47 ⟨(Nat.le_of_ble_eq_true rfl), (Nat.le_of_ble_eq_true rfl)⟩) hS (fun q _ h => hFc q h) hFc (fun u47_109 t H1 locs ht hvm h9 hB hz1 hk1 hS => ?_)
  obtain ⟨hP1, hK1, hD1⟩ := hB
  rw [ht] at hP1
  obtain ⟨hP, hD⟩ := va_join (wr := [(h0, .inr (5, [.ref q7_5, .ref q16_9, .ref q25_13, .int (xw_i 0), .int (xw_i 0), .int (xw_i 0), .int (xw_i 0), .int (xw_i 0), .int (xw_i 0)])), (q7_5, .inl (cs 25, 8, .inr (.inr (.inr (.inr (va_up (va_up (va_up (va_up (va_up (va_up (va_up (fun _ => none) 0 (some q43_23)) 1 (some q43_35)) 2 (some q43_47)) 3 (some q43_59)) 4 (some q43_71)) 5 (some q43_83)) 6 (some q43_95))))))), (q16_9, .inl (cs 20, 100, .inl (fun _ => xw_i 0))), (q25_13, .inl (cs 20, 160, .inl (fun _ => xw_i 0)))] ++ xn_FR cs q43_23 u47_25 ++ xn_FR cs q43_35 u47_37 ++ xn_FR cs q43_47 u47_49 ++ xn_FR cs q43_59 u47_61 ++ xn_FR cs q43_71 u47_73 ++ xn_FR cs q43_83 u47_85 ++ xn_FR cs q43_95 u47_97) (w1 := xn_FR cs q43_107 u47_109) hP hD [25] [0, 1, 2, 3, 4, 5, 6, 7, 8, 9, 10, 11, 12, 13, 14, 15, 16, 17, 18, 19, 20, 21, 22, 23, 24] rfl rfl (by decide) (by decide) hk1 hFc hP1 hD1
  generalize H1 = H at hP hS ⊢
  refine W.widen (k := 27) (n := 420) (Nat.le_of_ble_eq_true rfl) (Nat.le_of_ble_eq_true rfl) ?_
  have hP : va_P D vwCl ([(h0, .inr (5, [.ref q7_5, .ref q16_9, .ref q25_13, .int (xw_i 0), .int (xw_i 0), .int (xw_i 0), .int (xw_i 0), .int (xw_i 0), .int (xw_i 0)])), (q7_5, .inl (cs 25, 8, .inr (.inr (.inr (.inr (va_up (va_up (va_up (va_up (va_up (va_up (va_up (fun _ => none) 0 (some q43_23)) 1 (some q43_35)) 2 (some q43_47)) 3 (some q43_59)) 4 (some q43_71)) 5 (some q43_83)) 6 (some q43_95))))))), (q16_9, .inl (cs 20, 100, .inl (fun _ => xw_i 0))), (q25_13, .inl (cs 20, 160, .inl (fun _ => xw_i 0)))] ++ xn_FR cs q43_23 u47_25 ++ xn_FR cs q43_35 u47_37 ++ xn_FR cs q43_47 u47_49 ++ xn_FR cs q43_59 u47_61 ++ xn_FR cs q43_71 u47_73 ++ xn_FR cs q43_83 u47_85 ++ xn_FR cs q43_95 u47_97 ++ xn_FR cs q43_107 u47_109) H := hP
  have hD : va_D A ([(h0, .inr (5, [.ref q7_5, .ref q16_9, .ref q25_13, .int (xw_i 0), .int (xw_i 0), .int (xw_i 0), .int (xw_i 0), .int (xw_i 0), .int (xw_i 0)])), (q7_5, .inl (cs 25, 8, .inr (.inr (.inr (.inr (va_up (va_up (va_up (va_up (va_up (va_up (va_up (fun _ => none) 0 (some q43_23)) 1 (some q43_35)) 2 (some q43_47)) 3 (some q43_59)) 4 (some q43_71)) 5 (some q43_83)) 6 (some q43_95))))))), (q16_9, .inl (cs 20, 100, .inl (fun _ => xw_i 0))), (q25_13, .inl (cs 20, 160, .inl (fun _ => xw_i 0)))] ++ xn_FR cs q43_23 u47_25 ++ xn_FR cs q43_35 u47_37 ++ xn_FR cs q43_47 u47_49 ++ xn_FR cs q43_59 u47_61 ++ xn_FR cs q43_71 u47_73 ++ xn_FR cs q43_83 u47_85 ++ xn_FR cs q43_95 u47_97 ++ xn_FR cs q43_107 u47_109) := hD
  refine xn_aast (x := 7) hx hb hK hP hD hS 1 5 25 3 rfl rfl rfl rfl (by decide) (by decide) d_MC_init_50 (fun H locs hP hD hS => ?_)
  have hP : va_P D vwCl ([(h0, .inr (5, [.ref q7_5, .ref q16_9, .ref q25_13, .int (xw_i 0), .int (xw_i 0), .int (xw_i 0), .int (xw_i 0), .int (xw_i 0), .int (xw_i 0)])), (q7_5, .inl (cs 25, 8, .inr (.inr (.inr (.inr (va_up (va_up (va_up (va_up (va_up (va_up (va_up (va_up (fun _ => none) 0 (some q43_23)) 1 (some q43_35)) 2 (some q43_47)) 3 (some q43_59)) 4 (some q43_71)) 5 (some q43_83)) 6 (some q43_95)) 7 (some q43_107))))))), (q16_9, .inl (cs 20, 100, .inl (fun _ => xw_i 0))), (q25_13, .inl (cs 20, 160, .inl (fun _ => xw_i 0)))] ++ xn_FR cs q43_23 u47_25 ++ xn_FR cs q43_35 u47_37 ++ xn_FR cs q43_47 u47_49 ++ xn_FR cs q43_59 u47_61 ++ xn_FR cs q43_71 u47_73 ++ xn_FR cs q43_83 u47_85 ++ xn_FR cs q43_95 u47_97 ++ xn_FR cs q43_107 u47_109) H := hP
  have hD : va_D A ([(h0, .inr (5, [.ref q7_5, .ref q16_9, .ref q25_13, .int (xw_i 0), .int (xw_i 0), .int (xw_i 0), .int (xw_i 0), .int (xw_i 0), .int (xw_i 0)])), (q7_5, .inl (cs 25, 8, .inr (.inr (.inr (.inr (va_up (va_up (va_up (va_up (va_up (va_up (va_up (va_up (fun _ => none) 0 (some q43_23)) 1 (some q43_35)) 2 (some q43_47)) 3 (some q43_59)) 4 (some q43_71)) 5 (some q43_83)) 6 (some q43_95)) 7 (some q43_107))))))), (q16_9, .inl (cs 20, 100, .inl (fun _ => xw_i 0))), (q25_13, .inl (cs 20, 160, .inl (fun _ => xw_i 0)))] ++ xn_FR cs q43_23 u47_25 ++ xn_FR cs q43_35 u47_37 ++ xn_FR cs q43_47 u47_49 ++ xn_FR cs q43_59 u47_61 ++ xn_FR cs q43_71 u47_73 ++ xn_FR cs q43_83 u47_85 ++ xn_FR cs q43_95 u47_97 ++ xn_FR cs q43_107 u47_109) := hD
  refine xw_iinc' (lv' := [(1, .int (xw_i 8)), (0, .ref h0)]) hx hb d_MC_init_51 hl (k := 0) rfl (by decide) rfl (fun ls hl => ?_)
  refine lv_goto (tgt := 32) hx hb d_MC_init_54 (by decide) ?_
  refine lv_iload_n hx hb d_MC_init_32 rfl (lv_at hl 0 rfl) ?_
  refine lv_bipush (v := xw_i 8) hx hb d_MC_init_33 (by decide) ?_
  refine lv_icmp_ge (tgt := 57) hx hb d_MC_init_35 (by decide) (fun _ => ?_) (fun h9 => absurd (show xw_i 8 ≤ xw_i 8 by decide) h9)
  exact W.vret hx hb hr (fun t ht hW => ⟨⟨fun k => ([q7_5, q16_9, q25_13, q43_23, (u47_25 0), (u47_25 1), q43_35, (u47_37 0), (u47_37 1), q43_47, (u47_49 0), (u47_49 1), q43_59, (u47_61 0), (u47_61 1), q43_71, (u47_73 0), (u47_73 1), q43_83, (u47_85 0), (u47_85 1), q43_95, (u47_97 0), (u47_97 1), q43_107, (u47_109 0), (u47_109 1)] : List Nat).getD k 0, rfl, trivial, by rw [ht]; exact hP, va_K.moved hW.alike hK, hD⟩, hS.F ht⟩) hS.2.2 d_MC_init_57

