/-! 51: the law's walk, with an open relation between the two states (written by wip/gen/law.py) -/
def xl_put (fu : Nat) (Inv : xw_S → xw_S → Prop) : Prop := (∀ (σ ρ : xw_S) (a0 : Int) (a1 : Int), Inv σ ρ → xw_r a0 → xw_r a1 → ∃ σ' ρ' r, f_AW_put fu σ a0 a1 = some (σ', r) ∧ f_MD_put fu ρ a0 a1 = some (ρ', r) ∧ Inv σ' ρ')
def xl_clear (fu : Nat) (Inv : xw_S → xw_S → Prop) : Prop := (∀ (σ ρ : xw_S), Inv σ ρ → ∃ σ' ρ', f_AW_clear fu σ = some σ' ∧ f_MD_clear fu ρ = some ρ' ∧ Inv σ' ρ')
def xl_load (fu : Nat) (Inv : xw_S → xw_S → Prop) : Prop := (∀ (σ ρ : xw_S), Inv σ ρ → ∃ σ' ρ' r, f_AW_load fu σ = some (σ', r) ∧ f_MD_load fu ρ = some (ρ', r) ∧ Inv σ' ρ')
def xl_transformer (fu : Nat) (Inv : xw_S → xw_S → Prop) : Prop := (∀ (σ ρ : xw_S) (a0 : Int) (a1 : Int) (a2 : Int), Inv σ ρ → (a0 = 0 ∨ a0 = 1) → xw_r a1 → xw_r a2 → ∃ σ' ρ' r, f_AW_transformer fu σ a0 a1 a2 = some (σ', r) ∧ f_MD_transformer fu ρ a0 a1 a2 = some (ρ', r) ∧ Inv σ' ρ')
def xl_unchain (fu : Nat) (Inv : xw_S → xw_S → Prop) : Prop := (∀ (σ ρ : xw_S), Inv σ ρ → ∃ σ' ρ', f_AW_unchain fu σ = some σ' ∧ f_MD_unchain fu ρ = some ρ' ∧ Inv σ' ρ')
def xl_weave (fu : Nat) (Inv : xw_S → xw_S → Prop) : Prop := (∀ (σ ρ : xw_S), Inv σ ρ → ∃ σ' ρ' r, f_AW_weave fu σ = some (σ', r) ∧ f_MD_weave fu ρ = some (ρ', r) ∧ Inv σ' ρ')
def xl_failed (fu : Nat) (Inv : xw_S → xw_S → Prop) : Prop := (∀ (σ ρ : xw_S) (a0 : Int) (a1 : Int), Inv σ ρ → xw_r a0 → xw_r a1 → ∃ σ' ρ' r, f_AW_failed fu σ a0 a1 = some (σ', r) ∧ f_MD_failed fu ρ a0 a1 = some (ρ', r) ∧ Inv σ' ρ')
def xl_run (fu : Nat) (Inv : xw_S → xw_S → Prop) : Prop := (∀ (σ ρ : xw_S) (a0 : Int) (a1 : Int) (a2 : Int) (a3 : Int) (a4 : Int), Inv σ ρ → (a0 = 0 ∨ a0 = 1) → xw_r a1 → xw_r a2 → xw_r a3 → xw_r a4 → ∃ σ' ρ' r, f_AW_run fu σ a0 a1 a2 a3 a4 = some (σ', r) ∧ f_MD_run fu ρ a0 a1 a2 a3 a4 = some (ρ', r) ∧ Inv σ' ρ')
def xl_value (fu : Nat) (Inv : xw_S → xw_S → Prop) : Prop := (∀ (σ ρ : xw_S), Inv σ ρ → ∃ σ' ρ' r, f_AW_value fu σ = some (σ', r) ∧ f_MD_value fu ρ = some (ρ', r) ∧ Inv σ' ρ')
def xl_used (fu : Nat) (Inv : xw_S → xw_S → Prop) : Prop := (∀ (σ ρ : xw_S), Inv σ ρ → ∃ σ' ρ' r, f_AW_used fu σ = some (σ', r) ∧ f_MD_used fu ρ = some (ρ', r) ∧ Inv σ' ρ')
def xl_marks (fu : Nat) (Inv : xw_S → xw_S → Prop) : Prop := (∀ (σ ρ : xw_S), Inv σ ρ → ∃ σ' ρ' r, f_AW_marks fu σ = some (σ', r) ∧ f_MD_marks fu ρ = some (ρ', r) ∧ Inv σ' ρ')
def xl_mark (fu : Nat) (Inv : xw_S → xw_S → Prop) : Prop := (∀ (σ ρ : xw_S) (a0 : Int), Inv σ ρ → xw_r a0 → ∃ σ' ρ' r, f_AW_mark fu σ a0 = some (σ', r) ∧ f_MD_mark fu ρ a0 = some (ρ', r) ∧ Inv σ' ρ')
def xl_probe (fu : Nat) (Inv : xw_S → xw_S → Prop) : Prop := (∀ (σ ρ : xw_S) (a0 : Int) (a1 : Int), Inv σ ρ → xw_r a0 → xw_r a1 → ∃ σ' ρ' r, f_AW_probe fu σ a0 a1 = some (σ', r) ∧ f_MD_probe fu ρ a0 a1 = some (ρ', r) ∧ Inv σ' ρ')
def xl_shape (fu : Nat) (Inv : xw_S → xw_S → Prop) : Prop := (∀ (σ ρ : xw_S) (a0 : Int) (a1 : Int) (a2 : Int), Inv σ ρ → (a0 = 0 ∨ a0 = 1) → xw_r a1 → xw_r a2 → ∃ σ' ρ' r, f_AW_shape fu σ a0 a1 a2 = some (σ', r) ∧ f_MD_shape fu ρ a0 a1 a2 = some (ρ', r) ∧ Inv σ' ρ')
def xl_code (fu : Nat) (Inv : xw_S → xw_S → Prop) : Prop := (∀ (σ ρ : xw_S) (a0 : Int) (a1 : Int) (a2 : Int), Inv σ ρ → (a0 = 0 ∨ a0 = 1) → xw_r a1 → xw_r a2 → ∃ σ' ρ' r, f_AW_code fu σ a0 a1 a2 = some (σ', r) ∧ f_MD_code fu ρ a0 a1 a2 = some (ρ', r) ∧ Inv σ' ρ')
def xl_handler (fu : Nat) (Inv : xw_S → xw_S → Prop) : Prop := (∀ (σ ρ : xw_S) (a0 : Int) (a1 : Int) (a2 : Int) (a3 : Int), Inv σ ρ → (a0 = 0 ∨ a0 = 1) → xw_r a1 → xw_r a2 → xw_r a3 → ∃ σ' ρ' r, f_AW_handler fu σ a0 a1 a2 a3 = some (σ', r) ∧ f_MD_handler fu ρ a0 a1 a2 a3 = some (ρ', r) ∧ Inv σ' ρ')
def xl_depth (fu : Nat) (Inv : xw_S → xw_S → Prop) : Prop := (∀ (σ ρ : xw_S) (a0 : Int) (a1 : Int) (a2 : Int), Inv σ ρ → (a0 = 0 ∨ a0 = 1) → xw_r a1 → xw_r a2 → ∃ σ' ρ' r, f_AW_depth fu σ a0 a1 a2 = some (σ', r) ∧ f_MD_depth fu ρ a0 a1 a2 = some (ρ', r) ∧ Inv σ' ρ')
def xl_ok (fu : Nat) (Inv : xw_S → xw_S → Prop) : Prop := Inv xw_s0 xw_z0 ∧ xl_put fu Inv ∧ xl_clear fu Inv ∧ xl_load fu Inv ∧ xl_transformer fu Inv ∧ xl_unchain fu Inv ∧ xl_weave fu Inv ∧ xl_failed fu Inv ∧ xl_run fu Inv ∧ xl_value fu Inv ∧ xl_used fu Inv ∧ xl_marks fu Inv ∧ xl_mark fu Inv ∧ xl_probe fu Inv ∧ xl_shape fu Inv ∧ xl_code fu Inv ∧ xl_handler fu Inv ∧ xl_depth fu Inv
section XL
variable {p : Program} {l : Launch} {e : Env} {R : Room} {s : State} {m : MethodId} {args : Array Value} {below : List Frame} {meth : Method} {c : Code} {H : Heap} {locs : List Loc} {cells slots : Nat} {Q : State → Prop}
variable {cc : ByteArray} {pc : Nat} {ls : Array Slot} {rest : List Value} {D : va_G} {cl : List vw_C} {A : Nat → Prop} {kd : Nat → xw_T} {n : Nat} {ad : Nat → Nat} {cs : Nat → ClassId} {Z : va_W} {σ σ' : xw_S} {i N : Nat} {rs : List (Option Nat)} {tt : Nat → Nat} {Ts : List Cond}
variable {Ys : MethodName} {ws : List Cond} {rm : Room} {nL mL nn index : Nat} {own C : String} {T : u_T} {bytes : ByteArray} {ret9 : Option FieldType} {As st : List Value} {ci : Nat}
theorem xl_callVv (S : CallFix p m c cc nL s args Ts own) (hM : Met l Ys ws rm (va_Pc (.ref (ad i) :: As) (xw_H D cl A kd n ad cs Z tt σ)) (va_Qv (fun u => u = σ') (xw_H D cl A kd n ad cs Z tt) A) 0 0 A) (cw : CallW R s args own C index Ys bytes mL ret9 ws rm 0 0 nn) (hP : va_P D cl (xw_ws kd n ad cs Z σ) H) (hK : va_K D cl (xw_ty cs) s) (hD : va_D A (xw_wn n ad Z)) (hX : xw_Sx tt A s s.heap) (hS : va_S A s.heap H locs) (hi : i < n) (hk : kd i = (ci, N, rs)) (ht : ci < 20) (hc : cl[ci]? = some (C, T, N)) (hn : As.length = nn) (hsz : ls.size = nL) (hst : st = As.reverse ++ .ref (ad i) :: rest) (hW : (rest.map fun v => v.category).sum ≤ 8) (hdg : decode cc pc = .ok (.invokevirtual index, 3)) (hf : cells ≤ R.cells ∧ slots ≤ R.slots) (kk : ∀ (H1 : Heap) (locs1 : List Loc), va_P D cl (xw_ws kd n ad cs Z σ') H1 → va_S A s.heap H1 locs1 → W p l e R s m args below meth c H1 locs1 cells slots Q (F0 m (pc + 3) ls (rest))) : W p l e R s m args below meth c H locs cells slots Q (F0 m pc ls st) := by
  refine va_callv (va_runV (As := As) (rest := rest) S hM cw ⟨xw_bl, va_recv hK hP hc (xw_atO hi hk ht), fun U hU hW => ⟨rfl, xw_pre hP hK hD hX hS U hU hW⟩⟩ rfl hn hsz hst (lv_room hW) hdg hf) hS (fun q _ h => h) (fun q h => h) (fun u t H1 locs1 ht1 hvm hp hB hz hk1 hS1 => ?_)
  subst hp
  subst ht1
  exact kk _ locs1 hB.1 hS1
theorem xl_callVi {r0 : Int} (S : CallFix p m c cc nL s args Ts own) (hM : Met l Ys ws rm (va_Pc (.ref (ad i) :: As) (xw_H D cl A kd n ad cs Z tt σ)) (va_Qi (fun r u => r = xw_i r0 ∧ u = σ') (xw_H D cl A kd n ad cs Z tt) A) 0 0 A) (cw : CallW R s args own C index Ys bytes mL ret9 ws rm 0 0 nn) (hP : va_P D cl (xw_ws kd n ad cs Z σ) H) (hK : va_K D cl (xw_ty cs) s) (hD : va_D A (xw_wn n ad Z)) (hX : xw_Sx tt A s s.heap) (hS : va_S A s.heap H locs) (hi : i < n) (hk : kd i = (ci, N, rs)) (ht : ci < 20) (hc : cl[ci]? = some (C, T, N)) (hn : As.length = nn) (hsz : ls.size = nL) (hst : st = As.reverse ++ .ref (ad i) :: rest) (hW : (rest.map fun v => v.category).sum ≤ 8) (hdg : decode cc pc = .ok (.invokevirtual index, 3)) (hf : cells ≤ R.cells ∧ slots ≤ R.slots) (kk : ∀ (H1 : Heap) (locs1 : List Loc), va_P D cl (xw_ws kd n ad cs Z σ') H1 → va_S A s.heap H1 locs1 → W p l e R s m args below meth c H1 locs1 cells slots Q (F0 m (pc + 3) ls (.int (xw_i r0) :: rest))) : W p l e R s m args below meth c H locs cells slots Q (F0 m pc ls st) := by
  refine va_calli (va_runV (As := As) (rest := rest) S hM cw ⟨xw_bl, va_recv hK hP hc (xw_atO hi hk ht), fun U hU hW => ⟨rfl, xw_pre hP hK hD hX hS U hU hW⟩⟩ rfl hn hsz hst (lv_room hW) hdg hf) hS (fun q _ h => h) (fun q h => h) (fun r u t H1 locs1 ht1 hvm hp hB hz hk1 hS1 => ?_)
  obtain ⟨rfl, rfl⟩ := hp
  subst ht1
  exact kk _ locs1 hB.1 hS1
theorem xl_sld (hexec : p.tables.exec = Jvm.exec) (hb : c.code = cc) {b L : Nat} {xs : Nat → Int32} (hX : va_X b L xs s s.heap) (hbl : b < s.heap.size) (hbA : ¬ A b) (hS : va_S A s.heap H locs) {x : Nat} (hx : x < L) (hL : L ≤ 3072) (hdg : decode cc pc = .ok (.iaload, 1)) (kk : W p l e R s m args below meth c H locs cells slots Q (F0 m (pc + 1) ls (.int (xw_i (xs x).toInt) :: rest))) : W p l e R s m args below meth c H locs cells slots Q (F0 m pc ls (.int (xw_i (x : Int)) :: .ref b :: rest)) := by
  have hi := xw_in (i := (x : Int)) (n := L) ⟨by omega, by omega⟩ (by omega)
  refine va_sld hexec hb hX hbl hbA hS hi.1 hdg ?_
  rw [hi.2]
  rw [xw_back] at kk
  exact kk
theorem xl_iadd (hexec : p.tables.exec = Jvm.exec) (hb : c.code = cc) {x y : Int} (z : Int) (hz : x + y = z) (hdg : decode cc pc = .ok (.iadd, 1)) (k : W p l e R s m args below meth c H locs cells slots Q (F0 m (pc + 1) ls (.int (xw_i z) :: rest))) : W p l e R s m args below meth c H locs cells slots Q (F0 m pc ls (.int (xw_i y) :: .int (xw_i x) :: rest)) := lv_iadd hexec hb hdg (by rw [xw_add, hz]; exact k)
theorem xl_isub (hexec : p.tables.exec = Jvm.exec) (hb : c.code = cc) {x y : Int} (z : Int) (hz : x - y = z) (hdg : decode cc pc = .ok (.isub, 1)) (k : W p l e R s m args below meth c H locs cells slots Q (F0 m (pc + 1) ls (.int (xw_i z) :: rest))) : W p l e R s m args below meth c H locs cells slots Q (F0 m pc ls (.int (xw_i y) :: .int (xw_i x) :: rest)) := lv_isub hexec hb hdg (by rw [xw_sub, hz]; exact k)
end XL
theorem xl_g_AW_put : GoodIn lw_tbl (wsV "AdviceWeaverLaw" 13 "AdviceWeaver" y_AW_put w_AW_put) := xl_gV (lx_in _ lx_0) (lx_in _ lx_1) (lx_in _ lx_2) (lx_in _ lx_3) (lx_in _ lx_4)
theorem xl_g_MD_put : GoodIn lw_tbl (wsV "AdviceWeaverLaw" 17 "AdviceWeaverModel" y_MD_put w_MD_put) := xl_gV (lx_in _ lx_5) (lx_in _ lx_6) (lx_in _ lx_7) (lx_in _ lx_8) (lx_in _ lx_9)
theorem xl_g_AW_clear : GoodIn lw_tbl (wsV "AdviceWeaverLaw" 18 "AdviceWeaver" y_AW_clear w_AW_clear) := xl_gV (lx_in _ lx_10) (lx_in _ lx_11) (lx_in _ lx_12) (lx_in _ lx_3) (lx_in _ lx_13)
theorem xl_g_MD_clear : GoodIn lw_tbl (wsV "AdviceWeaverLaw" 21 "AdviceWeaverModel" y_MD_clear w_MD_clear) := xl_gV (lx_in _ lx_14) (lx_in _ lx_15) (lx_in _ lx_16) (lx_in _ lx_8) (lx_in _ lx_17)
theorem xl_g_AW_load : GoodIn lw_tbl (wsV "AdviceWeaverLaw" 22 "AdviceWeaver" y_AW_load w_AW_load) := xl_gV (lx_in _ lx_18) (lx_in _ lx_19) (lx_in _ lx_20) (lx_in _ lx_3) (lx_in _ lx_21)
theorem xl_g_MD_load : GoodIn lw_tbl (wsV "AdviceWeaverLaw" 26 "AdviceWeaverModel" y_MD_load w_MD_load) := xl_gV (lx_in _ lx_22) (lx_in _ lx_23) (lx_in _ lx_24) (lx_in _ lx_8) (lx_in _ lx_25)
theorem xl_g_AW_transformer : GoodIn lw_tbl (wsV "AdviceWeaverLaw" 27 "AdviceWeaver" y_AW_transformer w_AW_transformer) := xl_gV (lx_in _ lx_26) (lx_in _ lx_27) (lx_in _ lx_28) (lx_in _ lx_3) (lx_in _ lx_29)
theorem xl_g_MD_transformer : GoodIn lw_tbl (wsV "AdviceWeaverLaw" 31 "AdviceWeaverModel" y_MD_transformer w_MD_transformer) := xl_gV (lx_in _ lx_30) (lx_in _ lx_31) (lx_in _ lx_32) (lx_in _ lx_8) (lx_in _ lx_33)
theorem xl_g_AW_unchain : GoodIn lw_tbl (wsV "AdviceWeaverLaw" 32 "AdviceWeaver" y_AW_unchain w_AW_unchain) := xl_gV (lx_in _ lx_34) (lx_in _ lx_35) (lx_in _ lx_36) (lx_in _ lx_3) (lx_in _ lx_37)
theorem xl_g_MD_unchain : GoodIn lw_tbl (wsV "AdviceWeaverLaw" 35 "AdviceWeaverModel" y_MD_unchain w_MD_unchain) := xl_gV (lx_in _ lx_38) (lx_in _ lx_39) (lx_in _ lx_40) (lx_in _ lx_8) (lx_in _ lx_41)
theorem xl_g_AW_weave : GoodIn lw_tbl (wsV "AdviceWeaverLaw" 36 "AdviceWeaver" y_AW_weave w_AW_weave) := xl_gV (lx_in _ lx_42) (lx_in _ lx_43) (lx_in _ lx_44) (lx_in _ lx_3) (lx_in _ lx_45)
theorem xl_g_MD_weave : GoodIn lw_tbl (wsV "AdviceWeaverLaw" 39 "AdviceWeaverModel" y_MD_weave w_MD_weave) := xl_gV (lx_in _ lx_46) (lx_in _ lx_47) (lx_in _ lx_48) (lx_in _ lx_8) (lx_in _ lx_49)
theorem xl_g_AW_failed : GoodIn lw_tbl (wsV "AdviceWeaverLaw" 40 "AdviceWeaver" y_AW_failed w_AW_failed) := xl_gV (lx_in _ lx_50) (lx_in _ lx_51) (lx_in _ lx_52) (lx_in _ lx_3) (lx_in _ lx_53)
theorem xl_g_MD_failed : GoodIn lw_tbl (wsV "AdviceWeaverLaw" 43 "AdviceWeaverModel" y_MD_failed w_MD_failed) := xl_gV (lx_in _ lx_54) (lx_in _ lx_55) (lx_in _ lx_56) (lx_in _ lx_8) (lx_in _ lx_57)
theorem xl_g_AW_run : GoodIn lw_tbl (wsV "AdviceWeaverLaw" 44 "AdviceWeaver" y_AW_run w_AW_run) := xl_gV (lx_in _ lx_58) (lx_in _ lx_59) (lx_in _ lx_60) (lx_in _ lx_3) (lx_in _ lx_61)
theorem xl_g_MD_run : GoodIn lw_tbl (wsV "AdviceWeaverLaw" 48 "AdviceWeaverModel" y_MD_run w_MD_run) := xl_gV (lx_in _ lx_62) (lx_in _ lx_63) (lx_in _ lx_64) (lx_in _ lx_8) (lx_in _ lx_65)
theorem xl_g_AW_value : GoodIn lw_tbl (wsV "AdviceWeaverLaw" 49 "AdviceWeaver" y_AW_value w_AW_value) := xl_gV (lx_in _ lx_66) (lx_in _ lx_67) (lx_in _ lx_68) (lx_in _ lx_3) (lx_in _ lx_69)
theorem xl_g_MD_value : GoodIn lw_tbl (wsV "AdviceWeaverLaw" 52 "AdviceWeaverModel" y_MD_value w_MD_value) := xl_gV (lx_in _ lx_70) (lx_in _ lx_71) (lx_in _ lx_72) (lx_in _ lx_8) (lx_in _ lx_73)
theorem xl_g_AW_used : GoodIn lw_tbl (wsV "AdviceWeaverLaw" 53 "AdviceWeaver" y_AW_used w_AW_used) := xl_gV (lx_in _ lx_74) (lx_in _ lx_75) (lx_in _ lx_76) (lx_in _ lx_3) (lx_in _ lx_77)
theorem xl_g_MD_used : GoodIn lw_tbl (wsV "AdviceWeaverLaw" 56 "AdviceWeaverModel" y_MD_used w_MD_used) := xl_gV (lx_in _ lx_78) (lx_in _ lx_79) (lx_in _ lx_80) (lx_in _ lx_8) (lx_in _ lx_81)
theorem xl_g_AW_marks : GoodIn lw_tbl (wsV "AdviceWeaverLaw" 57 "AdviceWeaver" y_AW_marks w_AW_marks) := xl_gV (lx_in _ lx_82) (lx_in _ lx_83) (lx_in _ lx_84) (lx_in _ lx_3) (lx_in _ lx_85)
theorem xl_g_MD_marks : GoodIn lw_tbl (wsV "AdviceWeaverLaw" 60 "AdviceWeaverModel" y_MD_marks w_MD_marks) := xl_gV (lx_in _ lx_86) (lx_in _ lx_87) (lx_in _ lx_88) (lx_in _ lx_8) (lx_in _ lx_89)
theorem xl_g_AW_mark : GoodIn lw_tbl (wsV "AdviceWeaverLaw" 61 "AdviceWeaver" y_AW_mark w_AW_mark) := xl_gV (lx_in _ lx_90) (lx_in _ lx_91) (lx_in _ lx_92) (lx_in _ lx_3) (lx_in _ lx_93)
theorem xl_g_MD_mark : GoodIn lw_tbl (wsV "AdviceWeaverLaw" 65 "AdviceWeaverModel" y_MD_mark w_MD_mark) := xl_gV (lx_in _ lx_94) (lx_in _ lx_95) (lx_in _ lx_96) (lx_in _ lx_8) (lx_in _ lx_97)
theorem xl_g_AW_probe : GoodIn lw_tbl (wsV "AdviceWeaverLaw" 66 "AdviceWeaver" y_AW_probe w_AW_probe) := xl_gV (lx_in _ lx_98) (lx_in _ lx_99) (lx_in _ lx_100) (lx_in _ lx_3) (lx_in _ lx_101)
theorem xl_g_MD_probe : GoodIn lw_tbl (wsV "AdviceWeaverLaw" 70 "AdviceWeaverModel" y_MD_probe w_MD_probe) := xl_gV (lx_in _ lx_102) (lx_in _ lx_103) (lx_in _ lx_104) (lx_in _ lx_8) (lx_in _ lx_105)
theorem xl_g_AW_shape : GoodIn lw_tbl (wsV "AdviceWeaverLaw" 71 "AdviceWeaver" y_AW_shape w_AW_shape) := xl_gV (lx_in _ lx_106) (lx_in _ lx_107) (lx_in _ lx_108) (lx_in _ lx_3) (lx_in _ lx_109)
theorem xl_g_MD_shape : GoodIn lw_tbl (wsV "AdviceWeaverLaw" 74 "AdviceWeaverModel" y_MD_shape w_MD_shape) := xl_gV (lx_in _ lx_110) (lx_in _ lx_111) (lx_in _ lx_112) (lx_in _ lx_8) (lx_in _ lx_113)
theorem xl_g_AW_code : GoodIn lw_tbl (wsV "AdviceWeaverLaw" 75 "AdviceWeaver" y_AW_code w_AW_code) := xl_gV (lx_in _ lx_114) (lx_in _ lx_115) (lx_in _ lx_116) (lx_in _ lx_3) (lx_in _ lx_117)
theorem xl_g_MD_code : GoodIn lw_tbl (wsV "AdviceWeaverLaw" 78 "AdviceWeaverModel" y_MD_code w_MD_code) := xl_gV (lx_in _ lx_118) (lx_in _ lx_119) (lx_in _ lx_120) (lx_in _ lx_8) (lx_in _ lx_121)
theorem xl_g_AW_handler : GoodIn lw_tbl (wsV "AdviceWeaverLaw" 79 "AdviceWeaver" y_AW_handler w_AW_handler) := xl_gV (lx_in _ lx_122) (lx_in _ lx_123) (lx_in _ lx_124) (lx_in _ lx_3) (lx_in _ lx_125)
theorem xl_g_MD_handler : GoodIn lw_tbl (wsV "AdviceWeaverLaw" 83 "AdviceWeaverModel" y_MD_handler w_MD_handler) := xl_gV (lx_in _ lx_126) (lx_in _ lx_127) (lx_in _ lx_128) (lx_in _ lx_8) (lx_in _ lx_129)
theorem xl_g_AW_depth : GoodIn lw_tbl (wsV "AdviceWeaverLaw" 84 "AdviceWeaver" y_AW_depth w_AW_depth) := xl_gV (lx_in _ lx_130) (lx_in _ lx_131) (lx_in _ lx_132) (lx_in _ lx_3) (lx_in _ lx_133)
theorem xl_g_MD_depth : GoodIn lw_tbl (wsV "AdviceWeaverLaw" 87 "AdviceWeaverModel" y_MD_depth w_MD_depth) := xl_gV (lx_in _ lx_134) (lx_in _ lx_135) (lx_in _ lx_136) (lx_in _ lx_8) (lx_in _ lx_137)
def xl_A (s : State) : Nat → Prop := fun q => s.heap.size ≤ q
set_option maxRecDepth 100000 in
set_option maxHeartbeats 8000000 in
theorem xl_loop {p : Program} {e : Env} {s : State} {m : MethodId} {below : List Frame} {meth : Method} {c : Code} (l : Launch) {b L fu : Nat} {xs : Nat → Int32} {Inv : xw_S → xw_S → Prop} {D : va_G} {cs : Nat → ClassId} {aC aR tt : Nat → Nat} (hL : L ≤ 3072) (C0 : lw_At p s m meth c b L xs) (hts : ∀ w ∈ wAll, w.before #[Value.ref b] s = true) (hI : xl_ok fu Inv) (hK : va_K D vwCl (xw_ty cs) s) (hDD : va_D (xl_A s) (xw_wn 100 aC (xw_wn 29 aR []))) (hZ : xw_Sx tt (xl_A s) s s.heap) : ∀ (d k : Nat) (σ ρ : xw_S) (H : Heap) (locs : List Loc) (ls : Array Slot), L ≤ 6 * k + d → 6 * k ≤ L + 5 → Inv σ ρ → va_P D vwCl (xw_ws kdC 100 aC cs (xw_ws kdR 29 aR cs [] ρ) σ) H → va_S (xl_A s) s.heap H locs → lv_has ls 4 [(0, .ref b), (1, .ref (aC 0)), (2, .ref (aR 0)), (3, .int (xw_i ((6 * k : Nat) : Int)))] → W p l e room_1 s m #[Value.ref b] below meth c H locs 129 8550 (lw_Z below #[Value.ref b] s) (F0 m 18 ls []) := by
  obtain ⟨hx, hb, hr, hml, hown, htl, hX, hbl, hlk, -⟩ := C0
  have hbA : ¬ xl_A s b := fun h => by unfold xl_A at h; omega
  have hDC : ∀ ρ, va_D (xl_A s) (xw_wn 100 aC (xw_ws kdR 29 aR cs [] ρ)) := fun ρ => xl_Daddr (by simp [xl_mapws, xl_mapwn]) hDD
  have hDsw : va_D (xl_A s) (xw_wn 29 aR (xw_wn 100 aC [])) := xl_Daddr (by simp [xw_wn, Function.comp_def]) (xl_Dsw (X := (List.range 100).map (fun i => (aC i, .inr (0, [])))) (Y := xw_wn 29 aR []) hDD)
  have hDR : ∀ σ, va_D (xl_A s) (xw_wn 29 aR (xw_ws kdC 100 aC cs [] σ)) := fun σ => xl_Daddr (by simp [xl_mapws, xl_mapwn]) hDsw
  intro d
  induction d with
  | zero =>
    intro k σ ρ H locs ls hd hk hInv hP hS hl
    refine lv_iload_n hx hb d_LW_law_18 rfl (lv_at hl 3 rfl) ?_
    refine lv_aload_n hx hb d_LW_law_19 rfl (lv_at hl 0 rfl) ?_
    refine va_slen hx hb hX hbl hbA hS d_LW_law_20 ?_
    refine lv_bipush (v := xw_i 6) hx hb d_LW_law_21 (by decide) ?_
    refine xl_isub (x := (L : Int)) hx hb ((L : Int) - 6) rfl d_LW_law_23 ?_
    refine lv_icmp_gt (tgt := 715) hx hb d_LW_law_24 (by decide) (fun _ => ?_) (fun h9 => absurd ((xw_lt (x := (L : Int) - 6) (y := ((6 * k : Nat) : Int)) ⟨by omega, by omega⟩ ⟨by omega, by omega⟩).mpr (by omega)) h9)
    refine va_forget (fun q hq => hS.2.2 q hq) ?_
    refine lv_iconst (v := 1) hx hb d_LW_law_715 (by decide) ?_
    refine W.widen (k := 600000) (n := 7302249) (by decide) (by decide) ?_
    exact lw_ret hx hb hr hlk d_LW_law_716
  | succ d ih =>
    intro k σ ρ H locs ls hd hk hInv hP hS hl
    refine lv_iload_n hx hb d_LW_law_18 rfl (lv_at hl 3 rfl) ?_
    refine lv_aload_n hx hb d_LW_law_19 rfl (lv_at hl 0 rfl) ?_
    refine va_slen hx hb hX hbl hbA hS d_LW_law_20 ?_
    refine lv_bipush (v := xw_i 6) hx hb d_LW_law_21 (by decide) ?_
    refine xl_isub (x := (L : Int)) hx hb ((L : Int) - 6) rfl d_LW_law_23 ?_
    refine lv_icmp_gt (tgt := 715) hx hb d_LW_law_24 (by decide) (fun _ => ?_) (fun h9 => ?_)
    · skip
      refine va_forget (fun q hq => hS.2.2 q hq) ?_
      refine lv_iconst (v := 1) hx hb d_LW_law_715 (by decide) ?_
      refine W.widen (k := 600000) (n := 7302249) (by decide) (by decide) ?_
      exact lw_ret hx hb hr hlk d_LW_law_716
    · have hin : 6 * k + 5 < L := Nat.lt_of_not_le (fun hge => h9 ((xw_lt (x := (L : Int) - 6) (y := ((6 * k : Nat) : Int)) ⟨by omega, by omega⟩ ⟨by omega, by omega⟩).mpr (by omega)))
      have nxt : ∀ (σ ρ : xw_S) (H : Heap) (locs : List Loc) (ls : Array Slot), Inv σ ρ → va_P D vwCl (xw_ws kdC 100 aC cs (xw_ws kdR 29 aR cs [] ρ) σ) H → va_S (xl_A s) s.heap H locs → lv_has ls 4 [(0, .ref b), (1, .ref (aC 0)), (2, .ref (aR 0)), (3, .int (xw_i ((6 * k : Nat) : Int)))] → W p l e room_1 s m #[Value.ref b] below meth c H locs 129 8550 (lw_Z below #[Value.ref b] s) (F0 m 709 ls []) := by
        intro σ ρ H locs ls hInv hP hS hl
        refine xw_iinc' (lv' := [(3, .int (xw_i ((6 * (k + 1) : Nat) : Int))), (0, .ref b), (1, .ref (aC 0)), (2, .ref (aR 0))]) hx hb d_LW_law_709 hl (k := 3) rfl (by decide) (by rw [show ((6 * (k + 1) : Nat) : Int) = ((6 * k : Nat) : Int) + 6 by omega]; rfl) (fun ls hl => ?_)
        refine lv_goto (tgt := 18) hx hb d_LW_law_712 (by decide) ?_
        exact ih (k + 1) σ ρ H locs ls (by omega) (by omega) hInv hP hS (lv_sub hl [1, 2, 3, 0] rfl)
      refine lv_aload_n hx hb d_LW_law_27 rfl (lv_at hl 0 rfl) ?_
      refine lv_iload_n hx hb d_LW_law_28 rfl (lv_at hl 3 rfl) ?_
      refine xl_sld (x := 6 * k) hx hb hX hbl hbA hS (by omega) hL d_LW_law_29 ?_
      refine lv_bipush (v := xw_i 31) hx hb d_LW_law_30 (by decide) ?_
      refine lv_iand hx hb d_LW_law_32 ?_
      obtain ⟨j, hj, ej⟩ := pk_andE (xw_i (xs (6 * k)).toInt) (m := xw_i 31) 5 (by decide)
      rw [ej]
      clear ej
      rcases (show j = 0 ∨ j = 1 ∨ j = 2 ∨ j = 3 ∨ j = 4 ∨ j = 5 ∨ j = 6 ∨ j = 7 ∨ j = 8 ∨ j = 9 ∨ j = 10 ∨ j = 11 ∨ j = 12 ∨ j = 13 ∨ j = 14 ∨ j = 15 ∨ j = 16 ∨ 17 ≤ j by omega) with rfl | rfl | rfl | rfl | rfl | rfl | rfl | rfl | rfl | rfl | rfl | rfl | rfl | rfl | rfl | rfl | rfl | hj17
      · refine lv_tableIn (off := 83) (tgt := 116) hx hb d_LW_law_33 (by decide) (by decide) (by decide) (by decide) ?_
        obtain ⟨σ', ρ', r0, e1, e2, hInv'⟩ := hI.2.1 σ ρ (xs (6 * k + 1)).toInt (xs (6 * k + 2)).toInt hInv (xw_rT _) (xw_rT _)
        refine lv_aload_n hx hb d_LW_law_116 rfl (lv_at hl 1 rfl) ?_
        refine lv_aload_n hx hb d_LW_law_117 rfl (lv_at hl 0 rfl) ?_
        refine lv_iload_n hx hb d_LW_law_118 rfl (lv_at hl 3 rfl) ?_
        refine lv_iconst (v := xw_i 1) hx hb d_LW_law_119 rfl ?_
        refine xl_iadd hx hb ((6 * k + 1 : Nat) : Int) (by omega) d_LW_law_120 ?_
        refine xl_sld (x := 6 * k + 1) hx hb hX hbl hbA hS (by omega) hL d_LW_law_121 ?_
        refine lv_aload_n hx hb d_LW_law_122 rfl (lv_at hl 0 rfl) ?_
        refine lv_iload_n hx hb d_LW_law_123 rfl (lv_at hl 3 rfl) ?_
        refine lv_iconst (v := xw_i 2) hx hb d_LW_law_124 rfl ?_
        refine xl_iadd hx hb ((6 * k + 2 : Nat) : Int) (by omega) d_LW_law_125 ?_
        refine xl_sld (x := 6 * k + 2) hx hb hX hbl hbA hS (by omega) hL d_LW_law_126 ?_
        refine xl_callVi (C := "AdviceWeaver") (T := T_AW) (As := [.int (xw_i (xs (6 * k + 1)).toInt), .int (xw_i (xs (6 * k + 2)).toInt)]) (rest := []) (Ts := lw_tbl) ⟨hx, hb, hml, hown, htl⟩ (c_AW_put l D (xl_A s) aC cs (xw_ws kdR 29 aR cs [] ρ) tt fu σ σ' (xs (6 * k + 1)).toInt (xs (6 * k + 2)).toInt r0 e1) (cwV 2 htl (xl_g_AW_put) rfl rfl rfl (by decide +kernel) ⟨(Nat.le_of_ble_eq_true rfl), (Nat.le_of_ble_eq_true rfl)⟩) hP hK (hDC ρ) hZ hS (by decide) kc_AW (by decide) rfl rfl hl.1 rfl (Nat.le_of_ble_eq_true rfl) d_LW_law_127 ⟨by decide, by decide⟩ (fun H locs hP hS => ?_)
        refine lv_aload_n hx hb d_LW_law_130 rfl (lv_at hl 2 rfl) ?_
        refine lv_aload_n hx hb d_LW_law_131 rfl (lv_at hl 0 rfl) ?_
        refine lv_iload_n hx hb d_LW_law_132 rfl (lv_at hl 3 rfl) ?_
        refine lv_iconst (v := xw_i 1) hx hb d_LW_law_133 rfl ?_
        refine xl_iadd hx hb ((6 * k + 1 : Nat) : Int) (by omega) d_LW_law_134 ?_
        refine xl_sld (x := 6 * k + 1) hx hb hX hbl hbA hS (by omega) hL d_LW_law_135 ?_
        refine lv_aload_n hx hb d_LW_law_136 rfl (lv_at hl 0 rfl) ?_
        refine lv_iload_n hx hb d_LW_law_137 rfl (lv_at hl 3 rfl) ?_
        refine lv_iconst (v := xw_i 2) hx hb d_LW_law_138 rfl ?_
        refine xl_iadd hx hb ((6 * k + 2 : Nat) : Int) (by omega) d_LW_law_139 ?_
        refine xl_sld (x := 6 * k + 2) hx hb hX hbl hbA hS (by omega) hL d_LW_law_140 ?_
        refine xl_callVi (C := "AdviceWeaverModel") (T := T_MD) (As := [.int (xw_i (xs (6 * k + 1)).toInt), .int (xw_i (xs (6 * k + 2)).toInt)]) (rest := [.int (xw_i r0)]) (Ts := lw_tbl) ⟨hx, hb, hml, hown, htl⟩ (c_MD_put l D (xl_A s) aR cs (xw_ws kdC 100 aC cs [] σ') tt fu ρ ρ' (xs (6 * k + 1)).toInt (xs (6 * k + 2)).toInt r0 e2) (cwV 2 htl (xl_g_MD_put) rfl rfl rfl (by decide +kernel) ⟨(Nat.le_of_ble_eq_true rfl), (Nat.le_of_ble_eq_true rfl)⟩) (xl_sw hP) hK (hDR σ') hZ hS (by decide) kr_MD (by decide) rfl rfl hl.1 rfl (Nat.le_of_ble_eq_true rfl) d_LW_law_141 ⟨by decide, by decide⟩ (fun H locs hP hS => ?_)
        replace hP := xl_sw hP
        refine lv_icmp_eq (tgt := 709) hx hb d_LW_law_144 (by decide) (fun _ => ?_) (fun h9 => absurd rfl h9)
        exact nxt σ' ρ' H locs ls hInv' hP hS hl
      · refine lv_tableIn (off := 116) (tgt := 149) hx hb d_LW_law_33 (by decide) (by decide) (by decide) (by decide) ?_
        obtain ⟨σ', ρ', e1, e2, hInv'⟩ := hI.2.2.1 σ ρ hInv
        refine lv_aload_n hx hb d_LW_law_149 rfl (lv_at hl 1 rfl) ?_
        refine xl_callVv (C := "AdviceWeaver") (T := T_AW) (As := []) (rest := []) (Ts := lw_tbl) ⟨hx, hb, hml, hown, htl⟩ (c_AW_clear l D (xl_A s) aC cs (xw_ws kdR 29 aR cs [] ρ) tt fu σ σ' e1) (cwV 0 htl (xl_g_AW_clear) rfl rfl rfl (by decide +kernel) ⟨(Nat.le_of_ble_eq_true rfl), (Nat.le_of_ble_eq_true rfl)⟩) hP hK (hDC ρ) hZ hS (by decide) kc_AW (by decide) rfl rfl hl.1 rfl (Nat.le_of_ble_eq_true rfl) d_LW_law_150 ⟨by decide, by decide⟩ (fun H locs hP hS => ?_)
        refine lv_aload_n hx hb d_LW_law_153 rfl (lv_at hl 2 rfl) ?_
        refine xl_callVv (C := "AdviceWeaverModel") (T := T_MD) (As := []) (rest := []) (Ts := lw_tbl) ⟨hx, hb, hml, hown, htl⟩ (c_MD_clear l D (xl_A s) aR cs (xw_ws kdC 100 aC cs [] σ') tt fu ρ ρ' e2) (cwV 0 htl (xl_g_MD_clear) rfl rfl rfl (by decide +kernel) ⟨(Nat.le_of_ble_eq_true rfl), (Nat.le_of_ble_eq_true rfl)⟩) (xl_sw hP) hK (hDR σ') hZ hS (by decide) kr_MD (by decide) rfl rfl hl.1 rfl (Nat.le_of_ble_eq_true rfl) d_LW_law_154 ⟨by decide, by decide⟩ (fun H locs hP hS => ?_)
        replace hP := xl_sw hP
        refine lv_goto (tgt := 709) hx hb d_LW_law_157 (by decide) ?_
        exact nxt σ' ρ' H locs ls hInv' hP hS hl
      · refine lv_tableIn (off := 127) (tgt := 160) hx hb d_LW_law_33 (by decide) (by decide) (by decide) (by decide) ?_
        obtain ⟨σ', ρ', r0, e1, e2, hInv'⟩ := hI.2.2.2.1 σ ρ hInv
        refine lv_aload_n hx hb d_LW_law_160 rfl (lv_at hl 1 rfl) ?_
        refine xl_callVi (C := "AdviceWeaver") (T := T_AW) (As := []) (rest := []) (Ts := lw_tbl) ⟨hx, hb, hml, hown, htl⟩ (c_AW_load l D (xl_A s) aC cs (xw_ws kdR 29 aR cs [] ρ) tt fu σ σ' r0 e1) (cwV 0 htl (xl_g_AW_load) rfl rfl rfl (by decide +kernel) ⟨(Nat.le_of_ble_eq_true rfl), (Nat.le_of_ble_eq_true rfl)⟩) hP hK (hDC ρ) hZ hS (by decide) kc_AW (by decide) rfl rfl hl.1 rfl (Nat.le_of_ble_eq_true rfl) d_LW_law_161 ⟨by decide, by decide⟩ (fun H locs hP hS => ?_)
        refine lv_aload_n hx hb d_LW_law_164 rfl (lv_at hl 2 rfl) ?_
        refine xl_callVi (C := "AdviceWeaverModel") (T := T_MD) (As := []) (rest := [.int (xw_i r0)]) (Ts := lw_tbl) ⟨hx, hb, hml, hown, htl⟩ (c_MD_load l D (xl_A s) aR cs (xw_ws kdC 100 aC cs [] σ') tt fu ρ ρ' r0 e2) (cwV 0 htl (xl_g_MD_load) rfl rfl rfl (by decide +kernel) ⟨(Nat.le_of_ble_eq_true rfl), (Nat.le_of_ble_eq_true rfl)⟩) (xl_sw hP) hK (hDR σ') hZ hS (by decide) kr_MD (by decide) rfl rfl hl.1 rfl (Nat.le_of_ble_eq_true rfl) d_LW_law_165 ⟨by decide, by decide⟩ (fun H locs hP hS => ?_)
        replace hP := xl_sw hP
        refine lv_icmp_eq (tgt := 709) hx hb d_LW_law_168 (by decide) (fun _ => ?_) (fun h9 => absurd rfl h9)
        exact nxt σ' ρ' H locs ls hInv' hP hS hl
      · refine lv_tableIn (off := 140) (tgt := 173) hx hb d_LW_law_33 (by decide) (by decide) (by decide) (by decide) ?_
        by_cases hw : xw_i (xs (6 * k + 1)).toInt = 0
        · obtain ⟨σ', ρ', r0, e1, e2, hInv'⟩ := hI.2.2.2.2.1 σ ρ 0 (xs (6 * k + 2)).toInt (xs (6 * k + 3)).toInt hInv (by decide) (xw_rT _) (xw_rT _)
          refine lv_aload_n hx hb d_LW_law_173 rfl (lv_at hl 1 rfl) ?_
          refine lv_aload_n hx hb d_LW_law_174 rfl (lv_at hl 0 rfl) ?_
          refine lv_iload_n hx hb d_LW_law_175 rfl (lv_at hl 3 rfl) ?_
          refine lv_iconst (v := xw_i 1) hx hb d_LW_law_176 rfl ?_
          refine xl_iadd hx hb ((6 * k + 1 : Nat) : Int) (by omega) d_LW_law_177 ?_
          refine xl_sld (x := 6 * k + 1) hx hb hX hbl hbA hS (by omega) hL d_LW_law_178 ?_
          refine lv_if_eq (tgt := 186) hx hb d_LW_law_179 (by decide) (fun _ => ?_) (fun h9 => absurd hw h9)
          refine lv_iconst (v := xw_i 0) hx hb d_LW_law_186 rfl ?_
          refine lv_aload_n hx hb d_LW_law_187 rfl (lv_at hl 0 rfl) ?_
          refine lv_iload_n hx hb d_LW_law_188 rfl (lv_at hl 3 rfl) ?_
          refine lv_iconst (v := xw_i 2) hx hb d_LW_law_189 rfl ?_
          refine xl_iadd hx hb ((6 * k + 2 : Nat) : Int) (by omega) d_LW_law_190 ?_
          refine xl_sld (x := 6 * k + 2) hx hb hX hbl hbA hS (by omega) hL d_LW_law_191 ?_
          refine lv_aload_n hx hb d_LW_law_192 rfl (lv_at hl 0 rfl) ?_
          refine lv_iload_n hx hb d_LW_law_193 rfl (lv_at hl 3 rfl) ?_
          refine lv_iconst (v := xw_i 3) hx hb d_LW_law_194 rfl ?_
          refine xl_iadd hx hb ((6 * k + 3 : Nat) : Int) (by omega) d_LW_law_195 ?_
          refine xl_sld (x := 6 * k + 3) hx hb hX hbl hbA hS (by omega) hL d_LW_law_196 ?_
          refine xl_callVi (C := "AdviceWeaver") (T := T_AW) (As := [.int (xw_i 0), .int (xw_i (xs (6 * k + 2)).toInt), .int (xw_i (xs (6 * k + 3)).toInt)]) (rest := []) (Ts := lw_tbl) ⟨hx, hb, hml, hown, htl⟩ (c_AW_transformer l D (xl_A s) aC cs (xw_ws kdR 29 aR cs [] ρ) tt fu σ σ' 0 (xs (6 * k + 2)).toInt (xs (6 * k + 3)).toInt r0 e1) (cwV 3 htl (xl_g_AW_transformer) rfl rfl rfl (by decide +kernel) ⟨(Nat.le_of_ble_eq_true rfl), (Nat.le_of_ble_eq_true rfl)⟩) hP hK (hDC ρ) hZ hS (by decide) kc_AW (by decide) rfl rfl hl.1 rfl (Nat.le_of_ble_eq_true rfl) d_LW_law_197 ⟨by decide, by decide⟩ (fun H locs hP hS => ?_)
          refine lv_aload_n hx hb d_LW_law_200 rfl (lv_at hl 2 rfl) ?_
          refine lv_aload_n hx hb d_LW_law_201 rfl (lv_at hl 0 rfl) ?_
          refine lv_iload_n hx hb d_LW_law_202 rfl (lv_at hl 3 rfl) ?_
          refine lv_iconst (v := xw_i 1) hx hb d_LW_law_203 rfl ?_
          refine xl_iadd hx hb ((6 * k + 1 : Nat) : Int) (by omega) d_LW_law_204 ?_
          refine xl_sld (x := 6 * k + 1) hx hb hX hbl hbA hS (by omega) hL d_LW_law_205 ?_
          refine lv_if_eq (tgt := 213) hx hb d_LW_law_206 (by decide) (fun _ => ?_) (fun h9 => absurd hw h9)
          refine lv_iconst (v := xw_i 0) hx hb d_LW_law_213 rfl ?_
          refine lv_aload_n hx hb d_LW_law_214 rfl (lv_at hl 0 rfl) ?_
          refine lv_iload_n hx hb d_LW_law_215 rfl (lv_at hl 3 rfl) ?_
          refine lv_iconst (v := xw_i 2) hx hb d_LW_law_216 rfl ?_
          refine xl_iadd hx hb ((6 * k + 2 : Nat) : Int) (by omega) d_LW_law_217 ?_
          refine xl_sld (x := 6 * k + 2) hx hb hX hbl hbA hS (by omega) hL d_LW_law_218 ?_
          refine lv_aload_n hx hb d_LW_law_219 rfl (lv_at hl 0 rfl) ?_
          refine lv_iload_n hx hb d_LW_law_220 rfl (lv_at hl 3 rfl) ?_
          refine lv_iconst (v := xw_i 3) hx hb d_LW_law_221 rfl ?_
          refine xl_iadd hx hb ((6 * k + 3 : Nat) : Int) (by omega) d_LW_law_222 ?_
          refine xl_sld (x := 6 * k + 3) hx hb hX hbl hbA hS (by omega) hL d_LW_law_223 ?_
          refine xl_callVi (C := "AdviceWeaverModel") (T := T_MD) (As := [.int (xw_i 0), .int (xw_i (xs (6 * k + 2)).toInt), .int (xw_i (xs (6 * k + 3)).toInt)]) (rest := [.int (xw_i r0)]) (Ts := lw_tbl) ⟨hx, hb, hml, hown, htl⟩ (c_MD_transformer l D (xl_A s) aR cs (xw_ws kdC 100 aC cs [] σ') tt fu ρ ρ' 0 (xs (6 * k + 2)).toInt (xs (6 * k + 3)).toInt r0 e2) (cwV 3 htl (xl_g_MD_transformer) rfl rfl rfl (by decide +kernel) ⟨(Nat.le_of_ble_eq_true rfl), (Nat.le_of_ble_eq_true rfl)⟩) (xl_sw hP) hK (hDR σ') hZ hS (by decide) kr_MD (by decide) rfl rfl hl.1 rfl (Nat.le_of_ble_eq_true rfl) d_LW_law_224 ⟨by decide, by decide⟩ (fun H locs hP hS => ?_)
          replace hP := xl_sw hP
          refine lv_icmp_eq (tgt := 709) hx hb d_LW_law_227 (by decide) (fun _ => ?_) (fun h9 => absurd rfl h9)
          exact nxt σ' ρ' H locs ls hInv' hP hS hl
        · obtain ⟨σ', ρ', r0, e1, e2, hInv'⟩ := hI.2.2.2.2.1 σ ρ 1 (xs (6 * k + 2)).toInt (xs (6 * k + 3)).toInt hInv (by decide) (xw_rT _) (xw_rT _)
          refine lv_aload_n hx hb d_LW_law_173 rfl (lv_at hl 1 rfl) ?_
          refine lv_aload_n hx hb d_LW_law_174 rfl (lv_at hl 0 rfl) ?_
          refine lv_iload_n hx hb d_LW_law_175 rfl (lv_at hl 3 rfl) ?_
          refine lv_iconst (v := xw_i 1) hx hb d_LW_law_176 rfl ?_
          refine xl_iadd hx hb ((6 * k + 1 : Nat) : Int) (by omega) d_LW_law_177 ?_
          refine xl_sld (x := 6 * k + 1) hx hb hX hbl hbA hS (by omega) hL d_LW_law_178 ?_
          refine lv_if_eq (tgt := 186) hx hb d_LW_law_179 (by decide) (fun h9 => absurd h9 hw) (fun _ => ?_)
          refine lv_iconst (v := xw_i 1) hx hb d_LW_law_182 rfl ?_
          refine lv_goto (tgt := 187) hx hb d_LW_law_183 (by decide) ?_
          refine lv_aload_n hx hb d_LW_law_187 rfl (lv_at hl 0 rfl) ?_
          refine lv_iload_n hx hb d_LW_law_188 rfl (lv_at hl 3 rfl) ?_
          refine lv_iconst (v := xw_i 2) hx hb d_LW_law_189 rfl ?_
          refine xl_iadd hx hb ((6 * k + 2 : Nat) : Int) (by omega) d_LW_law_190 ?_
          refine xl_sld (x := 6 * k + 2) hx hb hX hbl hbA hS (by omega) hL d_LW_law_191 ?_
          refine lv_aload_n hx hb d_LW_law_192 rfl (lv_at hl 0 rfl) ?_
          refine lv_iload_n hx hb d_LW_law_193 rfl (lv_at hl 3 rfl) ?_
          refine lv_iconst (v := xw_i 3) hx hb d_LW_law_194 rfl ?_
          refine xl_iadd hx hb ((6 * k + 3 : Nat) : Int) (by omega) d_LW_law_195 ?_
          refine xl_sld (x := 6 * k + 3) hx hb hX hbl hbA hS (by omega) hL d_LW_law_196 ?_
          refine xl_callVi (C := "AdviceWeaver") (T := T_AW) (As := [.int (xw_i 1), .int (xw_i (xs (6 * k + 2)).toInt), .int (xw_i (xs (6 * k + 3)).toInt)]) (rest := []) (Ts := lw_tbl) ⟨hx, hb, hml, hown, htl⟩ (c_AW_transformer l D (xl_A s) aC cs (xw_ws kdR 29 aR cs [] ρ) tt fu σ σ' 1 (xs (6 * k + 2)).toInt (xs (6 * k + 3)).toInt r0 e1) (cwV 3 htl (xl_g_AW_transformer) rfl rfl rfl (by decide +kernel) ⟨(Nat.le_of_ble_eq_true rfl), (Nat.le_of_ble_eq_true rfl)⟩) hP hK (hDC ρ) hZ hS (by decide) kc_AW (by decide) rfl rfl hl.1 rfl (Nat.le_of_ble_eq_true rfl) d_LW_law_197 ⟨by decide, by decide⟩ (fun H locs hP hS => ?_)
          refine lv_aload_n hx hb d_LW_law_200 rfl (lv_at hl 2 rfl) ?_
          refine lv_aload_n hx hb d_LW_law_201 rfl (lv_at hl 0 rfl) ?_
          refine lv_iload_n hx hb d_LW_law_202 rfl (lv_at hl 3 rfl) ?_
          refine lv_iconst (v := xw_i 1) hx hb d_LW_law_203 rfl ?_
          refine xl_iadd hx hb ((6 * k + 1 : Nat) : Int) (by omega) d_LW_law_204 ?_
          refine xl_sld (x := 6 * k + 1) hx hb hX hbl hbA hS (by omega) hL d_LW_law_205 ?_
          refine lv_if_eq (tgt := 213) hx hb d_LW_law_206 (by decide) (fun h9 => absurd h9 hw) (fun _ => ?_)
          refine lv_iconst (v := xw_i 1) hx hb d_LW_law_209 rfl ?_
          refine lv_goto (tgt := 214) hx hb d_LW_law_210 (by decide) ?_
          refine lv_aload_n hx hb d_LW_law_214 rfl (lv_at hl 0 rfl) ?_
          refine lv_iload_n hx hb d_LW_law_215 rfl (lv_at hl 3 rfl) ?_
          refine lv_iconst (v := xw_i 2) hx hb d_LW_law_216 rfl ?_
          refine xl_iadd hx hb ((6 * k + 2 : Nat) : Int) (by omega) d_LW_law_217 ?_
          refine xl_sld (x := 6 * k + 2) hx hb hX hbl hbA hS (by omega) hL d_LW_law_218 ?_
          refine lv_aload_n hx hb d_LW_law_219 rfl (lv_at hl 0 rfl) ?_
          refine lv_iload_n hx hb d_LW_law_220 rfl (lv_at hl 3 rfl) ?_
          refine lv_iconst (v := xw_i 3) hx hb d_LW_law_221 rfl ?_
          refine xl_iadd hx hb ((6 * k + 3 : Nat) : Int) (by omega) d_LW_law_222 ?_
          refine xl_sld (x := 6 * k + 3) hx hb hX hbl hbA hS (by omega) hL d_LW_law_223 ?_
          refine xl_callVi (C := "AdviceWeaverModel") (T := T_MD) (As := [.int (xw_i 1), .int (xw_i (xs (6 * k + 2)).toInt), .int (xw_i (xs (6 * k + 3)).toInt)]) (rest := [.int (xw_i r0)]) (Ts := lw_tbl) ⟨hx, hb, hml, hown, htl⟩ (c_MD_transformer l D (xl_A s) aR cs (xw_ws kdC 100 aC cs [] σ') tt fu ρ ρ' 1 (xs (6 * k + 2)).toInt (xs (6 * k + 3)).toInt r0 e2) (cwV 3 htl (xl_g_MD_transformer) rfl rfl rfl (by decide +kernel) ⟨(Nat.le_of_ble_eq_true rfl), (Nat.le_of_ble_eq_true rfl)⟩) (xl_sw hP) hK (hDR σ') hZ hS (by decide) kr_MD (by decide) rfl rfl hl.1 rfl (Nat.le_of_ble_eq_true rfl) d_LW_law_224 ⟨by decide, by decide⟩ (fun H locs hP hS => ?_)
          replace hP := xl_sw hP
          refine lv_icmp_eq (tgt := 709) hx hb d_LW_law_227 (by decide) (fun _ => ?_) (fun h9 => absurd rfl h9)
          exact nxt σ' ρ' H locs ls hInv' hP hS hl
      · refine lv_tableIn (off := 199) (tgt := 232) hx hb d_LW_law_33 (by decide) (by decide) (by decide) (by decide) ?_
        obtain ⟨σ', ρ', e1, e2, hInv'⟩ := hI.2.2.2.2.2.1 σ ρ hInv
        refine lv_aload_n hx hb d_LW_law_232 rfl (lv_at hl 1 rfl) ?_
        refine xl_callVv (C := "AdviceWeaver") (T := T_AW) (As := []) (rest := []) (Ts := lw_tbl) ⟨hx, hb, hml, hown, htl⟩ (c_AW_unchain l D (xl_A s) aC cs (xw_ws kdR 29 aR cs [] ρ) tt fu σ σ' e1) (cwV 0 htl (xl_g_AW_unchain) rfl rfl rfl (by decide +kernel) ⟨(Nat.le_of_ble_eq_true rfl), (Nat.le_of_ble_eq_true rfl)⟩) hP hK (hDC ρ) hZ hS (by decide) kc_AW (by decide) rfl rfl hl.1 rfl (Nat.le_of_ble_eq_true rfl) d_LW_law_233 ⟨by decide, by decide⟩ (fun H locs hP hS => ?_)
        refine lv_aload_n hx hb d_LW_law_236 rfl (lv_at hl 2 rfl) ?_
        refine xl_callVv (C := "AdviceWeaverModel") (T := T_MD) (As := []) (rest := []) (Ts := lw_tbl) ⟨hx, hb, hml, hown, htl⟩ (c_MD_unchain l D (xl_A s) aR cs (xw_ws kdC 100 aC cs [] σ') tt fu ρ ρ' e2) (cwV 0 htl (xl_g_MD_unchain) rfl rfl rfl (by decide +kernel) ⟨(Nat.le_of_ble_eq_true rfl), (Nat.le_of_ble_eq_true rfl)⟩) (xl_sw hP) hK (hDR σ') hZ hS (by decide) kr_MD (by decide) rfl rfl hl.1 rfl (Nat.le_of_ble_eq_true rfl) d_LW_law_237 ⟨by decide, by decide⟩ (fun H locs hP hS => ?_)
        replace hP := xl_sw hP
        refine lv_goto (tgt := 709) hx hb d_LW_law_240 (by decide) ?_
        exact nxt σ' ρ' H locs ls hInv' hP hS hl
      · refine lv_tableIn (off := 210) (tgt := 243) hx hb d_LW_law_33 (by decide) (by decide) (by decide) (by decide) ?_
        obtain ⟨σ', ρ', r0, e1, e2, hInv'⟩ := hI.2.2.2.2.2.2.1 σ ρ hInv
        refine lv_aload_n hx hb d_LW_law_243 rfl (lv_at hl 1 rfl) ?_
        refine xl_callVi (C := "AdviceWeaver") (T := T_AW) (As := []) (rest := []) (Ts := lw_tbl) ⟨hx, hb, hml, hown, htl⟩ (c_AW_weave l D (xl_A s) aC cs (xw_ws kdR 29 aR cs [] ρ) tt fu σ σ' r0 e1) (cwV 0 htl (xl_g_AW_weave) rfl rfl rfl (by decide +kernel) ⟨(Nat.le_of_ble_eq_true rfl), (Nat.le_of_ble_eq_true rfl)⟩) hP hK (hDC ρ) hZ hS (by decide) kc_AW (by decide) rfl rfl hl.1 rfl (Nat.le_of_ble_eq_true rfl) d_LW_law_244 ⟨by decide, by decide⟩ (fun H locs hP hS => ?_)
        refine lv_aload_n hx hb d_LW_law_247 rfl (lv_at hl 2 rfl) ?_
        refine xl_callVi (C := "AdviceWeaverModel") (T := T_MD) (As := []) (rest := [.int (xw_i r0)]) (Ts := lw_tbl) ⟨hx, hb, hml, hown, htl⟩ (c_MD_weave l D (xl_A s) aR cs (xw_ws kdC 100 aC cs [] σ') tt fu ρ ρ' r0 e2) (cwV 0 htl (xl_g_MD_weave) rfl rfl rfl (by decide +kernel) ⟨(Nat.le_of_ble_eq_true rfl), (Nat.le_of_ble_eq_true rfl)⟩) (xl_sw hP) hK (hDR σ') hZ hS (by decide) kr_MD (by decide) rfl rfl hl.1 rfl (Nat.le_of_ble_eq_true rfl) d_LW_law_248 ⟨by decide, by decide⟩ (fun H locs hP hS => ?_)
        replace hP := xl_sw hP
        refine lv_icmp_eq (tgt := 709) hx hb d_LW_law_251 (by decide) (fun _ => ?_) (fun h9 => absurd rfl h9)
        exact nxt σ' ρ' H locs ls hInv' hP hS hl
      · refine lv_tableIn (off := 223) (tgt := 256) hx hb d_LW_law_33 (by decide) (by decide) (by decide) (by decide) ?_
        obtain ⟨σ', ρ', r0, e1, e2, hInv'⟩ := hI.2.2.2.2.2.2.2.1 σ ρ (xs (6 * k + 1)).toInt (xs (6 * k + 2)).toInt hInv (xw_rT _) (xw_rT _)
        refine lv_aload_n hx hb d_LW_law_256 rfl (lv_at hl 1 rfl) ?_
        refine lv_aload_n hx hb d_LW_law_257 rfl (lv_at hl 0 rfl) ?_
        refine lv_iload_n hx hb d_LW_law_258 rfl (lv_at hl 3 rfl) ?_
        refine lv_iconst (v := xw_i 1) hx hb d_LW_law_259 rfl ?_
        refine xl_iadd hx hb ((6 * k + 1 : Nat) : Int) (by omega) d_LW_law_260 ?_
        refine xl_sld (x := 6 * k + 1) hx hb hX hbl hbA hS (by omega) hL d_LW_law_261 ?_
        refine lv_aload_n hx hb d_LW_law_262 rfl (lv_at hl 0 rfl) ?_
        refine lv_iload_n hx hb d_LW_law_263 rfl (lv_at hl 3 rfl) ?_
        refine lv_iconst (v := xw_i 2) hx hb d_LW_law_264 rfl ?_
        refine xl_iadd hx hb ((6 * k + 2 : Nat) : Int) (by omega) d_LW_law_265 ?_
        refine xl_sld (x := 6 * k + 2) hx hb hX hbl hbA hS (by omega) hL d_LW_law_266 ?_
        refine xl_callVi (C := "AdviceWeaver") (T := T_AW) (As := [.int (xw_i (xs (6 * k + 1)).toInt), .int (xw_i (xs (6 * k + 2)).toInt)]) (rest := []) (Ts := lw_tbl) ⟨hx, hb, hml, hown, htl⟩ (c_AW_failed l D (xl_A s) aC cs (xw_ws kdR 29 aR cs [] ρ) tt fu σ σ' (xs (6 * k + 1)).toInt (xs (6 * k + 2)).toInt r0 e1) (cwV 2 htl (xl_g_AW_failed) rfl rfl rfl (by decide +kernel) ⟨(Nat.le_of_ble_eq_true rfl), (Nat.le_of_ble_eq_true rfl)⟩) hP hK (hDC ρ) hZ hS (by decide) kc_AW (by decide) rfl rfl hl.1 rfl (Nat.le_of_ble_eq_true rfl) d_LW_law_267 ⟨by decide, by decide⟩ (fun H locs hP hS => ?_)
        refine lv_aload_n hx hb d_LW_law_270 rfl (lv_at hl 2 rfl) ?_
        refine lv_aload_n hx hb d_LW_law_271 rfl (lv_at hl 0 rfl) ?_
        refine lv_iload_n hx hb d_LW_law_272 rfl (lv_at hl 3 rfl) ?_
        refine lv_iconst (v := xw_i 1) hx hb d_LW_law_273 rfl ?_
        refine xl_iadd hx hb ((6 * k + 1 : Nat) : Int) (by omega) d_LW_law_274 ?_
        refine xl_sld (x := 6 * k + 1) hx hb hX hbl hbA hS (by omega) hL d_LW_law_275 ?_
        refine lv_aload_n hx hb d_LW_law_276 rfl (lv_at hl 0 rfl) ?_
        refine lv_iload_n hx hb d_LW_law_277 rfl (lv_at hl 3 rfl) ?_
        refine lv_iconst (v := xw_i 2) hx hb d_LW_law_278 rfl ?_
        refine xl_iadd hx hb ((6 * k + 2 : Nat) : Int) (by omega) d_LW_law_279 ?_
        refine xl_sld (x := 6 * k + 2) hx hb hX hbl hbA hS (by omega) hL d_LW_law_280 ?_
        refine xl_callVi (C := "AdviceWeaverModel") (T := T_MD) (As := [.int (xw_i (xs (6 * k + 1)).toInt), .int (xw_i (xs (6 * k + 2)).toInt)]) (rest := [.int (xw_i r0)]) (Ts := lw_tbl) ⟨hx, hb, hml, hown, htl⟩ (c_MD_failed l D (xl_A s) aR cs (xw_ws kdC 100 aC cs [] σ') tt fu ρ ρ' (xs (6 * k + 1)).toInt (xs (6 * k + 2)).toInt r0 e2) (cwV 2 htl (xl_g_MD_failed) rfl rfl rfl (by decide +kernel) ⟨(Nat.le_of_ble_eq_true rfl), (Nat.le_of_ble_eq_true rfl)⟩) (xl_sw hP) hK (hDR σ') hZ hS (by decide) kr_MD (by decide) rfl rfl hl.1 rfl (Nat.le_of_ble_eq_true rfl) d_LW_law_281 ⟨by decide, by decide⟩ (fun H locs hP hS => ?_)
        replace hP := xl_sw hP
        refine lv_icmp_eq (tgt := 709) hx hb d_LW_law_284 (by decide) (fun _ => ?_) (fun h9 => absurd rfl h9)
        exact nxt σ' ρ' H locs ls hInv' hP hS hl
      · refine lv_tableIn (off := 256) (tgt := 289) hx hb d_LW_law_33 (by decide) (by decide) (by decide) (by decide) ?_
        by_cases hw : xw_i (xs (6 * k + 1)).toInt = 0
        · obtain ⟨σ', ρ', r0, e1, e2, hInv'⟩ := hI.2.2.2.2.2.2.2.2.1 σ ρ 0 (xs (6 * k + 2)).toInt (xs (6 * k + 3)).toInt (xs (6 * k + 4)).toInt (xs (6 * k + 5)).toInt hInv (by decide) (xw_rT _) (xw_rT _) (xw_rT _) (xw_rT _)
          refine lv_aload_n hx hb d_LW_law_289 rfl (lv_at hl 1 rfl) ?_
          refine lv_aload_n hx hb d_LW_law_290 rfl (lv_at hl 0 rfl) ?_
          refine lv_iload_n hx hb d_LW_law_291 rfl (lv_at hl 3 rfl) ?_
          refine lv_iconst (v := xw_i 1) hx hb d_LW_law_292 rfl ?_
          refine xl_iadd hx hb ((6 * k + 1 : Nat) : Int) (by omega) d_LW_law_293 ?_
          refine xl_sld (x := 6 * k + 1) hx hb hX hbl hbA hS (by omega) hL d_LW_law_294 ?_
          refine lv_if_eq (tgt := 302) hx hb d_LW_law_295 (by decide) (fun _ => ?_) (fun h9 => absurd hw h9)
          refine lv_iconst (v := xw_i 0) hx hb d_LW_law_302 rfl ?_
          refine lv_aload_n hx hb d_LW_law_303 rfl (lv_at hl 0 rfl) ?_
          refine lv_iload_n hx hb d_LW_law_304 rfl (lv_at hl 3 rfl) ?_
          refine lv_iconst (v := xw_i 2) hx hb d_LW_law_305 rfl ?_
          refine xl_iadd hx hb ((6 * k + 2 : Nat) : Int) (by omega) d_LW_law_306 ?_
          refine xl_sld (x := 6 * k + 2) hx hb hX hbl hbA hS (by omega) hL d_LW_law_307 ?_
          refine lv_aload_n hx hb d_LW_law_308 rfl (lv_at hl 0 rfl) ?_
          refine lv_iload_n hx hb d_LW_law_309 rfl (lv_at hl 3 rfl) ?_
          refine lv_iconst (v := xw_i 3) hx hb d_LW_law_310 rfl ?_
          refine xl_iadd hx hb ((6 * k + 3 : Nat) : Int) (by omega) d_LW_law_311 ?_
          refine xl_sld (x := 6 * k + 3) hx hb hX hbl hbA hS (by omega) hL d_LW_law_312 ?_
          refine lv_aload_n hx hb d_LW_law_313 rfl (lv_at hl 0 rfl) ?_
          refine lv_iload_n hx hb d_LW_law_314 rfl (lv_at hl 3 rfl) ?_
          refine lv_iconst (v := xw_i 4) hx hb d_LW_law_315 rfl ?_
          refine xl_iadd hx hb ((6 * k + 4 : Nat) : Int) (by omega) d_LW_law_316 ?_
          refine xl_sld (x := 6 * k + 4) hx hb hX hbl hbA hS (by omega) hL d_LW_law_317 ?_
          refine lv_aload_n hx hb d_LW_law_318 rfl (lv_at hl 0 rfl) ?_
          refine lv_iload_n hx hb d_LW_law_319 rfl (lv_at hl 3 rfl) ?_
          refine lv_iconst (v := xw_i 5) hx hb d_LW_law_320 rfl ?_
          refine xl_iadd hx hb ((6 * k + 5 : Nat) : Int) (by omega) d_LW_law_321 ?_
          refine xl_sld (x := 6 * k + 5) hx hb hX hbl hbA hS (by omega) hL d_LW_law_322 ?_
          refine xl_callVi (C := "AdviceWeaver") (T := T_AW) (As := [.int (xw_i 0), .int (xw_i (xs (6 * k + 2)).toInt), .int (xw_i (xs (6 * k + 3)).toInt), .int (xw_i (xs (6 * k + 4)).toInt), .int (xw_i (xs (6 * k + 5)).toInt)]) (rest := []) (Ts := lw_tbl) ⟨hx, hb, hml, hown, htl⟩ (c_AW_run l D (xl_A s) aC cs (xw_ws kdR 29 aR cs [] ρ) tt fu σ σ' 0 (xs (6 * k + 2)).toInt (xs (6 * k + 3)).toInt (xs (6 * k + 4)).toInt (xs (6 * k + 5)).toInt r0 e1) (cwV 5 htl (xl_g_AW_run) rfl rfl rfl (by decide +kernel) ⟨(Nat.le_of_ble_eq_true rfl), (Nat.le_of_ble_eq_true rfl)⟩) hP hK (hDC ρ) hZ hS (by decide) kc_AW (by decide) rfl rfl hl.1 rfl (Nat.le_of_ble_eq_true rfl) d_LW_law_323 ⟨by decide, by decide⟩ (fun H locs hP hS => ?_)
          refine lv_aload_n hx hb d_LW_law_326 rfl (lv_at hl 2 rfl) ?_
          refine lv_aload_n hx hb d_LW_law_327 rfl (lv_at hl 0 rfl) ?_
          refine lv_iload_n hx hb d_LW_law_328 rfl (lv_at hl 3 rfl) ?_
          refine lv_iconst (v := xw_i 1) hx hb d_LW_law_329 rfl ?_
          refine xl_iadd hx hb ((6 * k + 1 : Nat) : Int) (by omega) d_LW_law_330 ?_
          refine xl_sld (x := 6 * k + 1) hx hb hX hbl hbA hS (by omega) hL d_LW_law_331 ?_
          refine lv_if_eq (tgt := 339) hx hb d_LW_law_332 (by decide) (fun _ => ?_) (fun h9 => absurd hw h9)
          refine lv_iconst (v := xw_i 0) hx hb d_LW_law_339 rfl ?_
          refine lv_aload_n hx hb d_LW_law_340 rfl (lv_at hl 0 rfl) ?_
          refine lv_iload_n hx hb d_LW_law_341 rfl (lv_at hl 3 rfl) ?_
          refine lv_iconst (v := xw_i 2) hx hb d_LW_law_342 rfl ?_
          refine xl_iadd hx hb ((6 * k + 2 : Nat) : Int) (by omega) d_LW_law_343 ?_
          refine xl_sld (x := 6 * k + 2) hx hb hX hbl hbA hS (by omega) hL d_LW_law_344 ?_
          refine lv_aload_n hx hb d_LW_law_345 rfl (lv_at hl 0 rfl) ?_
          refine lv_iload_n hx hb d_LW_law_346 rfl (lv_at hl 3 rfl) ?_
          refine lv_iconst (v := xw_i 3) hx hb d_LW_law_347 rfl ?_
          refine xl_iadd hx hb ((6 * k + 3 : Nat) : Int) (by omega) d_LW_law_348 ?_
          refine xl_sld (x := 6 * k + 3) hx hb hX hbl hbA hS (by omega) hL d_LW_law_349 ?_
          refine lv_aload_n hx hb d_LW_law_350 rfl (lv_at hl 0 rfl) ?_
          refine lv_iload_n hx hb d_LW_law_351 rfl (lv_at hl 3 rfl) ?_
          refine lv_iconst (v := xw_i 4) hx hb d_LW_law_352 rfl ?_
          refine xl_iadd hx hb ((6 * k + 4 : Nat) : Int) (by omega) d_LW_law_353 ?_
          refine xl_sld (x := 6 * k + 4) hx hb hX hbl hbA hS (by omega) hL d_LW_law_354 ?_
          refine lv_aload_n hx hb d_LW_law_355 rfl (lv_at hl 0 rfl) ?_
          refine lv_iload_n hx hb d_LW_law_356 rfl (lv_at hl 3 rfl) ?_
          refine lv_iconst (v := xw_i 5) hx hb d_LW_law_357 rfl ?_
          refine xl_iadd hx hb ((6 * k + 5 : Nat) : Int) (by omega) d_LW_law_358 ?_
          refine xl_sld (x := 6 * k + 5) hx hb hX hbl hbA hS (by omega) hL d_LW_law_359 ?_
          refine xl_callVi (C := "AdviceWeaverModel") (T := T_MD) (As := [.int (xw_i 0), .int (xw_i (xs (6 * k + 2)).toInt), .int (xw_i (xs (6 * k + 3)).toInt), .int (xw_i (xs (6 * k + 4)).toInt), .int (xw_i (xs (6 * k + 5)).toInt)]) (rest := [.int (xw_i r0)]) (Ts := lw_tbl) ⟨hx, hb, hml, hown, htl⟩ (c_MD_run l D (xl_A s) aR cs (xw_ws kdC 100 aC cs [] σ') tt fu ρ ρ' 0 (xs (6 * k + 2)).toInt (xs (6 * k + 3)).toInt (xs (6 * k + 4)).toInt (xs (6 * k + 5)).toInt r0 e2) (cwV 5 htl (xl_g_MD_run) rfl rfl rfl (by decide +kernel) ⟨(Nat.le_of_ble_eq_true rfl), (Nat.le_of_ble_eq_true rfl)⟩) (xl_sw hP) hK (hDR σ') hZ hS (by decide) kr_MD (by decide) rfl rfl hl.1 rfl (Nat.le_of_ble_eq_true rfl) d_LW_law_360 ⟨by decide, by decide⟩ (fun H locs hP hS => ?_)
          replace hP := xl_sw hP
          refine lv_icmp_eq (tgt := 709) hx hb d_LW_law_363 (by decide) (fun _ => ?_) (fun h9 => absurd rfl h9)
          exact nxt σ' ρ' H locs ls hInv' hP hS hl
        · obtain ⟨σ', ρ', r0, e1, e2, hInv'⟩ := hI.2.2.2.2.2.2.2.2.1 σ ρ 1 (xs (6 * k + 2)).toInt (xs (6 * k + 3)).toInt (xs (6 * k + 4)).toInt (xs (6 * k + 5)).toInt hInv (by decide) (xw_rT _) (xw_rT _) (xw_rT _) (xw_rT _)
          refine lv_aload_n hx hb d_LW_law_289 rfl (lv_at hl 1 rfl) ?_
          refine lv_aload_n hx hb d_LW_law_290 rfl (lv_at hl 0 rfl) ?_
          refine lv_iload_n hx hb d_LW_law_291 rfl (lv_at hl 3 rfl) ?_
          refine lv_iconst (v := xw_i 1) hx hb d_LW_law_292 rfl ?_
          refine xl_iadd hx hb ((6 * k + 1 : Nat) : Int) (by omega) d_LW_law_293 ?_
          refine xl_sld (x := 6 * k + 1) hx hb hX hbl hbA hS (by omega) hL d_LW_law_294 ?_
          refine lv_if_eq (tgt := 302) hx hb d_LW_law_295 (by decide) (fun h9 => absurd h9 hw) (fun _ => ?_)
          refine lv_iconst (v := xw_i 1) hx hb d_LW_law_298 rfl ?_
          refine lv_goto (tgt := 303) hx hb d_LW_law_299 (by decide) ?_
          refine lv_aload_n hx hb d_LW_law_303 rfl (lv_at hl 0 rfl) ?_
          refine lv_iload_n hx hb d_LW_law_304 rfl (lv_at hl 3 rfl) ?_
          refine lv_iconst (v := xw_i 2) hx hb d_LW_law_305 rfl ?_
          refine xl_iadd hx hb ((6 * k + 2 : Nat) : Int) (by omega) d_LW_law_306 ?_
          refine xl_sld (x := 6 * k + 2) hx hb hX hbl hbA hS (by omega) hL d_LW_law_307 ?_
          refine lv_aload_n hx hb d_LW_law_308 rfl (lv_at hl 0 rfl) ?_
          refine lv_iload_n hx hb d_LW_law_309 rfl (lv_at hl 3 rfl) ?_
          refine lv_iconst (v := xw_i 3) hx hb d_LW_law_310 rfl ?_
          refine xl_iadd hx hb ((6 * k + 3 : Nat) : Int) (by omega) d_LW_law_311 ?_
          refine xl_sld (x := 6 * k + 3) hx hb hX hbl hbA hS (by omega) hL d_LW_law_312 ?_
          refine lv_aload_n hx hb d_LW_law_313 rfl (lv_at hl 0 rfl) ?_
          refine lv_iload_n hx hb d_LW_law_314 rfl (lv_at hl 3 rfl) ?_
          refine lv_iconst (v := xw_i 4) hx hb d_LW_law_315 rfl ?_
          refine xl_iadd hx hb ((6 * k + 4 : Nat) : Int) (by omega) d_LW_law_316 ?_
          refine xl_sld (x := 6 * k + 4) hx hb hX hbl hbA hS (by omega) hL d_LW_law_317 ?_
          refine lv_aload_n hx hb d_LW_law_318 rfl (lv_at hl 0 rfl) ?_
          refine lv_iload_n hx hb d_LW_law_319 rfl (lv_at hl 3 rfl) ?_
          refine lv_iconst (v := xw_i 5) hx hb d_LW_law_320 rfl ?_
          refine xl_iadd hx hb ((6 * k + 5 : Nat) : Int) (by omega) d_LW_law_321 ?_
          refine xl_sld (x := 6 * k + 5) hx hb hX hbl hbA hS (by omega) hL d_LW_law_322 ?_
          refine xl_callVi (C := "AdviceWeaver") (T := T_AW) (As := [.int (xw_i 1), .int (xw_i (xs (6 * k + 2)).toInt), .int (xw_i (xs (6 * k + 3)).toInt), .int (xw_i (xs (6 * k + 4)).toInt), .int (xw_i (xs (6 * k + 5)).toInt)]) (rest := []) (Ts := lw_tbl) ⟨hx, hb, hml, hown, htl⟩ (c_AW_run l D (xl_A s) aC cs (xw_ws kdR 29 aR cs [] ρ) tt fu σ σ' 1 (xs (6 * k + 2)).toInt (xs (6 * k + 3)).toInt (xs (6 * k + 4)).toInt (xs (6 * k + 5)).toInt r0 e1) (cwV 5 htl (xl_g_AW_run) rfl rfl rfl (by decide +kernel) ⟨(Nat.le_of_ble_eq_true rfl), (Nat.le_of_ble_eq_true rfl)⟩) hP hK (hDC ρ) hZ hS (by decide) kc_AW (by decide) rfl rfl hl.1 rfl (Nat.le_of_ble_eq_true rfl) d_LW_law_323 ⟨by decide, by decide⟩ (fun H locs hP hS => ?_)
          refine lv_aload_n hx hb d_LW_law_326 rfl (lv_at hl 2 rfl) ?_
          refine lv_aload_n hx hb d_LW_law_327 rfl (lv_at hl 0 rfl) ?_
          refine lv_iload_n hx hb d_LW_law_328 rfl (lv_at hl 3 rfl) ?_
          refine lv_iconst (v := xw_i 1) hx hb d_LW_law_329 rfl ?_
          refine xl_iadd hx hb ((6 * k + 1 : Nat) : Int) (by omega) d_LW_law_330 ?_
          refine xl_sld (x := 6 * k + 1) hx hb hX hbl hbA hS (by omega) hL d_LW_law_331 ?_
          refine lv_if_eq (tgt := 339) hx hb d_LW_law_332 (by decide) (fun h9 => absurd h9 hw) (fun _ => ?_)
          refine lv_iconst (v := xw_i 1) hx hb d_LW_law_335 rfl ?_
          refine lv_goto (tgt := 340) hx hb d_LW_law_336 (by decide) ?_
          refine lv_aload_n hx hb d_LW_law_340 rfl (lv_at hl 0 rfl) ?_
          refine lv_iload_n hx hb d_LW_law_341 rfl (lv_at hl 3 rfl) ?_
          refine lv_iconst (v := xw_i 2) hx hb d_LW_law_342 rfl ?_
          refine xl_iadd hx hb ((6 * k + 2 : Nat) : Int) (by omega) d_LW_law_343 ?_
          refine xl_sld (x := 6 * k + 2) hx hb hX hbl hbA hS (by omega) hL d_LW_law_344 ?_
          refine lv_aload_n hx hb d_LW_law_345 rfl (lv_at hl 0 rfl) ?_
          refine lv_iload_n hx hb d_LW_law_346 rfl (lv_at hl 3 rfl) ?_
          refine lv_iconst (v := xw_i 3) hx hb d_LW_law_347 rfl ?_
          refine xl_iadd hx hb ((6 * k + 3 : Nat) : Int) (by omega) d_LW_law_348 ?_
          refine xl_sld (x := 6 * k + 3) hx hb hX hbl hbA hS (by omega) hL d_LW_law_349 ?_
          refine lv_aload_n hx hb d_LW_law_350 rfl (lv_at hl 0 rfl) ?_
          refine lv_iload_n hx hb d_LW_law_351 rfl (lv_at hl 3 rfl) ?_
          refine lv_iconst (v := xw_i 4) hx hb d_LW_law_352 rfl ?_
          refine xl_iadd hx hb ((6 * k + 4 : Nat) : Int) (by omega) d_LW_law_353 ?_
          refine xl_sld (x := 6 * k + 4) hx hb hX hbl hbA hS (by omega) hL d_LW_law_354 ?_
          refine lv_aload_n hx hb d_LW_law_355 rfl (lv_at hl 0 rfl) ?_
          refine lv_iload_n hx hb d_LW_law_356 rfl (lv_at hl 3 rfl) ?_
          refine lv_iconst (v := xw_i 5) hx hb d_LW_law_357 rfl ?_
          refine xl_iadd hx hb ((6 * k + 5 : Nat) : Int) (by omega) d_LW_law_358 ?_
          refine xl_sld (x := 6 * k + 5) hx hb hX hbl hbA hS (by omega) hL d_LW_law_359 ?_
          refine xl_callVi (C := "AdviceWeaverModel") (T := T_MD) (As := [.int (xw_i 1), .int (xw_i (xs (6 * k + 2)).toInt), .int (xw_i (xs (6 * k + 3)).toInt), .int (xw_i (xs (6 * k + 4)).toInt), .int (xw_i (xs (6 * k + 5)).toInt)]) (rest := [.int (xw_i r0)]) (Ts := lw_tbl) ⟨hx, hb, hml, hown, htl⟩ (c_MD_run l D (xl_A s) aR cs (xw_ws kdC 100 aC cs [] σ') tt fu ρ ρ' 1 (xs (6 * k + 2)).toInt (xs (6 * k + 3)).toInt (xs (6 * k + 4)).toInt (xs (6 * k + 5)).toInt r0 e2) (cwV 5 htl (xl_g_MD_run) rfl rfl rfl (by decide +kernel) ⟨(Nat.le_of_ble_eq_true rfl), (Nat.le_of_ble_eq_true rfl)⟩) (xl_sw hP) hK (hDR σ') hZ hS (by decide) kr_MD (by decide) rfl rfl hl.1 rfl (Nat.le_of_ble_eq_true rfl) d_LW_law_360 ⟨by decide, by decide⟩ (fun H locs hP hS => ?_)
          replace hP := xl_sw hP
          refine lv_icmp_eq (tgt := 709) hx hb d_LW_law_363 (by decide) (fun _ => ?_) (fun h9 => absurd rfl h9)
          exact nxt σ' ρ' H locs ls hInv' hP hS hl
      · refine lv_tableIn (off := 335) (tgt := 368) hx hb d_LW_law_33 (by decide) (by decide) (by decide) (by decide) ?_
        obtain ⟨σ', ρ', r0, e1, e2, hInv'⟩ := hI.2.2.2.2.2.2.2.2.2.1 σ ρ hInv
        refine lv_aload_n hx hb d_LW_law_368 rfl (lv_at hl 1 rfl) ?_
        refine xl_callVi (C := "AdviceWeaver") (T := T_AW) (As := []) (rest := []) (Ts := lw_tbl) ⟨hx, hb, hml, hown, htl⟩ (c_AW_value l D (xl_A s) aC cs (xw_ws kdR 29 aR cs [] ρ) tt fu σ σ' r0 e1) (cwV 0 htl (xl_g_AW_value) rfl rfl rfl (by decide +kernel) ⟨(Nat.le_of_ble_eq_true rfl), (Nat.le_of_ble_eq_true rfl)⟩) hP hK (hDC ρ) hZ hS (by decide) kc_AW (by decide) rfl rfl hl.1 rfl (Nat.le_of_ble_eq_true rfl) d_LW_law_369 ⟨by decide, by decide⟩ (fun H locs hP hS => ?_)
        refine lv_aload_n hx hb d_LW_law_372 rfl (lv_at hl 2 rfl) ?_
        refine xl_callVi (C := "AdviceWeaverModel") (T := T_MD) (As := []) (rest := [.int (xw_i r0)]) (Ts := lw_tbl) ⟨hx, hb, hml, hown, htl⟩ (c_MD_value l D (xl_A s) aR cs (xw_ws kdC 100 aC cs [] σ') tt fu ρ ρ' r0 e2) (cwV 0 htl (xl_g_MD_value) rfl rfl rfl (by decide +kernel) ⟨(Nat.le_of_ble_eq_true rfl), (Nat.le_of_ble_eq_true rfl)⟩) (xl_sw hP) hK (hDR σ') hZ hS (by decide) kr_MD (by decide) rfl rfl hl.1 rfl (Nat.le_of_ble_eq_true rfl) d_LW_law_373 ⟨by decide, by decide⟩ (fun H locs hP hS => ?_)
        replace hP := xl_sw hP
        refine lv_icmp_eq (tgt := 709) hx hb d_LW_law_376 (by decide) (fun _ => ?_) (fun h9 => absurd rfl h9)
        exact nxt σ' ρ' H locs ls hInv' hP hS hl
      · refine lv_tableIn (off := 348) (tgt := 381) hx hb d_LW_law_33 (by decide) (by decide) (by decide) (by decide) ?_
        obtain ⟨σ', ρ', r0, e1, e2, hInv'⟩ := hI.2.2.2.2.2.2.2.2.2.2.1 σ ρ hInv
        refine lv_aload_n hx hb d_LW_law_381 rfl (lv_at hl 1 rfl) ?_
        refine xl_callVi (C := "AdviceWeaver") (T := T_AW) (As := []) (rest := []) (Ts := lw_tbl) ⟨hx, hb, hml, hown, htl⟩ (c_AW_used l D (xl_A s) aC cs (xw_ws kdR 29 aR cs [] ρ) tt fu σ σ' r0 e1) (cwV 0 htl (xl_g_AW_used) rfl rfl rfl (by decide +kernel) ⟨(Nat.le_of_ble_eq_true rfl), (Nat.le_of_ble_eq_true rfl)⟩) hP hK (hDC ρ) hZ hS (by decide) kc_AW (by decide) rfl rfl hl.1 rfl (Nat.le_of_ble_eq_true rfl) d_LW_law_382 ⟨by decide, by decide⟩ (fun H locs hP hS => ?_)
        refine lv_aload_n hx hb d_LW_law_385 rfl (lv_at hl 2 rfl) ?_
        refine xl_callVi (C := "AdviceWeaverModel") (T := T_MD) (As := []) (rest := [.int (xw_i r0)]) (Ts := lw_tbl) ⟨hx, hb, hml, hown, htl⟩ (c_MD_used l D (xl_A s) aR cs (xw_ws kdC 100 aC cs [] σ') tt fu ρ ρ' r0 e2) (cwV 0 htl (xl_g_MD_used) rfl rfl rfl (by decide +kernel) ⟨(Nat.le_of_ble_eq_true rfl), (Nat.le_of_ble_eq_true rfl)⟩) (xl_sw hP) hK (hDR σ') hZ hS (by decide) kr_MD (by decide) rfl rfl hl.1 rfl (Nat.le_of_ble_eq_true rfl) d_LW_law_386 ⟨by decide, by decide⟩ (fun H locs hP hS => ?_)
        replace hP := xl_sw hP
        refine lv_icmp_eq (tgt := 709) hx hb d_LW_law_389 (by decide) (fun _ => ?_) (fun h9 => absurd rfl h9)
        exact nxt σ' ρ' H locs ls hInv' hP hS hl
      · refine lv_tableIn (off := 361) (tgt := 394) hx hb d_LW_law_33 (by decide) (by decide) (by decide) (by decide) ?_
        obtain ⟨σ', ρ', r0, e1, e2, hInv'⟩ := hI.2.2.2.2.2.2.2.2.2.2.2.1 σ ρ hInv
        refine lv_aload_n hx hb d_LW_law_394 rfl (lv_at hl 1 rfl) ?_
        refine xl_callVi (C := "AdviceWeaver") (T := T_AW) (As := []) (rest := []) (Ts := lw_tbl) ⟨hx, hb, hml, hown, htl⟩ (c_AW_marks l D (xl_A s) aC cs (xw_ws kdR 29 aR cs [] ρ) tt fu σ σ' r0 e1) (cwV 0 htl (xl_g_AW_marks) rfl rfl rfl (by decide +kernel) ⟨(Nat.le_of_ble_eq_true rfl), (Nat.le_of_ble_eq_true rfl)⟩) hP hK (hDC ρ) hZ hS (by decide) kc_AW (by decide) rfl rfl hl.1 rfl (Nat.le_of_ble_eq_true rfl) d_LW_law_395 ⟨by decide, by decide⟩ (fun H locs hP hS => ?_)
        refine lv_aload_n hx hb d_LW_law_398 rfl (lv_at hl 2 rfl) ?_
        refine xl_callVi (C := "AdviceWeaverModel") (T := T_MD) (As := []) (rest := [.int (xw_i r0)]) (Ts := lw_tbl) ⟨hx, hb, hml, hown, htl⟩ (c_MD_marks l D (xl_A s) aR cs (xw_ws kdC 100 aC cs [] σ') tt fu ρ ρ' r0 e2) (cwV 0 htl (xl_g_MD_marks) rfl rfl rfl (by decide +kernel) ⟨(Nat.le_of_ble_eq_true rfl), (Nat.le_of_ble_eq_true rfl)⟩) (xl_sw hP) hK (hDR σ') hZ hS (by decide) kr_MD (by decide) rfl rfl hl.1 rfl (Nat.le_of_ble_eq_true rfl) d_LW_law_399 ⟨by decide, by decide⟩ (fun H locs hP hS => ?_)
        replace hP := xl_sw hP
        refine lv_icmp_eq (tgt := 709) hx hb d_LW_law_402 (by decide) (fun _ => ?_) (fun h9 => absurd rfl h9)
        exact nxt σ' ρ' H locs ls hInv' hP hS hl
      · refine lv_tableIn (off := 374) (tgt := 407) hx hb d_LW_law_33 (by decide) (by decide) (by decide) (by decide) ?_
        obtain ⟨σ', ρ', r0, e1, e2, hInv'⟩ := hI.2.2.2.2.2.2.2.2.2.2.2.2.1 σ ρ (xs (6 * k + 1)).toInt hInv (xw_rT _)
        refine lv_aload_n hx hb d_LW_law_407 rfl (lv_at hl 1 rfl) ?_
        refine lv_aload_n hx hb d_LW_law_408 rfl (lv_at hl 0 rfl) ?_
        refine lv_iload_n hx hb d_LW_law_409 rfl (lv_at hl 3 rfl) ?_
        refine lv_iconst (v := xw_i 1) hx hb d_LW_law_410 rfl ?_
        refine xl_iadd hx hb ((6 * k + 1 : Nat) : Int) (by omega) d_LW_law_411 ?_
        refine xl_sld (x := 6 * k + 1) hx hb hX hbl hbA hS (by omega) hL d_LW_law_412 ?_
        refine xl_callVi (C := "AdviceWeaver") (T := T_AW) (As := [.int (xw_i (xs (6 * k + 1)).toInt)]) (rest := []) (Ts := lw_tbl) ⟨hx, hb, hml, hown, htl⟩ (c_AW_mark l D (xl_A s) aC cs (xw_ws kdR 29 aR cs [] ρ) tt fu σ σ' (xs (6 * k + 1)).toInt r0 e1) (cwV 1 htl (xl_g_AW_mark) rfl rfl rfl (by decide +kernel) ⟨(Nat.le_of_ble_eq_true rfl), (Nat.le_of_ble_eq_true rfl)⟩) hP hK (hDC ρ) hZ hS (by decide) kc_AW (by decide) rfl rfl hl.1 rfl (Nat.le_of_ble_eq_true rfl) d_LW_law_413 ⟨by decide, by decide⟩ (fun H locs hP hS => ?_)
        refine lv_aload_n hx hb d_LW_law_416 rfl (lv_at hl 2 rfl) ?_
        refine lv_aload_n hx hb d_LW_law_417 rfl (lv_at hl 0 rfl) ?_
        refine lv_iload_n hx hb d_LW_law_418 rfl (lv_at hl 3 rfl) ?_
        refine lv_iconst (v := xw_i 1) hx hb d_LW_law_419 rfl ?_
        refine xl_iadd hx hb ((6 * k + 1 : Nat) : Int) (by omega) d_LW_law_420 ?_
        refine xl_sld (x := 6 * k + 1) hx hb hX hbl hbA hS (by omega) hL d_LW_law_421 ?_
        refine xl_callVi (C := "AdviceWeaverModel") (T := T_MD) (As := [.int (xw_i (xs (6 * k + 1)).toInt)]) (rest := [.int (xw_i r0)]) (Ts := lw_tbl) ⟨hx, hb, hml, hown, htl⟩ (c_MD_mark l D (xl_A s) aR cs (xw_ws kdC 100 aC cs [] σ') tt fu ρ ρ' (xs (6 * k + 1)).toInt r0 e2) (cwV 1 htl (xl_g_MD_mark) rfl rfl rfl (by decide +kernel) ⟨(Nat.le_of_ble_eq_true rfl), (Nat.le_of_ble_eq_true rfl)⟩) (xl_sw hP) hK (hDR σ') hZ hS (by decide) kr_MD (by decide) rfl rfl hl.1 rfl (Nat.le_of_ble_eq_true rfl) d_LW_law_422 ⟨by decide, by decide⟩ (fun H locs hP hS => ?_)
        replace hP := xl_sw hP
        refine lv_icmp_eq (tgt := 709) hx hb d_LW_law_425 (by decide) (fun _ => ?_) (fun h9 => absurd rfl h9)
        exact nxt σ' ρ' H locs ls hInv' hP hS hl
      · refine lv_tableIn (off := 397) (tgt := 430) hx hb d_LW_law_33 (by decide) (by decide) (by decide) (by decide) ?_
        obtain ⟨σ', ρ', r0, e1, e2, hInv'⟩ := hI.2.2.2.2.2.2.2.2.2.2.2.2.2.1 σ ρ (xs (6 * k + 1)).toInt (xs (6 * k + 2)).toInt hInv (xw_rT _) (xw_rT _)
        refine lv_aload_n hx hb d_LW_law_430 rfl (lv_at hl 1 rfl) ?_
        refine lv_aload_n hx hb d_LW_law_431 rfl (lv_at hl 0 rfl) ?_
        refine lv_iload_n hx hb d_LW_law_432 rfl (lv_at hl 3 rfl) ?_
        refine lv_iconst (v := xw_i 1) hx hb d_LW_law_433 rfl ?_
        refine xl_iadd hx hb ((6 * k + 1 : Nat) : Int) (by omega) d_LW_law_434 ?_
        refine xl_sld (x := 6 * k + 1) hx hb hX hbl hbA hS (by omega) hL d_LW_law_435 ?_
        refine lv_aload_n hx hb d_LW_law_436 rfl (lv_at hl 0 rfl) ?_
        refine lv_iload_n hx hb d_LW_law_437 rfl (lv_at hl 3 rfl) ?_
        refine lv_iconst (v := xw_i 2) hx hb d_LW_law_438 rfl ?_
        refine xl_iadd hx hb ((6 * k + 2 : Nat) : Int) (by omega) d_LW_law_439 ?_
        refine xl_sld (x := 6 * k + 2) hx hb hX hbl hbA hS (by omega) hL d_LW_law_440 ?_
        refine xl_callVi (C := "AdviceWeaver") (T := T_AW) (As := [.int (xw_i (xs (6 * k + 1)).toInt), .int (xw_i (xs (6 * k + 2)).toInt)]) (rest := []) (Ts := lw_tbl) ⟨hx, hb, hml, hown, htl⟩ (c_AW_probe l D (xl_A s) aC cs (xw_ws kdR 29 aR cs [] ρ) tt fu σ σ' (xs (6 * k + 1)).toInt (xs (6 * k + 2)).toInt r0 e1) (cwV 2 htl (xl_g_AW_probe) rfl rfl rfl (by decide +kernel) ⟨(Nat.le_of_ble_eq_true rfl), (Nat.le_of_ble_eq_true rfl)⟩) hP hK (hDC ρ) hZ hS (by decide) kc_AW (by decide) rfl rfl hl.1 rfl (Nat.le_of_ble_eq_true rfl) d_LW_law_441 ⟨by decide, by decide⟩ (fun H locs hP hS => ?_)
        refine lv_aload_n hx hb d_LW_law_444 rfl (lv_at hl 2 rfl) ?_
        refine lv_aload_n hx hb d_LW_law_445 rfl (lv_at hl 0 rfl) ?_
        refine lv_iload_n hx hb d_LW_law_446 rfl (lv_at hl 3 rfl) ?_
        refine lv_iconst (v := xw_i 1) hx hb d_LW_law_447 rfl ?_
        refine xl_iadd hx hb ((6 * k + 1 : Nat) : Int) (by omega) d_LW_law_448 ?_
        refine xl_sld (x := 6 * k + 1) hx hb hX hbl hbA hS (by omega) hL d_LW_law_449 ?_
        refine lv_aload_n hx hb d_LW_law_450 rfl (lv_at hl 0 rfl) ?_
        refine lv_iload_n hx hb d_LW_law_451 rfl (lv_at hl 3 rfl) ?_
        refine lv_iconst (v := xw_i 2) hx hb d_LW_law_452 rfl ?_
        refine xl_iadd hx hb ((6 * k + 2 : Nat) : Int) (by omega) d_LW_law_453 ?_
        refine xl_sld (x := 6 * k + 2) hx hb hX hbl hbA hS (by omega) hL d_LW_law_454 ?_
        refine xl_callVi (C := "AdviceWeaverModel") (T := T_MD) (As := [.int (xw_i (xs (6 * k + 1)).toInt), .int (xw_i (xs (6 * k + 2)).toInt)]) (rest := [.int (xw_i r0)]) (Ts := lw_tbl) ⟨hx, hb, hml, hown, htl⟩ (c_MD_probe l D (xl_A s) aR cs (xw_ws kdC 100 aC cs [] σ') tt fu ρ ρ' (xs (6 * k + 1)).toInt (xs (6 * k + 2)).toInt r0 e2) (cwV 2 htl (xl_g_MD_probe) rfl rfl rfl (by decide +kernel) ⟨(Nat.le_of_ble_eq_true rfl), (Nat.le_of_ble_eq_true rfl)⟩) (xl_sw hP) hK (hDR σ') hZ hS (by decide) kr_MD (by decide) rfl rfl hl.1 rfl (Nat.le_of_ble_eq_true rfl) d_LW_law_455 ⟨by decide, by decide⟩ (fun H locs hP hS => ?_)
        replace hP := xl_sw hP
        refine lv_icmp_eq (tgt := 709) hx hb d_LW_law_458 (by decide) (fun _ => ?_) (fun h9 => absurd rfl h9)
        exact nxt σ' ρ' H locs ls hInv' hP hS hl
      · refine lv_tableIn (off := 430) (tgt := 463) hx hb d_LW_law_33 (by decide) (by decide) (by decide) (by decide) ?_
        by_cases hw : xw_i (xs (6 * k + 1)).toInt = 0
        · obtain ⟨σ', ρ', r0, e1, e2, hInv'⟩ := hI.2.2.2.2.2.2.2.2.2.2.2.2.2.2.1 σ ρ 0 (xs (6 * k + 2)).toInt (xs (6 * k + 3)).toInt hInv (by decide) (xw_rT _) (xw_rT _)
          refine lv_aload_n hx hb d_LW_law_463 rfl (lv_at hl 1 rfl) ?_
          refine lv_aload_n hx hb d_LW_law_464 rfl (lv_at hl 0 rfl) ?_
          refine lv_iload_n hx hb d_LW_law_465 rfl (lv_at hl 3 rfl) ?_
          refine lv_iconst (v := xw_i 1) hx hb d_LW_law_466 rfl ?_
          refine xl_iadd hx hb ((6 * k + 1 : Nat) : Int) (by omega) d_LW_law_467 ?_
          refine xl_sld (x := 6 * k + 1) hx hb hX hbl hbA hS (by omega) hL d_LW_law_468 ?_
          refine lv_if_eq (tgt := 476) hx hb d_LW_law_469 (by decide) (fun _ => ?_) (fun h9 => absurd hw h9)
          refine lv_iconst (v := xw_i 0) hx hb d_LW_law_476 rfl ?_
          refine lv_aload_n hx hb d_LW_law_477 rfl (lv_at hl 0 rfl) ?_
          refine lv_iload_n hx hb d_LW_law_478 rfl (lv_at hl 3 rfl) ?_
          refine lv_iconst (v := xw_i 2) hx hb d_LW_law_479 rfl ?_
          refine xl_iadd hx hb ((6 * k + 2 : Nat) : Int) (by omega) d_LW_law_480 ?_
          refine xl_sld (x := 6 * k + 2) hx hb hX hbl hbA hS (by omega) hL d_LW_law_481 ?_
          refine lv_aload_n hx hb d_LW_law_482 rfl (lv_at hl 0 rfl) ?_
          refine lv_iload_n hx hb d_LW_law_483 rfl (lv_at hl 3 rfl) ?_
          refine lv_iconst (v := xw_i 3) hx hb d_LW_law_484 rfl ?_
          refine xl_iadd hx hb ((6 * k + 3 : Nat) : Int) (by omega) d_LW_law_485 ?_
          refine xl_sld (x := 6 * k + 3) hx hb hX hbl hbA hS (by omega) hL d_LW_law_486 ?_
          refine xl_callVi (C := "AdviceWeaver") (T := T_AW) (As := [.int (xw_i 0), .int (xw_i (xs (6 * k + 2)).toInt), .int (xw_i (xs (6 * k + 3)).toInt)]) (rest := []) (Ts := lw_tbl) ⟨hx, hb, hml, hown, htl⟩ (c_AW_shape l D (xl_A s) aC cs (xw_ws kdR 29 aR cs [] ρ) tt fu σ σ' 0 (xs (6 * k + 2)).toInt (xs (6 * k + 3)).toInt r0 e1) (cwV 3 htl (xl_g_AW_shape) rfl rfl rfl (by decide +kernel) ⟨(Nat.le_of_ble_eq_true rfl), (Nat.le_of_ble_eq_true rfl)⟩) hP hK (hDC ρ) hZ hS (by decide) kc_AW (by decide) rfl rfl hl.1 rfl (Nat.le_of_ble_eq_true rfl) d_LW_law_487 ⟨by decide, by decide⟩ (fun H locs hP hS => ?_)
          refine lv_aload_n hx hb d_LW_law_490 rfl (lv_at hl 2 rfl) ?_
          refine lv_aload_n hx hb d_LW_law_491 rfl (lv_at hl 0 rfl) ?_
          refine lv_iload_n hx hb d_LW_law_492 rfl (lv_at hl 3 rfl) ?_
          refine lv_iconst (v := xw_i 1) hx hb d_LW_law_493 rfl ?_
          refine xl_iadd hx hb ((6 * k + 1 : Nat) : Int) (by omega) d_LW_law_494 ?_
          refine xl_sld (x := 6 * k + 1) hx hb hX hbl hbA hS (by omega) hL d_LW_law_495 ?_
          refine lv_if_eq (tgt := 503) hx hb d_LW_law_496 (by decide) (fun _ => ?_) (fun h9 => absurd hw h9)
          refine lv_iconst (v := xw_i 0) hx hb d_LW_law_503 rfl ?_
          refine lv_aload_n hx hb d_LW_law_504 rfl (lv_at hl 0 rfl) ?_
          refine lv_iload_n hx hb d_LW_law_505 rfl (lv_at hl 3 rfl) ?_
          refine lv_iconst (v := xw_i 2) hx hb d_LW_law_506 rfl ?_
          refine xl_iadd hx hb ((6 * k + 2 : Nat) : Int) (by omega) d_LW_law_507 ?_
          refine xl_sld (x := 6 * k + 2) hx hb hX hbl hbA hS (by omega) hL d_LW_law_508 ?_
          refine lv_aload_n hx hb d_LW_law_509 rfl (lv_at hl 0 rfl) ?_
          refine lv_iload_n hx hb d_LW_law_510 rfl (lv_at hl 3 rfl) ?_
          refine lv_iconst (v := xw_i 3) hx hb d_LW_law_511 rfl ?_
          refine xl_iadd hx hb ((6 * k + 3 : Nat) : Int) (by omega) d_LW_law_512 ?_
          refine xl_sld (x := 6 * k + 3) hx hb hX hbl hbA hS (by omega) hL d_LW_law_513 ?_
          refine xl_callVi (C := "AdviceWeaverModel") (T := T_MD) (As := [.int (xw_i 0), .int (xw_i (xs (6 * k + 2)).toInt), .int (xw_i (xs (6 * k + 3)).toInt)]) (rest := [.int (xw_i r0)]) (Ts := lw_tbl) ⟨hx, hb, hml, hown, htl⟩ (c_MD_shape l D (xl_A s) aR cs (xw_ws kdC 100 aC cs [] σ') tt fu ρ ρ' 0 (xs (6 * k + 2)).toInt (xs (6 * k + 3)).toInt r0 e2) (cwV 3 htl (xl_g_MD_shape) rfl rfl rfl (by decide +kernel) ⟨(Nat.le_of_ble_eq_true rfl), (Nat.le_of_ble_eq_true rfl)⟩) (xl_sw hP) hK (hDR σ') hZ hS (by decide) kr_MD (by decide) rfl rfl hl.1 rfl (Nat.le_of_ble_eq_true rfl) d_LW_law_514 ⟨by decide, by decide⟩ (fun H locs hP hS => ?_)
          replace hP := xl_sw hP
          refine lv_icmp_eq (tgt := 709) hx hb d_LW_law_517 (by decide) (fun _ => ?_) (fun h9 => absurd rfl h9)
          exact nxt σ' ρ' H locs ls hInv' hP hS hl
        · obtain ⟨σ', ρ', r0, e1, e2, hInv'⟩ := hI.2.2.2.2.2.2.2.2.2.2.2.2.2.2.1 σ ρ 1 (xs (6 * k + 2)).toInt (xs (6 * k + 3)).toInt hInv (by decide) (xw_rT _) (xw_rT _)
          refine lv_aload_n hx hb d_LW_law_463 rfl (lv_at hl 1 rfl) ?_
          refine lv_aload_n hx hb d_LW_law_464 rfl (lv_at hl 0 rfl) ?_
          refine lv_iload_n hx hb d_LW_law_465 rfl (lv_at hl 3 rfl) ?_
          refine lv_iconst (v := xw_i 1) hx hb d_LW_law_466 rfl ?_
          refine xl_iadd hx hb ((6 * k + 1 : Nat) : Int) (by omega) d_LW_law_467 ?_
          refine xl_sld (x := 6 * k + 1) hx hb hX hbl hbA hS (by omega) hL d_LW_law_468 ?_
          refine lv_if_eq (tgt := 476) hx hb d_LW_law_469 (by decide) (fun h9 => absurd h9 hw) (fun _ => ?_)
          refine lv_iconst (v := xw_i 1) hx hb d_LW_law_472 rfl ?_
          refine lv_goto (tgt := 477) hx hb d_LW_law_473 (by decide) ?_
          refine lv_aload_n hx hb d_LW_law_477 rfl (lv_at hl 0 rfl) ?_
          refine lv_iload_n hx hb d_LW_law_478 rfl (lv_at hl 3 rfl) ?_
          refine lv_iconst (v := xw_i 2) hx hb d_LW_law_479 rfl ?_
          refine xl_iadd hx hb ((6 * k + 2 : Nat) : Int) (by omega) d_LW_law_480 ?_
          refine xl_sld (x := 6 * k + 2) hx hb hX hbl hbA hS (by omega) hL d_LW_law_481 ?_
          refine lv_aload_n hx hb d_LW_law_482 rfl (lv_at hl 0 rfl) ?_
          refine lv_iload_n hx hb d_LW_law_483 rfl (lv_at hl 3 rfl) ?_
          refine lv_iconst (v := xw_i 3) hx hb d_LW_law_484 rfl ?_
          refine xl_iadd hx hb ((6 * k + 3 : Nat) : Int) (by omega) d_LW_law_485 ?_
          refine xl_sld (x := 6 * k + 3) hx hb hX hbl hbA hS (by omega) hL d_LW_law_486 ?_
          refine xl_callVi (C := "AdviceWeaver") (T := T_AW) (As := [.int (xw_i 1), .int (xw_i (xs (6 * k + 2)).toInt), .int (xw_i (xs (6 * k + 3)).toInt)]) (rest := []) (Ts := lw_tbl) ⟨hx, hb, hml, hown, htl⟩ (c_AW_shape l D (xl_A s) aC cs (xw_ws kdR 29 aR cs [] ρ) tt fu σ σ' 1 (xs (6 * k + 2)).toInt (xs (6 * k + 3)).toInt r0 e1) (cwV 3 htl (xl_g_AW_shape) rfl rfl rfl (by decide +kernel) ⟨(Nat.le_of_ble_eq_true rfl), (Nat.le_of_ble_eq_true rfl)⟩) hP hK (hDC ρ) hZ hS (by decide) kc_AW (by decide) rfl rfl hl.1 rfl (Nat.le_of_ble_eq_true rfl) d_LW_law_487 ⟨by decide, by decide⟩ (fun H locs hP hS => ?_)
          refine lv_aload_n hx hb d_LW_law_490 rfl (lv_at hl 2 rfl) ?_
          refine lv_aload_n hx hb d_LW_law_491 rfl (lv_at hl 0 rfl) ?_
          refine lv_iload_n hx hb d_LW_law_492 rfl (lv_at hl 3 rfl) ?_
          refine lv_iconst (v := xw_i 1) hx hb d_LW_law_493 rfl ?_
          refine xl_iadd hx hb ((6 * k + 1 : Nat) : Int) (by omega) d_LW_law_494 ?_
          refine xl_sld (x := 6 * k + 1) hx hb hX hbl hbA hS (by omega) hL d_LW_law_495 ?_
          refine lv_if_eq (tgt := 503) hx hb d_LW_law_496 (by decide) (fun h9 => absurd h9 hw) (fun _ => ?_)
          refine lv_iconst (v := xw_i 1) hx hb d_LW_law_499 rfl ?_
          refine lv_goto (tgt := 504) hx hb d_LW_law_500 (by decide) ?_
          refine lv_aload_n hx hb d_LW_law_504 rfl (lv_at hl 0 rfl) ?_
          refine lv_iload_n hx hb d_LW_law_505 rfl (lv_at hl 3 rfl) ?_
          refine lv_iconst (v := xw_i 2) hx hb d_LW_law_506 rfl ?_
          refine xl_iadd hx hb ((6 * k + 2 : Nat) : Int) (by omega) d_LW_law_507 ?_
          refine xl_sld (x := 6 * k + 2) hx hb hX hbl hbA hS (by omega) hL d_LW_law_508 ?_
          refine lv_aload_n hx hb d_LW_law_509 rfl (lv_at hl 0 rfl) ?_
          refine lv_iload_n hx hb d_LW_law_510 rfl (lv_at hl 3 rfl) ?_
          refine lv_iconst (v := xw_i 3) hx hb d_LW_law_511 rfl ?_
          refine xl_iadd hx hb ((6 * k + 3 : Nat) : Int) (by omega) d_LW_law_512 ?_
          refine xl_sld (x := 6 * k + 3) hx hb hX hbl hbA hS (by omega) hL d_LW_law_513 ?_
          refine xl_callVi (C := "AdviceWeaverModel") (T := T_MD) (As := [.int (xw_i 1), .int (xw_i (xs (6 * k + 2)).toInt), .int (xw_i (xs (6 * k + 3)).toInt)]) (rest := [.int (xw_i r0)]) (Ts := lw_tbl) ⟨hx, hb, hml, hown, htl⟩ (c_MD_shape l D (xl_A s) aR cs (xw_ws kdC 100 aC cs [] σ') tt fu ρ ρ' 1 (xs (6 * k + 2)).toInt (xs (6 * k + 3)).toInt r0 e2) (cwV 3 htl (xl_g_MD_shape) rfl rfl rfl (by decide +kernel) ⟨(Nat.le_of_ble_eq_true rfl), (Nat.le_of_ble_eq_true rfl)⟩) (xl_sw hP) hK (hDR σ') hZ hS (by decide) kr_MD (by decide) rfl rfl hl.1 rfl (Nat.le_of_ble_eq_true rfl) d_LW_law_514 ⟨by decide, by decide⟩ (fun H locs hP hS => ?_)
          replace hP := xl_sw hP
          refine lv_icmp_eq (tgt := 709) hx hb d_LW_law_517 (by decide) (fun _ => ?_) (fun h9 => absurd rfl h9)
          exact nxt σ' ρ' H locs ls hInv' hP hS hl
      · refine lv_tableIn (off := 489) (tgt := 522) hx hb d_LW_law_33 (by decide) (by decide) (by decide) (by decide) ?_
        by_cases hw : xw_i (xs (6 * k + 1)).toInt = 0
        · obtain ⟨σ', ρ', r0, e1, e2, hInv'⟩ := hI.2.2.2.2.2.2.2.2.2.2.2.2.2.2.2.1 σ ρ 0 (xs (6 * k + 2)).toInt (xs (6 * k + 3)).toInt hInv (by decide) (xw_rT _) (xw_rT _)
          refine lv_aload_n hx hb d_LW_law_522 rfl (lv_at hl 1 rfl) ?_
          refine lv_aload_n hx hb d_LW_law_523 rfl (lv_at hl 0 rfl) ?_
          refine lv_iload_n hx hb d_LW_law_524 rfl (lv_at hl 3 rfl) ?_
          refine lv_iconst (v := xw_i 1) hx hb d_LW_law_525 rfl ?_
          refine xl_iadd hx hb ((6 * k + 1 : Nat) : Int) (by omega) d_LW_law_526 ?_
          refine xl_sld (x := 6 * k + 1) hx hb hX hbl hbA hS (by omega) hL d_LW_law_527 ?_
          refine lv_if_eq (tgt := 535) hx hb d_LW_law_528 (by decide) (fun _ => ?_) (fun h9 => absurd hw h9)
          refine lv_iconst (v := xw_i 0) hx hb d_LW_law_535 rfl ?_
          refine lv_aload_n hx hb d_LW_law_536 rfl (lv_at hl 0 rfl) ?_
          refine lv_iload_n hx hb d_LW_law_537 rfl (lv_at hl 3 rfl) ?_
          refine lv_iconst (v := xw_i 2) hx hb d_LW_law_538 rfl ?_
          refine xl_iadd hx hb ((6 * k + 2 : Nat) : Int) (by omega) d_LW_law_539 ?_
          refine xl_sld (x := 6 * k + 2) hx hb hX hbl hbA hS (by omega) hL d_LW_law_540 ?_
          refine lv_aload_n hx hb d_LW_law_541 rfl (lv_at hl 0 rfl) ?_
          refine lv_iload_n hx hb d_LW_law_542 rfl (lv_at hl 3 rfl) ?_
          refine lv_iconst (v := xw_i 3) hx hb d_LW_law_543 rfl ?_
          refine xl_iadd hx hb ((6 * k + 3 : Nat) : Int) (by omega) d_LW_law_544 ?_
          refine xl_sld (x := 6 * k + 3) hx hb hX hbl hbA hS (by omega) hL d_LW_law_545 ?_
          refine xl_callVi (C := "AdviceWeaver") (T := T_AW) (As := [.int (xw_i 0), .int (xw_i (xs (6 * k + 2)).toInt), .int (xw_i (xs (6 * k + 3)).toInt)]) (rest := []) (Ts := lw_tbl) ⟨hx, hb, hml, hown, htl⟩ (c_AW_code l D (xl_A s) aC cs (xw_ws kdR 29 aR cs [] ρ) tt fu σ σ' 0 (xs (6 * k + 2)).toInt (xs (6 * k + 3)).toInt r0 e1) (cwV 3 htl (xl_g_AW_code) rfl rfl rfl (by decide +kernel) ⟨(Nat.le_of_ble_eq_true rfl), (Nat.le_of_ble_eq_true rfl)⟩) hP hK (hDC ρ) hZ hS (by decide) kc_AW (by decide) rfl rfl hl.1 rfl (Nat.le_of_ble_eq_true rfl) d_LW_law_546 ⟨by decide, by decide⟩ (fun H locs hP hS => ?_)
          refine lv_aload_n hx hb d_LW_law_549 rfl (lv_at hl 2 rfl) ?_
          refine lv_aload_n hx hb d_LW_law_550 rfl (lv_at hl 0 rfl) ?_
          refine lv_iload_n hx hb d_LW_law_551 rfl (lv_at hl 3 rfl) ?_
          refine lv_iconst (v := xw_i 1) hx hb d_LW_law_552 rfl ?_
          refine xl_iadd hx hb ((6 * k + 1 : Nat) : Int) (by omega) d_LW_law_553 ?_
          refine xl_sld (x := 6 * k + 1) hx hb hX hbl hbA hS (by omega) hL d_LW_law_554 ?_
          refine lv_if_eq (tgt := 562) hx hb d_LW_law_555 (by decide) (fun _ => ?_) (fun h9 => absurd hw h9)
          refine lv_iconst (v := xw_i 0) hx hb d_LW_law_562 rfl ?_
          refine lv_aload_n hx hb d_LW_law_563 rfl (lv_at hl 0 rfl) ?_
          refine lv_iload_n hx hb d_LW_law_564 rfl (lv_at hl 3 rfl) ?_
          refine lv_iconst (v := xw_i 2) hx hb d_LW_law_565 rfl ?_
          refine xl_iadd hx hb ((6 * k + 2 : Nat) : Int) (by omega) d_LW_law_566 ?_
          refine xl_sld (x := 6 * k + 2) hx hb hX hbl hbA hS (by omega) hL d_LW_law_567 ?_
          refine lv_aload_n hx hb d_LW_law_568 rfl (lv_at hl 0 rfl) ?_
          refine lv_iload_n hx hb d_LW_law_569 rfl (lv_at hl 3 rfl) ?_
          refine lv_iconst (v := xw_i 3) hx hb d_LW_law_570 rfl ?_
          refine xl_iadd hx hb ((6 * k + 3 : Nat) : Int) (by omega) d_LW_law_571 ?_
          refine xl_sld (x := 6 * k + 3) hx hb hX hbl hbA hS (by omega) hL d_LW_law_572 ?_
          refine xl_callVi (C := "AdviceWeaverModel") (T := T_MD) (As := [.int (xw_i 0), .int (xw_i (xs (6 * k + 2)).toInt), .int (xw_i (xs (6 * k + 3)).toInt)]) (rest := [.int (xw_i r0)]) (Ts := lw_tbl) ⟨hx, hb, hml, hown, htl⟩ (c_MD_code l D (xl_A s) aR cs (xw_ws kdC 100 aC cs [] σ') tt fu ρ ρ' 0 (xs (6 * k + 2)).toInt (xs (6 * k + 3)).toInt r0 e2) (cwV 3 htl (xl_g_MD_code) rfl rfl rfl (by decide +kernel) ⟨(Nat.le_of_ble_eq_true rfl), (Nat.le_of_ble_eq_true rfl)⟩) (xl_sw hP) hK (hDR σ') hZ hS (by decide) kr_MD (by decide) rfl rfl hl.1 rfl (Nat.le_of_ble_eq_true rfl) d_LW_law_573 ⟨by decide, by decide⟩ (fun H locs hP hS => ?_)
          replace hP := xl_sw hP
          refine lv_icmp_eq (tgt := 709) hx hb d_LW_law_576 (by decide) (fun _ => ?_) (fun h9 => absurd rfl h9)
          exact nxt σ' ρ' H locs ls hInv' hP hS hl
        · obtain ⟨σ', ρ', r0, e1, e2, hInv'⟩ := hI.2.2.2.2.2.2.2.2.2.2.2.2.2.2.2.1 σ ρ 1 (xs (6 * k + 2)).toInt (xs (6 * k + 3)).toInt hInv (by decide) (xw_rT _) (xw_rT _)
          refine lv_aload_n hx hb d_LW_law_522 rfl (lv_at hl 1 rfl) ?_
          refine lv_aload_n hx hb d_LW_law_523 rfl (lv_at hl 0 rfl) ?_
          refine lv_iload_n hx hb d_LW_law_524 rfl (lv_at hl 3 rfl) ?_
          refine lv_iconst (v := xw_i 1) hx hb d_LW_law_525 rfl ?_
          refine xl_iadd hx hb ((6 * k + 1 : Nat) : Int) (by omega) d_LW_law_526 ?_
          refine xl_sld (x := 6 * k + 1) hx hb hX hbl hbA hS (by omega) hL d_LW_law_527 ?_
          refine lv_if_eq (tgt := 535) hx hb d_LW_law_528 (by decide) (fun h9 => absurd h9 hw) (fun _ => ?_)
          refine lv_iconst (v := xw_i 1) hx hb d_LW_law_531 rfl ?_
          refine lv_goto (tgt := 536) hx hb d_LW_law_532 (by decide) ?_
          refine lv_aload_n hx hb d_LW_law_536 rfl (lv_at hl 0 rfl) ?_
          refine lv_iload_n hx hb d_LW_law_537 rfl (lv_at hl 3 rfl) ?_
          refine lv_iconst (v := xw_i 2) hx hb d_LW_law_538 rfl ?_
          refine xl_iadd hx hb ((6 * k + 2 : Nat) : Int) (by omega) d_LW_law_539 ?_
          refine xl_sld (x := 6 * k + 2) hx hb hX hbl hbA hS (by omega) hL d_LW_law_540 ?_
          refine lv_aload_n hx hb d_LW_law_541 rfl (lv_at hl 0 rfl) ?_
          refine lv_iload_n hx hb d_LW_law_542 rfl (lv_at hl 3 rfl) ?_
          refine lv_iconst (v := xw_i 3) hx hb d_LW_law_543 rfl ?_
          refine xl_iadd hx hb ((6 * k + 3 : Nat) : Int) (by omega) d_LW_law_544 ?_
          refine xl_sld (x := 6 * k + 3) hx hb hX hbl hbA hS (by omega) hL d_LW_law_545 ?_
          refine xl_callVi (C := "AdviceWeaver") (T := T_AW) (As := [.int (xw_i 1), .int (xw_i (xs (6 * k + 2)).toInt), .int (xw_i (xs (6 * k + 3)).toInt)]) (rest := []) (Ts := lw_tbl) ⟨hx, hb, hml, hown, htl⟩ (c_AW_code l D (xl_A s) aC cs (xw_ws kdR 29 aR cs [] ρ) tt fu σ σ' 1 (xs (6 * k + 2)).toInt (xs (6 * k + 3)).toInt r0 e1) (cwV 3 htl (xl_g_AW_code) rfl rfl rfl (by decide +kernel) ⟨(Nat.le_of_ble_eq_true rfl), (Nat.le_of_ble_eq_true rfl)⟩) hP hK (hDC ρ) hZ hS (by decide) kc_AW (by decide) rfl rfl hl.1 rfl (Nat.le_of_ble_eq_true rfl) d_LW_law_546 ⟨by decide, by decide⟩ (fun H locs hP hS => ?_)
          refine lv_aload_n hx hb d_LW_law_549 rfl (lv_at hl 2 rfl) ?_
          refine lv_aload_n hx hb d_LW_law_550 rfl (lv_at hl 0 rfl) ?_
          refine lv_iload_n hx hb d_LW_law_551 rfl (lv_at hl 3 rfl) ?_
          refine lv_iconst (v := xw_i 1) hx hb d_LW_law_552 rfl ?_
          refine xl_iadd hx hb ((6 * k + 1 : Nat) : Int) (by omega) d_LW_law_553 ?_
          refine xl_sld (x := 6 * k + 1) hx hb hX hbl hbA hS (by omega) hL d_LW_law_554 ?_
          refine lv_if_eq (tgt := 562) hx hb d_LW_law_555 (by decide) (fun h9 => absurd h9 hw) (fun _ => ?_)
          refine lv_iconst (v := xw_i 1) hx hb d_LW_law_558 rfl ?_
          refine lv_goto (tgt := 563) hx hb d_LW_law_559 (by decide) ?_
          refine lv_aload_n hx hb d_LW_law_563 rfl (lv_at hl 0 rfl) ?_
          refine lv_iload_n hx hb d_LW_law_564 rfl (lv_at hl 3 rfl) ?_
          refine lv_iconst (v := xw_i 2) hx hb d_LW_law_565 rfl ?_
          refine xl_iadd hx hb ((6 * k + 2 : Nat) : Int) (by omega) d_LW_law_566 ?_
          refine xl_sld (x := 6 * k + 2) hx hb hX hbl hbA hS (by omega) hL d_LW_law_567 ?_
          refine lv_aload_n hx hb d_LW_law_568 rfl (lv_at hl 0 rfl) ?_
          refine lv_iload_n hx hb d_LW_law_569 rfl (lv_at hl 3 rfl) ?_
          refine lv_iconst (v := xw_i 3) hx hb d_LW_law_570 rfl ?_
          refine xl_iadd hx hb ((6 * k + 3 : Nat) : Int) (by omega) d_LW_law_571 ?_
          refine xl_sld (x := 6 * k + 3) hx hb hX hbl hbA hS (by omega) hL d_LW_law_572 ?_
          refine xl_callVi (C := "AdviceWeaverModel") (T := T_MD) (As := [.int (xw_i 1), .int (xw_i (xs (6 * k + 2)).toInt), .int (xw_i (xs (6 * k + 3)).toInt)]) (rest := [.int (xw_i r0)]) (Ts := lw_tbl) ⟨hx, hb, hml, hown, htl⟩ (c_MD_code l D (xl_A s) aR cs (xw_ws kdC 100 aC cs [] σ') tt fu ρ ρ' 1 (xs (6 * k + 2)).toInt (xs (6 * k + 3)).toInt r0 e2) (cwV 3 htl (xl_g_MD_code) rfl rfl rfl (by decide +kernel) ⟨(Nat.le_of_ble_eq_true rfl), (Nat.le_of_ble_eq_true rfl)⟩) (xl_sw hP) hK (hDR σ') hZ hS (by decide) kr_MD (by decide) rfl rfl hl.1 rfl (Nat.le_of_ble_eq_true rfl) d_LW_law_573 ⟨by decide, by decide⟩ (fun H locs hP hS => ?_)
          replace hP := xl_sw hP
          refine lv_icmp_eq (tgt := 709) hx hb d_LW_law_576 (by decide) (fun _ => ?_) (fun h9 => absurd rfl h9)
          exact nxt σ' ρ' H locs ls hInv' hP hS hl
      · refine lv_tableIn (off := 548) (tgt := 581) hx hb d_LW_law_33 (by decide) (by decide) (by decide) (by decide) ?_
        by_cases hw : xw_i (xs (6 * k + 1)).toInt = 0
        · obtain ⟨σ', ρ', r0, e1, e2, hInv'⟩ := hI.2.2.2.2.2.2.2.2.2.2.2.2.2.2.2.2.1 σ ρ 0 (xs (6 * k + 2)).toInt (xs (6 * k + 3)).toInt (xs (6 * k + 4)).toInt hInv (by decide) (xw_rT _) (xw_rT _) (xw_rT _)
          refine lv_aload_n hx hb d_LW_law_581 rfl (lv_at hl 1 rfl) ?_
          refine lv_aload_n hx hb d_LW_law_582 rfl (lv_at hl 0 rfl) ?_
          refine lv_iload_n hx hb d_LW_law_583 rfl (lv_at hl 3 rfl) ?_
          refine lv_iconst (v := xw_i 1) hx hb d_LW_law_584 rfl ?_
          refine xl_iadd hx hb ((6 * k + 1 : Nat) : Int) (by omega) d_LW_law_585 ?_
          refine xl_sld (x := 6 * k + 1) hx hb hX hbl hbA hS (by omega) hL d_LW_law_586 ?_
          refine lv_if_eq (tgt := 594) hx hb d_LW_law_587 (by decide) (fun _ => ?_) (fun h9 => absurd hw h9)
          refine lv_iconst (v := xw_i 0) hx hb d_LW_law_594 rfl ?_
          refine lv_aload_n hx hb d_LW_law_595 rfl (lv_at hl 0 rfl) ?_
          refine lv_iload_n hx hb d_LW_law_596 rfl (lv_at hl 3 rfl) ?_
          refine lv_iconst (v := xw_i 2) hx hb d_LW_law_597 rfl ?_
          refine xl_iadd hx hb ((6 * k + 2 : Nat) : Int) (by omega) d_LW_law_598 ?_
          refine xl_sld (x := 6 * k + 2) hx hb hX hbl hbA hS (by omega) hL d_LW_law_599 ?_
          refine lv_aload_n hx hb d_LW_law_600 rfl (lv_at hl 0 rfl) ?_
          refine lv_iload_n hx hb d_LW_law_601 rfl (lv_at hl 3 rfl) ?_
          refine lv_iconst (v := xw_i 3) hx hb d_LW_law_602 rfl ?_
          refine xl_iadd hx hb ((6 * k + 3 : Nat) : Int) (by omega) d_LW_law_603 ?_
          refine xl_sld (x := 6 * k + 3) hx hb hX hbl hbA hS (by omega) hL d_LW_law_604 ?_
          refine lv_aload_n hx hb d_LW_law_605 rfl (lv_at hl 0 rfl) ?_
          refine lv_iload_n hx hb d_LW_law_606 rfl (lv_at hl 3 rfl) ?_
          refine lv_iconst (v := xw_i 4) hx hb d_LW_law_607 rfl ?_
          refine xl_iadd hx hb ((6 * k + 4 : Nat) : Int) (by omega) d_LW_law_608 ?_
          refine xl_sld (x := 6 * k + 4) hx hb hX hbl hbA hS (by omega) hL d_LW_law_609 ?_
          refine xl_callVi (C := "AdviceWeaver") (T := T_AW) (As := [.int (xw_i 0), .int (xw_i (xs (6 * k + 2)).toInt), .int (xw_i (xs (6 * k + 3)).toInt), .int (xw_i (xs (6 * k + 4)).toInt)]) (rest := []) (Ts := lw_tbl) ⟨hx, hb, hml, hown, htl⟩ (c_AW_handler l D (xl_A s) aC cs (xw_ws kdR 29 aR cs [] ρ) tt fu σ σ' 0 (xs (6 * k + 2)).toInt (xs (6 * k + 3)).toInt (xs (6 * k + 4)).toInt r0 e1) (cwV 4 htl (xl_g_AW_handler) rfl rfl rfl (by decide +kernel) ⟨(Nat.le_of_ble_eq_true rfl), (Nat.le_of_ble_eq_true rfl)⟩) hP hK (hDC ρ) hZ hS (by decide) kc_AW (by decide) rfl rfl hl.1 rfl (Nat.le_of_ble_eq_true rfl) d_LW_law_610 ⟨by decide, by decide⟩ (fun H locs hP hS => ?_)
          refine lv_aload_n hx hb d_LW_law_613 rfl (lv_at hl 2 rfl) ?_
          refine lv_aload_n hx hb d_LW_law_614 rfl (lv_at hl 0 rfl) ?_
          refine lv_iload_n hx hb d_LW_law_615 rfl (lv_at hl 3 rfl) ?_
          refine lv_iconst (v := xw_i 1) hx hb d_LW_law_616 rfl ?_
          refine xl_iadd hx hb ((6 * k + 1 : Nat) : Int) (by omega) d_LW_law_617 ?_
          refine xl_sld (x := 6 * k + 1) hx hb hX hbl hbA hS (by omega) hL d_LW_law_618 ?_
          refine lv_if_eq (tgt := 626) hx hb d_LW_law_619 (by decide) (fun _ => ?_) (fun h9 => absurd hw h9)
          refine lv_iconst (v := xw_i 0) hx hb d_LW_law_626 rfl ?_
          refine lv_aload_n hx hb d_LW_law_627 rfl (lv_at hl 0 rfl) ?_
          refine lv_iload_n hx hb d_LW_law_628 rfl (lv_at hl 3 rfl) ?_
          refine lv_iconst (v := xw_i 2) hx hb d_LW_law_629 rfl ?_
          refine xl_iadd hx hb ((6 * k + 2 : Nat) : Int) (by omega) d_LW_law_630 ?_
          refine xl_sld (x := 6 * k + 2) hx hb hX hbl hbA hS (by omega) hL d_LW_law_631 ?_
          refine lv_aload_n hx hb d_LW_law_632 rfl (lv_at hl 0 rfl) ?_
          refine lv_iload_n hx hb d_LW_law_633 rfl (lv_at hl 3 rfl) ?_
          refine lv_iconst (v := xw_i 3) hx hb d_LW_law_634 rfl ?_
          refine xl_iadd hx hb ((6 * k + 3 : Nat) : Int) (by omega) d_LW_law_635 ?_
          refine xl_sld (x := 6 * k + 3) hx hb hX hbl hbA hS (by omega) hL d_LW_law_636 ?_
          refine lv_aload_n hx hb d_LW_law_637 rfl (lv_at hl 0 rfl) ?_
          refine lv_iload_n hx hb d_LW_law_638 rfl (lv_at hl 3 rfl) ?_
          refine lv_iconst (v := xw_i 4) hx hb d_LW_law_639 rfl ?_
          refine xl_iadd hx hb ((6 * k + 4 : Nat) : Int) (by omega) d_LW_law_640 ?_
          refine xl_sld (x := 6 * k + 4) hx hb hX hbl hbA hS (by omega) hL d_LW_law_641 ?_
          refine xl_callVi (C := "AdviceWeaverModel") (T := T_MD) (As := [.int (xw_i 0), .int (xw_i (xs (6 * k + 2)).toInt), .int (xw_i (xs (6 * k + 3)).toInt), .int (xw_i (xs (6 * k + 4)).toInt)]) (rest := [.int (xw_i r0)]) (Ts := lw_tbl) ⟨hx, hb, hml, hown, htl⟩ (c_MD_handler l D (xl_A s) aR cs (xw_ws kdC 100 aC cs [] σ') tt fu ρ ρ' 0 (xs (6 * k + 2)).toInt (xs (6 * k + 3)).toInt (xs (6 * k + 4)).toInt r0 e2) (cwV 4 htl (xl_g_MD_handler) rfl rfl rfl (by decide +kernel) ⟨(Nat.le_of_ble_eq_true rfl), (Nat.le_of_ble_eq_true rfl)⟩) (xl_sw hP) hK (hDR σ') hZ hS (by decide) kr_MD (by decide) rfl rfl hl.1 rfl (Nat.le_of_ble_eq_true rfl) d_LW_law_642 ⟨by decide, by decide⟩ (fun H locs hP hS => ?_)
          replace hP := xl_sw hP
          refine lv_icmp_eq (tgt := 709) hx hb d_LW_law_645 (by decide) (fun _ => ?_) (fun h9 => absurd rfl h9)
          exact nxt σ' ρ' H locs ls hInv' hP hS hl
        · obtain ⟨σ', ρ', r0, e1, e2, hInv'⟩ := hI.2.2.2.2.2.2.2.2.2.2.2.2.2.2.2.2.1 σ ρ 1 (xs (6 * k + 2)).toInt (xs (6 * k + 3)).toInt (xs (6 * k + 4)).toInt hInv (by decide) (xw_rT _) (xw_rT _) (xw_rT _)
          refine lv_aload_n hx hb d_LW_law_581 rfl (lv_at hl 1 rfl) ?_
          refine lv_aload_n hx hb d_LW_law_582 rfl (lv_at hl 0 rfl) ?_
          refine lv_iload_n hx hb d_LW_law_583 rfl (lv_at hl 3 rfl) ?_
          refine lv_iconst (v := xw_i 1) hx hb d_LW_law_584 rfl ?_
          refine xl_iadd hx hb ((6 * k + 1 : Nat) : Int) (by omega) d_LW_law_585 ?_
          refine xl_sld (x := 6 * k + 1) hx hb hX hbl hbA hS (by omega) hL d_LW_law_586 ?_
          refine lv_if_eq (tgt := 594) hx hb d_LW_law_587 (by decide) (fun h9 => absurd h9 hw) (fun _ => ?_)
          refine lv_iconst (v := xw_i 1) hx hb d_LW_law_590 rfl ?_
          refine lv_goto (tgt := 595) hx hb d_LW_law_591 (by decide) ?_
          refine lv_aload_n hx hb d_LW_law_595 rfl (lv_at hl 0 rfl) ?_
          refine lv_iload_n hx hb d_LW_law_596 rfl (lv_at hl 3 rfl) ?_
          refine lv_iconst (v := xw_i 2) hx hb d_LW_law_597 rfl ?_
          refine xl_iadd hx hb ((6 * k + 2 : Nat) : Int) (by omega) d_LW_law_598 ?_
          refine xl_sld (x := 6 * k + 2) hx hb hX hbl hbA hS (by omega) hL d_LW_law_599 ?_
          refine lv_aload_n hx hb d_LW_law_600 rfl (lv_at hl 0 rfl) ?_
          refine lv_iload_n hx hb d_LW_law_601 rfl (lv_at hl 3 rfl) ?_
          refine lv_iconst (v := xw_i 3) hx hb d_LW_law_602 rfl ?_
          refine xl_iadd hx hb ((6 * k + 3 : Nat) : Int) (by omega) d_LW_law_603 ?_
          refine xl_sld (x := 6 * k + 3) hx hb hX hbl hbA hS (by omega) hL d_LW_law_604 ?_
          refine lv_aload_n hx hb d_LW_law_605 rfl (lv_at hl 0 rfl) ?_
          refine lv_iload_n hx hb d_LW_law_606 rfl (lv_at hl 3 rfl) ?_
          refine lv_iconst (v := xw_i 4) hx hb d_LW_law_607 rfl ?_
          refine xl_iadd hx hb ((6 * k + 4 : Nat) : Int) (by omega) d_LW_law_608 ?_
          refine xl_sld (x := 6 * k + 4) hx hb hX hbl hbA hS (by omega) hL d_LW_law_609 ?_
          refine xl_callVi (C := "AdviceWeaver") (T := T_AW) (As := [.int (xw_i 1), .int (xw_i (xs (6 * k + 2)).toInt), .int (xw_i (xs (6 * k + 3)).toInt), .int (xw_i (xs (6 * k + 4)).toInt)]) (rest := []) (Ts := lw_tbl) ⟨hx, hb, hml, hown, htl⟩ (c_AW_handler l D (xl_A s) aC cs (xw_ws kdR 29 aR cs [] ρ) tt fu σ σ' 1 (xs (6 * k + 2)).toInt (xs (6 * k + 3)).toInt (xs (6 * k + 4)).toInt r0 e1) (cwV 4 htl (xl_g_AW_handler) rfl rfl rfl (by decide +kernel) ⟨(Nat.le_of_ble_eq_true rfl), (Nat.le_of_ble_eq_true rfl)⟩) hP hK (hDC ρ) hZ hS (by decide) kc_AW (by decide) rfl rfl hl.1 rfl (Nat.le_of_ble_eq_true rfl) d_LW_law_610 ⟨by decide, by decide⟩ (fun H locs hP hS => ?_)
          refine lv_aload_n hx hb d_LW_law_613 rfl (lv_at hl 2 rfl) ?_
          refine lv_aload_n hx hb d_LW_law_614 rfl (lv_at hl 0 rfl) ?_
          refine lv_iload_n hx hb d_LW_law_615 rfl (lv_at hl 3 rfl) ?_
          refine lv_iconst (v := xw_i 1) hx hb d_LW_law_616 rfl ?_
          refine xl_iadd hx hb ((6 * k + 1 : Nat) : Int) (by omega) d_LW_law_617 ?_
          refine xl_sld (x := 6 * k + 1) hx hb hX hbl hbA hS (by omega) hL d_LW_law_618 ?_
          refine lv_if_eq (tgt := 626) hx hb d_LW_law_619 (by decide) (fun h9 => absurd h9 hw) (fun _ => ?_)
          refine lv_iconst (v := xw_i 1) hx hb d_LW_law_622 rfl ?_
          refine lv_goto (tgt := 627) hx hb d_LW_law_623 (by decide) ?_
          refine lv_aload_n hx hb d_LW_law_627 rfl (lv_at hl 0 rfl) ?_
          refine lv_iload_n hx hb d_LW_law_628 rfl (lv_at hl 3 rfl) ?_
          refine lv_iconst (v := xw_i 2) hx hb d_LW_law_629 rfl ?_
          refine xl_iadd hx hb ((6 * k + 2 : Nat) : Int) (by omega) d_LW_law_630 ?_
          refine xl_sld (x := 6 * k + 2) hx hb hX hbl hbA hS (by omega) hL d_LW_law_631 ?_
          refine lv_aload_n hx hb d_LW_law_632 rfl (lv_at hl 0 rfl) ?_
          refine lv_iload_n hx hb d_LW_law_633 rfl (lv_at hl 3 rfl) ?_
          refine lv_iconst (v := xw_i 3) hx hb d_LW_law_634 rfl ?_
          refine xl_iadd hx hb ((6 * k + 3 : Nat) : Int) (by omega) d_LW_law_635 ?_
          refine xl_sld (x := 6 * k + 3) hx hb hX hbl hbA hS (by omega) hL d_LW_law_636 ?_
          refine lv_aload_n hx hb d_LW_law_637 rfl (lv_at hl 0 rfl) ?_
          refine lv_iload_n hx hb d_LW_law_638 rfl (lv_at hl 3 rfl) ?_
          refine lv_iconst (v := xw_i 4) hx hb d_LW_law_639 rfl ?_
          refine xl_iadd hx hb ((6 * k + 4 : Nat) : Int) (by omega) d_LW_law_640 ?_
          refine xl_sld (x := 6 * k + 4) hx hb hX hbl hbA hS (by omega) hL d_LW_law_641 ?_
          refine xl_callVi (C := "AdviceWeaverModel") (T := T_MD) (As := [.int (xw_i 1), .int (xw_i (xs (6 * k + 2)).toInt), .int (xw_i (xs (6 * k + 3)).toInt), .int (xw_i (xs (6 * k + 4)).toInt)]) (rest := [.int (xw_i r0)]) (Ts := lw_tbl) ⟨hx, hb, hml, hown, htl⟩ (c_MD_handler l D (xl_A s) aR cs (xw_ws kdC 100 aC cs [] σ') tt fu ρ ρ' 1 (xs (6 * k + 2)).toInt (xs (6 * k + 3)).toInt (xs (6 * k + 4)).toInt r0 e2) (cwV 4 htl (xl_g_MD_handler) rfl rfl rfl (by decide +kernel) ⟨(Nat.le_of_ble_eq_true rfl), (Nat.le_of_ble_eq_true rfl)⟩) (xl_sw hP) hK (hDR σ') hZ hS (by decide) kr_MD (by decide) rfl rfl hl.1 rfl (Nat.le_of_ble_eq_true rfl) d_LW_law_642 ⟨by decide, by decide⟩ (fun H locs hP hS => ?_)
          replace hP := xl_sw hP
          refine lv_icmp_eq (tgt := 709) hx hb d_LW_law_645 (by decide) (fun _ => ?_) (fun h9 => absurd rfl h9)
          exact nxt σ' ρ' H locs ls hInv' hP hS hl
      · refine lv_tableIn (off := 617) (tgt := 650) hx hb d_LW_law_33 (by decide) (by decide) (by decide) (by decide) ?_
        by_cases hw : xw_i (xs (6 * k + 1)).toInt = 0
        · obtain ⟨σ', ρ', r0, e1, e2, hInv'⟩ := hI.2.2.2.2.2.2.2.2.2.2.2.2.2.2.2.2.2 σ ρ 0 (xs (6 * k + 2)).toInt (xs (6 * k + 3)).toInt hInv (by decide) (xw_rT _) (xw_rT _)
          refine lv_aload_n hx hb d_LW_law_650 rfl (lv_at hl 1 rfl) ?_
          refine lv_aload_n hx hb d_LW_law_651 rfl (lv_at hl 0 rfl) ?_
          refine lv_iload_n hx hb d_LW_law_652 rfl (lv_at hl 3 rfl) ?_
          refine lv_iconst (v := xw_i 1) hx hb d_LW_law_653 rfl ?_
          refine xl_iadd hx hb ((6 * k + 1 : Nat) : Int) (by omega) d_LW_law_654 ?_
          refine xl_sld (x := 6 * k + 1) hx hb hX hbl hbA hS (by omega) hL d_LW_law_655 ?_
          refine lv_if_eq (tgt := 663) hx hb d_LW_law_656 (by decide) (fun _ => ?_) (fun h9 => absurd hw h9)
          refine lv_iconst (v := xw_i 0) hx hb d_LW_law_663 rfl ?_
          refine lv_aload_n hx hb d_LW_law_664 rfl (lv_at hl 0 rfl) ?_
          refine lv_iload_n hx hb d_LW_law_665 rfl (lv_at hl 3 rfl) ?_
          refine lv_iconst (v := xw_i 2) hx hb d_LW_law_666 rfl ?_
          refine xl_iadd hx hb ((6 * k + 2 : Nat) : Int) (by omega) d_LW_law_667 ?_
          refine xl_sld (x := 6 * k + 2) hx hb hX hbl hbA hS (by omega) hL d_LW_law_668 ?_
          refine lv_aload_n hx hb d_LW_law_669 rfl (lv_at hl 0 rfl) ?_
          refine lv_iload_n hx hb d_LW_law_670 rfl (lv_at hl 3 rfl) ?_
          refine lv_iconst (v := xw_i 3) hx hb d_LW_law_671 rfl ?_
          refine xl_iadd hx hb ((6 * k + 3 : Nat) : Int) (by omega) d_LW_law_672 ?_
          refine xl_sld (x := 6 * k + 3) hx hb hX hbl hbA hS (by omega) hL d_LW_law_673 ?_
          refine xl_callVi (C := "AdviceWeaver") (T := T_AW) (As := [.int (xw_i 0), .int (xw_i (xs (6 * k + 2)).toInt), .int (xw_i (xs (6 * k + 3)).toInt)]) (rest := []) (Ts := lw_tbl) ⟨hx, hb, hml, hown, htl⟩ (c_AW_depth l D (xl_A s) aC cs (xw_ws kdR 29 aR cs [] ρ) tt fu σ σ' 0 (xs (6 * k + 2)).toInt (xs (6 * k + 3)).toInt r0 e1) (cwV 3 htl (xl_g_AW_depth) rfl rfl rfl (by decide +kernel) ⟨(Nat.le_of_ble_eq_true rfl), (Nat.le_of_ble_eq_true rfl)⟩) hP hK (hDC ρ) hZ hS (by decide) kc_AW (by decide) rfl rfl hl.1 rfl (Nat.le_of_ble_eq_true rfl) d_LW_law_674 ⟨by decide, by decide⟩ (fun H locs hP hS => ?_)
          refine lv_aload_n hx hb d_LW_law_677 rfl (lv_at hl 2 rfl) ?_
          refine lv_aload_n hx hb d_LW_law_678 rfl (lv_at hl 0 rfl) ?_
          refine lv_iload_n hx hb d_LW_law_679 rfl (lv_at hl 3 rfl) ?_
          refine lv_iconst (v := xw_i 1) hx hb d_LW_law_680 rfl ?_
          refine xl_iadd hx hb ((6 * k + 1 : Nat) : Int) (by omega) d_LW_law_681 ?_
          refine xl_sld (x := 6 * k + 1) hx hb hX hbl hbA hS (by omega) hL d_LW_law_682 ?_
          refine lv_if_eq (tgt := 690) hx hb d_LW_law_683 (by decide) (fun _ => ?_) (fun h9 => absurd hw h9)
          refine lv_iconst (v := xw_i 0) hx hb d_LW_law_690 rfl ?_
          refine lv_aload_n hx hb d_LW_law_691 rfl (lv_at hl 0 rfl) ?_
          refine lv_iload_n hx hb d_LW_law_692 rfl (lv_at hl 3 rfl) ?_
          refine lv_iconst (v := xw_i 2) hx hb d_LW_law_693 rfl ?_
          refine xl_iadd hx hb ((6 * k + 2 : Nat) : Int) (by omega) d_LW_law_694 ?_
          refine xl_sld (x := 6 * k + 2) hx hb hX hbl hbA hS (by omega) hL d_LW_law_695 ?_
          refine lv_aload_n hx hb d_LW_law_696 rfl (lv_at hl 0 rfl) ?_
          refine lv_iload_n hx hb d_LW_law_697 rfl (lv_at hl 3 rfl) ?_
          refine lv_iconst (v := xw_i 3) hx hb d_LW_law_698 rfl ?_
          refine xl_iadd hx hb ((6 * k + 3 : Nat) : Int) (by omega) d_LW_law_699 ?_
          refine xl_sld (x := 6 * k + 3) hx hb hX hbl hbA hS (by omega) hL d_LW_law_700 ?_
          refine xl_callVi (C := "AdviceWeaverModel") (T := T_MD) (As := [.int (xw_i 0), .int (xw_i (xs (6 * k + 2)).toInt), .int (xw_i (xs (6 * k + 3)).toInt)]) (rest := [.int (xw_i r0)]) (Ts := lw_tbl) ⟨hx, hb, hml, hown, htl⟩ (c_MD_depth l D (xl_A s) aR cs (xw_ws kdC 100 aC cs [] σ') tt fu ρ ρ' 0 (xs (6 * k + 2)).toInt (xs (6 * k + 3)).toInt r0 e2) (cwV 3 htl (xl_g_MD_depth) rfl rfl rfl (by decide +kernel) ⟨(Nat.le_of_ble_eq_true rfl), (Nat.le_of_ble_eq_true rfl)⟩) (xl_sw hP) hK (hDR σ') hZ hS (by decide) kr_MD (by decide) rfl rfl hl.1 rfl (Nat.le_of_ble_eq_true rfl) d_LW_law_701 ⟨by decide, by decide⟩ (fun H locs hP hS => ?_)
          replace hP := xl_sw hP
          refine lv_icmp_eq (tgt := 709) hx hb d_LW_law_704 (by decide) (fun _ => ?_) (fun h9 => absurd rfl h9)
          exact nxt σ' ρ' H locs ls hInv' hP hS hl
        · obtain ⟨σ', ρ', r0, e1, e2, hInv'⟩ := hI.2.2.2.2.2.2.2.2.2.2.2.2.2.2.2.2.2 σ ρ 1 (xs (6 * k + 2)).toInt (xs (6 * k + 3)).toInt hInv (by decide) (xw_rT _) (xw_rT _)
          refine lv_aload_n hx hb d_LW_law_650 rfl (lv_at hl 1 rfl) ?_
          refine lv_aload_n hx hb d_LW_law_651 rfl (lv_at hl 0 rfl) ?_
          refine lv_iload_n hx hb d_LW_law_652 rfl (lv_at hl 3 rfl) ?_
          refine lv_iconst (v := xw_i 1) hx hb d_LW_law_653 rfl ?_
          refine xl_iadd hx hb ((6 * k + 1 : Nat) : Int) (by omega) d_LW_law_654 ?_
          refine xl_sld (x := 6 * k + 1) hx hb hX hbl hbA hS (by omega) hL d_LW_law_655 ?_
          refine lv_if_eq (tgt := 663) hx hb d_LW_law_656 (by decide) (fun h9 => absurd h9 hw) (fun _ => ?_)
          refine lv_iconst (v := xw_i 1) hx hb d_LW_law_659 rfl ?_
          refine lv_goto (tgt := 664) hx hb d_LW_law_660 (by decide) ?_
          refine lv_aload_n hx hb d_LW_law_664 rfl (lv_at hl 0 rfl) ?_
          refine lv_iload_n hx hb d_LW_law_665 rfl (lv_at hl 3 rfl) ?_
          refine lv_iconst (v := xw_i 2) hx hb d_LW_law_666 rfl ?_
          refine xl_iadd hx hb ((6 * k + 2 : Nat) : Int) (by omega) d_LW_law_667 ?_
          refine xl_sld (x := 6 * k + 2) hx hb hX hbl hbA hS (by omega) hL d_LW_law_668 ?_
          refine lv_aload_n hx hb d_LW_law_669 rfl (lv_at hl 0 rfl) ?_
          refine lv_iload_n hx hb d_LW_law_670 rfl (lv_at hl 3 rfl) ?_
          refine lv_iconst (v := xw_i 3) hx hb d_LW_law_671 rfl ?_
          refine xl_iadd hx hb ((6 * k + 3 : Nat) : Int) (by omega) d_LW_law_672 ?_
          refine xl_sld (x := 6 * k + 3) hx hb hX hbl hbA hS (by omega) hL d_LW_law_673 ?_
          refine xl_callVi (C := "AdviceWeaver") (T := T_AW) (As := [.int (xw_i 1), .int (xw_i (xs (6 * k + 2)).toInt), .int (xw_i (xs (6 * k + 3)).toInt)]) (rest := []) (Ts := lw_tbl) ⟨hx, hb, hml, hown, htl⟩ (c_AW_depth l D (xl_A s) aC cs (xw_ws kdR 29 aR cs [] ρ) tt fu σ σ' 1 (xs (6 * k + 2)).toInt (xs (6 * k + 3)).toInt r0 e1) (cwV 3 htl (xl_g_AW_depth) rfl rfl rfl (by decide +kernel) ⟨(Nat.le_of_ble_eq_true rfl), (Nat.le_of_ble_eq_true rfl)⟩) hP hK (hDC ρ) hZ hS (by decide) kc_AW (by decide) rfl rfl hl.1 rfl (Nat.le_of_ble_eq_true rfl) d_LW_law_674 ⟨by decide, by decide⟩ (fun H locs hP hS => ?_)
          refine lv_aload_n hx hb d_LW_law_677 rfl (lv_at hl 2 rfl) ?_
          refine lv_aload_n hx hb d_LW_law_678 rfl (lv_at hl 0 rfl) ?_
          refine lv_iload_n hx hb d_LW_law_679 rfl (lv_at hl 3 rfl) ?_
          refine lv_iconst (v := xw_i 1) hx hb d_LW_law_680 rfl ?_
          refine xl_iadd hx hb ((6 * k + 1 : Nat) : Int) (by omega) d_LW_law_681 ?_
          refine xl_sld (x := 6 * k + 1) hx hb hX hbl hbA hS (by omega) hL d_LW_law_682 ?_
          refine lv_if_eq (tgt := 690) hx hb d_LW_law_683 (by decide) (fun h9 => absurd h9 hw) (fun _ => ?_)
          refine lv_iconst (v := xw_i 1) hx hb d_LW_law_686 rfl ?_
          refine lv_goto (tgt := 691) hx hb d_LW_law_687 (by decide) ?_
          refine lv_aload_n hx hb d_LW_law_691 rfl (lv_at hl 0 rfl) ?_
          refine lv_iload_n hx hb d_LW_law_692 rfl (lv_at hl 3 rfl) ?_
          refine lv_iconst (v := xw_i 2) hx hb d_LW_law_693 rfl ?_
          refine xl_iadd hx hb ((6 * k + 2 : Nat) : Int) (by omega) d_LW_law_694 ?_
          refine xl_sld (x := 6 * k + 2) hx hb hX hbl hbA hS (by omega) hL d_LW_law_695 ?_
          refine lv_aload_n hx hb d_LW_law_696 rfl (lv_at hl 0 rfl) ?_
          refine lv_iload_n hx hb d_LW_law_697 rfl (lv_at hl 3 rfl) ?_
          refine lv_iconst (v := xw_i 3) hx hb d_LW_law_698 rfl ?_
          refine xl_iadd hx hb ((6 * k + 3 : Nat) : Int) (by omega) d_LW_law_699 ?_
          refine xl_sld (x := 6 * k + 3) hx hb hX hbl hbA hS (by omega) hL d_LW_law_700 ?_
          refine xl_callVi (C := "AdviceWeaverModel") (T := T_MD) (As := [.int (xw_i 1), .int (xw_i (xs (6 * k + 2)).toInt), .int (xw_i (xs (6 * k + 3)).toInt)]) (rest := [.int (xw_i r0)]) (Ts := lw_tbl) ⟨hx, hb, hml, hown, htl⟩ (c_MD_depth l D (xl_A s) aR cs (xw_ws kdC 100 aC cs [] σ') tt fu ρ ρ' 1 (xs (6 * k + 2)).toInt (xs (6 * k + 3)).toInt r0 e2) (cwV 3 htl (xl_g_MD_depth) rfl rfl rfl (by decide +kernel) ⟨(Nat.le_of_ble_eq_true rfl), (Nat.le_of_ble_eq_true rfl)⟩) (xl_sw hP) hK (hDR σ') hZ hS (by decide) kr_MD (by decide) rfl rfl hl.1 rfl (Nat.le_of_ble_eq_true rfl) d_LW_law_701 ⟨by decide, by decide⟩ (fun H locs hP hS => ?_)
          replace hP := xl_sw hP
          refine lv_icmp_eq (tgt := 709) hx hb d_LW_law_704 (by decide) (fun _ => ?_) (fun h9 => absurd rfl h9)
          exact nxt σ' ρ' H locs ls hInv' hP hS hl
      · refine lv_tableOut (tgt := 709) hx hb d_LW_law_33 (by rw [nI_toInt (by omega)]; omega) (by decide) ?_
        exact nxt σ ρ H locs ls hInv hP hS hl
