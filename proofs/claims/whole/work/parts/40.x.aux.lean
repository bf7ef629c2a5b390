/-! 40.x: worlds side by side -/
theorem xl_Pm {D : va_G} {cl : List vw_C} {ws ws' : va_W} {H : Heap} (h : va_P D cl ws H) (hm : ∀ q ∈ ws', q ∈ ws) : va_P D cl ws' H := by
  intro k q hk
  obtain ⟨i, hi⟩ := List.getElem?_of_mem (hm q (List.mem_of_getElem? hk))
  exact h i q hi
theorem xl_Dl {A : Nat → Prop} {X Y : va_W} (h : va_D A (X ++ Y)) : va_D A X := by
  refine ⟨fun i j p q hi hj hpq => ?_, fun k q hk => ?_⟩
  · have l1 := (List.getElem?_eq_some_iff.mp hi).1
    have l2 := (List.getElem?_eq_some_iff.mp hj).1
    exact h.1 i j p q (by rw [List.getElem?_append_left l1]; exact hi) (by rw [List.getElem?_append_left l2]; exact hj) hpq
  · have l1 := (List.getElem?_eq_some_iff.mp hk).1
    exact h.2 k q (by rw [List.getElem?_append_left l1]; exact hk)
theorem xl_ga {X Y : va_W} {j : Nat} {q : Nat × va_E} (hj : Y[j]? = some q) : (X ++ Y)[X.length + j]? = some q := by
  rw [List.getElem?_append_right (by omega), Nat.add_sub_cancel_left]
  exact hj
theorem xl_Dr {A : Nat → Prop} {X Y : va_W} (h : va_D A (X ++ Y)) : va_D A Y := by
  refine ⟨fun i j p q hi hj hpq => ?_, fun k q hk => ?_⟩
  · have := h.1 _ _ p q (xl_ga hi) (xl_ga hj) hpq
    omega
  · exact h.2 _ q (xl_ga hk)
theorem xl_Dx {A : Nat → Prop} {X Y : va_W} (h : va_D A (X ++ Y)) : ∀ (i j : Nat) (p q : Nat × va_E), X[i]? = some p → Y[j]? = some q → p.1 ≠ q.1 := by
  intro i j p q hi hj hpq
  have l1 := (List.getElem?_eq_some_iff.mp hi).1
  have := h.1 _ _ p q (by rw [List.getElem?_append_left l1]; exact hi) (xl_ga hj) hpq
  omega
theorem xl_Dsw {A : Nat → Prop} {X Y : va_W} (h : va_D A (X ++ Y)) : va_D A (Y ++ X) := va_D.app (xl_Dr h) (xl_Dl h) (fun i j p q hi hj e => xl_Dx h j i q p hj hi e.symm)
theorem xl_Daddr {A : Nat → Prop} {ws ws' : va_W} (he : ws.map Prod.fst = ws'.map Prod.fst) (h : va_D A ws) : va_D A ws' := by
  have key : ∀ (k : Nat) (q : Nat × va_E), ws'[k]? = some q → ∃ q0, ws[k]? = some q0 ∧ q0.1 = q.1 := by
    intro k q hk
    have h1 : (ws'.map Prod.fst)[k]? = some q.1 := by rw [List.getElem?_map, hk]; rfl
    rw [← he, List.getElem?_map] at h1
    cases hq : ws[k]? with
    | none => rw [hq] at h1; cases h1
    | some q0 => rw [hq] at h1; exact ⟨q0, rfl, Option.some.inj h1⟩
  refine ⟨fun i j x y hi hj hxy => ?_, fun k q hk => ?_⟩
  · obtain ⟨x0, h1, h2⟩ := key i x hi
    obtain ⟨y0, h3, h4⟩ := key j y hj
    exact h.1 i j x0 y0 h1 h3 (h2.trans (hxy.trans h4.symm))
  · obtain ⟨q0, h1, h2⟩ := key k q hk
    rw [← h2]
    exact h.2 k q0 h1
theorem xl_mapws {kd : Nat → xw_T} {n : Nat} {ad : Nat → Nat} {cs : Nat → ClassId} {Z : va_W} {σ : xw_S} : (xw_ws kd n ad cs Z σ).map Prod.fst = (List.range n).map ad ++ Z.map Prod.fst := by
  simp [xw_ws, Function.comp_def]
theorem xl_mapwn {n : Nat} {ad : Nat → Nat} {Z : va_W} : (xw_wn n ad Z).map Prod.fst = (List.range n).map ad ++ Z.map Prod.fst := by
  simp [xw_wn, Function.comp_def]
theorem xl_sw {D : va_G} {cl : List vw_C} {kd kd' : Nat → xw_T} {n n' : Nat} {ad ad' : Nat → Nat} {cs : Nat → ClassId} {σ ρ : xw_S} {H : Heap} (h : va_P D cl (xw_ws kd n ad cs (xw_ws kd' n' ad' cs [] ρ) σ) H) : va_P D cl (xw_ws kd' n' ad' cs (xw_ws kd n ad cs [] σ) ρ) H := by
  refine xl_Pm h (fun q hq => ?_)
  simp only [xw_ws, List.append_nil, List.mem_append] at hq ⊢
  exact hq.symm
theorem xl_join {A0 : Nat → Prop} {D : va_G} {cl : List vw_C} {X Y Y' : va_W} {H H1 : Heap} (hP : va_P D cl (X ++ Y) H) (hD : va_D A0 (X ++ Y)) (hk : ∀ q : Nat, q < H.size → ¬ va_A Y H.size q → H1[q]? = H[q]?) (hF : ∀ q, va_A Y H.size q → A0 q) (hP1 : va_P D cl Y' H1) (hD1 : va_D (va_A Y H.size) Y') : va_P D cl (X ++ Y') H1 ∧ va_D A0 (X ++ Y') := by
  have hPx : va_P D cl X H := xl_Pm hP (fun q hq => List.mem_append_left _ hq)
  have apart : ∀ (k : Nat) (q : Nat × va_E), X[k]? = some q → q.1 < H.size ∧ ¬ va_A Y H.size q.1 := by
    intro k q hq
    have hl := (hPx k q hq).lt
    refine ⟨hl, fun h => ?_⟩
    rcases h with ⟨k2, e, h⟩ | h
    · exact xl_Dx hD k k2 q (q.1, e) hq h rfl
    · omega
  refine ⟨va_P.app (fun k q hq => ?_) hP1, va_D.app (xl_Dl hD) (hD1.weaken (fun k q _ h => hF q.1 h)) (fun i j x y hx hy hxy => ?_)⟩
  · obtain ⟨g1, g2⟩ := apart k q hq
    exact (hPx k q hq).kept (hk q.1 g1 g2)
  · exact (apart i x hx).2 (by rw [hxy]; exact hD1.2 j y hy)
theorem xl_P3 {D : va_G} {cl : List vw_C} {X Y Z : va_W} {H : Heap} (h : va_P D cl ((X ++ Y) ++ Z) H) : va_P D cl ((X ++ Z) ++ Y) H := xl_Pm h (fun q hq => by
  simp only [List.mem_append] at hq ⊢
  rcases hq with (h1 | h1) | h1
  · exact Or.inl (Or.inl h1)
  · exact Or.inr h1
  · exact Or.inl (Or.inr h1))
theorem xl_D3 {A : Nat → Prop} {X Y Z : va_W} (h : va_D A ((X ++ Y) ++ Z)) : va_D A ((X ++ Z) ++ Y) := by
  have h1 := xl_Dl h
  have hx : ∀ (i j : Nat) (p q : Nat × va_E), X[i]? = some p → Z[j]? = some q → p.1 ≠ q.1 := fun i j p q hi hj => xl_Dx h i j p q (by rw [List.getElem?_append_left (List.getElem?_eq_some_iff.mp hi).1]; exact hi) hj
  refine va_D.app (va_D.app (xl_Dl h1) (xl_Dr h) hx) (xl_Dr h1) (fun i j p q hi hj => ?_)
  by_cases hl : i < X.length
  · rw [List.getElem?_append_left hl] at hi
    exact xl_Dx h1 i j p q hi hj
  · rw [List.getElem?_append_right (by omega)] at hi
    exact fun e => xl_Dx h _ _ q p (xl_ga (X := X) hj) hi e.symm
theorem xl_gX {X l : va_W} {o : Nat × va_E} : (X ++ (o :: l))[X.length]? = some o := by
  rw [List.getElem?_append_right (Nat.le_refl _), Nat.sub_self]
  rfl
theorem xl_set {X R C : va_W} {i : Nat} {v : Nat × va_E} (h : i < X.length) : ((X ++ R) ++ C).set i v = (X.set i v ++ R) ++ C := by
  rw [List.set_append_left _ _ (by rw [List.length_append]; omega), List.set_append_left _ _ h]
theorem xl_get {X R C : va_W} {i : Nat} {v : Nat × va_E} (h : X[i]? = some v) : ((X ++ R) ++ C)[i]? = some v := by
  have hl := (List.getElem?_eq_some_iff.mp h).1
  rw [List.getElem?_append_left (by rw [List.length_append]; omega), List.getElem?_append_left hl]
  exact h
theorem xl_get1 {X R : va_W} {i : Nat} {v : Nat × va_E} (h : X[i]? = some v) : (X ++ R)[i]? = some v := by
  have hl := (List.getElem?_eq_some_iff.mp h).1
  rw [List.getElem?_append_left hl]
  exact h
theorem xl_set1 {X R : va_W} {i : Nat} {v : Nat × va_E} (h : i < X.length) : (X ++ R).set i v = X.set i v ++ R := List.set_append_left _ _ h
