/-! 02: numbers as Int, a state as a function, the world of a state, and rows in these words -/
def xw_i (x : Int) : Int32 := Int32.ofInt x
abbrev xw_r (x : Int) : Prop := -2147483648 ≤ x ∧ x < 2147483648
theorem xw_toInt {x : Int} (h : xw_r x) : (xw_i x).toInt = x := Int32.toInt_ofInt_of_le (by have := h.1; omega) (by have := h.2; omega)
theorem xw_lt {x y : Int} (hx : xw_r x) (hy : xw_r y) : xw_i x < xw_i y ↔ x < y := by rw [Int32.lt_iff_toInt_lt, xw_toInt hx, xw_toInt hy]
theorem xw_le {x y : Int} (hx : xw_r x) (hy : xw_r y) : xw_i x ≤ xw_i y ↔ x ≤ y := by rw [Int32.le_iff_toInt_le, xw_toInt hx, xw_toInt hy]
theorem xw_eq {x y : Int} (hx : xw_r x) (hy : xw_r y) : xw_i x = xw_i y ↔ x = y := by rw [← Int32.toInt_inj, xw_toInt hx, xw_toInt hy]
theorem xw_i0 : xw_i 0 = 0 := by decide
theorem xw_r0 : xw_r 0 := by decide
theorem xw_add (x y : Int) : xw_i x + xw_i y = xw_i (x + y) := (Int32.ofInt_add x y).symm
theorem xw_sub (x y : Int) : xw_i x - xw_i y = xw_i (x - y) := (Int32.ofInt_sub x y).symm
theorem xw_mul (x y : Int) : xw_i x * xw_i y = xw_i (x * y) := (Int32.ofInt_mul x y).symm
theorem xw_neg (x : Int) : - xw_i x = xw_i (-x) := (Int32.ofInt_neg x).symm
theorem xw_back (x : Int32) : xw_i x.toInt = x := Int32.ofInt_toInt x
theorem xw_rT (x : Int32) : xw_r x.toInt := ⟨by have := x.le_toInt; omega, by have := x.toInt_lt; omega⟩
def xw_wr (x : Int) : Int := (xw_i x).toInt
def xw_dv (x y : Int) : Int := (xw_i x / xw_i y).toInt
def xw_rm (x y : Int) : Int := (xw_i x - xw_i x / xw_i y * xw_i y).toInt
def xw_an (x y : Int) : Int := (xw_i x &&& xw_i y).toInt
def xw_or (x y : Int) : Int := (xw_i x ||| xw_i y).toInt
def xw_hl (x y : Int) : Int := (xw_i x <<< (xw_i y &&& 31)).toInt
def xw_hr (x y : Int) : Int := (xw_i x >>> (xw_i y &&& 31)).toInt
def xw_hu (x y : Int) : Int := ((xw_i x).toUInt32 >>> ((xw_i y).toUInt32 &&& Int32.toUInt32 31)).toInt32.toInt
def xw_b8 (x : Int) : Int := (xw_i x).toInt8.toInt32.toInt
theorem xw_iwr (x : Int) : xw_i (xw_wr x) = xw_i x := xw_back _
theorem xw_in {i : Int} {n : Nat} (h : 0 ≤ i ∧ i < n) (hn : n < 2147483648) : vp_in (xw_i i) n ∧ (xw_i i).toNatClampNeg = i.toNat := by
  have hr : xw_r i := ⟨by omega, by omega⟩
  have e : (xw_i i).toNatClampNeg = i.toNat := by rw [← Int32.toNat_toInt, xw_toInt hr]
  refine ⟨fun q => ?_, e⟩
  rcases q with q | q
  · rw [← xw_i0, xw_lt hr xw_r0] at q
    omega
  · rw [e] at q
    omega
theorem xw_nb {v : Int} (h : v = 0 ∨ v = 1) : narrow .boolean (.int (xw_i v)) = .int (xw_i v) ∧ fits .boolean (.int (xw_i v)) = true ∧ vp_nar .boolean (xw_i v) = xw_i v := by
  rcases h with rfl | rfl <;> decide
/-! pure programs: Option, with guards -/
def xw_let {α β : Type} (a : α) (f : α → Option β) : Option β := f a
def xw_grd {β : Type} (c : Prop) [Decidable c] (e : Option β) : Option β := if c then e else none
def xw_if {β : Type} (c : Prop) [Decidable c] (a b : Option β) : Option β := if c then a else b
def xw_bnd {α β : Type} (e : Option α) (f : α → Option β) : Option β := match e with
  | none => none
  | some a => f a
def xw_bn2 {α γ β : Type} (e : Option (α × γ)) (f : α → γ → Option β) : Option β := match e with
  | none => none
  | some (a, c) => f a c
def xw_mt {β : Type} (o : Option Nat) (a : Option β) (f : Nat → Option β) : Option β := match o with
  | none => a
  | some b => f b
def xw_jn {κ β : Type} (k : κ) (b : κ → Option β) : Option β := b k
theorem xw_letI {α β : Type} {a v : α} {f : α → Option β} {b : β} (e : v = a) (h : xw_let a f = some b) : f v = some b := by
  rw [e]
  exact h
theorem xw_grdI {β : Type} {c : Prop} [Decidable c] {e : Option β} {b : β} (h : xw_grd c e = some b) : c ∧ e = some b := by
  unfold xw_grd at h
  split at h
  · exact ⟨by assumption, h⟩
  · cases h
theorem xw_ifT {β : Type} {c : Prop} [Decidable c] {a e : Option β} {b : β} (hc : c) (h : xw_if c a e = some b) : a = some b := by
  unfold xw_if at h
  rw [if_pos hc] at h
  exact h
theorem xw_ifF {β : Type} {c : Prop} [Decidable c] {a e : Option β} {b : β} (hc : ¬ c) (h : xw_if c a e = some b) : e = some b := by
  unfold xw_if at h
  rw [if_neg hc] at h
  exact h
theorem xw_bndI {α β : Type} {e : Option α} {f : α → Option β} {b : β} (h : xw_bnd e f = some b) : ∃ a, e = some a ∧ f a = some b := by
  cases e with
  | none => cases h
  | some a => exact ⟨a, rfl, h⟩
theorem xw_bn2I {α γ β : Type} {e : Option (α × γ)} {f : α → γ → Option β} {b : β} (h : xw_bn2 e f = some b) : ∃ a c, e = some (a, c) ∧ f a c = some b := by
  cases e with
  | none => cases h
  | some a => exact ⟨a.1, a.2, rfl, h⟩
theorem xw_jnI {κ β : Type} {k : κ} {b : κ → Option β} {r : β} {G : Prop} (J : κ → Prop) (h : xw_jn k b = some r) (hj : J k) (hb : ∀ j : κ, J j → b j = some r → G) : G := hb k hj h
/-! the state and its world -/
abbrev xw_S : Type := (Nat → Nat → Int) × (Nat → Int64)
abbrev xw_T : Type := Nat × Nat × List (Option Nat)
def xw_st (σ : xw_S) (i k : Nat) (v : Int) : xw_S := (fun i' k' => if i' = i ∧ k' = k then v else σ.1 i' k', σ.2)
def xw_sL (σ : xw_S) (k : Nat) (v : Int64) : xw_S := (σ.1, fun k' => if k' = k then v else σ.2 k')
def xw_cp (σ : xw_S) (i sp j dp n : Nat) : xw_S := (fun i' k' => if i' = j ∧ dp ≤ k' ∧ k' < dp + n then σ.1 i (sp + (k' - dp)) else σ.1 i' k', σ.2)
def xw_fv (ad : Nat → Nat) (σ : xw_S) (i : Nat) (o : Option Nat) (j : Nat) : Value := match o with
  | none => .int (xw_i (σ.1 i j))
  | some r => .ref (ad r)
def xw_fs (ad : Nat → Nat) (σ : xw_S) (i n : Nat) (rs : List (Option Nat)) : List Value := (List.range n).map (fun j => xw_fv ad σ i (rs.getD j none) j)
def xw_cell (ad : Nat → Nat) (cs : Nat → ClassId) (σ : xw_S) (i : Nat) (k : xw_T) : va_E :=
  if k.1 < 20 then .inr (k.1, xw_fs ad σ i k.2.1 k.2.2)
  else if k.1 < 22 then .inl (cs k.1, k.2.1, .inl (fun j => xw_i (σ.1 i j)))
  else if k.1 = 22 then .inl (cs k.1, k.2.1, .inr (.inl σ.2))
  else .inl (cs k.1, k.2.1, .inr (.inr (.inr (.inr (fun j => (k.2.2.getD j none).map ad)))))
def xw_ws (kd : Nat → xw_T) (n : Nat) (ad : Nat → Nat) (cs : Nat → ClassId) (Z : va_W) (σ : xw_S) : va_W := (List.range n).map (fun i => (ad i, xw_cell ad cs σ i (kd i))) ++ Z
/-- the addresses alone -/
def xw_wn (n : Nat) (ad : Nat → Nat) (Z : va_W) : va_W := (List.range n).map (fun i => (ad i, .inr (0, []))) ++ Z
def xw_ty (cs : Nat → ClassId) : List (ClassId × FieldType) := [(cs 20, .int), (cs 21, .boolean), (cs 22, .long), (cs 23, .object "AdviceWeaver$Body"), (cs 24, .object "AdviceWeaver$Transformer"), (cs 25, .object "AdviceWeaver$Frame")]
section XWS
variable {kd : Nat → xw_T} {n : Nat} {ad : Nat → Nat} {cs : Nat → ClassId} {Z : va_W} {σ : xw_S} {i N j : Nat} {rs : List (Option Nat)} {t : Nat}
theorem xw_at (hi : i < n) : (xw_ws kd n ad cs Z σ)[i]? = some (ad i, xw_cell ad cs σ i (kd i)) := by
  unfold xw_ws
  rw [List.getElem?_append_left (by simpa using hi), List.getElem?_map, List.getElem?_range hi]
  rfl
theorem xw_atO (hi : i < n) (hk : kd i = (t, N, rs)) (ht : t < 20) : (xw_ws kd n ad cs Z σ)[i]? = some (ad i, .inr (t, xw_fs ad σ i N rs)) := by
  rw [xw_at hi, hk]
  simp [xw_cell, ht]
theorem xw_atI (hi : i < n) (hk : kd i = (20, N, rs)) : (xw_ws kd n ad cs Z σ)[i]? = some (ad i, .inl (cs 20, N, .inl (fun j => xw_i (σ.1 i j)))) := by
  rw [xw_at hi, hk]
  rfl
theorem xw_atB (hi : i < n) (hk : kd i = (21, N, rs)) : (xw_ws kd n ad cs Z σ)[i]? = some (ad i, .inl (cs 21, N, .inl (fun j => xw_i (σ.1 i j)))) := by
  rw [xw_at hi, hk]
  rfl
theorem xw_atL (hi : i < n) (hk : kd i = (22, N, rs)) : (xw_ws kd n ad cs Z σ)[i]? = some (ad i, .inl (cs 22, N, .inr (.inl σ.2))) := by
  rw [xw_at hi, hk]
  rfl
theorem xw_atR (hi : i < n) (hk : kd i = (t, N, rs)) (ht : 22 < t) : (xw_ws kd n ad cs Z σ)[i]? = some (ad i, .inl (cs t, N, .inr (.inr (.inr (.inr (fun j => (rs.getD j none).map ad)))))) := by
  rw [xw_at hi, hk]
  have h1 : ¬ t < 20 := by omega
  have h2 : ¬ t < 22 := by omega
  have h3 : ¬ t = 22 := by omega
  simp [xw_cell, h1, h2, h3]
theorem xw_fsI (hj : j < N) (hr : rs.getD j none = none) : (xw_fs ad σ i N rs)[j]? = some (.int (xw_i (σ.1 i j))) := by
  unfold xw_fs
  rw [List.getElem?_map, List.getElem?_range hj, Option.map_some, hr]
  rfl
theorem xw_fsR {r : Nat} (hj : j < N) (hr : rs.getD j none = some r) : (xw_fs ad σ i N rs)[j]? = some (.ref (ad r)) := by
  unfold xw_fs
  rw [List.getElem?_map, List.getElem?_range hj, Option.map_some, hr]
  rfl
theorem xw_fsn : (xw_fs ad σ i N rs).length = N := by simp [xw_fs]
theorem xw_setG {σ' : xw_S} {e : va_E} (hi : i < n) (he : xw_cell ad cs σ' i (kd i) = e) (ho : ∀ q, q < n → q ≠ i → xw_cell ad cs σ' q (kd q) = xw_cell ad cs σ q (kd q)) : (xw_ws kd n ad cs Z σ).set i (ad i, e) = xw_ws kd n ad cs Z σ' := by
  unfold xw_ws
  rw [List.set_append_left _ _ (by simpa using hi)]
  congr 1
  apply List.ext_getElem?
  intro q
  by_cases hq : q < n
  · by_cases hqi : q = i
    · subst hqi
      rw [List.getElem?_set_self (by simpa using hi), List.getElem?_map, List.getElem?_range hq, ← he]
      rfl
    · rw [List.getElem?_set_ne (Ne.symm hqi), List.getElem?_map, List.getElem?_map, List.getElem?_range hq, Option.map_some, Option.map_some, ho q hq hqi]
  · rw [List.getElem?_eq_none (by simp; omega), List.getElem?_eq_none (by simp; omega)]
theorem xw_stne {k q : Nat} {v : Int} (h : q ≠ i) : (xw_st σ i k v).1 q = σ.1 q := by
  funext k'
  simp [xw_st, h]
theorem xw_cellne {σ' : xw_S} {q : Nat} (k : xw_T) (h1 : σ'.1 q = σ.1 q) (h2 : k.1 = 22 → σ'.2 = σ.2) : xw_cell ad cs σ' q k = xw_cell ad cs σ q k := by
  unfold xw_cell
  split
  · have : xw_fs ad σ' q k.2.1 k.2.2 = xw_fs ad σ q k.2.1 k.2.2 := by
      unfold xw_fs
      apply List.map_congr_left
      intro a _
      unfold xw_fv
      rw [h1]
    rw [this]
  · split
    · rw [h1]
    · split
      · rename_i h3
        rw [h2 h3]
      · rfl
theorem xw_setO {v : Int} (hi : i < n) (hk : kd i = (t, N, rs)) (ht : t < 20) (hj : j < N) (hr : rs.getD j none = none) : (xw_ws kd n ad cs Z σ).set i (ad i, .inr (t, (xw_fs ad σ i N rs).set j (.int (xw_i v)))) = xw_ws kd n ad cs Z (xw_st σ i j v) := by
  refine xw_setG hi ?_ (fun q hq hqi => xw_cellne _ (xw_stne hqi) (fun _ => rfl))
  rw [hk]
  simp only [xw_cell, ht, if_true]
  congr 2
  apply List.ext_getElem?
  intro q
  by_cases hq : q < N
  · by_cases hqj : q = j
    · subst hqj
      rw [List.getElem?_set_self (by rw [xw_fsn]; exact hq), xw_fsI hq hr]
      simp [xw_st]
    · rw [List.getElem?_set_ne (Ne.symm hqj)]
      unfold xw_fs
      rw [List.getElem?_map, List.getElem?_map, List.getElem?_range hq, Option.map_some, Option.map_some]
      unfold xw_fv
      split
      · simp [xw_st, hqj]
      · rfl
  · rw [List.getElem?_eq_none (by rw [xw_fsn]; omega), List.getElem?_eq_none (by rw [List.length_set, xw_fsn]; omega)]
theorem xw_upd (f : Nat → Int) (k : Nat) (v : Int) : upd (fun j => xw_i (f j)) k (xw_i v) = fun j => xw_i (if j = k then v else f j) := by
  funext j
  unfold upd
  split <;> rfl
theorem xw_setI {v : Int} (hi : i < n) (hk : kd i = (20, N, rs)) : (xw_ws kd n ad cs Z σ).set i (ad i, .inl (cs 20, N, .inl (upd (fun j => xw_i (σ.1 i j)) j (xw_i v)))) = xw_ws kd n ad cs Z (xw_st σ i j v) := by
  refine xw_setG hi ?_ (fun q hq hqi => xw_cellne _ (xw_stne hqi) (fun _ => rfl))
  rw [hk, xw_upd]
  simp [xw_cell, xw_st]
theorem xw_setB {v : Int} (hi : i < n) (hk : kd i = (21, N, rs)) : (xw_ws kd n ad cs Z σ).set i (ad i, .inl (cs 21, N, .inl (upd (fun j => xw_i (σ.1 i j)) j (xw_i v)))) = xw_ws kd n ad cs Z (xw_st σ i j v) := by
  refine xw_setG hi ?_ (fun q hq hqi => xw_cellne _ (xw_stne hqi) (fun _ => rfl))
  rw [hk, xw_upd]
  simp [xw_cell, xw_st]
theorem xw_setL {v : Int64} (hi : i < n) (hk : kd i = (22, N, rs)) (ho : ∀ q, q < n → (kd q).1 = 22 → q = i) : (xw_ws kd n ad cs Z σ).set i (ad i, .inl (cs 22, N, .inr (.inl (vp_updL σ.2 j v)))) = xw_ws kd n ad cs Z (xw_sL σ j v) := by
  refine xw_setG hi ?_ (fun q hq hqi => xw_cellne _ rfl (fun h => absurd (ho q hq h) hqi))
  rw [hk]
  rfl
theorem xw_setC {i0 sp dp w : Nat} (hi : i < n) (hk : kd i = (20, N, rs)) : (xw_ws kd n ad cs Z σ).set i (ad i, .inl (cs 20, N, .inl (va_cpy (fun j => xw_i (σ.1 i0 j)) (fun j => xw_i (σ.1 i j)) sp dp w))) = xw_ws kd n ad cs Z (xw_cp σ i0 sp i dp w) := by
  refine xw_setG hi ?_ (fun q hq hqi => xw_cellne _ (by funext k; simp [xw_cp, hqi]) (fun _ => rfl))
  rw [hk]
  simp only [xw_cell]
  have : (fun j => xw_i ((xw_cp σ i0 sp i dp w).1 i j)) = va_cpy (fun j => xw_i (σ.1 i0 j)) (fun j => xw_i (σ.1 i j)) sp dp w := by
    funext k
    unfold va_cpy xw_cp
    simp only [true_and]
    split <;> rfl
  rw [this]
  rfl
theorem xw_Dof {A : Nat → Prop} (h : va_D A (xw_wn n ad Z)) (σ : xw_S) : va_D A (xw_ws kd n ad cs Z σ) := by
  have key : ∀ (k : Nat) (q : Nat × va_E), (xw_ws kd n ad cs Z σ)[k]? = some q → ∃ q0, (xw_wn n ad Z)[k]? = some q0 ∧ q0.1 = q.1 := by
    intro k q hk
    unfold xw_ws at hk
    unfold xw_wn
    by_cases hkn : k < n
    · rw [List.getElem?_append_left (by simpa using hkn), List.getElem?_map, List.getElem?_range hkn] at hk
      rw [List.getElem?_append_left (by simpa using hkn), List.getElem?_map, List.getElem?_range hkn]
      cases hk
      exact ⟨_, rfl, rfl⟩
    · rw [List.getElem?_append_right (by simp; omega)] at hk
      rw [List.getElem?_append_right (by simp; omega)]
      simp only [List.length_map] at hk ⊢
      exact ⟨q, hk, rfl⟩
  refine ⟨fun a b x y ha hb hxy => ?_, fun k q hk => ?_⟩
  · obtain ⟨x0, h1, h2⟩ := key a x ha
    obtain ⟨y0, h3, h4⟩ := key b y hb
    exact h.1 a b x0 y0 h1 h3 (h2.trans (hxy.trans h4.symm))
  · obtain ⟨q0, h1, h2⟩ := key k q hk
    rw [← h2]
    exact h.2 k q0 h1
end XWS
