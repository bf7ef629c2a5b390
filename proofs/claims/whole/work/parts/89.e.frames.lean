/-! 89.e: a run: frames on both sides -/
def x_F (qb : Nat) (σ ρ : xw_S) (f m p h : Nat) : Prop := (σ.1 (24 + 3 * f) 3 = (m : Int) ∧ σ.1 (24 + 3 * f) 4 = (p : Int) ∧ σ.1 (24 + 3 * f) 2 = (h : Int)) ∧ (ρ.1 22 f = ((qb + m : Nat) : Int) ∧ ρ.1 23 f = (p : Int) ∧ ρ.1 24 f = (h : Int)) ∧ (∀ i, i < 6 → σ.1 (26 + 3 * f) i = ρ.1 25 (6 * f + i) ∧ xw_r (σ.1 (26 + 3 * f) i)) ∧ ∀ i, i < h → σ.1 (25 + 3 * f) i = ρ.1 26 (9 * f + i) ∧ xw_r (σ.1 (25 + 3 * f) i)
/-- what a frame's work changes -/
def X_c (f : Nat) : Nat → Nat → Prop := fun i k => (i = 24 + 3 * f ∧ (k = 2 ∨ k = 4)) ∨ i = 25 + 3 * f ∨ i = 26 + 3 * f
def X_r (f : Nat) : Nat → Nat → Prop := fun i k => (i = 23 ∧ k = f) ∨ (i = 24 ∧ k = f) ∨ (i = 25 ∧ 6 * f ≤ k ∧ k < 6 * f + 6) ∨ (i = 26 ∧ 9 * f ≤ k ∧ k < 9 * f + 9)
theorem x_F_f {qb : Nat} {σ ρ σ' ρ' : xw_S} {f m p h : Nat} {S T : Nat → Nat → Prop} (hF : x_F qb σ ρ f m p h) (hh : h ≤ 9) (hf : frm S σ σ') (hg : frm T ρ ρ') (hS : ∀ i k, S i k → i ≠ 24 + 3 * f ∧ i ≠ 25 + 3 * f ∧ i ≠ 26 + 3 * f) (hT : ∀ i k, T i k → ¬ (i = 22 ∧ k = f) ∧ ¬ (i = 23 ∧ k = f) ∧ ¬ (i = 24 ∧ k = f) ∧ ¬ (i = 25 ∧ 6 * f ≤ k ∧ k < 6 * f + 6) ∧ ¬ (i = 26 ∧ 9 * f ≤ k ∧ k < 9 * f + 9)) : x_F qb σ' ρ' f m p h := by
  obtain ⟨⟨a1, a2, a3⟩, ⟨b1, b2, b3⟩, c1, d1⟩ := hF
  have n24 : ∀ k, σ'.1 (24 + 3 * f) k = σ.1 (24 + 3 * f) k := fun k => hf.2 _ _ (fun z => (hS _ _ z).1 rfl)
  have n25 : ∀ k, σ'.1 (25 + 3 * f) k = σ.1 (25 + 3 * f) k := fun k => hf.2 _ _ (fun z => (hS _ _ z).2.1 rfl)
  have n26 : ∀ k, σ'.1 (26 + 3 * f) k = σ.1 (26 + 3 * f) k := fun k => hf.2 _ _ (fun z => (hS _ _ z).2.2 rfl)
  refine ⟨⟨by rw [n24]; exact a1, by rw [n24]; exact a2, by rw [n24]; exact a3⟩, ⟨?_, ?_, ?_⟩, fun i hi => ?_, fun i hi => ?_⟩
  · rw [hg.2 _ _ (fun z => (hT _ _ z).1 ⟨rfl, rfl⟩)]; exact b1
  · rw [hg.2 _ _ (fun z => (hT _ _ z).2.1 ⟨rfl, rfl⟩)]; exact b2
  · rw [hg.2 _ _ (fun z => (hT _ _ z).2.2.1 ⟨rfl, rfl⟩)]; exact b3
  · rw [n26, hg.2 _ _ (fun z => (hT _ _ z).2.2.2.1 ⟨rfl, by omega, by omega⟩)]; exact c1 i hi
  · rw [n25, hg.2 _ _ (fun z => (hT _ _ z).2.2.2.2 ⟨rfl, by omega, by omega⟩)]; exact d1 i hi
theorem x_pop (fu : Nat) {qb : Nat} {σ ρ : xw_S} {f m p h : Nat} (hF : x_F qb σ ρ f m p (h + 1)) (hf : f < 8) (hh : h < 8) (hu : ρ.1 0 31 = ((f + 1 : Nat) : Int)) : ∃ σ' ρ' v, f_FR_pop fu σ f = some (σ', v) ∧ f_MD_pop fu ρ = some (ρ', v) ∧ xw_r v ∧ x_F qb σ' ρ' f m p h ∧ frm (X_c f) σ σ' ∧ frm (X_r f) ρ ρ' := by
  obtain ⟨⟨a1, a2, a3⟩, ⟨b1, b2, b3⟩, c1, d1⟩ := hF
  have dh := d1 h (by omega)
  refine ⟨xw_st σ (24 + 3 * f) 2 (h : Int), xw_st ρ 24 f (h : Int), σ.1 (25 + 3 * f) h, ?_, ?_, dh.2, ⟨⟨?_, ?_, ?_⟩, ⟨?_, ?_, ?_⟩, fun i hi => ?_, fun i hi => ?_⟩, frm_st (Or.inl ⟨rfl, Or.inl rfl⟩), frm_st (Or.inr (Or.inl ⟨rfl, rfl⟩))⟩
  · unfold f_FR_pop
    rw [a3, xw_grd_t ⟨by omega, by omega⟩, xw_if_t (by omega), xw_let_e, show ((h + 1 : Nat) : Int) - 1 = (h : Int) by omega, st_s, xw_grd_t (by omega), Int.toNat_natCast, st_i (by omega)]
  · unfold f_MD_pop
    rw [xw_let_e, hu, show ((f + 1 : Nat) : Int) - 1 = (f : Int) by omega, xw_grd_t (by omega), Int.toNat_natCast, b3, show ((h + 1 : Nat) : Int) - 1 = (h : Int) by omega, xw_let_e, st_s, xw_grd_t (by omega), show (9 * (f : Int) + (h : Int)).toNat = 9 * f + h by omega, st_i (by decide), dh.1]
  · rw [st_k (by decide)]; exact a1
  · rw [st_k (by decide)]; exact a2
  · exact st_s _ _ _ _
  · rw [st_i (by decide)]; exact b1
  · rw [st_i (by decide)]; exact b2
  · exact st_s _ _ _ _
  · rw [st_i (by omega), st_i (by decide)]; exact c1 i hi
  · rw [st_i (by omega), st_i (by decide)]; exact d1 i (by omega)
theorem x_push (fu : Nat) {qb : Nat} {σ ρ : xw_S} {f m p h : Nat} (hF : x_F qb σ ρ f m p h) (hf : f < 8) (hh : h < 8) (hu : ρ.1 0 31 = ((f + 1 : Nat) : Int)) {v : Int} (hv : xw_r v) : ∃ σ' ρ', f_FR_push fu σ f v = some σ' ∧ f_MD_push fu ρ v = some ρ' ∧ x_F qb σ' ρ' f m p (h + 1) ∧ frm (X_c f) σ σ' ∧ frm (X_r f) ρ ρ' := by
  obtain ⟨⟨a1, a2, a3⟩, ⟨b1, b2, b3⟩, c1, d1⟩ := hF
  have e1 : (xw_st σ (25 + 3 * f) h v).1 (24 + 3 * f) 2 = (h : Int) := by rw [st_i (by omega)]; exact a3
  have e2 : (xw_st ρ 26 (9 * f + h) v).1 24 f = (h : Int) := by rw [st_i (by decide)]; exact b3
  refine ⟨xw_st (xw_st σ (25 + 3 * f) h v) (24 + 3 * f) 2 ((h + 1 : Nat) : Int), xw_st (xw_st ρ 26 (9 * f + h) v) 24 f ((h + 1 : Nat) : Int), ?_, ?_, ⟨⟨?_, ?_, ?_⟩, ⟨?_, ?_, ?_⟩, fun i hi => ?_, fun i hi => ?_⟩, frm_tr (frm_st (Or.inr (Or.inl rfl))) (frm_st (Or.inl ⟨rfl, Or.inl rfl⟩)), frm_tr (frm_st (Or.inr (Or.inr (Or.inr ⟨rfl, by omega, by omega⟩)))) (frm_st (Or.inr (Or.inl ⟨rfl, rfl⟩)))⟩
  · unfold f_FR_push
    rw [a3, xw_grd_t ⟨by omega, by omega⟩, xw_if_f (by omega), xw_grd_t (by omega), Int.toNat_natCast, xw_let_e, e1]
    rfl
  · unfold f_MD_push
    rw [xw_let_e, hu, show ((f + 1 : Nat) : Int) - 1 = (f : Int) by omega, xw_grd_t (by omega), Int.toNat_natCast, b3, xw_grd_t (by omega), xw_let_e, show (9 * (f : Int) + (h : Int)).toNat = 9 * f + h by omega, e2]
    rfl
  · rw [st_k (by decide), st_i (by omega)]; exact a1
  · rw [st_k (by decide), st_i (by omega)]; exact a2
  · exact st_s _ _ _ _
  · rw [st_i (by decide), st_i (by decide)]; exact b1
  · rw [st_i (by decide), st_i (by decide)]; exact b2
  · exact st_s _ _ _ _
  · rw [st_i (by omega), st_i (by omega), st_i (by decide), st_i (by decide)]; exact c1 i hi
  · rw [st_i (i' := 25 + 3 * f) (by omega), st_i (i' := 26) (by decide)]
    by_cases hih : i = h
    · subst hih
      rw [st_s, st_s]; exact ⟨rfl, hv⟩
    · rw [st_k hih, st_k (by omega)]; exact d1 i (by omega)
/-- the place is changed on both sides -/
theorem x_go {qb : Nat} {σ ρ : xw_S} {f m p h : Nat} (hF : x_F qb σ ρ f m p h) (p' : Nat) : x_F qb (xw_st σ (24 + 3 * f) 4 (p' : Int)) (xw_st ρ 23 f (p' : Int)) f m p' h := by
  obtain ⟨⟨a1, a2, a3⟩, ⟨b1, b2, b3⟩, c1, d1⟩ := hF
  refine ⟨⟨by rw [st_k (by decide)]; exact a1, st_s _ _ _ _, by rw [st_k (by decide)]; exact a3⟩, ⟨by rw [st_i (by decide)]; exact b1, st_s _ _ _ _, by rw [st_i (by decide)]; exact b3⟩, fun i hi => ?_, fun i hi => ?_⟩
  · rw [st_i (by omega), st_i (by decide)]; exact c1 i hi
  · rw [st_i (by omega), st_i (by decide)]; exact d1 i hi
theorem x_set (fu : Nat) {qb : Nat} {σ ρ : xw_S} {f m p h : Nat} (hF : x_F qb σ ρ f m p h) {n : Nat} (hn : n < 6) {v : Int} (hv : xw_r v) : f_FR_setLocal fu σ f (n : Int) v = some (xw_st σ (26 + 3 * f) n v) ∧ x_F qb (xw_st σ (26 + 3 * f) n v) (xw_st ρ 25 (6 * f + n) v) f m p h := by
  obtain ⟨⟨a1, a2, a3⟩, ⟨b1, b2, b3⟩, c1, d1⟩ := hF
  refine ⟨?_, ⟨⟨by rw [st_i (by omega)]; exact a1, by rw [st_i (by omega)]; exact a2, by rw [st_i (by omega)]; exact a3⟩, ⟨by rw [st_i (by decide)]; exact b1, by rw [st_i (by decide)]; exact b2, by rw [st_i (by decide)]; exact b3⟩, fun i hi => ?_, fun i hi => ?_⟩⟩
  · unfold f_FR_setLocal
    rw [xw_grd_t ⟨by omega, by omega⟩, xw_if_f (by omega), xw_if_f (by omega), xw_grd_t (by omega), Int.toNat_natCast]
    rfl
  · by_cases hin : i = n
    · subst hin
      rw [st_s, st_s]; exact ⟨rfl, hv⟩
    · rw [st_k hin, st_k (by omega)]; exact c1 i hi
  · rw [st_i (by omega), st_i (by decide)]; exact d1 i hi
theorem x_get (fu : Nat) {qb : Nat} {σ ρ : xw_S} {f m p h : Nat} (hF : x_F qb σ ρ f m p h) {n : Nat} (hn : n < 6) : f_FR_getLocal fu σ f (n : Int) = some (σ, ρ.1 25 (6 * f + n)) ∧ xw_r (ρ.1 25 (6 * f + n)) := by
  have c := hF.2.2.1 n hn
  refine ⟨?_, by rw [← c.1]; exact c.2⟩
  unfold f_FR_getLocal
  rw [xw_grd_t ⟨by omega, by omega⟩, xw_if_f (by omega), xw_if_f (by omega), xw_grd_t (by omega), Int.toNat_natCast, c.1]
/-! entering a method -/
theorem x_en32 (fu : Nat) {u : Nat} (hu : u < 8) : ∀ (dd k N : Nat) (s : xw_S), k + dd = 6 → dd < N → s.1 0 31 = (u : Int) → (∀ i, i < k → s.1 25 (6 * u + i) = 0) → ∃ s', (∀ K : xw_S → Option xw_S, lp_MD_enter_32 fu K N s (k : Int) = K s') ∧ frm (fun i k => i = 25 ∧ 6 * u ≤ k ∧ k < 6 * u + 6) s s' ∧ ∀ i, i < 6 → s'.1 25 (6 * u + i) = 0 := by
  intro dd
  induction dd with
  | zero =>
    intro k N s hk hN h31 hz
    obtain ⟨N, rfl⟩ : ∃ n', N = n' + 1 := ⟨N - 1, by omega⟩
    exact ⟨s, fun K => by rw [lp_MD_enter_32, xw_grd_t ⟨by omega, by omega⟩, xw_if_t (by omega)], frm_rf _ _, fun i hi => hz i (by omega)⟩
  | succ dd ih =>
    intro k N s hk hN h31 hz
    obtain ⟨N, rfl⟩ : ∃ n', N = n' + 1 := ⟨N - 1, by omega⟩
    obtain ⟨s', g1, g2, g3⟩ := ih (k + 1) N (xw_st s 25 (6 * u + k) 0) (by omega) (by omega) (by rw [st_i (by decide)]; exact h31) (fun i hi => by
      by_cases hik : i = k
      · rw [hik, st_s]
      · rw [st_k (by omega)]; exact hz i (by omega))
    refine ⟨s', fun K => ?_, frm_tr (frm_st ⟨rfl, by omega, by omega⟩) g2, g3⟩
    rw [lp_MD_enter_32, xw_grd_t ⟨by omega, by omega⟩, xw_if_f (by omega), h31, xw_grd_t (by omega), xw_let_e, xw_let_e, show (6 * (u : Int) + (k : Int)).toNat = 6 * u + k by omega]
    exact g1 K
def X_n (u : Nat) : Nat → Nat → Prop := fun i k => i = 24 + 3 * u ∨ i = 25 + 3 * u ∨ i = 26 + 3 * u
def X_m (u : Nat) : Nat → Nat → Prop := fun i k => (i = 22 ∧ k = u) ∨ (i = 23 ∧ k = u) ∨ (i = 24 ∧ k = u) ∨ (i = 25 ∧ 6 * u ≤ k ∧ k < 6 * u + 6) ∨ (i = 0 ∧ k = 31)
theorem x_enR (fu : Nat) (hfu : 1000 ≤ fu) {ρ : xw_S} {u : Nat} (hu : u < 8) (h31 : ρ.1 0 31 = (u : Int)) (q : Int) : ∃ ρ', f_MD_enter fu ρ q = some ρ' ∧ frm (X_m u) ρ ρ' ∧ ρ'.1 22 u = q ∧ ρ'.1 23 u = 0 ∧ ρ'.1 24 u = 0 ∧ (∀ i, i < 6 → ρ'.1 25 (6 * u + i) = 0) ∧ ρ'.1 0 31 = ((u + 1 : Nat) : Int) := by
  have e1 : (xw_st ρ 22 u q).1 0 31 = (u : Int) := by rw [st_i (by decide)]; exact h31
  have e2 : (xw_st (xw_st ρ 22 u q) 23 u 0).1 0 31 = (u : Int) := by rw [st_i (by decide)]; exact e1
  have e3 : (xw_st (xw_st (xw_st ρ 22 u q) 23 u 0) 24 u 0).1 0 31 = (u : Int) := by rw [st_i (by decide)]; exact e2
  obtain ⟨s', g1, g2, g3⟩ := x_en32 fu hu 6 0 fu (xw_st (xw_st (xw_st ρ 22 u q) 23 u 0) 24 u 0) (by omega) (by omega) e3 (fun i hi => by omega)
  have g1' : ∀ K : xw_S → Option xw_S, lp_MD_enter_32 fu K fu (xw_st (xw_st (xw_st ρ 22 u q) 23 u 0) 24 u 0) 0 = K s' := g1
  have e4 : s'.1 0 31 = (u : Int) := by rw [g2.2 _ _ (by omega)]; exact e3
  refine ⟨xw_st s' 0 31 ((u + 1 : Nat) : Int), ?_, ?_, ?_, ?_, ?_, fun i hi => ?_, st_s _ _ _ _⟩
  · unfold f_MD_enter
    rw [h31, xw_grd_t (by omega), xw_let_e, Int.toNat_natCast, e1, xw_grd_t (by omega), xw_let_e, Int.toNat_natCast, e2, xw_grd_t (by omega), xw_let_e, Int.toNat_natCast, xw_jn_e, g1', e4]
    rfl
  · exact frm_tr (frm_tr (frm_tr (frm_tr (frm_st (Or.inl ⟨rfl, rfl⟩)) (frm_st (Or.inr (Or.inl ⟨rfl, rfl⟩)))) (frm_st (Or.inr (Or.inr (Or.inl ⟨rfl, rfl⟩))))) (frm_mono g2 (fun i k z => Or.inr (Or.inr (Or.inr (Or.inl z)))))) (frm_st (Or.inr (Or.inr (Or.inr (Or.inr ⟨rfl, rfl⟩)))))
  · rw [st_i (by decide), g2.2 _ _ (by omega), st_i (by decide), st_i (by decide), st_s]
  · rw [st_i (by decide), g2.2 _ _ (by omega), st_i (by decide), st_s]
  · rw [st_i (by decide), g2.2 _ _ (by omega), st_s]
  · rw [st_i (by decide)]; exact g3 i hi
/-- the class begins a frame -/
theorem x_beC (fu : Nat) (hfu : 2000 ≤ fu) {σ : xw_S} {u : Nat} (m args va vb : Int) (ha : 0 ≤ args ∧ args ≤ 2) : ∃ σ', f_FR_begin fu σ u m args va vb = some σ' ∧ frm (X_n u) σ σ' ∧ σ'.1 (24 + 3 * u) 3 = m ∧ σ'.1 (24 + 3 * u) 4 = 0 ∧ σ'.1 (24 + 3 * u) 2 = 0 ∧ ∀ i, i < 6 → σ'.1 (26 + 3 * u) i = if i = 0 ∧ 1 ≤ args then va else if i = 1 ∧ 2 ≤ args then vb else 0 := by
  obtain ⟨s1, a1, a2, a3⟩ := q_fill fu hfu (q := 26 + 3 * u) (n := 6) (by decide) 0 (xw_st (xw_st (xw_st σ (24 + 3 * u) 3 m) (24 + 3 * u) 4 0) (24 + 3 * u) 2 0)
  have f1 : frm (X_n u) σ s1 := frm_tr (frm_tr (frm_tr (frm_st (Or.inl rfl)) (frm_st (Or.inl rfl))) (frm_st (Or.inl rfl))) (frm_mono a2 (fun i k z => Or.inr (Or.inr z)))
  have v3 : s1.1 (24 + 3 * u) 3 = m := by rw [a2.2 _ _ (show ¬ (24 + 3 * u = 26 + 3 * u) by omega), st_k (by decide), st_k (by decide), st_s]
  have v4 : s1.1 (24 + 3 * u) 4 = 0 := by rw [a2.2 _ _ (show ¬ (24 + 3 * u = 26 + 3 * u) by omega), st_k (by decide), st_s]
  have v2 : s1.1 (24 + 3 * u) 2 = 0 := by rw [a2.2 _ _ (show ¬ (24 + 3 * u = 26 + 3 * u) by omega), st_s]
  unfold f_FR_begin
  rw [xw_let_e, xw_let_e, xw_let_e, xw_bnd_e a1, xw_jn_e, xw_grd_t ⟨by omega, by omega⟩]
  by_cases c0 : args ≤ 0
  · rw [xw_if_t c0]
    dsimp only
    rw [xw_grd_t ⟨by omega, by omega⟩, xw_if_t (by omega)]
    exact ⟨s1, rfl, f1, v3, v4, v2, fun i hi => by rw [a3 i hi, if_neg (by omega), if_neg (by omega)]⟩
  · rw [xw_if_f c0, xw_let_e]
    dsimp only
    rw [xw_grd_t ⟨by omega, by omega⟩]
    have f2 : frm (X_n u) σ (xw_st s1 (26 + 3 * u) (0 : Int).toNat va) := frm_tr f1 (frm_st (Or.inr (Or.inr rfl)))
    by_cases c1 : args ≤ 1
    · rw [xw_if_t c1]
      refine ⟨_, rfl, f2, by rw [st_i (by omega)]; exact v3, by rw [st_i (by omega)]; exact v4, by rw [st_i (by omega)]; exact v2, fun i hi => ?_⟩
      by_cases i0 : i = 0
      · rw [i0, if_pos ⟨rfl, by omega⟩]; exact st_s _ _ _ _
      · rw [st_k (by show i ≠ 0; exact i0), a3 i hi, if_neg (by omega), if_neg (by omega)]
    · rw [xw_if_f c1, xw_let_e]
      refine ⟨_, rfl, frm_tr f2 (frm_st (Or.inr (Or.inr rfl))), by rw [st_i (by omega), st_i (by omega)]; exact v3, by rw [st_i (by omega), st_i (by omega)]; exact v4, by rw [st_i (by omega), st_i (by omega)]; exact v2, fun i hi => ?_⟩
      by_cases i1 : i = 1
      · rw [i1, if_neg (by omega), if_pos ⟨rfl, by omega⟩]; exact st_s _ _ _ _
      · rw [st_k (by show i ≠ 1; exact i1)]
        by_cases i0 : i = 0
        · rw [i0, if_pos ⟨rfl, by omega⟩]; exact st_s _ _ _ _
        · rw [st_k (by show i ≠ 0; exact i0), a3 i hi, if_neg (by omega), if_neg (by omega)]
