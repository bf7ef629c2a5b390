/-! 89.o: how a run begins, and the whole of it -/
def k_rs (fu : Nat) (p1 p2 p3 p4 p5 : Int) (s15 : xw_S) : Option (xw_S × Int) := xw_let (xw_st s15 0 31 0) (fun s16 => xw_let (xw_st s16 0 37 (-1)) (fun s18 => xw_let (xw_st s18 0 38 0) (fun s20 => xw_let (xw_st s20 0 39 0) (fun s22 => xw_let (xw_st s22 0 40 0) (fun s24 => xw_jn (fun (s34 : xw_S) => xw_jn (fun (s37 : xw_S) (t0_101 : Int) => xw_bnd (f_MD_enter fu s37 t0_101) (fun s38 => xw_grd ((0 ≤ p2 ∧ p2 < ((12 : Nat) : Int))) (xw_jn (fun (s44 : xw_S) (t0_123 : Int) (t1_123 : Int) => xw_grd ((0 ≤ t1_123 ∧ t1_123 < ((48 : Nat) : Int))) (xw_let (xw_st s44 25 (t1_123).toNat t0_123) (fun s46 => xw_grd ((0 ≤ p2 ∧ p2 < ((12 : Nat) : Int))) (xw_jn (fun (s51 : xw_S) (t0_145 : Int) (t1_145 : Int) => xw_grd ((0 ≤ t1_145 ∧ t1_145 < ((48 : Nat) : Int))) (xw_let (xw_st s51 25 (t1_145).toNat t0_145) (fun s53 => xw_jn (fun (s65 : xw_S) => some (s65, s65.1 0 37)) (fun (k175 : xw_S → Option (xw_S × Int)) => lp_MD_run_149 fu p5 k175 fu s53 0)))) (fun (j145 : xw_S → Int → Int → Option (xw_S × Int)) => xw_grd (xw_r (s46.1 3 (p2).toNat)) (xw_if (s46.1 3 (p2).toNat ≤ 1) (j145 s46 0 1) (j145 s46 p4 1))))))) (fun (j123 : xw_S → Int → Int → Option (xw_S × Int)) => xw_grd (xw_r (s38.1 3 (p2).toNat)) (xw_if (s38.1 3 (p2).toNat ≤ 0) (j123 s38 0 0) (j123 s38 p3 0)))))) (fun (j101 : xw_S → Int → Option (xw_S × Int)) => xw_grd (xw_r p1) (xw_if (p1 = 0) (j101 s34 p2) (j101 s34 (4 + p2))))) (fun (k89 : xw_S → Option (xw_S × Int)) => lp_MD_run_67 fu p1 p2 p3 p4 p5 k89 fu s24 0))))))
theorem k_run (fu : Nat) (s0 : xw_S) (p1 p2 p3 p4 p5 : Int) : f_MD_run fu s0 p1 p2 p3 p4 p5 = xw_bn2 (f_MD_outside fu s0 p2 0 ((s0.1 0 10) - 1)) (fun s1 r3 => xw_grd (xw_r r3) (xw_if (r3 = 0) (xw_bn2 (f_MD_outside fu s1 p5 1 1000) (fun s6 r8 => xw_grd (xw_r r8) (xw_if (r8 = 0) (xw_jn (fun (s15 : xw_S) => k_rs fu p1 p2 p3 p4 p5 s15) (fun (j39 : xw_S → Option (xw_S × Int)) => xw_grd (xw_r p1) (xw_if (p1 = 0) (j39 s6)  (xw_grd (xw_r (s6.1 0 12)) (xw_if (s6.1 0 12 = 0) (some (s6, -1))
 (j39 s6)))))) (some (s6, -1))))) (some (s1, -1)))) := rfl
theorem x_l67 (fu : Nat) (c1 c2 c3 c4 c5 : Int) : ∀ (dd k N : Nat) (s : xw_S), k + dd = 1024 → dd < N → (∀ i, i < k → s.1 28 i = 0) → ∃ s', (∀ K : xw_S → Option (xw_S × Int), lp_MD_run_67 fu c1 c2 c3 c4 c5 K N s (k : Int) = K s') ∧ frm (fun i k => i = 28) s s' ∧ ∀ i, i < 1024 → s'.1 28 i = 0 := by
  intro dd
  induction dd with
  | zero =>
    intro k N s hk hN hz
    obtain ⟨N, rfl⟩ : ∃ n', N = n' + 1 := ⟨N - 1, by omega⟩
    exact ⟨s, fun K => by rw [lp_MD_run_67, xw_grd_t ⟨by omega, by omega⟩, xw_if_t (by omega)], frm_rf _ _, fun i hi => hz i (by omega)⟩
  | succ dd ih =>
    intro k N s hk hN hz
    obtain ⟨N, rfl⟩ : ∃ n', N = n' + 1 := ⟨N - 1, by omega⟩
    obtain ⟨s', g1, g2, g3⟩ := ih (k + 1) N (xw_st s 28 k 0) (by omega) (by omega) (fun i hi => by
      by_cases hik : i = k
      · rw [hik, st_s]
      · rw [st_k (by omega)]; exact hz i (by omega))
    refine ⟨s', fun K => ?_, frm_tr (frm_st rfl) g2, g3⟩
    rw [lp_MD_run_67, xw_grd_t ⟨by omega, by omega⟩, xw_if_f (by omega), xw_grd_t (by omega), xw_let_e, xw_let_e, Int.toNat_natCast]
    exact g1 K
section
variable {a qb n : Nat} {Ps : Nat → m_M} {A : Nat → Int} {D : Nat → Nat → Int} {fuel : Int} {σ ρ : xw_S} {k ar : Nat} {va vb : Int}
/-- the class's beginning -/
theorem x_cst (fu : Nat) (hfu : 2000 ≤ fu) (hk4 : k < 4) (har : ar ≤ 2) (h5 : σ.1 (48 + 4 * (4 * a + k)) 5 = (ar : Int)) : ∃ s5, f_MC_execute fu σ a (k : Int) va vb fuel = lp_MC_execute_56 fu a (fun (s28 : xw_S) => some (s28, s28.1 17 5)) fu s5 0 ∧ frm Z_c σ s5 ∧ (s5.1 17 3 = 1 ∧ s5.1 17 4 = fuel ∧ s5.1 17 5 = -1 ∧ s5.1 17 7 = 0 ∧ s5.1 17 8 = 0) ∧ (∀ j, j < 160 → s5.1 20 j = 0) ∧ (s5.1 24 3 = (k : Int) ∧ s5.1 24 4 = 0 ∧ s5.1 24 2 = 0) ∧ ∀ i, i < 6 → s5.1 26 i = if i = 0 ∧ 1 ≤ (ar : Int) then va else if i = 1 ∧ 2 ≤ (ar : Int) then vb else 0 := by
  obtain ⟨s2, a1, a2, a3⟩ := q_fill fu hfu (q := 20) (n := 160) (by decide) 0 (xw_st (xw_st (xw_st σ 17 4 fuel) 17 7 0) 17 8 0)
  have n17 : ∀ k, s2.1 17 k = (xw_st (xw_st (xw_st σ 17 4 fuel) 17 7 0) 17 8 0).1 17 k := fun k => a2.2 _ _ (show ¬ (17 = 20) by decide)
  have f2 : frm Z_c σ s2 := frm_tr (frm_tr (frm_tr (frm_tr (frm_st (Or.inl rfl)) (frm_st (Or.inl rfl))) (frm_st (Or.inl rfl))) (frm_mono a2 (fun i k z => Or.inr (Or.inr (Or.inl z)))))
    (frm_rf _ _)
  have f3 : frm Z_c σ (xw_st s2 17 5 (-1)) := frm_tr f2 (frm_st (Or.inl rfl))
  obtain ⟨s4, b1, b2, b3, b4, b5, b6⟩ := x_beC fu hfu (σ := xw_st s2 17 5 (-1)) (u := 0) (k : Int) (ar : Int) va vb (by omega)
  have b1' : f_FR_begin fu (xw_st s2 17 5 (-1)) ((0 : Int).toNat) (k : Int) (ar : Int) va vb = some s4 := b1
  have n17' : ∀ k, s4.1 17 k = (xw_st s2 17 5 (-1)).1 17 k := fun k => b2.2 _ _ (by unfold X_n; omega)
  have f4 : frm Z_c σ s4 := frm_tr f3 (frm_mono b2 (fun i k z => by unfold X_n at z; unfold Z_c; omega))
  refine ⟨xw_st s4 17 3 1, ?_, frm_tr f4 (frm_st (Or.inl rfl)), ⟨st_s _ _ _ _, ?_, ?_, ?_, ?_⟩, fun j hj => ?_, ⟨?_, ?_, ?_⟩, fun i hi => ?_⟩
  · unfold f_MC_execute
    rw [xw_let_e, xw_let_e, xw_let_e, xw_bnd_e a1, xw_let_e, xw_grd_t (by omega), Int.toNat_natCast, f3.2 _ _ (by unfold Z_c; omega), h5, xw_bnd_e b1', xw_let_e, xw_jn_e]
  · rw [st_k (by decide), n17', st_k (by decide), n17, st_k (by decide), st_k (by decide), st_s]
  · rw [st_k (by decide), n17', st_s]
  · rw [st_k (by decide), n17', st_k (by decide), n17, st_k (by decide), st_s]
  · rw [st_k (by decide), n17', st_k (by decide), n17, st_s]
  · rw [st_i (by decide), b2.2 _ _ (by unfold X_n; omega), st_i (by decide)]; exact a3 j hj
  · rw [st_i (by decide)]; exact b3
  · rw [st_i (by decide)]; exact b4
  · rw [st_i (by decide)]; exact b5
  · rw [st_i (by decide)]; exact b6 i hi
/-- the reference's beginning -/
theorem x_rst (fu : Nat) (hfu : 2000 ≤ fu) (hk4 : k < 4) (har : ar ≤ 2) {w : Int} (hw : (w = 0 ∧ qb = 0) ∨ (w = 1 ∧ qb = 4)) (h3 : ρ.1 3 k = (ar : Int)) : ∃ r5, k_rs fu w (k : Int) va vb fuel ρ = lp_MD_run_149 fu fuel (fun (s65 : xw_S) => some (s65, s65.1 0 37)) fu r5 0 ∧ frm Z_r ρ r5 ∧ (r5.1 0 31 = 1 ∧ r5.1 0 37 = -1 ∧ r5.1 0 38 = 0 ∧ r5.1 0 39 = 0 ∧ r5.1 0 40 = 0) ∧ (∀ j, j < 1024 → r5.1 28 j = 0) ∧ (r5.1 22 0 = ((qb + k : Nat) : Int) ∧ r5.1 23 0 = 0 ∧ r5.1 24 0 = 0) ∧ ∀ i, i < 6 → r5.1 25 i = if i = 0 ∧ 1 ≤ (ar : Int) then va else if i = 1 ∧ 2 ≤ (ar : Int) then vb else 0 := by
  let r1 : xw_S := xw_st (xw_st (xw_st (xw_st (xw_st ρ 0 31 0) 0 37 (-1)) 0 38 0) 0 39 0) 0 40 0
  have f1 : frm Z_r ρ r1 := frm_tr (frm_tr (frm_tr (frm_tr (frm_st (Or.inl ⟨rfl, Or.inl rfl⟩)) (frm_st (Or.inl ⟨rfl, Or.inr ⟨by omega, by omega⟩⟩))) (frm_st (Or.inl ⟨rfl, Or.inr ⟨by omega, by omega⟩⟩))) (frm_st (Or.inl ⟨rfl, Or.inr ⟨by omega, by omega⟩⟩))) (frm_st (Or.inl ⟨rfl, Or.inr ⟨by omega, by omega⟩⟩))
  have e31 : r1.1 0 31 = 0 := by
    show (xw_st (xw_st (xw_st (xw_st (xw_st ρ 0 31 0) 0 37 (-1)) 0 38 0) 0 39 0) 0 40 0).1 0 31 = 0
    rw [st_k (by decide), st_k (by decide), st_k (by decide), st_k (by decide), st_s]
  have e37 : r1.1 0 37 = -1 := by
    show (xw_st (xw_st (xw_st (xw_st (xw_st ρ 0 31 0) 0 37 (-1)) 0 38 0) 0 39 0) 0 40 0).1 0 37 = -1
    rw [st_k (by decide), st_k (by decide), st_k (by decide), st_s]
  have e38 : r1.1 0 38 = 0 := by
    show (xw_st (xw_st (xw_st (xw_st (xw_st ρ 0 31 0) 0 37 (-1)) 0 38 0) 0 39 0) 0 40 0).1 0 38 = 0
    rw [st_k (by decide), st_k (by decide), st_s]
  have e39 : r1.1 0 39 = 0 := by
    show (xw_st (xw_st (xw_st (xw_st (xw_st ρ 0 31 0) 0 37 (-1)) 0 38 0) 0 39 0) 0 40 0).1 0 39 = 0
    rw [st_k (by decide), st_s]
  have e40 : r1.1 0 40 = 0 := st_s _ _ _ _
  obtain ⟨r2, g1, g2, g3⟩ := x_l67 fu w (k : Int) va vb fuel 1024 0 fu r1 (by omega) (by omega) (fun i hi => by omega)
  have g1' : ∀ K : xw_S → Option (xw_S × Int), lp_MD_run_67 fu w (k : Int) va vb fuel K fu r1 0 = K r2 := g1
  have n0 : ∀ j, r2.1 0 j = r1.1 0 j := fun j => g2.2 _ _ (show ¬ (0 = 28) by decide)
  obtain ⟨r3, b1, b2, b3, b4, b5, b6, b7⟩ := x_enR fu (by omega) (ρ := r2) (u := 0) (by omega) (by rw [n0]; exact e31) ((qb + k : Nat) : Int)
  have m0 : ∀ j, j ≠ 31 → r3.1 0 j = r1.1 0 j := fun j hj => by rw [b2.2 _ _ (by unfold X_m; omega)]; exact n0 j
  have b6' : ∀ i, i < 6 → r3.1 25 i = 0 := fun i hi => by have := b6 i hi; rw [show 6 * 0 + i = i by omega] at this; exact this
  have f3 : frm Z_r ρ r3 := frm_tr (frm_tr f1 (frm_mono g2 (fun i k z => by unfold Z_r; omega))) (frm_mono b2 (fun i k z => by unfold X_m at z; unfold Z_r; omega))
  have rr : xw_r (ar : Int) := ⟨by omega, by omega⟩
  have h33 : r3.1 3 k = (ar : Int) := by rw [f3.2 _ _ (by unfold Z_r; omega)]; exact h3
  have pre : k_rs fu w (k : Int) va vb fuel ρ = xw_jn (fun (s44 : xw_S) (t0_123 : Int) (t1_123 : Int) => xw_grd ((0 ≤ t1_123 ∧ t1_123 < ((48 : Nat) : Int))) (xw_let (xw_st s44 25 (t1_123).toNat t0_123) (fun s46 => xw_grd ((0 ≤ (k : Int) ∧ (k : Int) < ((12 : Nat) : Int))) (xw_jn (fun (s51 : xw_S) (t0_145 : Int) (t1_145 : Int) => xw_grd ((0 ≤ t1_145 ∧ t1_145 < ((48 : Nat) : Int))) (xw_let (xw_st s51 25 (t1_145).toNat t0_145) (fun s53 => xw_jn (fun (s65 : xw_S) => some (s65, s65.1 0 37)) (fun (k175 : xw_S → Option (xw_S × Int)) => lp_MD_run_149 fu fuel k175 fu s53 0)))) (fun (j145 : xw_S → Int → Int → Option (xw_S × Int)) => xw_grd (xw_r (s46.1 3 ((k : Int)).toNat)) (xw_if (s46.1 3 ((k : Int)).toNat ≤ 1) (j145 s46 0 1) (j145 s46 vb 1))))))) (fun (j123 : xw_S → Int → Int → Option (xw_S × Int)) => xw_grd (xw_r (r3.1 3 ((k : Int)).toNat)) (xw_if (r3.1 3 ((k : Int)).toNat ≤ 0) (j123 r3 0 0) (j123 r3 va 0))) := by
    unfold k_rs
    rw [xw_let_e, xw_let_e, xw_let_e, xw_let_e, xw_let_e, xw_jn_e]
    refine (g1' _).trans ?_
    rw [xw_jn_e, xw_grd_t (by rcases hw with ⟨z, _⟩ | ⟨z, _⟩ <;> rw [z] <;> decide)]
    rcases hw with ⟨z, z'⟩ | ⟨z, z'⟩
    · have b1a : f_MD_enter fu r2 (k : Int) = some r3 := by
        rw [show (k : Int) = ((qb + k : Nat) : Int) by omega]; exact b1
      rw [xw_if_t z]
      dsimp only
      rw [xw_bnd_e b1a, xw_grd_t (by omega)]
    · have b1a : f_MD_enter fu r2 (4 + (k : Int)) = some r3 := by
        rw [show 4 + (k : Int) = ((qb + k : Nat) : Int) by omega]; exact b1
      rw [xw_if_f (by omega)]
      dsimp only
      rw [xw_bnd_e b1a, xw_grd_t (by omega)]
  have step2 : ∀ t0 : Int, (fun (s44 : xw_S) (t0_123 : Int) (t1_123 : Int) => xw_grd ((0 ≤ t1_123 ∧ t1_123 < ((48 : Nat) : Int))) (xw_let (xw_st s44 25 (t1_123).toNat t0_123) (fun s46 => xw_grd ((0 ≤ (k : Int) ∧ (k : Int) < ((12 : Nat) : Int))) (xw_jn (fun (s51 : xw_S) (t0_145 : Int) (t1_145 : Int) => xw_grd ((0 ≤ t1_145 ∧ t1_145 < ((48 : Nat) : Int))) (xw_let (xw_st s51 25 (t1_145).toNat t0_145) (fun s53 => xw_jn (fun (s65 : xw_S) => some (s65, s65.1 0 37)) (fun (k175 : xw_S → Option (xw_S × Int)) => lp_MD_run_149 fu fuel k175 fu s53 0)))) (fun (j145 : xw_S → Int → Int → Option (xw_S × Int)) => xw_grd (xw_r (s46.1 3 ((k : Int)).toNat)) (xw_if (s46.1 3 ((k : Int)).toNat ≤ 1) (j145 s46 0 1) (j145 s46 vb 1))))))) r3 t0 0 = lp_MD_run_149 fu fuel (fun (s65 : xw_S) => some (s65, s65.1 0 37)) fu (xw_st (xw_st r3 25 0 t0) 25 1 (if (ar : Int) ≤ 1 then 0 else vb)) 0 := by
    intro t0
    have e3 : (xw_st r3 25 ((0 : Int)).toNat t0).1 3 k = (ar : Int) := by rw [st_i (by decide)]; exact h33
    dsimp only
    rw [xw_grd_t (by decide), xw_let_e, xw_grd_t (by omega), xw_jn_e, Int.toNat_natCast, e3, xw_grd_t rr]
    by_cases c1 : (ar : Int) ≤ 1
    · rw [xw_if_t c1, if_pos c1]
      dsimp only
      rw [xw_grd_t (by decide)]
      rfl
    · rw [xw_if_f c1, if_neg c1]
      dsimp only
      rw [xw_grd_t (by decide)]
      rfl
  have es : k_rs fu w (k : Int) va vb fuel ρ = lp_MD_run_149 fu fuel (fun (s65 : xw_S) => some (s65, s65.1 0 37)) fu (xw_st (xw_st r3 25 0 (if (ar : Int) ≤ 0 then 0 else va)) 25 1 (if (ar : Int) ≤ 1 then 0 else vb)) 0 := by
    rw [pre, xw_jn_e, Int.toNat_natCast, h33, xw_grd_t rr]
    by_cases c0 : (ar : Int) ≤ 0
    · rw [xw_if_t c0, if_pos c0]
      exact step2 0
    · rw [xw_if_f c0, if_neg c0]
      exact step2 va
  have nn : ∀ i j (x y : Int), i ≠ 25 → (xw_st (xw_st r3 25 0 x) 25 1 y).1 i j = r3.1 i j := fun i j x y hi => by rw [st_i hi, st_i hi]
  refine ⟨_, es, frm_tr (frm_tr f3 (frm_st (Or.inr (by omega)))) (frm_st (Or.inr (by omega))), ⟨?_, ?_, ?_, ?_, ?_⟩, fun j hj => ?_, ⟨?_, ?_, ?_⟩, fun i hi => ?_⟩
  · rw [nn _ _ _ _ (by decide)]; exact b7
  · rw [nn _ _ _ _ (by decide), m0 _ (by decide)]; exact e37
  · rw [nn _ _ _ _ (by decide), m0 _ (by decide)]; exact e38
  · rw [nn _ _ _ _ (by decide), m0 _ (by decide)]; exact e39
  · rw [nn _ _ _ _ (by decide), m0 _ (by decide)]; exact e40
  · rw [nn _ _ _ _ (by decide), b2.2 _ _ (by unfold X_m; omega)]; exact g3 j hj
  · rw [nn _ _ _ _ (by decide)]; exact b3
  · rw [nn _ _ _ _ (by decide)]; exact b4
  · rw [nn _ _ _ _ (by decide)]; exact b5
  · by_cases i1 : i = 1
    · rw [i1, st_s]
      by_cases c1 : (ar : Int) ≤ 1
      · rw [if_pos c1, if_neg (by omega), if_neg (by omega)]
      · rw [if_neg c1, if_neg (show ¬ (1 = 0 ∧ 1 ≤ (ar : Int)) by omega), if_pos ⟨rfl, by omega⟩]
    · rw [st_k i1]
      by_cases i0 : i = 0
      · rw [i0, st_s]
        by_cases c0 : (ar : Int) ≤ 0
        · rw [if_pos c0, if_neg (by omega), if_neg (by omega)]
        · rw [if_neg c0, if_pos ⟨rfl, by omega⟩]
      · rw [st_k i0, if_neg (by omega), if_neg (by omega)]; exact b6' i hi
theorem x_run (fu : Nat) (hfu : 1000000 ≤ fu) (hS : x_S a qb n Ps A D σ ρ) (hk : k < n) {w : Int} (hw : (w = 0 ∧ qb = 0) ∨ (w = 1 ∧ qb = 4)) (h3k : ρ.1 3 k = A k) (rva : xw_r va) (rvb : xw_r vb) (hfl : 1 ≤ fuel ∧ fuel ≤ 1000) : ∃ σ' ρ' r, f_MC_execute fu σ a (k : Int) va vb fuel = some (σ', r) ∧ k_rs fu w (k : Int) va vb fuel ρ = some (ρ', r) ∧ frm Z_c σ σ' ∧ frm Z_r ρ ρ' ∧ x_Z fuel σ' ρ' := by
  obtain ⟨y1, y2, y3, y4, ⟨S, cl⟩, y6, y7, y8⟩ := hS.2.2 k hk
  have hn4 := hS.2.1
  obtain ⟨ar, har⟩ : ∃ ar : Nat, A k = (ar : Int) := ⟨(A k).toNat, by omega⟩
  obtain ⟨s5, a1, a2, ⟨a3, a4, a5, a6, a7⟩, a8, ⟨a9, a10, a11⟩, a12⟩ := x_cst (a := a) (σ := σ) (va := va) (vb := vb) (fuel := fuel) fu (by omega) (k := k) (by omega) (ar := ar) (by omega) (by rw [y1.2.2.2.1, y6, har])
  obtain ⟨r5, b1, b2, ⟨b3, b4, b5, b6, b7⟩, b8, ⟨b9, b10, b11⟩, b12⟩ := x_rst (ρ := ρ) (va := va) (vb := vb) (fuel := fuel) fu (by omega) (k := k) (by omega) (ar := ar) (by omega) hw (by rw [h3k, har])
  have hV : x_V fuel 0 0 s5 r5 := by
    refine ⟨a4, ⟨a6, b6⟩, ⟨by omega, by omega, by omega⟩, ⟨a7, b7, by omega, by omega⟩, fun k h1 h2 => by omega, fun m p h1 h2 => ?_, fun m p h1 h2 h3 => b8 _ (by omega)⟩
    rw [a8 _ (by omega), b8 _ (by omega)]
  obtain ⟨l0, l1, l2⟩ := x_ar (n := n) hk (by decide) cl.1
  have hF : x_F qb s5 r5 0 k 0 0 := by
    refine ⟨⟨a9, a10, a11⟩, ⟨b9, b10, b11⟩, fun i hi => ?_, fun i hi => by omega⟩
    show s5.1 26 i = r5.1 25 (6 * 0 + i) ∧ xw_r (s5.1 26 i)
    rw [show 6 * 0 + i = i by omega, a12 i hi, b12 i hi]
    refine ⟨rfl, ?_⟩
    by_cases c1 : i = 0 ∧ 1 ≤ (ar : Int)
    · rw [if_pos c1]; exact rva
    · rw [if_neg c1]
      by_cases c2 : i = 1 ∧ 2 ≤ (ar : Int)
      · rw [if_pos c2]; exact rvb
      · rw [if_neg c2]; decide
  have hJ : x_J a qb n Ps A D fuel 0 0 0 k 0 0 s5 r5 := ⟨x_S_f hS a2 b2 (fun i k z => by unfold Z_c at z; omega) (fun i k z => by unfold Z_r at z; omega), hV, by omega, ⟨a3, b3⟩, ⟨a5, b4, b5⟩, ⟨hF, l1, l2.symm⟩, fun g hg => by omega⟩
  obtain ⟨σ', ρ', q1, q2, q3, q4, q5⟩ := x_loop fu (by omega) 960120 0 fu fu 0 0 0 k 0 0 s5 r5 hJ (by unfold x_me; omega) (by omega) (by omega) (by omega) (by omega)
  have q1' : ∀ K, lp_MC_execute_56 fu a K fu s5 0 = K σ' := q1
  have q2' : ∀ K, lp_MD_run_149 fu fuel K fu r5 0 = K ρ' := q2
  refine ⟨σ', ρ', σ'.1 17 5, by rw [a1, q1'], ?_, frm_tr a2 q3, frm_tr b2 q4, q5⟩
  obtain ⟨us, mk, o, o1, o2, o3, o4, _⟩ := q5
  rw [b1, q2', o3, o4]
end
