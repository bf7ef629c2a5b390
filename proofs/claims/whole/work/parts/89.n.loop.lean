/-! 89.n: one step with its fuel; the loop of steps -/
section
variable {a qb n : Nat} {Ps : Nat → m_M} {A : Nat → Int} {D : Nat → Nat → Int} {fuel us mk : Int} {σ ρ σ1 ρ1 : xw_S} {f m p h : Nat}
theorem x_J_u (hJ : x_J a qb n Ps A D fuel us mk f m p h σ ρ) (hf : frm (fun i k => i = 17 ∧ k = 7) σ σ1) (hg : frm (fun i k => i = 0 ∧ k = 39) ρ ρ1) {us' : Int} (hV : x_V fuel us' mk σ1 ρ1) : x_J a qb n Ps A D fuel us' mk f m p h σ1 ρ1 := by
  obtain ⟨j1, j2, j3, ⟨j4, j5⟩, ⟨j6, j7, j8⟩, ⟨j9, j9'⟩, j10⟩ := hJ
  have hh : h ≤ 9 := by
    have := (x_typ j1 j9'.1).2.2.1.1
    have := j9'.2
    omega
  refine ⟨x_S_f j1 hf hg (fun i k z => by omega) (fun i k z => by omega), hV, j3, ⟨?_, ?_⟩, ⟨?_, ?_, ?_⟩, ⟨x_F_f j9 hh hf hg (fun i k z => by omega) (fun i k z => by omega), j9'⟩, fun g hgf => ?_⟩
  · rw [hf.2 _ _ (by omega)]; exact j4
  · rw [hg.2 _ _ (by omega)]; exact j5
  · rw [hf.2 _ _ (by omega)]; exact j6
  · rw [hg.2 _ _ (by omega)]; exact j7
  · rw [hg.2 _ _ (by omega)]; exact j8
  · obtain ⟨m1, p1, h1, e1, e2, e3, e4⟩ := j10 g hgf
    exact ⟨m1, p1, h1, x_F_f e1 (by omega) hf hg (fun i k z => by omega) (fun i k z => by omega), e2, e3, e4⟩
theorem x_step (fu : Nat) (hfu : 2000 ≤ fu) (hmk : mk < 1500000) (hJ : x_J a qb n Ps A D fuel us mk f m p h σ ρ) : ∃ σ' ρ', f_MC_advance fu σ a = some σ' ∧ f_MD_one fu ρ fuel = some ρ' ∧ frm Z_c σ σ' ∧ frm Z_r ρ ρ' ∧ (x_Z fuel σ' ρ' ∨ ∃ us' f' m' p' h' mk', x_J a qb n Ps A D fuel us' mk' f' m' p' h' σ' ρ' ∧ mk' ≤ mk + 1 ∧ (us' = us + 1 ∨ (us' = us ∧ (f' < f ∨ (f' = f ∧ p < p'))))) := by
  have hJJ := hJ
  obtain ⟨jS, jV, jf, ⟨j3, j31⟩, j5, ⟨jF, jP, jD⟩, jlo⟩ := hJ
  obtain ⟨⟨tC, tR, tW, tE⟩, ⟨z1, z2, z3, z4⟩, t3, t4, t5, t6, t7⟩ := x_typ jS jP
  have hp := jP.2.1
  have hm4 : m < 4 := by have := jP.1; have := jS.2.1; omega
  have hops := x_ops z1
  have hor : xw_r (Mc (Ps m) p) := ⟨by omega, by omega⟩
  have eb : f_B_byteAt fu σ (4 * a + m) (p : Int) = some (σ, Mc (Ps m) p) := by
    rw [q_byteAt fu tC.1 ⟨by omega, by omega⟩, m_at_in hp]
  have eo : f_MD_op fu ρ ((qb + m : Nat) : Int) (p : Int) = some (ρ, Mc (Ps m) p) := q_MDop' fu tR.1 hp
  have e1 : ((f + 1 : Nat) : Int) - 1 = (f : Int) := by omega
  have gf : 0 ≤ (f : Int) ∧ (f : Int) < ((8 : Nat) : Int) := by omega
  have gm : 0 ≤ (m : Int) ∧ (m : Int) < ((4 : Nat) : Int) := by omega
  obtain ⟨v1, ⟨v2, v3⟩, ⟨v4, v5, v6⟩, ⟨v7, v8, v9, v10⟩, v11, v12, v13⟩ := jV
  rw [k_one, xw_let_e, j31, e1, xw_grd_t gf, xw_let_e, Int.toNat_natCast f, jF.2.1.1, jF.2.1.2.1, xw_bn2_e eo, xw_jn_e, xw_grd_t hor]
  rw [k_adv, j3, e1, xw_grd_t gf, Int.toNat_natCast f, jF.1.1, xw_grd_t gm, Int.toNat_natCast m, jF.1.2.1, xw_bn2_e eb, xw_bn2_e (q_OPwo fu σ hor), xw_jn_e]
  by_cases h30 : 30 ≤ Mc (Ps m) p
  · rw [if_pos ⟨h30, by omega⟩, xw_grd_t (by decide), xw_if_f (by decide), xw_if_t h30]
    dsimp only
    rw [xw_jn_e, xw_grd_t hor, xw_if_t h30]
    dsimp only
    rw [xw_let_e]
    have g1 : frm (fun i k => i = 0 ∧ k = 39) ρ (xw_st ρ 0 39 (ρ.1 0 39)) := frm_st ⟨rfl, rfl⟩
    have V1 : x_V fuel us mk σ (xw_st ρ 0 39 (ρ.1 0 39)) := by
      refine ⟨v1, ⟨v2, by rw [st_s]; exact v3⟩, ⟨v4, v5, v6⟩, ⟨v7, by rw [st_k (by decide)]; exact v8, v9, v10⟩, fun k y1 y2 => ?_, fun m p y1 y2 => ?_, fun m p y1 y2 y3 => ?_⟩
      · rw [st_i (by decide)]; exact v11 k y1 y2
      · rw [st_i (by decide)]; exact v12 m p y1 y2
      · rw [st_i (by decide)]; exact v13 m p y1 y2 y3
    obtain ⟨σ', ρ', w1, w2, w3, w4, w5⟩ := x_work fu hfu hmk (x_J_u hJJ (frm_rf _ _) g1 V1)
    refine ⟨σ', ρ', w1, w2, w3, frm_tr (frm_mono g1 (fun i k z => Or.inl ⟨z.1, by omega⟩)) w4, w5.imp id (fun ⟨f', m', p', h', mk', x1, x2, x3⟩ => ⟨us, f', m', p', h', mk', x1, x2, Or.inr ⟨rfl, x3 h30⟩⟩)⟩
  · rw [if_neg (fun z => h30 z.1), xw_grd_t (by decide), xw_if_t rfl, v2, v1, xw_grd_t ⟨⟨by omega, by omega⟩, ⟨by omega, by omega⟩⟩, xw_if_f h30, v3, xw_grd_t ⟨⟨by omega, by omega⟩, ⟨by omega, by omega⟩⟩]
    by_cases hfl : us < fuel
    · rw [xw_if_t hfl, xw_let_e, xw_if_f (by omega)]
      dsimp only
      rw [xw_jn_e, xw_grd_t hor, xw_if_f h30]
      dsimp only
      rw [xw_let_e, v3]
      have f1 : frm (fun i k => i = 17 ∧ k = 7) σ (xw_st σ 17 7 (us + 1)) := frm_st ⟨rfl, rfl⟩
      have g1 : frm (fun i k => i = 0 ∧ k = 39) ρ (xw_st ρ 0 39 (us + 1)) := frm_st ⟨rfl, rfl⟩
      have V1 : x_V fuel (us + 1) mk (xw_st σ 17 7 (us + 1)) (xw_st ρ 0 39 (us + 1)) := by
        refine ⟨by rw [st_k (by decide)]; exact v1, ⟨st_s _ _ _ _, st_s _ _ _ _⟩, ⟨by omega, by omega, v6⟩, ⟨by rw [st_k (by decide)]; exact v7, by rw [st_k (by decide)]; exact v8, v9, v10⟩, fun k y1 y2 => ?_, fun m p y1 y2 => ?_, fun m p y1 y2 y3 => ?_⟩
        · rw [st_i (by decide), st_i (by decide)]; exact v11 k y1 y2
        · rw [st_i (by decide), st_i (by decide)]; exact v12 m p y1 y2
        · rw [st_i (by decide)]; exact v13 m p y1 y2 y3
      obtain ⟨σ', ρ', w1, w2, w3, w4, w5⟩ := x_work fu hfu hmk (x_J_u hJJ f1 g1 V1)
      exact ⟨σ', ρ', w1, w2, frm_tr (frm_mono f1 (fun i k z => Or.inl z.1)) w3, frm_tr (frm_mono g1 (fun i k z => Or.inl ⟨z.1, by omega⟩)) w4, w5.imp id (fun ⟨f', m', p', h', mk', x1, x2, x3⟩ => ⟨us + 1, f', m', p', h', mk', x1, x2, Or.inl rfl⟩)⟩
    · rw [xw_if_f hfl, xw_if_t (by omega), x_bs]
      refine ⟨xw_st (xw_st σ 17 5 2) 17 6 0, xw_st ρ 0 37 2, rfl, rfl, frm_tr (frm_st (Or.inl rfl)) (frm_st (Or.inl rfl)), frm_st (Or.inl ⟨rfl, Or.inr ⟨by omega, by omega⟩⟩), Or.inl ⟨us, mk, 2, by decide, by decide, by rw [st_k (by decide), st_s], st_s _ _ _ _, ?_, ?_⟩⟩
      · rw [st_s, st_k (by decide)]; exact j5.2.2.symm
      · exact x_V_f (S := fun i k => i = 17 ∧ (k = 5 ∨ k = 6)) (T := fun i k => i = 0 ∧ k = 37) hJJ.2.1 (frm_tr (frm_st ⟨rfl, Or.inl rfl⟩) (frm_st ⟨rfl, Or.inr rfl⟩)) (frm_st ⟨rfl, rfl⟩) (fun i k z => by omega) (fun i k z => by omega)
/-- what falls at each step -/
def x_me (fuel us : Int) (f p : Nat) : Int := (fuel - us) * 960 + (f : Int) * 120 + (119 - (p : Int))
theorem x_me0 (hJ : x_J a qb n Ps A D fuel us mk f m p h σ ρ) : 0 ≤ fuel - us ∧ p ≤ 119 ∧ f ≤ 7 := by
  have h1 := hJ.2.1.2.2.1
  have h2 := (x_typ hJ.1 hJ.2.2.2.2.2.1.2.1).2.1.2.2.2
  have h3 := hJ.2.2.2.2.2.1.2.1.2.1
  have h4 := hJ.2.2.1
  omega
theorem x_loop (fu : Nat) (hfu : 2000 ≤ fu) : ∀ (w i N1 N2 : Nat) (us mk : Int) (f m p h : Nat) (σ ρ : xw_S), x_J a qb n Ps A D fuel us mk f m p h σ ρ → x_me fuel us f p < (w : Int) → i + w < 1000000 → w < N1 → w < N2 → mk + (w : Int) ≤ 1000000 → ∃ σ' ρ', (∀ K, lp_MC_execute_56 fu a K N1 σ (i : Int) = K σ') ∧ (∀ K, lp_MD_run_149 fu fuel K N2 ρ (i : Int) = K ρ') ∧ frm Z_c σ σ' ∧ frm Z_r ρ ρ' ∧ x_Z fuel σ' ρ' := by
  intro w
  induction w with
  | zero =>
    intro i N1 N2 us mk f m p h σ ρ hJ hw
    have := x_me0 hJ
    unfold x_me at hw
    omega
  | succ w ih =>
    intro i N1 N2 us mk f m p h σ ρ hJ hw hi h1 h2 hmk
    obtain ⟨N1, rfl⟩ : ∃ n', N1 = n' + 2 := ⟨N1 - 2, by omega⟩
    obtain ⟨N2, rfl⟩ : ∃ n', N2 = n' + 2 := ⟨N2 - 2, by omega⟩
    have m0 := x_me0 hJ
    have o1 := hJ.2.2.2.2.1
    obtain ⟨σ1, ρ1, s1, s2, s3, s4, s5⟩ := x_step fu hfu (by omega) hJ
    have e1 : (i : Int) + 1 = ((i + 1 : Nat) : Int) := by omega
    have ec : ∀ K, lp_MC_execute_56 fu a K (N1 + 2) σ (i : Int) = lp_MC_execute_56 fu a K (N1 + 1) σ1 ((i + 1 : Nat) : Int) := by
      intro K
      rw [lp_MC_execute_56, xw_grd_t ⟨by omega, by omega⟩, xw_if_f (by omega), o1.1, xw_grd_t (by decide), xw_if_t rfl, xw_bnd_e s1, xw_let_e, e1]
    have er : ∀ K, lp_MD_run_149 fu fuel K (N2 + 2) ρ (i : Int) = lp_MD_run_149 fu fuel K (N2 + 1) ρ1 ((i + 1 : Nat) : Int) := by
      intro K
      rw [lp_MD_run_149, xw_grd_t ⟨by omega, by omega⟩, xw_if_f (by omega), o1.2.1, xw_grd_t (by decide), xw_if_f (by decide), xw_bnd_e s2, xw_let_e, e1]
    rcases s5 with z | ⟨us', f', m', p', h', mk', x1, x2, x3⟩
    · refine ⟨σ1, ρ1, fun K => ?_, fun K => ?_, s3, s4, z⟩
      · obtain ⟨us2, mk2, o, y1, y2, y3, y4, _⟩ := z
        rw [ec, lp_MC_execute_56, xw_grd_t ⟨by omega, by omega⟩, xw_if_f (by omega), y3, xw_grd_t ⟨by omega, by omega⟩, xw_if_f (by omega)]
      · obtain ⟨us2, mk2, o, y1, y2, y3, y4, _⟩ := z
        rw [er, lp_MD_run_149, xw_grd_t ⟨by omega, by omega⟩, xw_if_f (by omega), y4, xw_grd_t ⟨by omega, by omega⟩, xw_if_t y1]
    · have m1 := x_me0 x1
      obtain ⟨σ', ρ', q1, q2, q3, q4, q5⟩ := ih (i + 1) (N1 + 1) (N2 + 1) us' mk' f' m' p' h' σ1 ρ1 x1 (by unfold x_me at hw ⊢; omega) (by omega) (by omega) (by omega) (by omega)
      exact ⟨σ', ρ', fun K => by rw [ec]; exact q1 K, fun K => by rw [er]; exact q2 K, frm_tr s3 q3, frm_tr s4 q4, q5⟩
end
