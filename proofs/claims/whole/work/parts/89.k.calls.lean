/-! 89.k: dividing, throwing, returning, calling -/
theorem x_bs (e : Option xw_S) : xw_bnd e (fun s => some s) = e := by cases e <;> rfl
/-- the reference's work for what is neither branch nor sum -/
theorem x_r113 (fu : Nat) (s : xw_S) (f q : Int) {o : Int} (ho : o = 13 ∨ o = 14 ∨ o = 15 ∨ o = 32) : k_r69 fu s f q o = xw_if (o = 13) (xw_grd ((0 ≤ f ∧ f < ((8 : Nat) : Int))) (xw_bn2 (f_MD_op fu s q ((s.1 23 (f).toNat) + 1)) (fun s55 r57 => f_MD_call fu s55 (((xw_dv q 4) * 4) + r57)))) (xw_if (o = 14) (xw_bn2 (f_MD_pop fu s) (fun s48 r50 => f_MD_giveBack fu s48 r50)) (xw_bn2 (f_MD_pop fu s) (fun s42 r44 => f_MD_raise fu s42 r44))) := by
  have ho' : xw_r o := ⟨by omega, by omega⟩
  unfold k_r69
  simp only [x_bs]
  rw [xw_bn2_e (q_MDbr fu s ho'), if_neg (by unfold q_br q_sb q_wb; omega), xw_grd_t (by decide), xw_if_t rfl, xw_jn_e, xw_grd_t ho', xw_if_f (by omega), xw_if_t (by omega)]
  dsimp only
  rw [xw_grd_t ho']
  by_cases c13 : o = 13
  · rw [xw_if_t c13, xw_if_t c13]
  · rw [xw_if_f c13, xw_if_f c13]
    by_cases c14 : o = 14
    · rw [xw_if_t c14, xw_if_t c14]
    · rw [xw_if_f c14, xw_if_f c14, xw_jn_e]
      by_cases c15 : o = 15
      · rw [xw_if_t c15]
      · rw [xw_if_f c15, xw_if_t (by omega)]
theorem x_dvr (x y : Int) : xw_r (xw_dv x y) := by
  unfold xw_dv
  have h1 := (xw_i x / xw_i y).toInt_lt
  have h2 := (xw_i x / xw_i y).le_toInt
  exact ⟨by omega, by omega⟩
section
variable {a qb n : Nat} {Ps : Nat → m_M} {A : Nat → Int} {D : Nat → Nat → Int} {fuel us mk : Int} {σ ρ σ1 ρ1 : xw_S} {f m p h : Nat}
theorem X_Zc (hf8 : f < 8) (hf : frm (X_c f) σ σ1) : frm Z_c σ σ1 := frm_mono hf (fun i k z => by unfold X_c at z; unfold Z_c; omega)
theorem X_Zr (hf : frm (X_r f) ρ ρ1) : frm Z_r ρ ρ1 := frm_mono hf (fun i k z => by unfold X_r at z; unfold Z_r; omega)
theorem x_aft (hJ : x_J a qb n Ps A D fuel us mk f m p h σ ρ) (hf : frm (X_c f) σ σ1) (hg : frm (X_r f) ρ ρ1) : x_S a qb n Ps A D σ1 ρ1 ∧ x_V fuel us mk σ1 ρ1 ∧ (σ1.1 17 3 = ((f + 1 : Nat) : Int) ∧ ρ1.1 0 31 = ((f + 1 : Nat) : Int)) ∧ (σ1.1 17 5 = -1 ∧ ρ1.1 0 37 = -1 ∧ ρ1.1 0 38 = 0) ∧ ∀ g, g < f → x_lo qb n Ps A D σ1 ρ1 g := by
  obtain ⟨j1, j2, j3, ⟨j4, j5⟩, ⟨j6, j7, j8⟩, j9, j10⟩ := hJ
  refine ⟨x_S_f j1 hf hg (fun i k z => by unfold X_c at z; omega) (fun i k z => by unfold X_r at z; omega), x_V_f j2 hf hg (fun i k z => by unfold X_c at z; omega) (fun i k z => by unfold X_r at z; omega), ⟨?_, ?_⟩, ⟨?_, ?_, ?_⟩, fun g hgf => ?_⟩
  · rw [hf.2 _ _ (by unfold X_c; omega)]; exact j4
  · rw [hg.2 _ _ (by unfold X_r; omega)]; exact j5
  · rw [hf.2 _ _ (by unfold X_c; omega)]; exact j6
  · rw [hg.2 _ _ (by unfold X_r; omega)]; exact j7
  · rw [hg.2 _ _ (by unfold X_r; omega)]; exact j8
  · obtain ⟨m1, p1, h1, e1, e2, e3, e4⟩ := j10 g hgf
    exact ⟨m1, p1, h1, x_F_f e1 (by omega) hf hg (fun i k z => by unfold X_c at z; omega) (fun i k z => by unfold X_r at z; omega), e2, e3, e4⟩
theorem x_W_f {o : Int} {ec er : Option xw_S} (hf : frm Z_c σ σ1) (hg : frm Z_r ρ ρ1) (h : x_W a qb n Ps A D fuel us mk o f p σ1 ρ1 ec er) : x_W a qb n Ps A D fuel us mk o f p σ ρ ec er := by
  obtain ⟨σ', ρ', e1, e2, e3, e4, e5⟩ := h
  exact ⟨σ', ρ', e1, e2, frm_tr hf e3, frm_tr hg e4, e5⟩
/-- a step that stays in the top frame -/
theorem x_W1 (fu : Nat) {o : Int} {b q p' h' : Nat} (hJ : x_J a qb n Ps A D fuel us mk f m p h σ ρ) (h1 : x_1 fu a qb σ ρ f m p b q o p' h') (hP : x_P n Ps D m p') (hD : (h' : Int) = D m p') (ho : 30 ≤ o → p < p') : x_W a qb n Ps A D fuel us mk o f p σ ρ (k_c65 fu a σ f b o) (k_r69 fu ρ (f : Int) (q : Int) o) := by
  obtain ⟨σ', ρ', e1, e2, e3, e4, e5⟩ := h1
  exact ⟨σ', ρ', e1, e2, X_Zc hJ.2.2.1 e4, X_Zr e5, Or.inr ⟨f, m, p', h', mk, x_top hJ e3 (frm_mono e4 (fun _ _ z => Or.inl z)) (frm_mono e5 (fun _ _ z => Or.inl z)) (x_aft hJ e4 e5).2.1 hP hD, by omega, fun z => Or.inr ⟨rfl, ho z⟩⟩⟩
theorem x_div (fu : Nat) (hfu : 1000 ≤ fu) (hJ : x_J a qb n Ps A D fuel us mk f m p (h + 2) σ ρ) (hh : h + 2 ≤ 8) (hP : x_P n Ps D m (p + 1)) (hD : ((h + 1 : Nat) : Int) = D m (p + 1)) (b : Nat) (q : Int) : x_W a qb n Ps A D fuel us mk 7 f p σ ρ (k_c65 fu a σ f b 7) (k_r69 fu ρ (f : Int) q 7) := by
  have hf8 := hJ.2.2.1
  have hF := hJ.2.2.2.2.2.1.1
  obtain ⟨σ1, ρ1, v1, a1, a2, av, a3, a4, a5⟩ := x_pop fu hF hf8 (by omega) hJ.2.2.2.1.2
  obtain ⟨σ2, ρ2, v2, b1, b2, bv, b3, b4, b5⟩ := x_pop fu a3 hf8 (by omega) (x_aft hJ a4 a5).2.2.1.2
  have f2 := frm_tr a4 b4
  have g2 := frm_tr a5 b5
  obtain ⟨t1, t2, t3, t4, t5⟩ := x_aft hJ f2 g2
  have ec : k_c65 fu a σ f b 7 = xw_if (v1 = 0) (f_MC_raise fu σ2 1 a) (xw_grd (¬ v1 = 0) (xw_bnd (f_FR_push fu σ2 f (xw_dv v2 v1)) (fun s10 => xw_bn2 (f_OP_size fu s10 7) (fun s13 r15 => xw_let (xw_st s13 (24 + 3 * f) 4 ((s10.1 (24 + 3 * f) 4) + r15)) (fun s16 => some s16))))) := by
    have : k_c65 fu a σ f b 7 = xw_bnd (f_MC_divide fu σ f a) (fun s54 => some s54) := rfl
    rw [this, x_bs]
    unfold f_MC_divide
    rw [xw_bn2_e a1, xw_bn2_e b1, xw_grd_t av, x_bs]
  have er : k_r69 fu ρ (f : Int) q 7 = xw_if (v1 = 0) (f_MD_raise fu ρ2 1) (xw_grd (xw_r v1 ∧ ¬ v1 = 0) (xw_bnd (f_MD_push fu ρ2 (xw_dv v2 v1)) (fun s21 => xw_grd ((0 ≤ (s21.1 0 31) - 1 ∧ (s21.1 0 31) - 1 < ((8 : Nat) : Int))) (xw_let (xw_st s21 23 ((s21.1 0 31) - 1).toNat ((s21.1 23 ((s21.1 0 31) - 1).toNat) + 1)) (fun s25 => some s25))))) := by
    have e : k_r69 fu ρ (f : Int) q 7 = xw_bnd (f_MD_calculate fu ρ 7) (fun s29 => some s29) := by
      unfold k_r69
      rw [xw_bn2_e (q_MDbr fu ρ (by decide)), if_neg (by decide), xw_grd_t (by decide), xw_if_t rfl, xw_jn_e, xw_grd_t (by decide), xw_if_f (by decide), xw_if_f (by decide)]
    rw [e, x_bs]
    unfold f_MD_calculate
    rw [xw_bn2_e a2, xw_bn2_e b2, xw_jn_e, xw_grd_t (by decide), xw_if_t rfl, xw_grd_t av]
    by_cases c0 : v1 = 0
    · rw [xw_if_t c0, xw_if_t c0, x_bs]
    · rw [xw_if_f c0, xw_if_f c0]
      rfl
  rw [ec, er]
  by_cases c0 : v1 = 0
  · rw [xw_if_t c0, xw_if_t c0]
    exact x_W_f (X_Zc hf8 f2) (X_Zr g2) (x_rais fu hfu t1 t2 hf8 t3.1 t3.2 t4 b3 (by omega) hJ.2.2.2.2.2.1.2.1 t5 (by decide) (fun z => absurd z (by decide)))
  · obtain ⟨σ3, ρ3, c1, c2, c3, c4, c5⟩ := x_push fu b3 hf8 (by omega) t3.2 (x_dvr v2 v1)
    have u3 := (x_aft hJ (frm_tr f2 c4) (frm_tr g2 c5)).2.2.1.2
    have f4 := frm_tr (frm_tr f2 c4) (X_c4 ((p + 1 : Nat) : Int))
    have g4 := frm_tr (frm_tr g2 c5) (X_r4 ((p + 1 : Nat) : Int))
    rw [xw_if_f c0, xw_if_f c0, xw_grd_t c0, xw_grd_t ⟨av, c0⟩, xw_bnd_e c1, xw_bn2_e (q_OPsize fu σ3 (by decide)), xw_bnd_e c2, u3, show ((f + 1 : Nat) : Int) - 1 = (f : Int) by omega, xw_grd_t (by omega), Int.toNat_natCast, c3.1.2.1, c3.2.1.2.1]
    exact ⟨_, _, rfl, rfl, X_Zc hf8 f4, X_Zr g4, Or.inr ⟨f, m, p + 1, h + 1, mk, x_top hJ (x_go c3 (p + 1)) (frm_mono f4 (fun _ _ z => Or.inl z)) (frm_mono g4 (fun _ _ z => Or.inl z)) (x_aft hJ f4 g4).2.1 hP hD, by omega, fun z => absurd z (by decide)⟩⟩
theorem x_thr (fu : Nat) (hfu : 1000 ≤ fu) (hJ : x_J a qb n Ps A D fuel us mk f m p (h + 1) σ ρ) (hh : h + 1 ≤ 8) {o : Int} (ho : o = 15 ∨ o = 32) (h32 : o = 32 → ∀ i, i < MN (Ps m) → m_cov (Ps m) i p → (p : Int) < Mh (Ps m) (4 * i + 2)) (b : Nat) (q : Int) : x_W a qb n Ps A D fuel us mk o f p σ ρ (k_c65 fu a σ f b o) (k_r69 fu ρ (f : Int) q o) := by
  have hf8 := hJ.2.2.1
  have hF := hJ.2.2.2.2.2.1.1
  obtain ⟨σ1, ρ1, v1, a1, a2, av, a3, a4, a5⟩ := x_pop fu hF hf8 (by omega) hJ.2.2.2.1.2
  obtain ⟨t1, t2, t3, t4, t5⟩ := x_aft hJ a4 a5
  have ec : k_c65 fu a σ f b o = f_MC_raise fu σ1 v1 a := by
    have : k_c65 fu a σ f b o = xw_bn2 (f_FR_pop fu σ f) (fun s36 r38 => xw_bnd (f_MC_raise fu s36 r38 a) (fun s39 => some s39)) := by
      rcases ho with z | z <;> rw [z] <;> rfl
    rw [this, xw_bn2_e a1, x_bs]
  have er : k_r69 fu ρ (f : Int) q o = f_MD_raise fu ρ1 v1 := by
    rw [x_r113 fu ρ (f : Int) q (by omega), xw_if_f (by omega), xw_if_f (by omega), xw_bn2_e a2]
  rw [ec, er]
  exact x_W_f (X_Zc hf8 a4) (X_Zr a5) (x_rais fu hfu t1 t2 hf8 t3.1 t3.2 t4 a3 (by omega) hJ.2.2.2.2.2.1.2.1 t5 av (fun z => h32 (by omega)))
theorem x_ret (fu : Nat) (hJ : x_J a qb n Ps A D fuel us mk f m p (h + 1) σ ρ) (hh : h + 1 ≤ 8) (b : Nat) (q : Int) : x_W a qb n Ps A D fuel us mk 14 f p σ ρ (k_c65 fu a σ f b 14) (k_r69 fu ρ (f : Int) q 14) := by
  have hf8 := hJ.2.2.1
  have hF := hJ.2.2.2.2.2.1.1
  obtain ⟨σ1, ρ1, v, a1, a2, av, a3, a4, a5⟩ := x_pop fu hF hf8 (by omega) hJ.2.2.2.1.2
  obtain ⟨t1, t2, t3, t4, t5⟩ := x_aft hJ a4 a5
  have f1 : frm (fun i k => i = 17 ∧ k = 3) σ1 (xw_st σ1 17 3 (f : Int)) := frm_st ⟨rfl, rfl⟩
  have g1 : frm (fun i k => i = 0 ∧ k = 31) ρ1 (xw_st ρ1 0 31 (f : Int)) := frm_st ⟨rfl, rfl⟩
  have zf : frm Z_c σ (xw_st σ1 17 3 (f : Int)) := frm_tr (X_Zc hf8 a4) (frm_mono f1 (fun i k z => Or.inl z.1))
  have zg : frm Z_r ρ (xw_st ρ1 0 31 (f : Int)) := frm_tr (X_Zr a5) (frm_mono g1 (fun i k z => Or.inl ⟨z.1, Or.inl z.2⟩))
  have vV := x_V_f t2 f1 g1 (fun i k z => by omega) (fun i k z => by omega)
  have sS := x_S_f t1 f1 g1 (fun i k z => by omega) (fun i k z => by omega)
  have e3 : σ1.1 17 3 - 1 = (f : Int) := by rw [t3.1]; omega
  have e31 : ρ1.1 0 31 - 1 = (f : Int) := by rw [t3.2]; omega
  have ec : k_c65 fu a σ f b 14 = f_MC_giveBack fu σ1 v := by
    have : k_c65 fu a σ f b 14 = xw_bn2 (f_FR_pop fu σ f) (fun s42 r44 => xw_bnd (f_MC_giveBack fu s42 r44) (fun s45 => some s45)) := rfl
    rw [this, xw_bn2_e a1, x_bs]
  have er : k_r69 fu ρ (f : Int) q 14 = f_MD_giveBack fu ρ1 v := by
    rw [x_r113 fu ρ (f : Int) q (o := 14) (Or.inr (Or.inl rfl)), xw_if_f (by decide), xw_if_t rfl, xw_bn2_e a2]
  rw [ec, er]
  have fr : xw_r (f : Int) := ⟨by omega, by omega⟩
  unfold f_MC_giveBack f_MD_giveBack
  rw [xw_let_e (a := xw_st σ1 17 3 (σ1.1 17 3 - 1)), xw_let_e (a := xw_st ρ1 0 31 (ρ1.1 0 31 - 1)), e3, e31, st_s, st_s, xw_grd_t fr, xw_grd_t fr]
  by_cases c0 : f = 0
  · rw [xw_if_t (by omega), xw_if_t (by omega), x_bs]
    exact ⟨_, _, rfl, rfl, frm_tr (frm_tr zf (frm_st (Or.inl rfl))) (frm_st (Or.inl rfl)), frm_tr (frm_tr zg (frm_st (Or.inl ⟨rfl, Or.inr ⟨by omega, by omega⟩⟩))) (frm_st (Or.inl ⟨rfl, Or.inr ⟨by omega, by omega⟩⟩)), Or.inl (x_fini (S := Z_c) (T := Z_r) vV (by omega) v)⟩
  · obtain ⟨g, rfl⟩ : ∃ g, f = g + 1 := ⟨f - 1, by omega⟩
    rw [xw_if_f (by omega), xw_if_f (by omega)]
    obtain ⟨m', p', h', k1, k2, k3, k4, k5⟩ := t5 g (by omega)
    have kF := x_F_f k1 (by omega) f1 g1 (fun i k z => by omega) (fun i k z => by omega)
    obtain ⟨y1, y2, y3, y4, y5, y6⟩ := x_typ sS k2
    have z13 : q_sz (Mc (Ps m') p') = 2 := by rw [k4]; decide
    have p13 : q_pt (Mc (Ps m') p') = 1 := by rw [k4]; decide
    obtain ⟨w1, w2⟩ := y5 (by rw [k4]; decide)
    rw [z13] at w1 w2
    have haf : m_af (Ps m') A (D m') p' = D m' p' - m_tk (Ps m') A p' + 1 := by unfold m_af; rw [p13]
    have h3' := y3.2.2.2
    obtain ⟨σ3, ρ3, c1, c2, c3, c4, c5⟩ := x_push fu kF (by omega) (by omega) (st_s _ _ _ _) av
    have u3 : ρ3.1 0 31 = ((g + 1 : Nat) : Int) := by rw [c5.2 _ _ (by unfold X_r; omega)]; exact st_s _ _ _ _
    have eg : ((g + 1 : Nat) : Int) - 1 = (g : Int) := by omega
    rw [eg, xw_grd_t (by omega), Int.toNat_natCast, xw_bnd_e c1, xw_bn2_e (q_OPsize fu σ3 (by decide)), xw_bnd_e c2, u3, eg, xw_grd_t (by omega), Int.toNat_natCast, c3.1.2.1, c3.2.1.2.1]
    have f4 : frm (X_c g) (xw_st σ1 17 3 ((g + 1 : Nat) : Int)) (xw_st σ3 (24 + 3 * g) 4 ((p' + 2 : Nat) : Int)) := frm_tr c4 (X_c4 _)
    have g4 : frm (X_r g) (xw_st ρ1 0 31 ((g + 1 : Nat) : Int)) (xw_st ρ3 23 g ((p' + 2 : Nat) : Int)) := frm_tr c5 (X_r4 _)
    refine ⟨xw_st σ3 (24 + 3 * g) 4 ((p' + 2 : Nat) : Int), xw_st ρ3 23 g ((p' + 2 : Nat) : Int), rfl, rfl, frm_tr zf (X_Zc (by omega) f4), frm_tr zg (X_Zr g4), Or.inr ⟨g, m', p' + 2, h' + 1, mk, ⟨x_S_f sS f4 g4 (fun i k z => by unfold X_c at z; omega) (fun i k z => by unfold X_r at z; omega), x_V_f vV f4 g4 (fun i k z => by unfold X_c at z; omega) (fun i k z => by unfold X_r at z; omega), by omega, ⟨?_, ?_⟩, ⟨?_, ?_, ?_⟩, ⟨x_go c3 _, w1, ?_⟩, fun g' hg' => ?_⟩, by omega, fun z => absurd z (by decide)⟩⟩
    · rw [f4.2 _ _ (by unfold X_c; omega)]; exact st_s _ _ _ _
    · rw [g4.2 _ _ (by unfold X_r; omega)]; exact st_s _ _ _ _
    · rw [f4.2 _ _ (by unfold X_c; omega), st_k (by decide)]; exact t4.1
    · rw [g4.2 _ _ (by unfold X_r; omega), st_k (by decide)]; exact t4.2.1
    · rw [g4.2 _ _ (by unfold X_r; omega), st_k (by decide)]; exact t4.2.2
    · show ((h' + 1 : Nat) : Int) = D m' (p' + (2 : Int).toNat)
      rw [w2, haf, ← k5]; rfl
    · obtain ⟨m1, q1, h1, e1, e2, e4, e5⟩ := t5 g' (by omega)
      exact ⟨m1, q1, h1, x_F_f (x_F_f e1 (by omega) f1 g1 (fun i k z => by omega) (fun i k z => by omega)) (by omega) f4 g4 (fun i k z => by unfold X_c at z; omega) (fun i k z => by unfold X_r at z; omega), e2, e4, e5⟩
end
