/-! 89.j: what holds all along a run; raising on both sides -/
def Z_c : Nat → Nat → Prop := fun i k => i = 17 ∨ i = 19 ∨ i = 20 ∨ (24 ≤ i ∧ i < 48)
def Z_r : Nat → Nat → Prop := fun i k => (i = 0 ∧ (k = 31 ∨ (37 ≤ k ∧ k ≤ 40))) ∨ (22 ≤ i ∧ i ≤ 28)
/-- a place where a frame may stand -/
def x_P (n : Nat) (Ps : Nat → m_M) (D : Nat → Nat → Int) (m p : Nat) : Prop := m < n ∧ p < ML (Ps m) ∧ m_bg (Mc (Ps m)) p ∧ 0 ≤ D m p
/-- a frame that waits for a call -/
def x_lo (qb n : Nat) (Ps : Nat → m_M) (A : Nat → Int) (D : Nat → Nat → Int) (σ ρ : xw_S) (g : Nat) : Prop := ∃ m p h : Nat, x_F qb σ ρ g m p h ∧ x_P n Ps D m p ∧ h ≤ 8 ∧ Mc (Ps m) p = 13 ∧ (h : Int) = D m p - m_tk (Ps m) A p
def x_J (a qb n : Nat) (Ps : Nat → m_M) (A : Nat → Int) (D : Nat → Nat → Int) (fuel us mk : Int) (f m p h : Nat) (σ ρ : xw_S) : Prop := x_S a qb n Ps A D σ ρ ∧ x_V fuel us mk σ ρ ∧ f < 8 ∧ (σ.1 17 3 = ((f + 1 : Nat) : Int) ∧ ρ.1 0 31 = ((f + 1 : Nat) : Int)) ∧ (σ.1 17 5 = -1 ∧ ρ.1 0 37 = -1 ∧ ρ.1 0 38 = 0) ∧ (x_F qb σ ρ f m p h ∧ x_P n Ps D m p ∧ (h : Int) = D m p) ∧ ∀ g, g < f → x_lo qb n Ps A D σ ρ g
/-- a run that has ended, alike on both sides -/
def x_Z (fuel : Int) (σ ρ : xw_S) : Prop := ∃ us mk o, 0 ≤ o ∧ o ≤ 3 ∧ σ.1 17 5 = o ∧ ρ.1 0 37 = o ∧ σ.1 17 6 = ρ.1 0 38 ∧ x_V fuel us mk σ ρ
def x_W (a qb n : Nat) (Ps : Nat → m_M) (A : Nat → Int) (D : Nat → Nat → Int) (fuel us mk o : Int) (f p : Nat) (σ ρ : xw_S) (ec er : Option xw_S) : Prop := ∃ σ' ρ', ec = some σ' ∧ er = some ρ' ∧ frm Z_c σ σ' ∧ frm Z_r ρ ρ' ∧ (x_Z fuel σ' ρ' ∨ ∃ f' m' p' h' mk', x_J a qb n Ps A D fuel us mk' f' m' p' h' σ' ρ' ∧ mk' ≤ mk + 1 ∧ (30 ≤ o → f' < f ∨ (f' = f ∧ p < p')))
section
variable {a qb n : Nat} {Ps : Nat → m_M} {A : Nat → Int} {D : Nat → Nat → Int} {fuel us mk : Int} {σ ρ : xw_S} {f m p h : Nat}
theorem x_ar (hm : m < n) {S : Nat → Nat → Prop} {t e : Int} {T : Nat → Prop} (he : 0 ≤ e) (h : m_ar (Mc (Ps m)) (ML (Ps m)) (D m) S t e T) : 0 ≤ t ∧ x_P n Ps D m t.toNat ∧ D m t.toNat = e := by
  obtain ⟨⟨h1, h2, h3⟩, h4, _⟩ := h
  exact ⟨h1, ⟨hm, by omega, h3, by rw [h4]; exact he⟩, h4⟩
theorem x_typ (hS : x_S a qb n Ps A D σ ρ) (hP : x_P n Ps D m p) : (c_M σ (4 * a + m) (Ps m) ∧ r_M ρ (qb + m) (Ps m) ∧ m_W (Ps m) (n : Int) ∧ m_E (Ps m)) ∧ (0 < q_sz (Mc (Ps m) p) ∧ (p : Int) + q_sz (Mc (Ps m) p) ≤ (ML (Ps m) : Int) ∧ 1 ≤ ML (Ps m) ∧ ML (Ps m) ≤ 120) ∧ (D m p ≤ 8 ∧ m_tk (Ps m) A p ≤ D m p ∧ 0 ≤ m_tk (Ps m) A p ∧ m_af (Ps m) A (D m) p ≤ 8) ∧ (0 ≤ m_nu (Ps m) p ∧ ((Mc (Ps m) p = 2 ∨ Mc (Ps m) p = 3 ∨ Mc (Ps m) p = 16) → m_nu (Ps m) p < 6) ∧ (Mc (Ps m) p = 13 → m_nu (Ps m) p < n)) ∧ (¬ q_en (Mc (Ps m) p) → x_P n Ps D m (p + (q_sz (Mc (Ps m) p)).toNat) ∧ D m (p + (q_sz (Mc (Ps m) p)).toNat) = m_af (Ps m) A (D m) p) ∧ (q_br (Mc (Ps m) p) → 0 ≤ (p : Int) + m_way (Mc (Ps m)) (ML (Ps m)) p ∧ x_P n Ps D m ((p : Int) + m_way (Mc (Ps m)) (ML (Ps m)) p).toNat ∧ D m ((p : Int) + m_way (Mc (Ps m)) (ML (Ps m)) p).toNat = m_af (Ps m) A (D m) p) ∧ ∀ i, i < MN (Ps m) → m_cov (Ps m) i p → 0 ≤ Mh (Ps m) (4 * i + 2) ∧ x_P n Ps D m (Mh (Ps m) (4 * i + 2)).toNat ∧ D m (Mh (Ps m) (4 * i + 2)).toNat = 1 := by
  obtain ⟨hm, hp, hb, hd⟩ := hP
  obtain ⟨y1, y2, y3, y4, ⟨S, cl⟩, y6, y7, y8⟩ := hS.2.2 m hm
  obtain ⟨⟨o1, o2, o3, o4⟩, o5, o6, o7⟩ := cl.2 p hp hd
  have hin := m_in y3.2.2.1 hp hb
  have wp := y3.2.2.2.1 p hp hb
  have hMs := y3.2.1.2.2.2.2.2
  have hMo := y3.2.1.2.2.2.1
  have nu0 : 0 ≤ m_nu (Ps m) p := (m_at_r y1.1.2.2.2.2 _).1
  have pt0 : 0 ≤ q_pt (Mc (Ps m) p) := by
    unfold q_pt
    repeat' split
    all_goals omega
  have tk0 : 0 ≤ m_tk (Ps m) A p := by
    unfold m_tk
    by_cases z : Mc (Ps m) p = 13
    · rw [if_pos z]
      have := wp.2.2 z
      exact (hS.2.2 (m_nu (Ps m) p).toNat (by omega)).2.2.2.2.2.2.1
    · rw [if_neg z]
      unfold q_tk
      repeat' split
      all_goals omega
  have af0 : 0 ≤ m_af (Ps m) A (D m) p := by unfold m_af; omega
  refine ⟨⟨y1, y2, y3, y4⟩, ⟨hin.1, hin.2, y3.1.1, y3.1.2.1⟩, ⟨by omega, o2, tk0, by omega⟩, ⟨nu0, fun z => by have := wp.2.1 z; omega, wp.2.2⟩, fun z => ?_, fun z => x_ar hm af0 (o6 z), fun i hi hc => x_ar hm (by decide) (o7 i hi hc)⟩
  have := x_ar hm af0 (o5 z)
  rw [show ((p : Int) + q_sz (Mc (Ps m) p)).toNat = p + (q_sz (Mc (Ps m) p)).toNat by omega] at this
  exact this.2
/-- only the top frame, the marks and the probes have changed -/
theorem x_top (hJ : x_J a qb n Ps A D fuel us mk f m p h σ ρ) {σ' ρ' : xw_S} {mk' : Int} {p' h' : Nat} (hF : x_F qb σ' ρ' f m p' h') (hf : frm (fun i k => X_c f i k ∨ E_c i k) σ σ') (hg : frm (fun i k => X_r f i k ∨ E_r i k) ρ ρ') (hV : x_V fuel us mk' σ' ρ') (hP : x_P n Ps D m p') (hD : (h' : Int) = D m p') : x_J a qb n Ps A D fuel us mk' f m p' h' σ' ρ' := by
  obtain ⟨j1, j2, j3, ⟨j4, j5⟩, ⟨j6, j7, j8⟩, j9, j10⟩ := hJ
  refine ⟨x_S_f j1 hf hg (fun i k z => by unfold X_c E_c at z; omega) (fun i k z => by unfold X_r E_r at z; omega), hV, j3, ⟨?_, ?_⟩, ⟨?_, ?_, ?_⟩, ⟨hF, hP, hD⟩, fun g hgf => ?_⟩
  · rw [hf.2 _ _ (by unfold X_c E_c; omega)]; exact j4
  · rw [hg.2 _ _ (by unfold X_r E_r; omega)]; exact j5
  · rw [hf.2 _ _ (by unfold X_c E_c; omega)]; exact j6
  · rw [hg.2 _ _ (by unfold X_r E_r; omega)]; exact j7
  · rw [hg.2 _ _ (by unfold X_r E_r; omega)]; exact j8
  · obtain ⟨m1, p1, h1, e1, e2, e3, e4⟩ := j10 g hgf
    exact ⟨m1, p1, h1, x_F_f e1 (by omega) hf hg (fun i k z => by unfold X_c E_c at z; omega) (fun i k z => by unfold X_r E_r at z; omega), e2, e3, e4⟩
/-- the run ends with outcome o and value v -/
theorem x_fini {S T : Nat → Nat → Prop} {σ1 ρ1 : xw_S} (hV : x_V fuel us mk σ1 ρ1) {o : Int} (ho : 0 ≤ o ∧ o ≤ 3) (v : Int) : x_Z fuel (xw_st (xw_st σ1 17 5 o) 17 6 v) (xw_st (xw_st ρ1 0 37 o) 0 38 v) := by
  refine ⟨us, mk, o, ho.1, ho.2, by rw [st_k (by decide), st_s], by rw [st_k (by decide), st_s], by rw [st_s, st_s], ?_⟩
  exact x_V_f (S := fun i k => i = 17 ∧ (k = 5 ∨ k = 6)) (T := fun i k => i = 0 ∧ (k = 37 ∨ k = 38)) hV (frm_tr (frm_st ⟨rfl, Or.inl rfl⟩) (frm_st ⟨rfl, Or.inr rfl⟩)) (frm_tr (frm_st ⟨rfl, Or.inl rfl⟩) (frm_st ⟨rfl, Or.inr rfl⟩)) (fun i k z => by omega) (fun i k z => by omega)
theorem x_clr (hF : x_F qb σ ρ f m p h) : x_F qb (xw_st σ (24 + 3 * f) 2 0) (xw_st ρ 24 f 0) f m p 0 := by
  obtain ⟨⟨a1, a2, a3⟩, ⟨b1, b2, b3⟩, c1, d1⟩ := hF
  refine ⟨⟨by rw [st_k (by decide)]; exact a1, by rw [st_k (by decide)]; exact a2, st_s _ _ _ _⟩, ⟨by rw [st_i (by decide)]; exact b1, by rw [st_i (by decide)]; exact b2, st_s _ _ _ _⟩, fun i hi => ?_, fun i hi => by omega⟩
  rw [st_i (by omega), st_i (by decide)]; exact c1 i hi
/-- a frame takes what was raised -/
theorem x_take (fu : Nat) (hF : x_F qb σ ρ f m p h) (hf : f < 8) (hu : ρ.1 0 31 = ((f + 1 : Nat) : Int)) {M : m_M} {q i : Nat} (hR : r_M ρ q M) (hi : i < MN M) (hA : 0 ≤ Mh M (4 * i + 2)) {v : Int} (hv : xw_r v) : ∃ σ' ρ', f_FR_goOnWith fu σ f v (Mh M (4 * i + 2)) = some σ' ∧ (xw_grd ((0 ≤ (f : Int) ∧ (f : Int) < ((8 : Nat) : Int))) (xw_let (xw_st ρ 24 ((f : Int)).toNat 0) (fun s35 => xw_bnd (f_MD_push fu s35 v) (fun s37 => xw_grd ((0 ≤ ((20 * q + 4 * i : Nat) : Int) + 2 ∧ ((20 * q + 4 * i : Nat) : Int) + 2 < ((240 : Nat) : Int))) (xw_let (xw_st s37 23 ((f : Int)).toNat (s37.1 9 (((20 * q + 4 * i : Nat) : Int) + 2).toNat)) (fun s41 => some s41)))))) = some ρ' ∧ x_F qb σ' ρ' f m (Mh M (4 * i + 2)).toNat 1 ∧ frm (X_c f) σ σ' ∧ frm (X_r f) ρ ρ' := by
  have f1 : frm (X_c f) σ (xw_st σ (24 + 3 * f) 2 0) := frm_st (Or.inl ⟨rfl, Or.inl rfl⟩)
  have g1 : frm (X_r f) ρ (xw_st ρ 24 f 0) := frm_st (Or.inr (Or.inl ⟨rfl, rfl⟩))
  obtain ⟨σ2, ρ2, a1, a2, a3, a4, a5⟩ := x_push fu (x_clr hF) hf (by omega) (by rw [st_i (by decide)]; exact hu) hv
  have hR2 := r_M_f (S := X_r f) hR (rfm_frm (frm_tr g1 a5)) (fun i k z => by unfold X_r at z; omega)
  have hq := hR2.2.1.1
  have hN5 := hR2.2.1.2.1
  have v2 := hR2.2.1.2.2.2.1 (4 * i + 2) (by omega)
  have eA : Mh M (4 * i + 2) = (((Mh M (4 * i + 2)).toNat : Nat) : Int) := by omega
  refine ⟨xw_st σ2 (24 + 3 * f) 4 (((Mh M (4 * i + 2)).toNat : Nat) : Int), xw_st ρ2 23 f (((Mh M (4 * i + 2)).toNat : Nat) : Int), ?_, ?_, x_go a3 _, frm_tr (frm_tr f1 a4) (X_c4 _), frm_tr (frm_tr g1 a5) (X_r4 _)⟩
  · unfold f_FR_goOnWith
    rw [xw_let_e, xw_bnd_e a1, ← eA]
    rfl
  · rw [xw_grd_t (by omega), xw_let_e, Int.toNat_natCast f, xw_bnd_e a2, xw_grd_t (by omega), show (((20 * q + 4 * i : Nat) : Int) + 2).toNat = 20 * q + (4 * i + 2) by omega, v2, ← eA]
    rfl
theorem x_rais (fu : Nat) (hfu : 1000 ≤ fu) (hS : x_S a qb n Ps A D σ ρ) (hV : x_V fuel us mk σ ρ) (hf8 : f < 8) (h3 : σ.1 17 3 = ((f + 1 : Nat) : Int)) (h31 : ρ.1 0 31 = ((f + 1 : Nat) : Int)) (h5 : σ.1 17 5 = -1 ∧ ρ.1 0 37 = -1 ∧ ρ.1 0 38 = 0) (hF : x_F qb σ ρ f m p h) (hh : h ≤ 8) (hP : x_P n Ps D m p) (hlo : ∀ g, g < f → x_lo qb n Ps A D σ ρ g) {v o : Int} (hv : xw_r v) (ho : 30 ≤ o → ∀ i, i < MN (Ps m) → m_cov (Ps m) i p → (p : Int) < Mh (Ps m) (4 * i + 2)) : x_W a qb n Ps A D fuel us mk o f p σ ρ (f_MC_raise fu σ v a) (f_MD_raise fu ρ v) := by
  have mkr := hV.2.2.2.1
  have ex : ∀ g, ∃ t : Nat × Nat × Nat, g < f + 1 → x_F qb σ ρ g t.1 t.2.1 t.2.2 ∧ t.2.2 ≤ 8 ∧ x_P n Ps D t.1 t.2.1 ∧ (g = f → t.1 = m ∧ t.2.1 = p) := by
    intro g
    by_cases hgf : g = f
    · subst hgf
      exact ⟨(m, p, h), fun _ => ⟨hF, hh, hP, fun _ => ⟨rfl, rfl⟩⟩⟩
    · by_cases hg : g < f
      · obtain ⟨m1, p1, h1, e1, e2, e3, _⟩ := hlo g hg
        exact ⟨(m1, p1, h1), fun _ => ⟨e1, e3, e2, fun z => absurd z hgf⟩⟩
      · exact ⟨(0, 0, 0), fun z => by omega⟩
  obtain ⟨T, hT⟩ := Classical.axiomOfChoice ex
  have hL : ∀ g, g < f + 1 → (T g).2.1 < 1000 := fun g hg => by
    have z := (hT g hg).2.2.1
    have w := (x_typ hS z).2.1.2.2.2
    have := z.2.1
    omega
  rcases x_raise fu hfu hv (fm := fun g => (T g).1) (fp := fun g => (T g).2.1) (fh := fun g => (T g).2.2) (f + 1) fu fu σ ρ (by omega) (by omega) (by omega) hS h3 h31 (fun g hg => ⟨(hT g hg).1, (hT g hg).2.1, (hT g hg).2.2.1.1, hL g hg⟩) with ⟨σ', ρ', p1, p2, p3, p4⟩ | ⟨σ', ρ', g, i, g0, i0, i1, p1, p2, p3, p4, p5, p6⟩
  · refine ⟨xw_st (xw_st σ' 17 5 1) 17 6 v, xw_st (xw_st ρ' 0 37 1) 0 38 v, ?_, ?_, frm_tr (frm_tr (frm_mono p3 (fun i k z => Or.inl z.1)) (frm_st (Or.inl rfl))) (frm_st (Or.inl rfl)), frm_tr (frm_tr (frm_mono p4 (fun i k z => Or.inl ⟨z.1, Or.inl z.2⟩)) (frm_st (Or.inl ⟨rfl, Or.inr ⟨by omega, by omega⟩⟩))) (frm_st (Or.inl ⟨rfl, Or.inr ⟨by omega, by omega⟩⟩)), Or.inl (x_fini (S := Z_c) (T := Z_r) (x_V_f hV p3 p4 (fun i k z => by omega) (fun i k z => by omega)) (by omega) v)⟩
    · unfold f_MC_raise
      rw [xw_jn_e, xw_jn_e, p1]
      rfl
    · unfold f_MD_raise
      rw [xw_jn_e, xw_jn_e, p2]
      rfl
  · obtain ⟨k1, k2, k3, k4⟩ := hT g g0
    have hS' := x_S_f hS p3 p4 (fun i k z => by omega) (fun i k z => by omega)
    have hF' := x_F_f k1 (by omega) p3 p4 (fun i k z => by omega) (fun i k z => by omega)
    obtain ⟨t1, t2, t3, t4, t5, t6, t7⟩ := x_typ hS' k3
    obtain ⟨u1, u2, u3⟩ := t7 i i0 i1.1
    obtain ⟨σ2, ρ2, b1, b2, b3, b4, b5⟩ := x_take fu hF' (by omega) p6 t1.2.1 i0 u1 hv
    have F1 : frm (fun i k => X_c g i k ∨ (i = 17 ∧ k = 3)) σ σ2 := frm_tr (frm_mono p3 (fun _ _ z => Or.inr z)) (frm_mono b4 (fun _ _ z => Or.inl z))
    have G1 : frm (fun i k => X_r g i k ∨ (i = 0 ∧ k = 31)) ρ ρ2 := frm_tr (frm_mono p4 (fun _ _ z => Or.inr z)) (frm_mono b5 (fun _ _ z => Or.inl z))
    refine ⟨σ2, ρ2, ?_, ?_, frm_mono F1 (fun i k z => by unfold X_c at z; unfold Z_c; omega), frm_mono G1 (fun i k z => by unfold X_r at z; unfold Z_r; omega), Or.inr ⟨g, (T g).1, (Mh (Ps (T g).1) (4 * i + 2)).toNat, 1, mk, ⟨x_S_f hS F1 G1 (fun i k z => by unfold X_c at z; omega) (fun i k z => by unfold X_r at z; omega), x_V_f hV F1 G1 (fun i k z => by unfold X_c at z; omega) (fun i k z => by unfold X_r at z; omega), by omega, ⟨?_, ?_⟩, ⟨?_, ?_, ?_⟩, ⟨b3, u2, u3.symm⟩, fun g' hg' => ?_⟩, by omega, fun h30 => ?_⟩⟩
    · unfold f_MC_raise
      rw [xw_jn_e, xw_jn_e, p1]
      rw [xw_bnd_e b1]
    · unfold f_MD_raise
      rw [xw_jn_e, xw_jn_e, p2]
      exact b2
    · rw [b4.2 _ _ (by unfold X_c; omega)]; exact p5
    · rw [b5.2 _ _ (by unfold X_r; omega)]; exact p6
    · rw [F1.2 _ _ (by unfold X_c; omega)]; exact h5.1
    · rw [G1.2 _ _ (by unfold X_r; omega)]; exact h5.2.1
    · rw [G1.2 _ _ (by unfold X_r; omega)]; exact h5.2.2
    · obtain ⟨m1, q1, h1, e1, e2, e3, e4⟩ := hlo g' (by omega)
      exact ⟨m1, q1, h1, x_F_f e1 (by omega) F1 G1 (fun i k z => by unfold X_c at z; omega) (fun i k z => by unfold X_r at z; omega), e2, e3, e4⟩
    · by_cases hgf : g = f
      · right
        obtain ⟨q1, q2⟩ := k4 hgf
        refine ⟨hgf, ?_⟩
        have i0' := i0
        have i1' := i1.1
        rw [q1] at i0' u1 ⊢
        rw [q1, q2] at i1'
        have := ho h30 i i0' i1'
        omega
      · left; omega
end
