/-! 89.l: calling -/
def k_cen (fu : Nat) (nu : Int) (s : xw_S) (ar vb va : Int) : Option xw_S := xw_grd ((0 ≤ s.1 17 3 ∧ s.1 17 3 < ((8 : Nat) : Int))) (xw_bnd (f_FR_begin fu s ((s.1 17 3).toNat) nu ar va vb) (fun s19 => xw_let (xw_st s19 17 3 ((s19.1 17 3) + 1)) (fun s22 => some s22)))
def k_rca (fu : Nat) (q : Int) (s : xw_S) (ar vb va : Int) : Option xw_S := xw_bnd (f_MD_enter fu s q) (fun s18 => xw_grd ((0 ≤ (6 * (s18.1 0 31)) - 6 ∧ (6 * (s18.1 0 31)) - 6 < ((48 : Nat) : Int))) (xw_let (xw_st s18 25 ((6 * (s18.1 0 31)) - 6).toNat va) (fun s22 => xw_grd (xw_r ar) (xw_if (ar = 2) (xw_grd ((0 ≤ (6 * (s22.1 0 31)) - 5 ∧ (6 * (s22.1 0 31)) - 5 < ((48 : Nat) : Int))) (xw_let (xw_st s22 25 ((6 * (s22.1 0 31)) - 5).toNat vb) (fun s27 => some s27))) (some s22)))))
theorem k_enter (fu : Nat) (s0 : xw_S) (f1 : Nat) (p2 : Int) (a3 : Nat) : f_MC_enter fu s0 f1 p2 a3 = xw_grd (xw_r (s0.1 17 3)) (xw_if (s0.1 17 3 < 8) (xw_grd ((0 ≤ p2 ∧ p2 < ((4 : Nat) : Int))) (xw_let (s0.1 (48 + 4 * (4 * a3 + (p2).toNat)) 5) (fun v4 => xw_jn (fun (s11 : xw_S) (i4_38 : Int) (t0_38 : Int) => xw_jn (fun (s17 : xw_S) (i4_53 : Int) (i5_53 : Int) (t0_53 : Int) => k_cen fu p2 s17 i4_53 i5_53 t0_53)
 (fun (j53 : xw_S → Int → Int → Int → Option xw_S) => xw_grd (xw_r i4_38) (xw_if (i4_38 ≤ 0) (j53 s11 i4_38 t0_38 0)
 (xw_bn2 (f_FR_pop fu s11 f1) (fun s14 r16 => j53 s14 i4_38 t0_38 r16)))))
 (fun (j38 : xw_S → Int → Int → Option xw_S) => xw_grd (xw_r v4) (xw_if (v4 ≤ 1) (j38 s0 v4 0)
 (xw_bn2 (f_FR_pop fu s0 f1) (fun s8 r10 => j38 s8 v4 r10)))))))
 (xw_bnd (f_MC_end fu s0 3 0) (fun s24 => some s24))) := rfl
theorem k_call (fu : Nat) (s0 : xw_S) (p1 : Int) : f_MD_call fu s0 p1 = xw_grd (xw_r (s0.1 0 31)) (xw_if (s0.1 0 31 = 8) (xw_let (xw_st s0 0 37 3) (fun s29 => some s29))
 (xw_grd ((0 ≤ p1 ∧ p1 < ((12 : Nat) : Int))) (xw_let (s0.1 3 (p1).toNat) (fun v4 => xw_jn (fun (s11 : xw_S) (i2_35 : Int) (t0_35 : Int) => xw_jn (fun (s17 : xw_S) (i2_48 : Int) (i3_48 : Int) (t0_48 : Int) => k_rca fu p1 s17 i2_48 i3_48 t0_48)
 (fun (j48 : xw_S → Int → Int → Int → Option xw_S) => xw_grd (xw_r i2_35) (xw_if (i2_35 ≤ 0) (j48 s11 i2_35 t0_35 0)
 (xw_bn2 (f_MD_pop fu s11) (fun s14 r16 => j48 s14 i2_35 t0_35 r16)))))
 (fun (j35 : xw_S → Int → Int → Option xw_S) => xw_grd (xw_r v4) (xw_if (v4 = 2) (xw_bn2 (f_MD_pop fu s0) (fun s8 r10 => j35 s8 v4 r10))
 (j35 s0 v4 0))))))) := rfl
section
variable {a qb n : Nat} {Ps : Nat → m_M} {A : Nat → Int} {D : Nat → Nat → Int} {fuel us mk : Int} {σ ρ σ1 ρ1 : xw_S} {f m p h : Nat}
/-- the arguments are taken off, alike on both sides -/
theorem x_args (fu : Nat) (hJ : x_J a qb n Ps A D fuel us mk f m p h σ ρ) {h0 ar : Nat} (hh : h = h0 + ar) (h8 : h ≤ 8) (har : ar ≤ 2) (nu q : Int) : ∃ σ1 ρ1 va vb, xw_r va ∧ xw_r vb ∧ (ar = 0 → va = 0) ∧ (ar ≤ 1 → vb = 0) ∧ x_F qb σ1 ρ1 f m p h0 ∧ frm (X_c f) σ σ1 ∧ frm (X_r f) ρ ρ1 ∧ (xw_jn (fun (s11 : xw_S) (i4_38 : Int) (t0_38 : Int) => xw_jn (fun (s17 : xw_S) (i4_53 : Int) (i5_53 : Int) (t0_53 : Int) => k_cen fu nu s17 i4_53 i5_53 t0_53)
 (fun (j53 : xw_S → Int → Int → Int → Option xw_S) => xw_grd (xw_r i4_38) (xw_if (i4_38 ≤ 0) (j53 s11 i4_38 t0_38 0)
 (xw_bn2 (f_FR_pop fu s11 f) (fun s14 r16 => j53 s14 i4_38 t0_38 r16)))))
 (fun (j38 : xw_S → Int → Int → Option xw_S) => xw_grd (xw_r (ar : Int)) (xw_if ((ar : Int) ≤ 1) (j38 σ (ar : Int) 0)
 (xw_bn2 (f_FR_pop fu σ f) (fun s8 r10 => j38 s8 (ar : Int) r10))))) = k_cen fu nu σ1 (ar : Int) vb va ∧ (xw_jn (fun (s11 : xw_S) (i2_35 : Int) (t0_35 : Int) => xw_jn (fun (s17 : xw_S) (i2_48 : Int) (i3_48 : Int) (t0_48 : Int) => k_rca fu q s17 i2_48 i3_48 t0_48)
 (fun (j48 : xw_S → Int → Int → Int → Option xw_S) => xw_grd (xw_r i2_35) (xw_if (i2_35 ≤ 0) (j48 s11 i2_35 t0_35 0)
 (xw_bn2 (f_MD_pop fu s11) (fun s14 r16 => j48 s14 i2_35 t0_35 r16)))))
 (fun (j35 : xw_S → Int → Int → Option xw_S) => xw_grd (xw_r (ar : Int)) (xw_if ((ar : Int) = 2) (xw_bn2 (f_MD_pop fu ρ) (fun s8 r10 => j35 s8 (ar : Int) r10))
 (j35 ρ (ar : Int) 0)))) = k_rca fu q ρ1 (ar : Int) vb va := by
  have hf8 := hJ.2.2.1
  have hF := hJ.2.2.2.2.2.1.1
  have hu := hJ.2.2.2.1.2
  have rr : xw_r (ar : Int) := ⟨by omega, by omega⟩
  have r0 : xw_r 0 := by decide
  rw [xw_jn_e, xw_jn_e, xw_grd_t rr, xw_grd_t rr]
  obtain e | e | e : ar = 0 ∨ ar = 1 ∨ ar = 2 := by omega
  · subst e
    refine ⟨σ, ρ, 0, 0, r0, r0, fun _ => rfl, fun _ => rfl, by rw [show h0 = h by omega]; exact hF, frm_rf _ _, frm_rf _ _, ?_, ?_⟩
    · rw [xw_if_t (by decide)]
      dsimp only
      rw [xw_jn_e, xw_grd_t (by decide), xw_if_t (by decide)]
    · rw [xw_if_f (by decide)]
      dsimp only
      rw [xw_jn_e, xw_grd_t (by decide), xw_if_t (by decide)]
  · subst e
    rw [hh] at hF
    obtain ⟨σ1, ρ1, v1, a1, a2, av, a3, a4, a5⟩ := x_pop fu hF hf8 (by omega) hu
    refine ⟨σ1, ρ1, v1, 0, av, r0, fun z => by omega, fun _ => rfl, a3, a4, a5, ?_, ?_⟩
    · rw [xw_if_t (by decide)]
      dsimp only
      rw [xw_jn_e, xw_grd_t (by decide), xw_if_f (by decide), xw_bn2_e a1]
    · rw [xw_if_f (by decide)]
      dsimp only
      rw [xw_jn_e, xw_grd_t (by decide), xw_if_f (by decide), xw_bn2_e a2]
  · subst e
    rw [hh] at hF
    obtain ⟨σ1, ρ1, v1, a1, a2, av, a3, a4, a5⟩ := x_pop fu (h := h0 + 1) hF hf8 (by omega) hu
    obtain ⟨σ2, ρ2, v2, b1, b2, bv, b3, b4, b5⟩ := x_pop fu a3 hf8 (by omega) (x_aft hJ a4 a5).2.2.1.2
    refine ⟨σ2, ρ2, v2, v1, bv, av, fun z => by omega, fun z => by omega, b3, frm_tr a4 b4, frm_tr a5 b5, ?_, ?_⟩
    · rw [xw_if_f (by decide), xw_bn2_e a1]
      dsimp only
      rw [xw_jn_e, xw_grd_t (by decide), xw_if_f (by decide), xw_bn2_e b1]
    · rw [xw_if_t (by decide), xw_bn2_e a2]
      dsimp only
      rw [xw_jn_e, xw_grd_t (by decide), xw_if_f (by decide), xw_bn2_e b2]
/-- a new frame g begins with its arguments -/
theorem x_new (fu : Nat) (hfu : 2000 ≤ fu) {g k q ar : Nat} (hg8 : g < 8) (hq : q = qb + k) (h3 : σ.1 17 3 = (g : Int)) (h31 : ρ.1 0 31 = (g : Int)) (har : ar ≤ 2) {va vb : Int} (rva : xw_r va) (rvb : xw_r vb) (z0 : ar = 0 → va = 0) (z1 : ar ≤ 1 → vb = 0) : ∃ σ' ρ', k_cen fu (k : Int) σ (ar : Int) vb va = some σ' ∧ k_rca fu (q : Int) ρ (ar : Int) vb va = some ρ' ∧ x_F qb σ' ρ' g k 0 0 ∧ frm (fun i k => X_n g i k ∨ (i = 17 ∧ k = 3)) σ σ' ∧ frm (X_m g) ρ ρ' ∧ σ'.1 17 3 = ((g + 1 : Nat) : Int) ∧ ρ'.1 0 31 = ((g + 1 : Nat) : Int) := by
  obtain ⟨σ1, a1, a2, a3, a4, a5, a6⟩ := x_beC fu hfu (σ := σ) (u := g) (k : Int) (ar : Int) va vb (by omega)
  obtain ⟨ρ1, b1, b2, b3, b4, b5, b6, b7⟩ := x_enR fu (by omega) hg8 h31 (q : Int)
  have c3 : σ1.1 17 3 = (g : Int) := by rw [a2.2 _ _ (by unfold X_n; omega)]; exact h3
  have ec : k_cen fu (k : Int) σ (ar : Int) vb va = some (xw_st σ1 17 3 ((g + 1 : Nat) : Int)) := by
    unfold k_cen
    rw [h3, xw_grd_t (by omega), Int.toNat_natCast, xw_bnd_e a1, c3]
    rfl
  have fc : frm (fun i k => X_n g i k ∨ (i = 17 ∧ k = 3)) σ (xw_st σ1 17 3 ((g + 1 : Nat) : Int)) := frm_tr (frm_mono a2 (fun _ _ z => Or.inl z)) (frm_st (Or.inr ⟨rfl, rfl⟩))
  have rr : xw_r (ar : Int) := ⟨by omega, by omega⟩
  have e6 : (6 * ((g + 1 : Nat) : Int) - 6).toNat = 6 * g := by omega
  have e5 : (6 * ((g + 1 : Nat) : Int) - 5).toNat = 6 * g + 1 := by omega
  have s31 : (xw_st ρ1 25 (6 * g) va).1 0 31 = ((g + 1 : Nat) : Int) := by rw [st_i (by decide)]; exact b7
  have f2 : frm (X_m g) ρ (xw_st ρ1 25 (6 * g) va) := frm_tr b2 (frm_st (Or.inr (Or.inr (Or.inr (Or.inl ⟨rfl, by omega, by omega⟩)))))
  have lc : ∀ i, i < 6 → (xw_st σ1 17 3 ((g + 1 : Nat) : Int)).1 (26 + 3 * g) i = if i = 0 ∧ 1 ≤ (ar : Int) then va else if i = 1 ∧ 2 ≤ (ar : Int) then vb else 0 := fun i hi => by rw [st_i (by omega)]; exact a6 i hi
  have rl : ∀ i, i < 6 → xw_r ((xw_st σ1 17 3 ((g + 1 : Nat) : Int)).1 (26 + 3 * g) i) := fun i hi => by
    rw [lc i hi]
    by_cases c1 : i = 0 ∧ 1 ≤ (ar : Int)
    · rw [if_pos c1]; exact rva
    · rw [if_neg c1]
      by_cases c2 : i = 1 ∧ 2 ≤ (ar : Int)
      · rw [if_pos c2]; exact rvb
      · rw [if_neg c2]; decide
  have cc : (xw_st σ1 17 3 ((g + 1 : Nat) : Int)).1 (24 + 3 * g) 3 = (k : Int) ∧ (xw_st σ1 17 3 ((g + 1 : Nat) : Int)).1 (24 + 3 * g) 4 = ((0 : Nat) : Int) ∧ (xw_st σ1 17 3 ((g + 1 : Nat) : Int)).1 (24 + 3 * g) 2 = ((0 : Nat) : Int) := ⟨by rw [st_i (by omega)]; exact a3, by rw [st_i (by omega)]; exact a4, by rw [st_i (by omega)]; exact a5⟩
  by_cases c2 : ar = 2
  · refine ⟨_, xw_st (xw_st ρ1 25 (6 * g) va) 25 (6 * g + 1) vb, ec, ?_, ⟨cc, ⟨?_, ?_, ?_⟩, fun i hi => ⟨?_, rl i hi⟩, fun i hi => by omega⟩, fc, frm_tr f2 (frm_st (Or.inr (Or.inr (Or.inr (Or.inl ⟨rfl, by omega, by omega⟩))))), st_s _ _ _ _, ?_⟩
    · unfold k_rca
      rw [xw_bnd_e b1, b7, xw_grd_t (by omega), xw_let_e, e6, xw_grd_t rr, xw_if_t (by omega), s31, xw_grd_t (by omega), e5]
      rfl
    · rw [st_i (by decide), st_i (by decide), b3, hq]
    · rw [st_i (by decide), st_i (by decide)]; exact b4
    · rw [st_i (by decide), st_i (by decide)]; exact b5
    · rw [lc i hi]
      by_cases i1 : i = 1
      · rw [i1, if_neg (by omega), if_pos ⟨rfl, by omega⟩, st_s]
      · rw [st_k (by omega)]
        by_cases i0 : i = 0
        · rw [i0, if_pos ⟨rfl, by omega⟩]; exact (st_s _ _ _ _).symm
        · rw [if_neg (by omega), if_neg (by omega), st_k (by omega)]; exact (b6 i hi).symm
    · rw [st_i (by decide)]; exact s31
  · refine ⟨_, xw_st ρ1 25 (6 * g) va, ec, ?_, ⟨cc, ⟨?_, ?_, ?_⟩, fun i hi => ⟨?_, rl i hi⟩, fun i hi => by omega⟩, fc, f2, st_s _ _ _ _, s31⟩
    · unfold k_rca
      rw [xw_bnd_e b1, b7, xw_grd_t (by omega), xw_let_e, e6, xw_grd_t rr, xw_if_f (by omega)]
    · rw [st_i (by decide), b3, hq]
    · rw [st_i (by decide)]; exact b4
    · rw [st_i (by decide)]; exact b5
    · rw [lc i hi]
      by_cases i0 : i = 0
      · rw [i0]
        have es : (xw_st ρ1 25 (6 * g) va).1 25 (6 * g + 0) = va := st_s _ _ _ _
        rw [es]
        by_cases c1 : ar = 0
        · rw [if_neg (by omega), if_neg (by omega), z0 c1]
        · rw [if_pos ⟨rfl, by omega⟩]
      · rw [if_neg (by omega), if_neg (by omega), st_k (by omega)]; exact (b6 i hi).symm
theorem x_cal (fu : Nat) (hfu : 2000 ≤ fu) (hJ : x_J a qb n Ps A D fuel us mk f m p h σ ρ) (ho : Mc (Ps m) p = 13) : x_W a qb n Ps A D fuel us mk 13 f p σ ρ (k_c65 fu a σ f (4 * a + m) 13) (k_r69 fu ρ (f : Int) ((qb + m : Nat) : Int) 13) := by
  have hJJ := hJ
  obtain ⟨jS, jV, jf, ⟨j3, j31⟩, j5, ⟨jF, jP, jD⟩, jlo⟩ := hJ
  obtain ⟨t1, t2, t3, t4, t5, t6⟩ := x_typ jS jP
  have hn4 := jS.2.1
  have hab := jS.1
  have hm := jP.1
  have hz : q_sz (Mc (Ps m) p) = 2 := by rw [ho]; decide
  have hnu := t4.2.2 ho
  obtain ⟨k, hk⟩ : ∃ k : Nat, m_nu (Ps m) p = (k : Int) := ⟨(m_nu (Ps m) p).toNat, by omega⟩
  have hkn : k < n := by omega
  obtain ⟨y1, y2, y3, y4, ⟨S, cl⟩, y6, y7, y8⟩ := jS.2.2 k hkn
  have htk : m_tk (Ps m) A p = A k := by unfold m_tk; rw [if_pos ho, hk, Int.toNat_natCast]
  obtain ⟨ar, har⟩ : ∃ ar : Nat, A k = (ar : Int) := ⟨(A k).toNat, by omega⟩
  have en : m_nu (Ps m) p = Mc (Ps m) (p + 1) := by unfold m_nu; rw [show (p : Int) + 1 = ((p + 1 : Nat) : Int) by omega, m_at_in (by omega)]
  have ec : k_c65 fu a σ f (4 * a + m) 13 = f_MC_enter fu σ f (k : Int) a := by
    have e : k_c65 fu a σ f (4 * a + m) 13 = xw_bn2 (f_B_byteAt fu σ (4 * a + m) ((σ.1 (24 + 3 * f) 4) + 1)) (fun s48 r50 => xw_bnd (f_MC_enter fu s48 f r50 a) (fun s51 => some s51)) := rfl
    have eb : f_B_byteAt fu σ (4 * a + m) ((σ.1 (24 + 3 * f) 4) + 1) = some (σ, (k : Int)) := by
      rw [jF.1.2.1, ← hk]
      exact q_byteAt fu t1.1.1 ⟨by omega, by omega⟩
    rw [e, xw_bn2_e eb, x_bs]
  have eq4 : xw_dv ((qb + m : Nat) : Int) 4 * 4 + (k : Int) = ((qb + k : Nat) : Int) := by
    rw [z_dv4 (qb + m) (by omega)]
    omega
  have er : k_r69 fu ρ (f : Int) ((qb + m : Nat) : Int) 13 = f_MD_call fu ρ ((qb + k : Nat) : Int) := by
    have eo : f_MD_op fu ρ ((qb + m : Nat) : Int) ((p : Int) + 1) = some (ρ, (k : Int)) := by
      rw [show (p : Int) + 1 = ((p + 1 : Nat) : Int) by omega, ← hk, en]
      exact q_MDop' fu t1.2.1.1 (by omega)
    rw [x_r113 fu ρ (f : Int) _ (o := 13) (Or.inl rfl), xw_if_t rfl, xw_grd_t (by omega), Int.toNat_natCast f, jF.2.1.2.1, xw_bn2_e eo, eq4]
  have r3 : xw_r ((f + 1 : Nat) : Int) := ⟨by omega, by omega⟩
  rw [ec, er, k_enter, k_call, j3, j31, xw_grd_t r3, xw_grd_t r3]
  by_cases c8 : f = 7
  · rw [xw_if_f (by omega), xw_if_t (by omega), x_bs]
    refine ⟨xw_st (xw_st σ 17 5 3) 17 6 0, xw_st ρ 0 37 3, rfl, rfl, frm_tr (frm_st (Or.inl rfl)) (frm_st (Or.inl rfl)), frm_st (Or.inl ⟨rfl, Or.inr ⟨by omega, by omega⟩⟩), Or.inl ⟨us, mk, 3, by decide, by decide, by rw [st_k (by decide), st_s], st_s _ _ _ _, ?_, ?_⟩⟩
    · rw [st_s, st_k (by decide)]; exact j5.2.2.symm
    · exact x_V_f (S := fun i k => i = 17 ∧ (k = 5 ∨ k = 6)) (T := fun i k => i = 0 ∧ k = 37) jV (frm_tr (frm_st ⟨rfl, Or.inl rfl⟩) (frm_st ⟨rfl, Or.inr rfl⟩)) (frm_st ⟨rfl, rfl⟩) (fun i k z => by omega) (fun i k z => by omega)
  · rw [xw_if_t (by omega), xw_if_f (by omega), xw_grd_t (by omega), xw_grd_t (by omega), xw_let_e, xw_let_e, Int.toNat_natCast k, Int.toNat_natCast (qb + k), y1.2.2.2.1, y2.2.2.2.1, y6, har]
    obtain ⟨h0, hh0⟩ : ∃ h0, h = h0 + ar := ⟨h - ar, by omega⟩
    obtain ⟨σ1, ρ1, va, vb, rva, rvb, z0, z1, aF, af, ag, e1, e2⟩ := x_args fu hJJ hh0 (by omega) (by omega) (k : Int) ((qb + k : Nat) : Int)
    rw [e1, e2]
    obtain ⟨s1, s2, ⟨s3, s31⟩, s5, slo⟩ := x_aft hJJ af ag
    obtain ⟨σ2, ρ2, n1, n2, n3, n4, n5, n6, n7⟩ := x_new (qb := qb) fu hfu (g := f + 1) (k := k) (q := qb + k) (by omega) rfl s3 s31 (by omega) rva rvb z0 z1
    obtain ⟨l0, l1, l2⟩ := x_ar (n := n) hkn (by decide) cl.1
    refine ⟨σ2, ρ2, n1, n2, frm_tr (X_Zc jf af) (frm_mono n4 (fun i k z => by unfold X_n at z; unfold Z_c; omega)), frm_tr (X_Zr ag) (frm_mono n5 (fun i k z => by unfold X_m at z; unfold Z_r; omega)), Or.inr ⟨f + 1, k, 0, 0, mk, ⟨x_S_f s1 n4 n5 (fun i k z => by unfold X_n at z; omega) (fun i k z => by unfold X_m at z; omega), x_V_f s2 n4 n5 (fun i k z => by unfold X_n at z; omega) (fun i k z => by unfold X_m at z; omega), by omega, ⟨n6, n7⟩, ⟨?_, ?_, ?_⟩, ⟨n3, l1, l2.symm⟩, fun g hg => ?_⟩, by omega, fun z => absurd z (by decide)⟩⟩
    · rw [n4.2 _ _ (by unfold X_n; omega)]; exact s5.1
    · rw [n5.2 _ _ (by unfold X_m; omega)]; exact s5.2.1
    · rw [n5.2 _ _ (by unfold X_m; omega)]; exact s5.2.2
    · by_cases hgf : g = f
      · subst hgf
        exact ⟨m, p, h0, x_F_f aF (by omega) n4 n5 (fun i k z => by unfold X_n at z; omega) (fun i k z => by unfold X_m at z; omega), jP, by omega, ho, by rw [htk, har]; omega⟩
      · obtain ⟨m1, q1, h1, e1, e2, e4, e5⟩ := slo g (by omega)
        exact ⟨m1, q1, h1, x_F_f e1 (by omega) n4 n5 (fun i k z => by unfold X_n at z; omega) (fun i k z => by unfold X_m at z; omega), e2, e4, e5⟩
end
