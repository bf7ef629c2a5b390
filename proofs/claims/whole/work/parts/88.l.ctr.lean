/-! 88.l: the class's transform as a whole -/
def S_ct0 : Nat → Nat → Prop := fun i k => (10 ≤ i ∧ i ≤ 16) ∨ (96 ≤ i ∧ i < 100 ∧ ¬ (i = 96 ∧ k = 3))
def S_ct1 (b : Nat) : Nat → Nat → Prop := fun i k => S_ct0 i k ∨ i = 49 + 4 * b ∨ i = 50 + 4 * b ∨ i = 51 + 4 * b ∨ (i = 48 + 4 * b ∧ 8 ≤ k ∧ k ≤ 10)
/-- the loom as it is when the new places are known -/
def k_t56 (fu b : Nat) (p2 : Int) (s20 : xw_S) (t0_56 : Int) : Option (xw_S × Int) := xw_grd ((0 ≤ s20.1 10 7 ∧ s20.1 10 7 < ((244 : Nat) : Int))) (xw_grd (xw_r (s20.1 14 (s20.1 10 7).toNat)) (xw_if (120 < s20.1 14 (s20.1 10 7).toNat) (some (s20, 0))
 (xw_grd (xw_r t0_56) (xw_if (t0_56 ≤ 5) (xw_bnd (f_LM_writeCode fu s20 b) (fun s26 => xw_bnd (f_LM_writeHandlers fu s26 b) (fun s29 => xw_jn (fun (s40 : xw_S) => xw_bn2 (f_B_findInstructions fu s40 b) (fun s41 r43 => some (s41, 1)))
 (fun (j117 : xw_S → Option (xw_S × Int)) => xw_grd (xw_r p2) (xw_if (p2 = 0) (xw_bn2 (f_LM_newPlace fu s29 (s29.1 (48 + 4 * 12) 8)) (fun s34 r36 => xw_bnd (f_B_addHandler fu s34 b 0 r36 r36 0) (fun s37 => j117 s37)))
 (j117 s29))))))
 (some (s20, 0))))))
theorem k_LMtr (fu : Nat) (s0 : xw_S) (b : Nat) (p2 p3 : Int) : f_LM_transform fu s0 b p2 p3 = xw_bnd (f_B_become fu s0 12 b) (fun s1 => xw_let (xw_st s1 10 7 0) (fun s4 => xw_jn (fun (s14 : xw_S) => xw_bnd (f_LM_layOut fu s14) (fun s15 => xw_jn (fun (s20 : xw_S) (t0_56 : Int) => k_t56 fu b p2 s20 t0_56)
 (fun (j56 : xw_S → Int → Option (xw_S × Int)) => xw_grd (xw_r p2) (xw_if (p2 = 0) (j56 s15 ((s15.1 (48 + 4 * 12) 9) + 1))
 (j56 s15 (s15.1 (48 + 4 * 12) 9))))))
 (fun (j29 : xw_S → Option (xw_S × Int)) => xw_grd (xw_r p2) (xw_if (p2 = 0) (xw_bnd (f_LM_planTrace fu s4 p3) (fun s8 => j29 s8))
 (xw_bnd (f_LM_planCover fu s4) (fun s11 => j29 s11)))))) := rfl
theorem q_LMtr (fu : Nat) (hfu : 2000 ≤ fu) {b : Nat} (hb8 : 8 ≤ b) (hb12 : b < 12) {M : m_M} {me : Int} {t : Nat} {cv : Int} {s : xw_S} (hW : m_W M me) (hE : c_E M b s) (h3 : s.1 (48 + 4 * b) 3 = ((5 : Nat) : Int)) (ht : t < 3) (hcv : cv = 0 ∨ cv = 1) {Kn : Nat} (hKL : Kn ≤ ML M) (hK : ∀ k, k < Kn → n_chg M (n_it M (n_X0 M cv (t : Int)) k)) (hKn : ¬ n_chg M (n_it M (n_X0 M cv (t : Int)) Kn)) :
    (¬ (n_L M (n_it M (n_X0 M cv (t : Int)) Kn) ≤ 120 ∧ n_N M (n_it M (n_X0 M cv (t : Int)) Kn) ≤ 5) → ∃ s', f_LM_transform fu s b cv (t : Int) = some (s', 0) ∧ frm S_ct0 s s') ∧
    ((n_L M (n_it M (n_X0 M cv (t : Int)) Kn) ≤ 120 ∧ n_N M (n_it M (n_X0 M cv (t : Int)) Kn) ≤ 5) → ∀ c0, n_C M (n_it M (n_X0 M cv (t : Int)) Kn) c0 → m_cr c0 (n_L M (n_it M (n_X0 M cv (t : Int)) Kn)) → ∃ s', f_LM_transform fu s b cv (t : Int) = some (s', 1) ∧ frm (S_ct1 b) s s' ∧ c_E (n_M M (n_it M (n_X0 M cv (t : Int)) Kn) c0) b s') := by
  have hL := hW.1
  have hcap12 : xb_cap 12 = 120 := by decide
  have hhc12 : xb_hc 12 = 20 := by decide
  have hcap : xb_cap b = 120 := by unfold xb_cap; rw [if_neg (by omega)]
  have hhc : xb_hc b = 20 := by unfold xb_hc; rw [if_neg (by omega)]
  have hcr := hE.1.1.2.2.2.2
  have h0 := n_ok0 (M := M) (cv := cv) (t := (t : Int)) hcv (by omega) (by omega)
  obtain ⟨s1, a1, a2, a3, a4, a5⟩ := q_become fu (s := s) (b0 := 12) (b1 := b) (by omega) (by omega) hE.1 (by omega) (by omega)
  have f2 : frm S_ct0 s (xw_st s1 10 7 0) := frm_tr (frm_mono a2 (fun i k z => by unfold S_bc at z; unfold S_ct0; omega)) (frm_st (by unfold S_ct0; omega))
  have hE2 : c_E M 12 (xw_st s1 10 7 0) := by
    refine ⟨c_M_f a3 (frm_st (S := fun i _ => i = 10) rfl) (fun i k z => by omega), fun p hp => ?_⟩
    rw [st_i (by decide), a5 p hp]
    exact hE.2 p hp
  -- the plan
  obtain ⟨s3, b1, b2, b3⟩ : ∃ s3, (∀ K : xw_S → Option (xw_S × Int), (xw_grd (xw_r cv) (xw_if (cv = 0) (xw_bnd (f_LM_planTrace fu (xw_st s1 10 7 0) (t : Int)) (fun s8 => K s8)) (xw_bnd (f_LM_planCover fu (xw_st s1 10 7 0)) (fun s11 => K s11)))) = K s3) ∧ frm S_pl (xw_st s1 10 7 0) s3 ∧ c_I M (n_X0 M cv (t : Int)) s3 := by
    by_cases c0 : cv = 0
    · subst c0
      obtain ⟨s3, u1, u2, u3⟩ := q_planT fu hfu hW h0 (fun p => rfl) rfl rfl (fun p => by show (if (0 : Int) = 0 then 3 * (t : Int) + 1 else l_nb M 0 p) = _; rw [if_pos rfl]; rfl) hE2 (st_s _ _ _ _)
      have u1' : f_LM_planTrace fu (xw_st s1 10 7 0) (t : Int) = some s3 := u1
      exact ⟨s3, fun K => by rw [xw_grd_t (by decide), xw_if_t rfl, xw_bnd_e u1'], u2, u3⟩
    · have c1 : cv = 1 := by omega
      subst c1
      obtain ⟨s3, u1, u2, u3⟩ := q_planC fu hfu hW h0 (fun p => rfl) rfl rfl (fun p => by show (if (1 : Int) = 0 then 3 * (t : Int) + 1 else l_nb M 1 p) = _; rw [if_neg (by decide)]) hE2 (st_s _ _ _ _)
      exact ⟨s3, fun K => by rw [xw_grd_t (by decide), xw_if_f (by decide), xw_bnd_e u1], u2, u3⟩
  obtain ⟨s4, d1, d2, d3, d4⟩ := q_lo fu hfu hW h0 hcr hKL hK hKn b3
  have f4 : frm S_ct0 s s4 := frm_tr (frm_tr f2 (frm_mono b2 (fun i k z => by unfold S_pl S_it at z; unfold S_ct0; omega))) (frm_mono d2 (fun i k z => by unfold S_lo at z; unfold S_ct0; omega))
  have hE4 : c_E M 12 s4 := c_E_it (c_E_it hE2 b2 (fun i k z => by unfold S_pl S_it at z; omega)) d2 (fun i k z => by unfold S_lo at z; omega)
  have hok := n_ok_it h0 Kn
  have hx := n_it_c M (n_X0 M cv (t : Int)) Kn
  generalize hX : n_it M (n_X0 M cv (t : Int)) Kn = X at *
  have x1' : Xc X = cv := hx.1
  have hQ4 : c_Q M X s4 := ⟨d3, d4, hE4⟩
  have eN : n_N M X = MN M + (if cv = 0 then 1 else 0) := by unfold n_N; rw [x1']
  have hN4 : s4.1 (48 + 4 * 12) 9 = (MN M : Int) := hE4.1.2.1.2.2.1
  have e56 : f_LM_transform fu s b cv (t : Int) = k_t56 fu b cv s4 (n_N M X : Int) := by
    rw [k_LMtr, xw_bnd_e a1, xw_let_e, xw_jn_e]
    refine (b1 _).trans ?_
    rw [xw_bnd_e d1, xw_jn_e, xw_grd_t ⟨by omega, by omega⟩, hN4]
    by_cases c0 : cv = 0
    · rw [if_pos c0] at eN
      rw [xw_if_t c0, eN]
      rfl
    · rw [if_neg c0] at eN
      rw [xw_if_f c0, eN]
      rfl
  have rL := i_x_r hok (ML M)
  have rn : 0 ≤ i_n M X ∧ i_n M X ≤ 243 := by unfold i_n; split <;> omega
  have hub := n_ld_ub hok (ML M)
  have hl0 := n_ld_0 hok (ML M)
  have hLub : n_L M X ≤ 1000 := by unfold n_L n_pst; split <;> omega
  have hNub : n_N M X ≤ 6 := by rw [eN]; split <;> omega
  have e56' : k_t56 fu b cv s4 (n_N M X : Int) = xw_if (120 < (n_L M X : Int)) (some (s4, 0)) (xw_if ((n_N M X : Int) ≤ 5) (xw_bnd (f_LM_writeCode fu s4 b) (fun s26 => xw_bnd (f_LM_writeHandlers fu s26 b) (fun s29 => xw_jn (fun (s40 : xw_S) => xw_bn2 (f_B_findInstructions fu s40 b) (fun s41 r43 => some (s41, 1)))
      (fun (j117 : xw_S → Option (xw_S × Int)) => xw_grd (xw_r cv) (xw_if (cv = 0) (xw_bn2 (f_LM_newPlace fu s29 (s29.1 (48 + 4 * 12) 8)) (fun s34 r36 => xw_bnd (f_B_addHandler fu s34 b 0 r36 r36 0) (fun s37 => j117 s37)))
      (j117 s29))))))
      (some (s4, 0))) := by
    unfold k_t56
    rw [d3.2.2.1, xw_grd_t (by omega), d4.2.2.1, xw_grd_t ⟨by omega, by omega⟩, xw_grd_t ⟨by omega, by omega⟩]
  refine ⟨fun hbad => ⟨s4, ?_, f4⟩, fun hg c0 hC0 hcr0 => ?_⟩
  · rw [e56, e56']
    by_cases h120 : 120 < (n_L M X : Int)
    · rw [xw_if_t h120]
    · rw [xw_if_f h120, xw_if_f (fun z => hbad ⟨by omega, by omega⟩)]
  · have hg1 := hg.1
    have hg2 := hg.2
    obtain ⟨s5, g1, g2, g3, g4, g5⟩ := q_wc fu hfu hb8 hb12 hW hok hg1 hQ4
    have f6 : frm (S_ah b) s5 (xw_st s5 (48 + 4 * b) 9 0) := frm_st (Or.inr ⟨rfl, rfl⟩)
    have h35 : s5.1 (48 + 4 * b) 3 = ((5 : Nat) : Int) := by rw [g2.2 _ _ (by unfold S_cd; omega), f4.2 _ _ (by unfold S_ct0; omega)]; exact h3
    obtain ⟨s6, k1, k2, k3, k4⟩ := c_wh7 fu hb8 hb12 hW hok (MN M) 0 fu (xw_st s5 (48 + 4 * b) 9 0) (by omega) (by omega) (c_Q_f g3 f6 (fun i k z => by unfold S_ah at z; omega)) (by rw [st_k (by decide)]; exact h35) (st_s _ _ _ _) (fun j hj => by omega)
    have k1' : ∀ K : xw_S → Option xw_S, lp_LM_writeHandlers_7 fu b K fu (xw_st s5 (48 + 4 * b) 9 0) 0 = K s6 := k1
    have ewh : f_LM_writeHandlers fu s5 b = some s6 := by
      unfold f_LM_writeHandlers
      rw [xw_let_e, xw_jn_e, k1']
    have fa : frm (S_ah b) s5 s6 := frm_tr f6 k2
    have hQ6 := c_Q_f g3 fa (fun i k z => by unfold S_ah at z; omega)
    -- a TRACE's own handler
    obtain ⟨s7, l1, l2, l3, l4⟩ : ∃ s7, (∀ K : xw_S → Option (xw_S × Int), (xw_grd (xw_r cv) (xw_if (cv = 0) (xw_bn2 (f_LM_newPlace fu s6 (s6.1 (48 + 4 * 12) 8)) (fun s34 r36 => xw_bnd (f_B_addHandler fu s34 b 0 r36 r36 0) (fun s37 => K s37))) (K s6))) = K s7) ∧ frm (S_ah b) s6 s7 ∧ s7.1 (48 + 4 * b) 9 = (n_N M X : Int) ∧ ∀ j, j < 4 * n_N M X → s7.1 (51 + 4 * b) j = n_h M X j := by
      by_cases c0' : cv = 0
      · rw [if_pos c0'] at eN
        have hlen6 : s6.1 (48 + 4 * 12) 8 = (ML M : Int) := hQ6.2.2.1.1.2.2.1
        have enp := q_npi fu hok (by omega) hQ6 (t := (ML M : Int)) (by omega) (Int.le_refl _) (by rw [Int.toNat_natCast]; exact hW.2.2.1)
        rw [Int.toNat_natCast] at enp
        obtain ⟨s7, u1, u2, u3, u4⟩ := q_addh fu (s := s6) (b := b) (N := MN M) (M := 5) (by omega) k3 (by rw [fa.2 _ _ (by unfold S_ah; omega)]; exact h35) (by omega) (by omega) 0 (n_ld M X (ML M)) (n_ld M X (ML M)) 0
        obtain ⟨y1, y2, y3, y4, y5, y6⟩ := u4 (by omega)
        refine ⟨s7, fun K => by rw [xw_grd_t ⟨by omega, by omega⟩, xw_if_t c0', hlen6, xw_bn2_e enp, xw_bnd_e u1], u2, by rw [y1, eN], fun j hj => ?_⟩
        by_cases j0 : j = 4 * MN M
        · rw [j0, y2]; unfold n_h; rw [if_neg (by omega), if_neg (by omega)]
        · by_cases j1 : j = 4 * MN M + 1
          · rw [j1, y3]; unfold n_h; rw [if_neg (by omega), if_pos (by omega)]
          · by_cases j2 : j = 4 * MN M + 2
            · rw [j2, y4]; unfold n_h; rw [if_neg (by omega), if_pos (by omega)]
            · by_cases j3 : j = 4 * MN M + 3
              · rw [j3, y5]; unfold n_h; rw [if_neg (by omega), if_neg (by omega)]
              · rw [y6 j (by omega)]; exact k4 j (by omega)
      · rw [if_neg c0'] at eN
        exact ⟨s6, fun K => by rw [xw_grd_t ⟨by omega, by omega⟩, xw_if_f c0'], frm_rf _ _, by rw [k3, eN]; rfl, fun j hj => k4 j (by omega)⟩
    have fb : frm (S_ah b) s5 s7 := frm_tr fa l2
    have hcode7 : ∀ p, p < n_L M X → s7.1 (49 + 4 * b) p = c0 p := fun p hp => by
      rw [fb.2 _ _ (by unfold S_ah; omega)]
      exact n_C_u hW hok g4 hC0 p hp
    have hlen7 : s7.1 (48 + 4 * b) 8 = (n_L M X : Int) := by rw [fb.2 _ _ (by unfold S_ah; omega)]; exact g5
    obtain ⟨s8, m1, m2, m3, m4⟩ := q_fi fu b (by omega) (by omega) c0 (n_L M X) (by omega) s7 hlen7 hcode7 hcr0
    have fh : ∀ k, 4 ≤ k → k ≤ 7 → s8.1 (48 + 4 * b) k = s.1 (48 + 4 * b) k := fun k k1 k2 => by
      rw [m2.2 _ _ (by unfold S_fi; omega), fb.2 _ _ (by unfold S_ah; omega), g2.2 _ _ (by unfold S_cd; omega), f4.2 _ _ (by unfold S_ct0; omega)]
    obtain ⟨hEM, hEd⟩ := hE
    refine ⟨s8, ?_, ?_, ⟨⟨⟨by omega, by rw [hcap]; exact hg1, ?_, fun p hp => ?_, hcr0⟩, ⟨by omega, by rw [hhc]; show 4 * n_N M X ≤ 20; omega, ?_, fun i hi => ?_, fun i hi => ?_⟩, ?_, ?_, ?_, ?_⟩, fun p hp => ?_⟩⟩
    · rw [e56, e56', xw_if_f (by omega), xw_if_t (by omega), xw_bnd_e g1, xw_bnd_e ewh, xw_jn_e]
      refine (l1 _).trans ?_
      rw [xw_bn2_e m1]
    · exact frm_tr (frm_tr (frm_tr (frm_mono f4 (fun _ _ z => Or.inl z)) (frm_mono g2 (fun i k z => by unfold S_cd at z; unfold S_ct1; omega))) (frm_mono fb (fun i k z => by unfold S_ah at z; unfold S_ct1; omega))) (frm_mono m2 (fun i k z => by unfold S_fi at z; unfold S_ct1; omega))
    · show s8.1 (48 + 4 * b) 8 = (n_L M X : Int)
      rw [m2.2 _ _ (by unfold S_fi; omega)]; exact hlen7
    · show s8.1 (49 + 4 * b) p = c0 p
      rw [m2.2 _ _ (by unfold S_fi; omega)]; exact hcode7 p hp
    · show s8.1 (48 + 4 * b) 9 = (n_N M X : Int)
      rw [m2.2 _ _ (by unfold S_fi; omega)]; exact l3
    · show s8.1 (51 + 4 * b) i = n_h M X i
      rw [m2.2 _ _ (by unfold S_fi; omega)]; exact l4 i hi
    · show 0 ≤ n_h M X i ∧ n_h M X i ≤ 255
      have hLd : n_ld M X (ML M) ≤ 120 := by unfold n_L at hg1; omega
      unfold n_h
      by_cases i1 : i < 4 * MN M
      · rw [if_pos i1]
        by_cases i2 : i % 4 = 3
        · rw [if_pos i2]; exact hEM.2.1.2.2.2.2 i i1
        · rw [if_neg i2]
          have b0 := n_ld_0 hok (Mh M i).toNat
          have hle : (Mh M i).toNat ≤ ML M := by
            obtain ⟨⟨y1, y2⟩, y3, y4⟩ := hW.2.2.2.2 (i / 4) (by omega)
            have y3b := y3.2.1
            have y4b := y4.2.1
            have hc : i = 4 * (i / 4) ∨ i = 4 * (i / 4) + 1 ∨ i = 4 * (i / 4) + 2 := by omega
            rcases hc with e | e | e
            · rw [e]; omega
            · rw [e]
              rcases y2 with y | y
              · omega
              · have := y.2.1
                omega
            · rw [e]; omega
          have := n_ld_le hok hle
          omega
      · rw [if_neg i1]
        split <;> omega
    · rw [fh 4 (by omega) (by omega)]; exact hEM.2.2.1
    · rw [fh 5 (by omega) (by omega)]; exact hEM.2.2.2.1
    · rw [fh 6 (by omega) (by omega)]; exact hEM.2.2.2.2.1
    · rw [fh 7 (by omega) (by omega)]; exact hEM.2.2.2.2.2
    · have hp' : p < n_L M X := hp
      rw [m3 p hp']
      show xw_r (if m_bg c0 p then (-1 : Int) else -2) ∧ ((if m_bg c0 p then (-1 : Int) else -2) = -2 ↔ ¬ m_bg c0 p)
      by_cases hbp : m_bg c0 p
      · rw [if_pos hbp]; exact ⟨by decide, ⟨fun z => absurd z (by decide), fun z => absurd hbp z⟩⟩
      · rw [if_neg hbp]; exact ⟨by decide, ⟨fun _ => hbp, fun _ => rfl⟩⟩
