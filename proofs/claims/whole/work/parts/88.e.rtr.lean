/-! 88.e: the reference's transform as a whole -/
def S_t0 : Nat → Nat → Prop := fun i _ => i = 14 ∨ i = 17 ∨ i = 18 ∨ i = 19 ∨ i = 20
def S_t1 (q : Nat) : Nat → Nat → Prop := fun i k => S_t0 i k ∨ S_em i k ∨ (i = 6 ∧ k = q) ∨ (i = 7 ∧ 120 * q ≤ k ∧ k < 120 * q + 120) ∨ (i = 8 ∧ k = q) ∨ (i = 9 ∧ 20 * q ≤ k ∧ k < 20 * q + 20)
theorem q_MDtr (fu : Nat) (hfu : 1000 ≤ fu) {M : m_M} {me : Int} {q t : Nat} {cv : Int} {s : xw_S} (hW : m_W M me) (hM : r_M s q M) (ht : t < 3) (hcv : cv = 0 ∨ cv = 1) (h10 : s.1 10 t = cv) {Kn : Nat} (hKL : Kn ≤ ML M) (hK : ∀ k, k < Kn → n_chg M (n_it M (n_X0 M cv (t : Int)) k)) (hKn : ¬ n_chg M (n_it M (n_X0 M cv (t : Int)) Kn)) :
    (¬ (n_L M (n_it M (n_X0 M cv (t : Int)) Kn) ≤ 120 ∧ n_N M (n_it M (n_X0 M cv (t : Int)) Kn) ≤ 5) → ∃ s', f_MD_transform fu s (q : Int) (t : Int) = some (s', 0) ∧ frm S_t0 s s') ∧
    ((n_L M (n_it M (n_X0 M cv (t : Int)) Kn) ≤ 120 ∧ n_N M (n_it M (n_X0 M cv (t : Int)) Kn) ≤ 5) → ∃ s' c, f_MD_transform fu s (q : Int) (t : Int) = some (s', 1) ∧ frm (S_t1 q) s s' ∧ n_C M (n_it M (n_X0 M cv (t : Int)) Kn) c ∧ r_M s' q (n_M M (n_it M (n_X0 M cv (t : Int)) Kn) c)) := by
  have hL := hW.1
  have hq := hM.1.1
  have h0 := n_ok0 (M := M) (cv := cv) (t := (t : Int)) hcv (by omega) (by omega)
  obtain ⟨s1, a1, a2, a3, a4⟩ := q_dv fu q hfu hq (Mc M) (ML M) (by omega) hM.1.2.2.2.2 s hM.1.2.2.1 hM.1.2.2.2.1
  have f1 : frm S_t0 s s1 := frm_mono a2 (fun i k z => Or.inl z)
  have hC1 : r_C M q s1 := ⟨r_M_f hM (rfm_frm a2) (fun i k z => by unfold S_14 at z; omega), (a4 hW.2.2.1).1⟩
  have h10a : s1.1 10 t = cv := by rw [a2.2 _ _ (by unfold S_14; omega)]; exact h10
  obtain ⟨s2, b1, b2, b3⟩ := q_choose fu hfu hcv hW hC1
  have f2 : frm S_t0 s s2 := frm_tr f1 (frm_mono b2 (fun i k z => Or.inr (Or.inl z)))
  obtain ⟨s3, c1, c2, c3⟩ := r_t19 fu (q : Int) (t : Int) 121 0 fu s2 (by omega) (by omega) (fun j hj => by omega)
  have c1' : ∀ K : xw_S → Option (xw_S × Int), lp_MD_transform_19 fu (q : Int) (t : Int) K fu s2 0 = K s3 := c1
  have f3 : frm S_t0 s s3 := frm_tr f2 (frm_mono c2 (fun i k z => Or.inr (Or.inr (Or.inl z))))
  have hC3 : r_C M q s3 := r_C_f (r_C_f hC1 (rfm_frm b2) (fun i k z => by unfold S_17 at z; omega)) (rfm_frm c2) (fun i k z => by omega)
  have h103 : s3.1 10 t = cv := by rw [c2.2 10 t (show ¬ (10 = 18) by decide), b2.2 _ _ (by unfold S_17; omega)]; exact h10a
  have h173 : ∀ p, p < ML M → s3.1 17 p = l_pu M cv p := fun p hp => by rw [c2.2 17 p (show ¬ (17 = 18) by decide)]; exact b3 p hp
  obtain ⟨s4, d1, d2, d3, d4, d5⟩ := r_tr40 fu hfu hW h0 (q := q) (t := t) ht hK hKn Kn 0 fu s3 (by omega) (by omega) hC3 h103 h173 (fun p hp => c3 p (by omega))
  have f4 : frm S_t0 s s4 := frm_tr f3 (frm_mono d2 (fun i k z => by unfold S_ly at z; unfold S_t0; omega))
  have hok := n_ok_it h0 Kn
  have hx := n_it_c M (n_X0 M cv (t : Int)) Kn
  have hC4 : r_C M q s4 := r_C_f hC3 (rfm_frm d2) (fun i k z => by unfold S_ly at z; omega)
  have h104 : s4.1 10 t = cv := by rw [d2.2 _ _ (by unfold S_ly; omega)]; exact h103
  have h174 : ∀ p, p < ML M → s4.1 17 p = l_pu M cv p := fun p hp => by rw [d2.2 _ _ (by unfold S_ly; omega)]; exact h173 p hp
  generalize hX : n_it M (n_X0 M cv (t : Int)) Kn = X at *
  obtain ⟨x1, x2, x3, x4⟩ := hx
  have x1' : Xc X = cv := x1
  have x2' : Xt X = (t : Int) := x2
  have x3' : Xp X = l_pu M cv := x3
  have x4' : Xn X = fun p => if cv = 0 then 3 * Xt X + 1 else l_nb M cv p := by rw [x2']; exact x4
  have hZ4 : r_Z M X q t s4 := ⟨hC4, d3, fun p hp => by rw [x3']; exact h174 p hp, d5, by rw [x1']; exact h104⟩
  have hlL := n_ld_0 hok (ML M)
  have hub := n_ld_ub hok (ML M)
  have hlen4 := hC4.1.1.2.2.1
  have hN4 := hC4.1.2.1.2.2.1
  have e96 : f_MD_transform fu s (q : Int) (t : Int) = jb_MD_transform_96 fu (q : Int) (t : Int) s4 (n_ld M X (ML M)) (if cv = 0 then 3 else 0) (n_ld M X (ML M)) := by
    unfold f_MD_transform
    rw [xw_bn2_e a1, xw_grd_t (by omega), Int.toNat_natCast, h10a, xw_bnd_e b1, xw_jn_e, c1', xw_jn_e, d1]
    unfold jb_MD_transform_67
    rw [xw_grd_t (by omega), Int.toNat_natCast q, hlen4, xw_grd_t (by omega), xw_let_e, Int.toNat_natCast (ML M), d4, xw_grd_t (by omega), xw_jn_e, Int.toNat_natCast t, h104, xw_grd_t ⟨by omega, by omega⟩]
    by_cases c0 : cv = 0
    · rw [xw_if_t c0, if_pos c0]
    · rw [xw_if_f c0, if_neg c0]
  have eL : n_ld M X (ML M) + (if cv = 0 then 3 else 0) = (n_L M X : Int) := by
    unfold n_L n_pst
    rw [x1']
    split <;> omega
  have eN : n_N M X = MN M + (if cv = 0 then 1 else 0) := by unfold n_N; rw [x1']
  have e123 : (n_L M X ≤ 120 ∧ n_N M X ≤ 5) → f_MD_transform fu s (q : Int) (t : Int) = jb_MD_transform_123 fu (q : Int) (t : Int) s4 (n_ld M X (ML M)) := by
    intro hg
    rw [e96]
    unfold jb_MD_transform_96
    rw [eL, xw_grd_t ⟨by omega, by omega⟩, xw_if_f (by omega), xw_grd_t (by omega), xw_jn_e, Int.toNat_natCast, h104, xw_grd_t ⟨by omega, by omega⟩]
    by_cases c0 : cv = 0
    · rw [if_pos c0] at eN
      rw [xw_if_t c0, xw_grd_t (by omega), Int.toNat_natCast, hN4, xw_grd_t ⟨by omega, by omega⟩, xw_if_f (by omega)]
    · rw [xw_if_f c0]
  refine ⟨fun hbad => ⟨s4, ?_, f4⟩, fun hg => ?_⟩
  · rw [e96]
    unfold jb_MD_transform_96
    rw [eL, xw_grd_t ⟨by omega, by omega⟩]
    by_cases h120 : 120 < (n_L M X : Int)
    · rw [xw_if_t h120]
    · have c0 : cv = 0 := by
        apply Classical.byContradiction
        intro z
        rw [if_neg z] at eN
        exact hbad ⟨by omega, by omega⟩
      rw [if_pos c0] at eN
      have hN5 : MN M = 5 := by
        apply Classical.byContradiction
        intro z
        exact hbad ⟨by omega, by omega⟩
      rw [xw_if_f h120, xw_grd_t (by omega), xw_jn_e, Int.toNat_natCast, h104, xw_grd_t ⟨by omega, by omega⟩, xw_if_t c0, xw_grd_t (by omega), Int.toNat_natCast, hN4, xw_grd_t ⟨by omega, by omega⟩, xw_if_t (by omega)]
  · have hLd : n_ld M X (ML M) ≤ 120 := by
      have := hg.1
      unfold n_L at this
      omega
    -- the beginning of a TRACE
    have beg : ∃ s5, (∀ K : xw_S → Int → Int → Option (xw_S × Int), (xw_grd (xw_r ((xw_st s4 0 29 0).1 10 t)) (xw_if ((xw_st s4 0 29 0).1 10 t = 0) (xw_bnd (f_MD_emit fu (xw_st s4 0 29 0) 30) (fun s50 => xw_bnd (f_MD_emit fu s50 (3 * (t : Int))) (fun s53 => K s53 (n_ld M X (ML M)) 0)))
        (K (xw_st s4 0 29 0) (n_ld M X (ML M)) 0))) = K s5 (n_ld M X (ML M)) 0) ∧ frm S_em s4 s5 ∧ r_m s5 (n_ld M X 0) ∧ (cv = 0 → s5.1 21 0 = 30 ∧ s5.1 21 1 = 3 * Xt X) := by
      have m0 : r_m (xw_st s4 0 29 0) 0 := ⟨st_s _ _ _ _, by omega, fun i hi => by omega⟩
      have e10 : (xw_st s4 0 29 0).1 10 t = cv := by rw [st_i (by decide)]; exact h104
      by_cases c0 : cv = 0
      · obtain ⟨z1, u1, u2, u3, u4, u5⟩ := q_emit fu m0 (by omega) 30
        obtain ⟨z2, v1, v2, v3, v4, v5⟩ := q_emit fu u3 (by omega) (3 * (t : Int))
        refine ⟨z2, fun K => ?_, frm_tr (frm_tr (frm_st (Or.inr ⟨rfl, rfl⟩)) u2) v2, ?_, fun _ => ⟨?_, ?_⟩⟩
        · rw [e10, xw_grd_t ⟨by omega, by omega⟩, xw_if_t c0, xw_bnd_e u1, xw_bnd_e v1]
        · have : n_ld M X 0 = 0 + 1 + 1 := by show n_pre X = _; unfold n_pre; rw [x1', if_pos c0]; rfl
          rw [this]; exact v3
        · rw [v5 0 (by decide)]
          have := u4
          rw [z_e1' (by omega) (by omega)] at this
          exact this
        · have := v4
          rw [z_e1' (by omega) (by omega)] at this
          rw [x2']
          have e : z2.1 21 1 = (3 * (t : Int)) % 256 := this
          rw [e]; omega
      · refine ⟨xw_st s4 0 29 0, fun K => ?_, frm_st (Or.inr ⟨rfl, rfl⟩), ?_, fun z => absurd z c0⟩
        · rw [e10, xw_grd_t ⟨by omega, by omega⟩, xw_if_f c0]
        · have : n_ld M X 0 = 0 := by show n_pre X = _; unfold n_pre; rw [x1', if_neg c0]
          rw [this]; exact m0
    obtain ⟨s5, g1, g2, g3, g4⟩ := beg
    have hZ5 := r_Z_em hZ4 g2
    obtain ⟨s6, k1, k2, k3, k4, k5⟩ := r_t156 fu hfu hW hok x1' x3' x4' (q := q) (t := t) ht x2' hLd (n_ld M X (ML M)) (ML M) 0 fu s5 (by omega) (by omega) hZ5 g3 (fun p hp => by omega) g4
    have k1' : ∀ K : xw_S → Int → Option (xw_S × Int), lp_MD_transform_156 fu (q : Int) (t : Int) (n_ld M X (ML M)) K fu s5 0 0 = K s6 (n_ld M X (ML M)) := k1
    have hZ6 := r_Z_em hZ5 k2
    have h19 : ∀ p, p ≤ ML M → m_bg (Mc M) p → s6.1 19 p = n_ld M X p := fun p hp hb => by
      by_cases hpL : p = ML M
      · rw [hpL, k2.2 _ _ (by unfold S_em; omega), g2.2 _ _ (by unfold S_em; omega)]; exact d4
      · exact (hZ6.2.1 p (by omega) hb).1
    obtain ⟨s7, l1, l2, l3⟩ := r_t259 fu (X := X) hW hq (t : Int) (n_ld M X (ML M)) (4 * MN M) 0 fu s6 (by omega) (by omega) hZ6.1.1.2.1.2.2.1 (fun j hj => by rw [if_neg (by omega)]; exact hZ6.1.1.2.1.2.2.2.1 j hj) h19
    have l1' : ∀ K : xw_S → Int → Option (xw_S × Int), lp_MD_transform_259 fu (q : Int) (t : Int) (n_ld M X (ML M)) K fu s6 0 = K s7 (n_ld M X (ML M)) := l1
    have e330 : f_MD_transform fu s (q : Int) (t : Int) = jb_MD_transform_330 fu (q : Int) (t : Int) s7 (n_ld M X (ML M)) := by
      rw [e123 hg]
      unfold jb_MD_transform_123
      rw [xw_let_e, xw_grd_t (by omega), xw_jn_e, Int.toNat_natCast t]
      refine (g1 (fun (s56 : xw_S) (i4_153 : Int) (i5_153 : Int) => xw_jn (fun (s92 : xw_S) (i4_256 : Int) => xw_jn (jb_MD_transform_330 fu (q : Int) (t : Int)) (fun (k330 : xw_S → Int → Option (xw_S × Int)) => lp_MD_transform_259 fu (q : Int) (t : Int) i4_256 k330 fu s92 0)) (fun (k256 : xw_S → Int → Option (xw_S × Int)) => lp_MD_transform_156 fu (q : Int) (t : Int) i4_153 k256 fu s56 i5_153 0))).trans ?_
      rw [xw_jn_e, k1', xw_jn_e, l1']
    have h107 : s7.1 10 t = cv := by rw [l2.2 _ _ (by omega)]; have := hZ6.2.2.2.2; rw [x1'] at this; exact this
    have m7 : r_m s7 (n_ld M X (ML M)) := ⟨by rw [l2.2 _ _ (by omega)]; exact k3.1, k3.2.1, fun i hi => by rw [l2.2 _ _ (by omega)]; exact k3.2.2 i hi⟩
    have e721 : s7.1 21 = s6.1 21 := funext (fun j => l2.2 _ _ (by omega))
    -- the end of a TRACE
    have fin : ∃ s8, (∀ K : xw_S → Option (xw_S × Int), (xw_grd (xw_r (s7.1 10 t)) (xw_if (s7.1 10 t = 0) (xw_bnd (f_MD_emit fu s7 30) (fun s112 => xw_bnd (f_MD_emit fu s112 ((3 * (t : Int)) + 2)) (fun s115 => xw_bnd (f_MD_emit fu s115 32) (fun s118 => xw_grd ((0 ≤ (q : Int) ∧ (q : Int) < ((12 : Nat) : Int))) (xw_let ((20 * (q : Int)) + (4 * (s118.1 8 ((q : Int)).toNat))) (fun v122 => xw_grd ((0 ≤ v122 ∧ v122 < ((240 : Nat) : Int))) (xw_let (xw_st s118 9 (v122).toNat 0) (fun s125 => xw_grd ((0 ≤ v122 + 1 ∧ v122 + 1 < ((240 : Nat) : Int))) (xw_let (xw_st s125 9 (v122 + 1).toNat (n_ld M X (ML M))) (fun s128 => xw_grd ((0 ≤ v122 + 2 ∧ v122 + 2 < ((240 : Nat) : Int))) (xw_let (xw_st s128 9 (v122 + 2).toNat (n_ld M X (ML M))) (fun s131 => xw_grd ((0 ≤ v122 + 3 ∧ v122 + 3 < ((240 : Nat) : Int))) (xw_let (xw_st s131 9 (v122 + 3).toNat 0) (fun s134 => xw_let (xw_st s134 8 ((q : Int)).toNat ((s134.1 8 ((q : Int)).toNat) + 1)) (fun s136 => K s136)))))))))))))))
        (K s7))) = K s8) ∧ frm (fun i k => S_em i k ∨ (i = 8 ∧ k = q) ∨ (i = 9 ∧ 20 * q ≤ k ∧ k < 20 * q + 20)) s7 s8 ∧ r_m s8 (n_L M X : Int) ∧ (∀ j : Nat, (j : Int) < n_ld M X (ML M) → s8.1 21 j = s7.1 21 j) ∧ (cv = 0 → s8.1 21 (n_ld M X (ML M)).toNat = 30 ∧ s8.1 21 ((n_ld M X (ML M)).toNat + 1) = 3 * Xt X + 2 ∧ s8.1 21 ((n_ld M X (ML M)).toNat + 2) = 32) ∧ s8.1 8 q = (n_N M X : Int) ∧ ∀ j, j < 4 * n_N M X → s8.1 9 (20 * q + j) = n_h M X j := by
      have h87 : s7.1 8 q = (MN M : Int) := by rw [l2.2 _ _ (by omega)]; exact hZ6.1.1.2.1.2.2.1
      by_cases c0 : cv = 0
      · rw [if_pos c0] at eL eN
        have hg1 := hg.1
        have hg2 := hg.2
        obtain ⟨z1, u1, u2, u3, u4, u5⟩ := q_emit fu m7 (by omega) 30
        obtain ⟨z2, v1, v2, v3, v4, v5⟩ := q_emit fu u3 (by omega) (3 * (t : Int) + 2)
        obtain ⟨z3, w1, w2, w3, w4, w5⟩ := q_emit fu v3 (by omega) 32
        rw [z_e1' (by omega) (by omega)] at u4 v4 w4
        have fz : frm S_em s7 z3 := frm_tr (frm_tr u2 v2) w2
        have h8z : z3.1 8 q = (MN M : Int) := by rw [fz.2 _ _ (by unfold S_em; omega)]; exact h87
        have ev : (20 * (q : Int)) + (4 * (MN M : Int)) = ((20 * q + 4 * MN M : Nat) : Int) := by omega
        have f9 : ∀ k v, 4 * MN M ≤ k → k < 4 * MN M + 4 → ∀ y : xw_S, frm (fun i k => S_em i k ∨ (i = 8 ∧ k = q) ∨ (i = 9 ∧ 20 * q ≤ k ∧ k < 20 * q + 20)) y (xw_st y 9 (20 * q + k) v) := fun k v h1 h2 y => frm_st (Or.inr (Or.inr ⟨rfl, by omega, by omega⟩))
        refine ⟨xw_st (xw_st (xw_st (xw_st (xw_st z3 9 (20 * q + 4 * MN M) 0) 9 (20 * q + (4 * MN M + 1)) (n_ld M X (ML M))) 9 (20 * q + (4 * MN M + 2)) (n_ld M X (ML M))) 9 (20 * q + (4 * MN M + 3)) 0) 8 q ((MN M : Int) + 1), fun K => ?_, ?_, ⟨?_, by omega, fun i hi => ?_⟩, fun j hj => ?_, fun _ => ⟨?_, ?_, ?_⟩, ?_, fun j hj => ?_⟩
        · rw [h107, xw_grd_t ⟨by omega, by omega⟩, xw_if_t c0, xw_bnd_e u1, xw_bnd_e v1, xw_bnd_e w1, xw_grd_t (by omega), xw_let_e, Int.toNat_natCast, h8z, ev]
          rw [xw_grd_t (by omega), xw_let_e, xw_grd_t (by omega), xw_let_e, xw_grd_t (by omega), xw_let_e, xw_grd_t (by omega), xw_let_e, xw_let_e, Int.toNat_natCast, show (((20 * q + 4 * MN M : Nat) : Int) + 1).toNat = 20 * q + (4 * MN M + 1) by omega, show (((20 * q + 4 * MN M : Nat) : Int) + 2).toNat = 20 * q + (4 * MN M + 2) by omega, show (((20 * q + 4 * MN M : Nat) : Int) + 3).toNat = 20 * q + (4 * MN M + 3) by omega]
          rw [st_i (i' := 8) (by decide), st_i (i' := 8) (by decide), st_i (i' := 8) (by decide), st_i (i' := 8) (by decide), h8z]
        · exact frm_tr (frm_tr (frm_tr (frm_tr (frm_tr (frm_mono fz (fun _ _ y => Or.inl y)) (f9 (4 * MN M) 0 (by omega) (by omega) z3)) (f9 (4 * MN M + 1) _ (by omega) (by omega) _)) (f9 (4 * MN M + 2) _ (by omega) (by omega) _)) (f9 (4 * MN M + 3) _ (by omega) (by omega) _)) (frm_st (Or.inr (Or.inl ⟨rfl, rfl⟩)))
        · rw [st_i (by decide), st_i (by decide), st_i (by decide), st_i (by decide), st_i (by decide), w3.1]
          omega
        · rw [st_i (by decide), st_i (by decide), st_i (by decide), st_i (by decide), st_i (by decide)]
          exact w3.2.2 i (by omega)
        · rw [st_i (by decide), st_i (by decide), st_i (by decide), st_i (by decide), st_i (by decide), w5 j (by omega), v5 j (by omega), u5 j (by omega)]
        · rw [st_i (by decide), st_i (by decide), st_i (by decide), st_i (by decide), st_i (by decide), w5 _ (by omega), v5 _ (by omega), u4]
          rfl
        · rw [st_i (by decide), st_i (by decide), st_i (by decide), st_i (by decide), st_i (by decide), w5 _ (by omega), show (n_ld M X (ML M)).toNat + 1 = (n_ld M X (ML M) + 1).toNat by omega, v4, x2']
          omega
        · rw [st_i (by decide), st_i (by decide), st_i (by decide), st_i (by decide), st_i (by decide), show (n_ld M X (ML M)).toNat + 2 = (n_ld M X (ML M) + 1 + 1).toNat by omega, w4]
          rfl
        · rw [st_s]; omega
        · rw [st_i (by decide)]
          by_cases j3 : j = 4 * MN M + 3
          · rw [j3, st_s]; unfold n_h; rw [if_neg (by omega), if_neg (by omega)]
          · rw [st_k (by omega)]
            by_cases j2 : j = 4 * MN M + 2
            · rw [j2, st_s]; unfold n_h; rw [if_neg (by omega), if_pos (by omega)]
            · rw [st_k (by omega)]
              by_cases j1 : j = 4 * MN M + 1
              · rw [j1, st_s]; unfold n_h; rw [if_neg (by omega), if_pos (by omega)]
              · rw [st_k (by omega)]
                by_cases j0 : j = 4 * MN M
                · rw [j0, st_s]; unfold n_h; rw [if_neg (by omega), if_neg (by omega)]
                · rw [st_k (by omega), fz.2 _ _ (by unfold S_em; omega)]
                  exact l3 j (by omega)
      · rw [if_neg c0] at eL eN
        refine ⟨s7, fun K => ?_, frm_rf _ _, ?_, fun j hj => rfl, fun z => absurd z c0, ?_, fun j hj => ?_⟩
        · rw [h107, xw_grd_t ⟨by omega, by omega⟩, xw_if_f c0]
        · rw [← eL, show n_ld M X (ML M) + 0 = n_ld M X (ML M) by omega]; exact m7
        · rw [h87]; omega
        · exact l3 j (by omega)
    obtain ⟨s8, p1, p2, p3, p4, p5, p6, p7⟩ := fin
    obtain ⟨s9, r1, r2, r3⟩ := r_t428 fu hq (m := n_L M X) hg.1 (n_L M X) 0 fu s8 (by omega) (by have := hg.1; omega) p3.1 (fun j hj => by omega)
    have r1' : ∀ K : xw_S → Option (xw_S × Int), lp_MD_transform_428 fu (q : Int) K fu s8 0 = K s9 := r1
    have e929 : s9.1 0 29 = (n_L M X : Int) := by rw [r2.2 _ _ (by omega)]; exact p3.1
    have eqq : ∀ i, 2 ≤ i → i ≤ 5 → s9.1 i q = s.1 i q := fun i i1 i2 => by
      rw [r2.2 _ _ (by omega), p2.2 _ _ (by unfold S_em; omega), l2.2 _ _ (by omega), k2.2 _ _ (by unfold S_em; omega), g2.2 _ _ (by unfold S_em; omega), f4.2 _ _ (by unfold S_t0; omega)]
    refine ⟨xw_st s9 6 q (n_L M X : Int), s8.1 21, ?_, ?_, ⟨?_, ?_, ?_⟩, ?_⟩
    · rw [e330]
      unfold jb_MD_transform_330
      rw [xw_grd_t (by omega), xw_jn_e, Int.toNat_natCast]
      rw [p1, xw_jn_e, r1', xw_grd_t (by omega), xw_let_e, e929, Int.toNat_natCast]
    · have t0 : ∀ i k, S_t0 i k → S_t1 q i k := fun _ _ z => Or.inl z
      have t1 : ∀ i k, S_em i k → S_t1 q i k := fun _ _ z => Or.inr (Or.inl z)
      exact frm_tr (frm_tr (frm_tr (frm_tr (frm_tr (frm_tr (frm_mono f4 t0) (frm_mono g2 t1)) (frm_mono k2 t1)) (frm_mono l2 (fun i k z => Or.inr (Or.inr (Or.inr (Or.inr (Or.inr z))))))) (frm_mono p2 (fun i k z => z.elim (fun y => Or.inr (Or.inl y)) (fun y => y.elim (fun u => Or.inr (Or.inr (Or.inr (Or.inr (Or.inl u))))) (fun u => Or.inr (Or.inr (Or.inr (Or.inr (Or.inr u))))))))) (frm_mono r2 (fun i k z => Or.inr (Or.inr (Or.inr (Or.inl z)))))) (frm_st (Or.inr (Or.inr (Or.inl ⟨rfl, rfl⟩))))
    · intro z
      have z' : cv = 0 := by rw [← x1']; exact z
      have hp2 : n_pre X = 2 := by unfold n_pre; rw [if_pos z]
      have := hlL.1
      rw [p4 _ (by omega), p4 _ (by omega), e721]
      exact k5 z'
    · intro p hp hb
      have hle := n_ld_le hok (p := p + 1) (q := ML M) (by omega)
      exact n_c1_c hW hok hp hb (fun j hj => by rw [p4 j (by omega), e721]) (k4 p hp hb)
    · intro z
      exact p5 (by rw [← x1']; exact z)
    · refine ⟨⟨hq, hg.1, ?_, fun p hp => ?_, fun p hp => ?_⟩, ⟨hq, hg.2, ?_, fun i hi => ?_, fun i hi => ?_⟩, ?_, ?_, ?_, ?_⟩
      · exact st_s _ _ _ _
      · rw [st_i (by decide), r3 p hp]; rfl
      · have hp' : p < n_L M X := hp
        exact p3.2.2 p (by omega)
      · rw [st_i (by decide), r2.2 _ _ (by omega)]; exact p6
      · rw [st_i (by decide), r2.2 _ _ (by omega)]; exact p7 i hi
      · show 0 ≤ n_h M X i ∧ n_h M X i ≤ 255
        have hub2 : n_ld M X (ML M) ≤ 255 := by omega
        unfold n_h
        by_cases i1 : i < 4 * MN M
        · rw [if_pos i1]
          by_cases i2 : i % 4 = 3
          · rw [if_pos i2]; exact hM.2.1.2.2.2.2 i i1
          · rw [if_neg i2]
            have b0 := n_ld_0 hok (Mh M i).toNat
            have hle : (Mh M i).toNat ≤ ML M := by
              obtain ⟨⟨y1, y2⟩, y3, y4⟩ := hW.2.2.2.2 (i / 4) (by omega)
              have y3b := y3.2.1
              have y4b := y4.2.1
              have hc : i = 4 * (i / 4) ∨ i = 4 * (i / 4) + 1 ∨ i = 4 * (i / 4) + 2 := by omega
              rcases hc with e | e | e
              · rw [e]; omega
              · rw [e]
                rcases y2 with y | y
                · omega
                · have := y.2.1
                  omega
              · rw [e]; omega
            have := n_ld_le hok hle
            omega
        · rw [if_neg i1]
          split <;> omega
      · rw [st_i (by decide), eqq 2 (by omega) (by omega)]; exact hM.2.2.1
      · rw [st_i (by decide), eqq 3 (by omega) (by omega)]; exact hM.2.2.2.1
      · rw [st_i (by decide), eqq 4 (by omega) (by omega)]; exact hM.2.2.2.2.1
      · rw [st_i (by decide), eqq 5 (by omega) (by omega)]; exact hM.2.2.2.2.2
