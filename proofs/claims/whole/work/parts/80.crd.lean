/-! 80: the class reads a method -/
theorem t_dC (fu : Nat) {B : Nat → Int} {n : Int} (a i : Nat) (hi : i < 4) {nm : Nat → Int} {x : Int} {e : Nat} (σ : t_S) (hσ : t_in σ) (hσ1 : σ.2 = 0 → 1 ≤ σ.1) : ∀ (dd k N : Nat) (s : xw_S), k + dd = i → dd < N → t_C B n s (t_d nm x σ k) → (∀ j, j < i → s.1 (48 + 4 * (4 * a + j)) 4 = nm j ∧ xw_r (nm j)) → s.1 (48 + 4 * e) 4 = x → xw_r x → ∃ s', (∀ K : xw_S → Nat → Option xw_S, lp_CF_readMethod_19 fu a (i : Int) e K N s (k : Int) = K s' e) ∧ frm S_tk s s' ∧ t_C B n s' (t_d nm x σ i) := by
  intro dd
  induction dd with
  | zero =>
    intro k N s hk hN hC hnm hx hxr
    obtain ⟨N, rfl⟩ : ∃ n', N = n' + 1 := ⟨N - 1, by omega⟩
    exact ⟨s, fun K => by rw [lp_CF_readMethod_19, xw_grd_t ⟨⟨by omega, by omega⟩, ⟨by omega, by omega⟩⟩, xw_if_t (by omega)], frm_rf _ _, by rw [show i = k by omega]; exact hC⟩
  | succ dd ih =>
    intro k N s hk hN hC hnm hx hxr
    obtain ⟨N, rfl⟩ : ∃ n', N = n' + 1 := ⟨N - 1, by omega⟩
    obtain ⟨c1, c2, c3, c4⟩ := hC
    obtain ⟨d1, d2⟩ := t_d_in (nm := nm) (x := x) hσ hσ1 k
    have hw := d1.2.2
    by_cases h0 : (t_d nm x σ k).2 = 0
    · have hk' := hnm k (by omega)
      by_cases h1 : nm k = x
      · have e2 : t_d nm x σ (k + 1) = ((t_d nm x σ k).1 - 1, 1) := by rw [t_d, if_pos ⟨h0, h1⟩]
        have hin := (t_d_in (nm := nm) (x := x) hσ hσ1 (k + 1)).1
        have f1 : frm S_tk s (xw_st (xw_st s 1 2 (s.1 1 2 - 1)) 1 3 1) := frm_tr (frm_st ⟨rfl, Or.inl rfl⟩) (frm_st ⟨rfl, Or.inr rfl⟩)
        obtain ⟨s', g1, g2, g3⟩ := ih (k + 1) N (xw_st (xw_st s 1 2 (s.1 1 2 - 1)) 1 3 1) (by omega) (by omega) ⟨⟨by rw [f1.2 _ _ (by unfold S_tk; omega), c1.1], c1.2.1, c1.2.2.1, fun j hj => ⟨by rw [f1.2 _ _ (by unfold S_tk; omega), (c1.2.2.2 j hj).1], (c1.2.2.2 j hj).2⟩⟩, by rw [st_k (by decide), st_s, c2, e2], by rw [st_s, e2], hin⟩ (fun j hj => ⟨by rw [f1.2 _ _ (by unfold S_tk; omega)]; exact (hnm j hj).1, (hnm j hj).2⟩) (by rw [f1.2 _ _ (by unfold S_tk; omega)]; exact hx) hxr
        refine ⟨s', fun K => ?_, frm_tr f1 g2, g3⟩
        rw [lp_CF_readMethod_19, xw_grd_t ⟨⟨by omega, by omega⟩, ⟨by omega, by omega⟩⟩, xw_if_f (by omega), c3, xw_grd_t ⟨by omega, by omega⟩, xw_if_t h0, xw_grd_t (by omega), xw_jn_e, Int.toNat_natCast, hk'.1, hx, xw_grd_t ⟨hk'.2, hxr⟩, xw_if_t h1, xw_let_e, xw_let_e]
        exact g1 K
      · have e2 : t_d nm x σ (k + 1) = t_d nm x σ k := by rw [t_d, if_neg (fun z => h1 z.2)]
        obtain ⟨s', g1, g2, g3⟩ := ih (k + 1) N s (by omega) (by omega) (by rw [e2]; exact ⟨c1, c2, c3, c4⟩) hnm hx hxr
        refine ⟨s', fun K => ?_, g2, g3⟩
        rw [lp_CF_readMethod_19, xw_grd_t ⟨⟨by omega, by omega⟩, ⟨by omega, by omega⟩⟩, xw_if_f (by omega), c3, xw_grd_t ⟨by omega, by omega⟩, xw_if_t h0, xw_grd_t (by omega), xw_jn_e, Int.toNat_natCast, hk'.1, hx, xw_grd_t ⟨hk'.2, hxr⟩, xw_if_f h1]
        exact g1 K
    · refine ⟨s, fun K => ?_, frm_rf _ _, ?_⟩
      · rw [lp_CF_readMethod_19, xw_grd_t ⟨⟨by omega, by omega⟩, ⟨by omega, by omega⟩⟩, xw_if_f (by omega), c3, xw_grd_t ⟨by omega, by omega⟩, xw_if_f h0]
      · have := t_d_1 h0 (i - k)
        rw [show k + (i - k) = i by omega] at this
        rw [this]
        exact ⟨c1, c2, c3, c4⟩
theorem t_cC (fu : Nat) {B : Nat → Int} {n : Int} (a : Nat) {e : Nat} (he : e < 13) {L : Nat} (hL : L ≤ xb_cap e) (σ : t_S) : ∀ (dd k N : Nat) (s : xw_S), k + dd = L → dd < N → t_C B n s (t_cs B n (fun _ => 255) σ k) → s.1 (48 + 4 * e) 8 = (L : Int) → (∀ j, j < k → s.1 (49 + 4 * e) j = t_cx B n (fun _ => 255) σ j) → ∃ s', (∀ K : xw_S → Nat → Option xw_S, lp_CF_readMethod_116 fu a e K N s (k : Int) = K s' e) ∧ frm (fun i' k' => S_tk i' k' ∨ i' = 49 + 4 * e) s s' ∧ t_C B n s' (t_cs B n (fun _ => 255) σ L) ∧ ∀ j, j < L → s'.1 (49 + 4 * e) j = t_cx B n (fun _ => 255) σ j := by
  have hcap := xb_cap_le e
  intro dd
  induction dd with
  | zero =>
    intro k N s hk hN hC hlen hc
    obtain ⟨N, rfl⟩ : ∃ n', N = n' + 1 := ⟨N - 1, by omega⟩
    exact ⟨s, fun K => by rw [lp_CF_readMethod_116, hlen, xw_grd_t ⟨⟨by omega, by omega⟩, ⟨by omega, by omega⟩⟩, xw_if_t (by omega)], frm_rf _ _, by rw [show L = k by omega]; exact hC, fun j hj => hc j (by omega)⟩
  | succ dd ih =>
    intro k N s hk hN hC hlen hc
    obtain ⟨N, rfl⟩ : ∃ n', N = n' + 1 := ⟨N - 1, by omega⟩
    obtain ⟨s1, h1, h2, h3⟩ := t_c fu hC (lo := 0) (hi := 255) (by decide) (by decide)
    have f1 : frm (fun i' k' => S_tk i' k' ∨ i' = 49 + 4 * e) s (xw_st s1 (49 + 4 * e) k (t_cx B n (fun _ => 255) σ k)) := frm_tr (frm_mono h2 (fun _ _ z => Or.inl z)) (frm_st (Or.inr rfl))
    obtain ⟨s', g1, g2, g3, g4⟩ := ih (k + 1) N (xw_st s1 (49 + 4 * e) k (t_cx B n (fun _ => 255) σ k)) (by omega) (by omega) (t_C_st h3 (by omega)) (by rw [f1.2 _ _ (by unfold S_tk; omega), hlen]) (fun j hj => by
      by_cases hjk : j = k
      · subst hjk; exact st_s _ _ _ _
      · rw [st_k hjk, h2.2 _ _ (by unfold S_tk; omega)]
        exact hc j (by omega))
    refine ⟨s', fun K => ?_, frm_tr f1 g2, g3, g4⟩
    rw [lp_CF_readMethod_116, hlen, xw_grd_t ⟨⟨by omega, by omega⟩, ⟨by omega, by omega⟩⟩, xw_if_f (by omega), xw_bn2_e h1, xw_grd_t (by omega), xw_let_e, xw_let_e, Int.toNat_natCast]
    exact g1 K
theorem t_hC (fu : Nat) {B : Nat → Int} {n : Int} {b : Nat} (hb : b < 13) {Nm : Nat} (hNm : Nm ≤ 3) (hcap : 12 ≤ xb_hc b) (σ : t_S) : ∀ (dd k N : Nat) (s : xw_S), k + dd = Nm → dd < N → t_C B n s (t_cs B n t_hh σ (4 * k)) → s.1 (48 + 4 * b) 3 = ((3 : Nat) : Int) → s.1 (48 + 4 * b) 9 = (k : Int) → (∀ j, j < 4 * k → s.1 (51 + 4 * b) j = t_cx B n t_hh σ j) → ∃ s', (∀ K : xw_S → Option xw_S, lp_CF_readHandlers_14 fu b (Nm : Int) K N s (k : Int) = K s') ∧ frm (fun i' k' => S_tk i' k' ∨ S_ah b i' k') s s' ∧ t_C B n s' (t_cs B n t_hh σ (4 * Nm)) ∧ s'.1 (48 + 4 * b) 9 = (Nm : Int) ∧ ∀ j, j < 4 * Nm → s'.1 (51 + 4 * b) j = t_cx B n t_hh σ j := by
  intro dd
  induction dd with
  | zero =>
    intro k N s hk hN hC h3 h9 hc
    obtain ⟨N, rfl⟩ : ∃ n', N = n' + 1 := ⟨N - 1, by omega⟩
    exact ⟨s, fun K => by rw [lp_CF_readHandlers_14, xw_grd_t ⟨⟨by omega, by omega⟩, ⟨by omega, by omega⟩⟩, xw_if_t (by omega)], frm_rf _ _, by rw [show Nm = k by omega]; exact hC, by rw [h9, show k = Nm by omega], fun j hj => hc j (by omega)⟩
  | succ dd ih =>
    intro k N s hk hN hC h3 h9 hc
    obtain ⟨N, rfl⟩ : ∃ n', N = n' + 1 := ⟨N - 1, by omega⟩
    have e0 : t_hh (4 * k) = 255 := by unfold t_hh; rw [if_neg (by omega)]
    have e1 : t_hh (4 * k + 1) = 255 := by unfold t_hh; rw [if_neg (by omega)]
    have e2 : t_hh (4 * k + 2) = 255 := by unfold t_hh; rw [if_neg (by omega)]
    have e3 : t_hh (4 * k + 3) = 9 := by unfold t_hh; rw [if_pos (by omega)]
    obtain ⟨s1, p1, p2, p3⟩ := t_c fu hC (lo := 0) (hi := t_hh (4 * k)) (by decide) (by rw [e0]; decide)
    have p3' : t_C B n s1 (t_cs B n t_hh σ (4 * k + 1)) := p3
    obtain ⟨s2, q1, q2, q3⟩ := t_c fu p3' (lo := 0) (hi := t_hh (4 * k + 1)) (by decide) (by rw [e1]; decide)
    have q3' : t_C B n s2 (t_cs B n t_hh σ (4 * k + 2)) := q3
    obtain ⟨s3, r1, r2, r3⟩ := t_c fu q3' (lo := 0) (hi := t_hh (4 * k + 2)) (by decide) (by rw [e2]; decide)
    have r3' : t_C B n s3 (t_cs B n t_hh σ (4 * k + 3)) := r3
    obtain ⟨s4, u1, u2, u3⟩ := t_c fu r3' (lo := 0) (hi := t_hh (4 * k + 3)) (by decide) (by rw [e3]; decide)
    have u3' : t_C B n s4 (t_cs B n t_hh σ (4 * (k + 1))) := u3
    have fr : frm S_tk s s4 := frm_tr (frm_tr (frm_tr p2 q2) r2) u2
    obtain ⟨s5, v1, v2, v3, v4⟩ := q_addh fu (s := s4) hb (N := k) (M := 3) (by rw [fr.2 _ _ (by unfold S_tk; omega)]; exact h9) (by rw [fr.2 _ _ (by unfold S_tk; omega)]; exact h3) hcap (by omega) (t_cx B n t_hh σ (4 * k)) (t_cx B n t_hh σ (4 * k + 1)) (t_cx B n t_hh σ (4 * k + 2)) (t_cx B n t_hh σ (4 * k + 3))
    obtain ⟨x1, x2, x3, x4, x5, x6⟩ := v4 (by omega)
    obtain ⟨s', g1, g2, g3, g4, g5⟩ := ih (k + 1) N s5 (by omega) (by omega) (t_C_f u3' v2 (fun i k z => by unfold S_ah at z; omega)) (by rw [v2.2 _ _ (by unfold S_ah; omega), fr.2 _ _ (by unfold S_tk; omega)]; exact h3) x1 (fun j hj => by
      by_cases y0 : j = 4 * k
      · rw [y0]; exact x2
      · by_cases y1 : j = 4 * k + 1
        · rw [y1]; exact x3
        · by_cases y2 : j = 4 * k + 2
          · rw [y2]; exact x4
          · by_cases y3 : j = 4 * k + 3
            · rw [y3]; exact x5
            · rw [x6 j (by omega), fr.2 _ _ (by unfold S_tk; omega)]
              exact hc j (by omega))
    refine ⟨s', fun K => ?_, frm_tr (frm_tr (frm_mono fr (fun _ _ z => Or.inl z)) (frm_mono v2 (fun _ _ z => Or.inr z))) g2, g3, g4, g5⟩
    rw [e0] at p1
    rw [e1] at q1
    rw [e2] at r1
    rw [e3] at u1
    have t0 : t_cx B n t_hh σ (4 * k) = t_x B n (t_cs B n t_hh σ (4 * k)) 0 255 := by unfold t_cx; rw [e0]
    have t1 : t_cx B n t_hh σ (4 * k + 1) = t_x B n (t_cs B n t_hh σ (4 * k + 1)) 0 255 := by unfold t_cx; rw [e1]
    have t2 : t_cx B n t_hh σ (4 * k + 2) = t_x B n (t_cs B n t_hh σ (4 * k + 2)) 0 255 := by unfold t_cx; rw [e2]
    have t3 : t_cx B n t_hh σ (4 * k + 3) = t_x B n (t_cs B n t_hh σ (4 * k + 3)) 0 9 := by unfold t_cx; rw [e3]
    rw [t0, t1, t2, t3] at v1
    rw [lp_CF_readHandlers_14, xw_grd_t ⟨⟨by omega, by omega⟩, ⟨by omega, by omega⟩⟩, xw_if_f (by omega), xw_bn2_e p1, xw_bn2_e q1, xw_bn2_e r1, xw_bn2_e u1, xw_bnd_e v1]
    exact g1 K
def S_rm (i : Nat) : Nat → Nat → Prop := fun i' k => S_tk i' k ∨ S_ah i i' k ∨ i' = 49 + 4 * i ∨ (i' = 48 + 4 * i ∧ 4 ≤ k ∧ k ≤ 8)
theorem t_rmC (fu : Nat) (hfu : 1000 ≤ fu) {B : Nat → Int} {n : Int} {s : xw_S} {σ : t_S} (hC : t_C B n s σ) {i : Nat} (hi : i < 4) {nm : Nat → Int} (hnm : ∀ j, j < i → s.1 (48 + 4 * j) 4 = nm j ∧ xw_r (nm j)) (h3 : s.1 (48 + 4 * i) 3 = ((3 : Nat) : Int)) : ∃ s', f_CF_readMethod fu s 0 (i : Int) = some s' ∧ frm (S_rm i) s s' ∧ t_C B n s' (t_M B n nm i σ).1 ∧ c_M s' i (t_M B n nm i σ).2 ∧ m_hd (t_M B n nm i σ).2 := by
  have hn := hC.1.2.2.1
  have hcap : xb_cap i = 40 := by unfold xb_cap; rw [if_pos (by omega)]
  have hhc : xb_hc i = 12 := by unfold xb_hc; rw [if_pos (by omega)]
  have ei : 4 * 0 + ((i : Int)).toNat = i := by omega
  obtain ⟨s2, a1, a2, a3, a4⟩ := t_cf fu hC (lo := 97) (hi := 122) (by decide) (by decide) (48 + 4 * i) 4 (by omega)
  have rx := t_x_r (B := B) (n := n) (σ := σ) (lo := 97) (hi := 122) (by decide)
  obtain ⟨s3, b1, b2, b3⟩ := t_dC fu 0 i hi (B := B) (n := n) (nm := nm) (x := t_x B n σ 97 122) (e := i) (t_s B n σ 97 122) (t_in_s hn hC.2.2.2) (fun z => by
    have z2 := t_s_0 z
    unfold t_s
    rw [if_pos z2]
    have := hC.2.2.2.1
    show 1 ≤ σ.1 + 1
    omega) i 0 fu s2 (by omega) (by omega) a3 (fun j hj => ⟨by rw [a2.2 _ _ (by unfold S_tk; omega), show 4 * 0 + j = j by omega]; exact (hnm j hj).1, (hnm j hj).2⟩) a4 ⟨by omega, by omega⟩
  have b1' : ∀ K : xw_S → Nat → Option xw_S, lp_CF_readMethod_19 fu 0 (i : Int) i K fu s2 0 = K s3 i := b1
  obtain ⟨σ1, e1⟩ : ∃ z, z = t_d nm (t_x B n σ 97 122) (t_s B n σ 97 122) i := ⟨_, rfl⟩
  rw [← e1] at b3
  obtain ⟨xa, ya⟩ : ∃ z, z = t_x B n σ1 0 2 := ⟨_, rfl⟩
  have ra := t_x_r (B := B) (n := n) (σ := σ1) (lo := 0) (hi := 2) (by decide)
  obtain ⟨s4, c1, c2, c3, c4⟩ := t_cf fu b3 (lo := 0) (hi := 2) (by decide) (by decide) (48 + 4 * i) 5 (by omega)
  rw [← ya] at c4 ra
  obtain ⟨σ2, e2⟩ : ∃ z, z = t_s B n σ1 0 2 := ⟨_, rfl⟩
  rw [← e2] at c3
  obtain ⟨xo, yo⟩ : ∃ z, z = t_x B n σ2 xa 6 := ⟨_, rfl⟩
  have ro := t_x_r (B := B) (n := n) (σ := σ2) (lo := xa) (hi := 6) (by omega)
  obtain ⟨s5, d1, d2, d3, d4⟩ := t_cf fu c3 (lo := xa) (hi := 6) ⟨by omega, by omega⟩ (by decide) (48 + 4 * i) 6 (by omega)
  rw [← yo] at d4 ro
  obtain ⟨σ3, e3⟩ : ∃ z, z = t_s B n σ2 xa 6 := ⟨_, rfl⟩
  rw [← e3] at d3
  obtain ⟨xs, ys⟩ : ∃ z, z = t_x B n σ3 1 8 := ⟨_, rfl⟩
  have rs := t_x_r (B := B) (n := n) (σ := σ3) (lo := 1) (hi := 8) (by omega)
  obtain ⟨s6, k1, k2, k3, k4⟩ := t_cf fu d3 (lo := 1) (hi := 8) (by decide) (by decide) (48 + 4 * i) 7 (by omega)
  rw [← ys] at k4 rs
  obtain ⟨σ4, e4⟩ : ∃ z, z = t_s B n σ3 1 8 := ⟨_, rfl⟩
  rw [← e4] at k3
  obtain ⟨xL, yL⟩ : ∃ z, z = t_x B n σ4 1 40 := ⟨_, rfl⟩
  have rL := t_x_r (B := B) (n := n) (σ := σ4) (lo := 1) (hi := 40) (by omega)
  obtain ⟨s7, l1, l2, l3, l4⟩ := t_cf fu k3 (lo := 1) (hi := 40) (by decide) (by decide) (48 + 4 * i) 8 (by omega)
  rw [← yL] at l4 rL
  obtain ⟨σ5, e5⟩ : ∃ z, z = t_s B n σ4 1 40 := ⟨_, rfl⟩
  rw [← e5] at l3
  obtain ⟨s8, g1, g2, g3, g4⟩ := t_cC fu 0 (e := i) (by omega) (L := xL.toNat) (by omega) σ5 xL.toNat 0 fu s7 (by omega) (by omega) l3 (by rw [l4]; omega) (fun j hj => by omega)
  have g1' : ∀ K : xw_S → Nat → Option xw_S, lp_CF_readMethod_116 fu 0 i K fu s7 0 = K s8 i := g1
  obtain ⟨σ6, e6⟩ : ∃ z, z = t_cs B n (fun _ => 255) σ5 xL.toNat := ⟨_, rfl⟩
  rw [← e6] at g3
  obtain ⟨xN, yN⟩ : ∃ z, z = t_x B n σ6 0 3 := ⟨_, rfl⟩
  have rN := t_x_r (B := B) (n := n) (σ := σ6) (lo := 0) (hi := 3) (by omega)
  obtain ⟨s9, m1, m2, m3⟩ := t_c fu g3 (lo := 0) (hi := 3) (by decide) (by decide)
  rw [← yN] at m1 rN
  obtain ⟨σ7, e7⟩ : ∃ z, z = t_s B n σ6 0 3 := ⟨_, rfl⟩
  rw [← e7] at m3
  have f3' : s9.1 (48 + 4 * i) 3 = ((3 : Nat) : Int) := by
    rw [m2.2 _ _ (by unfold S_tk; omega), g2.2 _ _ (by unfold S_tk; omega), l2.2 _ _ (by unfold S_tk; omega), k2.2 _ _ (by unfold S_tk; omega), d2.2 _ _ (by unfold S_tk; omega), c2.2 _ _ (by unfold S_tk; omega), b2.2 _ _ (by unfold S_tk; omega), a2.2 _ _ (by unfold S_tk; omega)]
    exact h3
  obtain ⟨s11, n1, n2, n3, n4, n5⟩ := t_hC fu (b := i) (by omega) (Nm := xN.toNat) (by omega) (by omega) σ7 xN.toNat 0 fu (xw_st s9 (48 + 4 * i) 9 0) (by omega) (by omega) (t_C_st m3 (by omega)) (by rw [st_k (by decide)]; exact f3') (st_s _ _ _ _) (fun j hj => by omega)
  have n1' : ∀ K : xw_S → Option xw_S, lp_CF_readHandlers_14 fu i xN K fu (xw_st s9 (48 + 4 * i) 9 0) 0 = K s11 := fun K => by
    have := n1 K
    rw [show ((xN.toNat : Nat) : Int) = xN by omega] at this
    exact this
  have FH : frm (fun i' k' => S_tk i' k' ∨ S_ah i i' k') s8 s11 := frm_tr (frm_tr (frm_mono m2 (fun _ _ z => Or.inl z)) (frm_st (Or.inr (Or.inr ⟨rfl, rfl⟩)))) n2
  have eM : t_M B n nm i σ = (t_cs B n t_hh σ7 (4 * xN.toNat), t_cx B n (fun _ => 255) σ5, xL.toNat, t_cx B n t_hh σ7, xN.toNat, t_x B n σ 97 122, xa, xo, xs) := by
    subst yN; subst e7; subst e6; subst yL; subst e5; subst ys; subst e4; subst yo; subst e3; subst ya; subst e2; subst e1
    rfl
  rw [eM]
  refine ⟨s11, ?_, ?_, n3, ⟨⟨by omega, ?_, ?_, ?_, ?_⟩, ⟨by omega, ?_, ?_, ?_, ?_⟩, ?_, ?_, ?_, ?_⟩, ⟨rx, ra, ro, rs, ?_, ?_⟩⟩
  · unfold f_CF_readMethod
    rw [xw_grd_t (by omega), ei, a1, xw_jn_e, b1', c1, c4, d1, k1, l1, xw_jn_e, g1']
    unfold f_CF_readHandlers
    rw [xw_bn2_e m1, xw_let_e, xw_jn_e, n1']
    rfl
  · have t1 : ∀ i' k, S_tk i' k → S_rm i i' k := fun _ _ z => Or.inl z
    have t2 : ∀ j, 4 ≤ j → j ≤ 8 → ∀ i' k, (S_tk i' k ∨ (i' = 48 + 4 * i ∧ k = j)) → S_rm i i' k := fun j h1 h2 i' k z => z.elim Or.inl (fun y => Or.inr (Or.inr (Or.inr ⟨y.1, by omega, by omega⟩)))
    exact frm_tr (frm_tr (frm_tr (frm_tr (frm_tr (frm_tr (frm_tr (frm_mono a2 (t2 4 (by omega) (by omega))) (frm_mono b2 t1)) (frm_mono c2 (t2 5 (by omega) (by omega)))) (frm_mono d2 (t2 6 (by omega) (by omega)))) (frm_mono k2 (t2 7 (by omega) (by omega)))) (frm_mono l2 (t2 8 (by omega) (by omega)))) (frm_mono g2 (fun _ _ z => z.elim Or.inl (fun y => Or.inr (Or.inr (Or.inl y)))))) (frm_mono FH (fun _ _ z => z.elim Or.inl (fun y => Or.inr (Or.inl y))))
  · show xL.toNat ≤ xb_cap i
    omega
  · show s11.1 (48 + 4 * i) 8 = ((xL.toNat : Nat) : Int)
    rw [FH.2 _ _ (by unfold S_tk S_ah; omega), g2.2 _ _ (by unfold S_tk; omega), l4]
    omega
  · intro p hp
    show s11.1 (49 + 4 * i) p = t_cx B n (fun _ => 255) σ5 p
    rw [FH.2 _ _ (by unfold S_tk S_ah; omega)]
    exact g4 p hp
  · intro p hp
    exact t_x_r (lo := 0) (hi := 255) (by decide)
  · show 4 * xN.toNat ≤ xb_hc i
    omega
  · exact n4
  · intro j hj
    exact n5 j hj
  · intro j hj
    have hh : t_hh j = 9 ∨ t_hh j = 255 := by
      unfold t_hh
      split
      · exact Or.inl rfl
      · exact Or.inr rfl
    have := t_x_r (B := B) (n := n) (σ := t_cs B n t_hh σ7 j) (lo := 0) (hi := t_hh j) (by omega)
    show 0 ≤ t_x B n (t_cs B n t_hh σ7 j) 0 (t_hh j) ∧ t_x B n (t_cs B n t_hh σ7 j) 0 (t_hh j) ≤ 255
    omega
  · show s11.1 (48 + 4 * i) 4 = t_x B n σ 97 122
    rw [FH.2 _ _ (by unfold S_tk S_ah; omega), g2.2 _ _ (by unfold S_tk; omega), l2.2 _ _ (by unfold S_tk; omega), k2.2 _ _ (by unfold S_tk; omega), d2.2 _ _ (by unfold S_tk; omega), c2.2 _ _ (by unfold S_tk; omega), b2.2 _ _ (by unfold S_tk; omega)]
    exact a4
  · show s11.1 (48 + 4 * i) 5 = xa
    rw [FH.2 _ _ (by unfold S_tk S_ah; omega), g2.2 _ _ (by unfold S_tk; omega), l2.2 _ _ (by unfold S_tk; omega), k2.2 _ _ (by unfold S_tk; omega), d2.2 _ _ (by unfold S_tk; omega)]
    exact c4
  · show s11.1 (48 + 4 * i) 6 = xo
    rw [FH.2 _ _ (by unfold S_tk S_ah; omega), g2.2 _ _ (by unfold S_tk; omega), l2.2 _ _ (by unfold S_tk; omega), k2.2 _ _ (by unfold S_tk; omega)]
    exact d4
  · show s11.1 (48 + 4 * i) 7 = xs
    rw [FH.2 _ _ (by unfold S_tk S_ah; omega), g2.2 _ _ (by unfold S_tk; omega), l2.2 _ _ (by unfold S_tk; omega)]
    exact k4
  · show 1 ≤ xL.toNat ∧ xL.toNat ≤ 40
    omega
  · show xN.toNat ≤ 3
    omega
