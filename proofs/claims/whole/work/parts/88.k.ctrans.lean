/-! 88.k: the class's transform -/
section
variable {b : Nat} {M : m_M} {X : n_X} {me : Int}
theorem c_wc (fu : Nat) (hfu : 2000 ≤ fu) (hb8 : 8 ≤ b) (hb12 : b < 12) (hW : m_W M me) (h : n_ok M X) (hLn : n_L M X ≤ 120) : ∀ (dd k N : Nat) (s : xw_S), k + dd = ML M → i_n M X - i_x M X k < (N : Int) → c_Q M X s → (∀ p, p < k → m_bg (Mc M) p → n_c1 M X (s.1 (49 + 4 * b)) p) → (Xc X = 0 → s.1 (49 + 4 * b) 0 = 30 ∧ s.1 (49 + 4 * b) 1 = 3 * Xt X) → ∃ s', (∀ K : xw_S → Option xw_S, lp_LM_writeCode_15 fu b K N s (i_x M X k) = K s') ∧ frm (S_cd b) s s' ∧ n_C M X (s'.1 (49 + 4 * b)) := by
  have hL := hW.1
  have hl0 := n_ld_0 h (ML M)
  have hLd : n_ld M X (ML M) ≤ 120 := by unfold n_L at hLn; omega
  have rL := i_x_r h (ML M)
  have rn : i_n M X ≤ 243 ∧ i_x M X (ML M) ≤ i_n M X := by unfold i_n; split <;> omega
  intro dd
  induction dd with
  | zero =>
    intro k N s hk hN hQ hc1 hpre
    have e : k = ML M := by omega
    subst e
    have h7 := hQ.1.2.2.1
    by_cases h0 : Xc X = 0
    · obtain ⟨t1, t2, t3⟩ := hQ.1.2.2.2 h0
      have en2 : i_n M X = i_x M X (ML M) + 2 := by unfold i_n; rw [if_pos h0]
      have eL : n_L M X = (n_ld M X (ML M)).toNat + 3 := by unfold n_L n_pst; rw [if_pos h0]
      have hpre2 : n_pre X = 2 := by unfold n_pre; rw [if_pos h0]
      have z30 : q_sz 30 = 2 := by decide
      have z32 : q_sz 32 = 1 := by decide
      obtain ⟨N, rfl⟩ : ∃ n', N = n' + 1 + 1 + 1 := ⟨N - 3, by omega⟩
      obtain ⟨s1, a1, a2, a3, a4, a5⟩ := c_wn fu hb8 hb12 (s := s) (j := i_x M X (ML M)) (P := n_ld M X (ML M)) (o := 30) (v := 3 * Xt X + 2) h7 (by omega) (by omega) t2.1 (Or.inl rfl) t2.2.1 t2.2.2 (hQ.2.1.1 (ML M) (Nat.le_refl _) hW.2.2.1) (by omega) (by omega)
      have hQ1 := c_Q_f hQ a2 (fun i k z => by unfold S_cd at z; omega)
      obtain ⟨u1, u2, u3⟩ := hQ1.1.2.2.2 h0
      have e1 : (i_x M X (ML M) + 1).toNat = (i_x M X (ML M)).toNat + 1 := by omega
      obtain ⟨s2, b1, b2, b3, b4, b5⟩ := c_wn fu hb8 hb12 (s := s1) (j := i_x M X (ML M) + 1) (P := n_ld M X (ML M) + 2) (o := 32) (v := 0) hQ1.1.2.2.1 (by omega) (by omega) (by rw [e1]; exact u3.1) (Or.inr (Or.inr rfl)) (by rw [e1]; exact u3.2.1) (by rw [e1]; exact u3.2.2) (by rw [e1]; exact (hQ1.2.1.2.2.2 h0).2) (by omega) (by omega)
      refine ⟨s2, fun K => ?_, frm_tr a2 b2, fun z => ?_, fun p hp hb => ?_, fun _ => ⟨?_, ?_, ?_⟩⟩
      · rw [a1 K (N + 1 + 1), b1 K (N + 1), lp_LM_writeCode_15, (c_Q_f hQ1 b2 (fun i k z => by unfold S_cd at z; omega)).1.2.2.1, xw_grd_t ⟨⟨by omega, by omega⟩, ⟨by omega, by omega⟩⟩, xw_if_t (by omega)]
      · rw [b5 0 (by omega), b5 1 (by omega), a5 0 (by omega), a5 1 (by omega)]; exact hpre z
      · have hle := n_ld_le h (p := p + 1) (q := ML M) (by omega)
        exact n_c1_c hW h hp hb (fun j hj => by rw [b5 j (by omega), a5 j (by omega)]) (hc1 p hp hb)
      · rw [b5 _ (by omega)]; exact a3
      · rw [b5 _ (by omega)]; exact a4 (by decide)
      · rw [show (n_ld M X (ML M)).toNat + 2 = (n_ld M X (ML M) + 2).toNat by omega]; exact b3
    · have en2 : i_n M X = i_x M X (ML M) := by unfold i_n; rw [if_neg h0]; omega
      obtain ⟨N, rfl⟩ : ∃ n', N = n' + 1 := ⟨N - 1, by omega⟩
      refine ⟨s, fun K => ?_, frm_rf _ _, fun z => absurd z h0, fun p hp hb => hc1 p hp hb, fun z => absurd z h0⟩
      rw [lp_LM_writeCode_15, h7, xw_grd_t ⟨⟨by omega, by omega⟩, ⟨by omega, by omega⟩⟩, xw_if_t (by omega)]
  | succ dd ih =>
    intro k N s hk hN hQ hc1 hpre
    by_cases hb : m_bg (Mc M) k
    · have l1 : i_x M X (k + 1) = i_x M X k + Xp X k + 1 := by rw [i_x, if_pos hb]
      have le := i_x_le h (p := k + 1) (q := ML M) (by omega)
      have r := i_x_r h k
      have hpp := h.2.2.1 k
      have hld0 := n_ld_0 h k
      have how : n_ow M X k = n_ld M X k + 2 * Xp X k := rfl
      have hle := n_ld_le h (p := k + 1) (q := ML M) (by omega)
      have hl1 : n_ld M X (k + 1) = n_ow M X k + q_sz (Mc M k) + Xw X k := by rw [n_ld, if_pos hb]; rfl
      have hin := m_in hW.2.2.1 (by omega) hb
      have hw0 : 0 ≤ Xw X k := by
        rcases h.2.2.2.1 k with z | z
        · omega
        · have := z.1
          omega
      have hmono : ∀ p, p < k → n_ld M X (p + 1) ≤ n_ld M X k := fun p hp => n_ld_le h (by omega)
      obtain ⟨b1, b2, b3, b4, b5⟩ := hQ.1.1 k (by omega) hb
      -- what is put
      obtain ⟨N1, z, hN1, hst, fz, hzold, hzput⟩ : ∃ (N1 : Nat) (z : xw_S), i_n M X - i_x M X (k + 1) < (N1 : Int) ∧ (∀ K : xw_S → Option xw_S, lp_LM_writeCode_15 fu b K N s (i_x M X k) = lp_LM_writeCode_15 fu b K (N1 + 1) z (i_x M X k + Xp X k)) ∧ frm (S_cd b) s z ∧ (∀ i : Nat, (i : Int) < n_ld M X k → z.1 (49 + 4 * b) i = s.1 (49 + 4 * b) i) ∧ (Xp X k = 1 → z.1 (49 + 4 * b) (n_ld M X k).toNat = n_pop X ∧ z.1 (49 + 4 * b) ((n_ld M X k).toNat + 1) = Xn X k) := by
        rcases hpp with y | y
        · obtain ⟨N, rfl⟩ : ∃ n', N = n' + 1 := ⟨N - 1, by omega⟩
          exact ⟨N, s, by omega, fun K => by rw [y, show i_x M X k + 0 = i_x M X k by omega], frm_rf _ _, fun i _ => rfl, fun u => by omega⟩
        · obtain ⟨N, rfl⟩ : ∃ n', N = n' + 1 + 1 := ⟨N - 2, by omega⟩
          obtain ⟨c1, c2, c3⟩ := b2 y
          have ep := n_pop_r X
          have ezp : q_sz (n_pop X) = 2 := by rcases ep with e | e <;> rw [e] <;> decide
          obtain ⟨z, a1, a2, a3, a4, a5⟩ := c_wn fu hb8 hb12 (s := s) (j := i_x M X k) (P := n_ld M X k) (o := n_pop X) (v := Xn X k) hQ.1.2.2.1 (by omega) (by omega) c1 (by omega) c2 c3 (hQ.2.1.1 k (by omega) hb) (by omega) (by omega)
          exact ⟨N, z, by omega, fun K => by rw [a1 K (N + 1), y], a2, a5, fun _ => ⟨a3, a4 (by omega)⟩⟩
      have hQz := c_Q_f hQ fz (fun i k u => by unfold S_cd at u; omega)
      obtain ⟨s1, d1, d2, d3, d4⟩ := c_wo fu hfu hb8 hb12 hW h hLd hQz (p := k) (by omega) hb
      have hk1 : n_c1 M X (s1.1 (49 + 4 * b)) k := by
        refine ⟨fun y => ?_, d3⟩
        rw [d4 _ (by omega), d4 _ (by omega)]
        exact hzput y
      obtain ⟨s', g1, g2, g3⟩ := ih (k + 1) N1 s1 (by omega) hN1 (c_Q_f hQz d2 (fun i k u => by unfold S_cd at u; omega)) (fun p hp hbp => by
        by_cases hpk : p = k
        · subst hpk; exact hk1
        · have := hmono p (by omega)
          exact n_c1_c hW h (by omega) hbp (fun j hj => by rw [d4 j (by omega), hzold j (by omega)]) (hc1 p (by omega) hbp)) (fun y => by
        have hpre2 : n_pre X = 2 := by unfold n_pre; rw [if_pos y]
        have := hld0.1
        rw [d4 0 (by omega), d4 1 (by omega), hzold 0 (by omega), hzold 1 (by omega)]
        exact hpre y)
      refine ⟨s', fun K => ?_, frm_tr (frm_tr fz d2) g2, g3⟩
      rw [hst, d1]
      exact g1 K
    · have l1 : i_x M X (k + 1) = i_x M X k := by rw [i_x, if_neg hb]
      obtain ⟨s', g1, g2, g3⟩ := ih (k + 1) N s (by omega) (by omega) hQ (fun p hp hbp => by
        by_cases hpk : p = k
        · subst hpk; exact absurd hbp hb
        · exact hc1 p (by omega) hbp) hpre
      refine ⟨s', fun K => ?_, g2, g3⟩
      rw [← l1]
      exact g1 K
theorem q_wc (fu : Nat) (hfu : 2000 ≤ fu) (hb8 : 8 ≤ b) (hb12 : b < 12) (hW : m_W M me) (h : n_ok M X) (hLn : n_L M X ≤ 120) {s : xw_S} (hQ : c_Q M X s) : ∃ s', f_LM_writeCode fu s b = some s' ∧ frm (fun i k => S_cd b i k ∨ (i = 48 + 4 * b ∧ k = 8)) s s' ∧ c_Q M X s' ∧ n_C M X (s'.1 (49 + 4 * b)) ∧ s'.1 (48 + 4 * b) 8 = (n_L M X : Int) := by
  have hL := hW.1
  have rL := i_x_r h (ML M)
  have r0 := i_x_r h 0
  have rn : 0 ≤ i_n M X ∧ i_n M X ≤ 243 ∧ i_x M X (ML M) ≤ i_n M X := by unfold i_n; split <;> omega
  have f1 : frm (fun i k => S_cd b i k ∨ (i = 48 + 4 * b ∧ k = 8)) s (xw_st s (48 + 4 * b) 8 (n_L M X : Int)) := frm_st (Or.inr ⟨rfl, rfl⟩)
  have hQ1 := c_Q_f hQ f1 (fun i k z => by unfold S_cd at z; omega)
  have key : ∃ (N1 : Nat) (z : xw_S), i_n M X - i_x M X 0 < (N1 : Int) ∧ (∀ K : xw_S → Option xw_S, lp_LM_writeCode_15 fu b K fu (xw_st s (48 + 4 * b) 8 (n_L M X : Int)) 0 = lp_LM_writeCode_15 fu b K N1 z (i_x M X 0)) ∧ frm (S_cd b) (xw_st s (48 + 4 * b) 8 (n_L M X : Int)) z ∧ (Xc X = 0 → z.1 (49 + 4 * b) 0 = 30 ∧ z.1 (49 + 4 * b) 1 = 3 * Xt X) := by
    by_cases h0 : Xc X = 0
    · obtain ⟨f', ef⟩ : ∃ f', fu = f' + 1 := ⟨fu - 1, by omega⟩
      have e0 : i_x M X 0 = 1 := by rw [i_x, if_pos h0]
      have t1 := (hQ1.1.2.2.2 h0).1
      have le := i_x_le h (p := 0) (q := ML M) (by omega)
      obtain ⟨z, a1, a2, a3, a4, a5⟩ := c_wn fu hb8 hb12 (s := xw_st s (48 + 4 * b) 8 (n_L M X : Int)) (j := 0) (P := 0) (o := 30) (v := 3 * Xt X) hQ1.1.2.2.1 (by omega) (by omega) t1.1 (Or.inl rfl) t1.2.1 t1.2.2 (hQ1.2.1.2.2.2 h0).1 (by omega) (by decide)
      refine ⟨f', z, by omega, fun K => ?_, a2, fun _ => ⟨a3, a4 (by decide)⟩⟩
      have := a1 K f'
      rw [← ef] at this
      rw [this, e0]
      rfl
    · have e0 : i_x M X 0 = 0 := by rw [i_x, if_neg h0]
      exact ⟨fu, _, by omega, fun K => by rw [e0], frm_rf _ _, fun z => absurd z h0⟩
  obtain ⟨N1, z, n1, n2, n3, n4⟩ := key
  obtain ⟨s', g1, g2, g3⟩ := c_wc fu hfu hb8 hb12 hW h hLn (ML M) 0 N1 z (by omega) n1 (c_Q_f hQ1 n3 (fun i k u => by unfold S_cd at u; omega)) (fun p hp => by omega) n4
  have f2 : frm (fun i k => S_cd b i k ∨ (i = 48 + 4 * b ∧ k = 8)) s s' := frm_tr (frm_tr f1 (frm_mono n3 (fun _ _ u => Or.inl u))) (frm_mono g2 (fun _ _ u => Or.inl u))
  refine ⟨s', ?_, f2, c_Q_f hQ f2 (fun i k u => by unfold S_cd at u; omega), g3, ?_⟩
  · unfold f_LM_writeCode
    rw [hQ.1.2.2.1, xw_grd_t (by omega), hQ.2.1.2.2.1, xw_let_e, xw_jn_e, n2, g1]
  · rw [g2.2 _ _ (by unfold S_cd; omega), n3.2 _ _ (by unfold S_cd; omega), st_s]
theorem q_npi (fu : Nat) (h : n_ok M X) (hL : ML M ≤ 120) {s : xw_S} (hQ : c_Q M X s) {t : Int} (h0 : 0 ≤ t) (h1 : t ≤ (ML M : Int)) (hb : m_bg (Mc M) t.toNat) : f_LM_newPlace fu s t = some (s, n_ld M X t.toNat) := by
  have h15 : ∀ p, p ≤ ML M → m_bg (Mc M) p → s.1 15 p = i_x M X p := fun p hp hbp => by
    by_cases hpL : p = ML M
    · rw [hpL]; exact hQ.1.2.1
    · exact (hQ.1.1 p (by omega) hbp).1
  have := q_np fu h hL h15 hQ.2.1.1 (p := t.toNat) (by omega) hb
  rwa [show ((t.toNat : Nat) : Int) = t by omega] at this
theorem c_wh7 (fu : Nat) (hb8 : 8 ≤ b) (hb12 : b < 12) (hW : m_W M me) (h : n_ok M X) : ∀ (dd i N : Nat) (s : xw_S), i + dd = MN M → dd < N → c_Q M X s → s.1 (48 + 4 * b) 3 = ((5 : Nat) : Int) → s.1 (48 + 4 * b) 9 = (i : Int) → (∀ j, j < 4 * i → s.1 (51 + 4 * b) j = n_h M X j) → ∃ s', (∀ K : xw_S → Option xw_S, lp_LM_writeHandlers_7 fu b K N s (i : Int) = K s') ∧ frm (S_ah b) s s' ∧ s'.1 (48 + 4 * b) 9 = (MN M : Int) ∧ ∀ j, j < 4 * MN M → s'.1 (51 + 4 * b) j = n_h M X j := by
  have hL := hW.1
  have hhc : xb_hc b = 20 := by unfold xb_hc; rw [if_neg (by omega)]
  intro dd
  induction dd with
  | zero =>
    intro i N s hi hN hQ h3 h9 hp
    obtain ⟨N, rfl⟩ : ∃ n', N = n' + 1 := ⟨N - 1, by omega⟩
    have hn : s.1 (48 + 4 * 12) 9 = (MN M : Int) := hQ.2.2.1.2.1.2.2.1
    have e : i = MN M := by omega
    subst e
    exact ⟨s, fun K => by rw [lp_LM_writeHandlers_7, hn, xw_grd_t ⟨⟨by omega, by omega⟩, ⟨by omega, by omega⟩⟩, xw_if_t (by omega)], frm_rf _ _, h9, hp⟩
  | succ dd ih =>
    intro i N s hi hN hQ h3 h9 hp
    obtain ⟨N, rfl⟩ : ∃ n', N = n' + 1 := ⟨N - 1, by omega⟩
    have hn : s.1 (48 + 4 * 12) 9 = (MN M : Int) := hQ.2.2.1.2.1.2.2.1
    have hH := hQ.2.2.1.2.1
    have p0 : f_B_part fu s 12 (i : Int) 0 = some (s, Mh M (4 * i)) := q_part fu hH (by omega) (w := 0) (by omega)
    have p1 : f_B_part fu s 12 (i : Int) 1 = some (s, Mh M (4 * i + 1)) := q_part fu hH (by omega) (w := 1) (by omega)
    have p2 : f_B_part fu s 12 (i : Int) 2 = some (s, Mh M (4 * i + 2)) := q_part fu hH (by omega) (w := 2) (by omega)
    have p3 : f_B_part fu s 12 (i : Int) 3 = some (s, Mh M (4 * i + 3)) := q_part fu hH (by omega) (w := 3) (by omega)
    obtain ⟨⟨x1, x2⟩, x3, x4⟩ := hW.2.2.2.2 i (by omega)
    have x3a := x3.1
    have x3b := x3.2.1
    have x4a := x4.1
    have x4b := x4.2.1
    have hend : m_bg (Mc M) (Mh M (4 * i + 1)).toNat ∧ Mh M (4 * i + 1) ≤ (ML M : Int) := by
      rcases x2 with y | y
      · rw [y, Int.toNat_natCast]; exact ⟨hW.2.2.1, Int.le_refl _⟩
      · have := y.2.1
        exact ⟨y.2.2, by omega⟩
    have n0 := q_npi fu h (by omega) hQ (t := Mh M (4 * i)) x3a (by omega) x3.2.2
    have n1 := q_npi fu h (by omega) hQ (t := Mh M (4 * i + 1)) (by omega) hend.2 hend.1
    have n2 := q_npi fu h (by omega) hQ (t := Mh M (4 * i + 2)) x4a (by omega) x4.2.2
    obtain ⟨s1, a1, a2, a3, a4⟩ := q_addh fu (s := s) (b := b) (N := i) (M := 5) (by omega) h9 h3 (by omega) (by omega) (n_ld M X (Mh M (4 * i)).toNat) (n_ld M X (Mh M (4 * i + 1)).toNat) (n_ld M X (Mh M (4 * i + 2)).toNat) (Mh M (4 * i + 3))
    obtain ⟨y1, y2, y3, y4, y5, y6⟩ := a4 (by omega)
    have e0 : n_h M X (4 * i) = n_ld M X (Mh M (4 * i)).toNat := by unfold n_h; rw [if_pos (by omega), if_neg (by omega)]
    have e1 : n_h M X (4 * i + 1) = n_ld M X (Mh M (4 * i + 1)).toNat := by unfold n_h; rw [if_pos (by omega), if_neg (by omega)]
    have e2 : n_h M X (4 * i + 2) = n_ld M X (Mh M (4 * i + 2)).toNat := by unfold n_h; rw [if_pos (by omega), if_neg (by omega)]
    have e3 : n_h M X (4 * i + 3) = Mh M (4 * i + 3) := by unfold n_h; rw [if_pos (by omega), if_pos (by omega)]
    obtain ⟨s', g1, g2, g3, g4⟩ := ih (i + 1) N s1 (by omega) (by omega) (c_Q_f hQ a2 (fun i k z => by unfold S_ah at z; omega)) (by rw [a2.2 _ _ (by unfold S_ah; omega)]; exact h3) y1 (fun j hj => by
      by_cases j0 : j = 4 * i
      · rw [j0, e0]; exact y2
      · by_cases j1 : j = 4 * i + 1
        · rw [j1, e1]; exact y3
        · by_cases j2 : j = 4 * i + 2
          · rw [j2, e2]; exact y4
          · by_cases j3 : j = 4 * i + 3
            · rw [j3, e3]; exact y5
            · rw [y6 j (by omega)]; exact hp j (by omega))
    refine ⟨s', fun K => ?_, frm_tr a2 g2, g3, g4⟩
    rw [lp_LM_writeHandlers_7, hn, xw_grd_t ⟨⟨by omega, by omega⟩, ⟨by omega, by omega⟩⟩, xw_if_f (by omega), xw_bn2_e p0, xw_bn2_e n0, xw_bn2_e p1, xw_bn2_e n1, xw_bn2_e p2, xw_bn2_e n2, xw_bn2_e p3, xw_bnd_e a1, xw_let_e]
    exact g1 K
end
