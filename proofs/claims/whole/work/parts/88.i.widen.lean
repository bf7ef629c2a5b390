/-! 88.i: widenWhereNeeded and layOut -/
def n_wk (M : m_M) (X : n_X) (k : Nat) : n_X := (Xc X, Xt X, Xp X, Xn X, fun p => if p < k then n_wd M X p else Xw X p)
section
variable {M : m_M} {X : n_X} {me : Int}
theorem n_wk_ok (h : n_ok M X) (k : Nat) : n_ok M (n_wk M X k) := by
  refine ⟨h.1, h.2.1, h.2.2.1, fun p => ?_, h.2.2.2.2⟩
  show (if p < k then n_wd M X p else Xw X p) = 0 ∨ ((if p < k then n_wd M X p else Xw X p) = 1 ∧ q_sb (Mc M p))
  by_cases hk : p < k
  · rw [if_pos hk]; exact (n_ok_ws h).2.2.2.1 p
  · rw [if_neg hk]; exact h.2.2.2.1 p
theorem i_x_wk (k p : Nat) : i_x M (n_wk M X k) p = i_x M X p := i_x_c (X := X) (X' := n_wk M X k) rfl rfl p
/-- the items do not change where what they say does not -/
theorem c_I_x {X X' : n_X} {s : xw_S} (h1 : Xc X' = Xc X) (h2 : Xp X' = Xp X) (h3 : Xn X' = Xn X) (h4 : Xt X' = Xt X) (h5 : ∀ p, p < ML M → m_bg (Mc M) p → Xw X' p = Xw X p) (hI : c_I M X s) : c_I M X' s := by
  have ei : ∀ p, i_x M X' p = i_x M X p := i_x_c h1 h2
  have en : i_n M X' = i_n M X := by unfold i_n; rw [ei, h1]
  have ep : n_pop X' = n_pop X := by unfold n_pop; rw [h1]
  obtain ⟨a1, a2, a3, a4⟩ := hI
  refine ⟨fun p hp hb => ?_, by rw [ei]; exact a2, by rw [en]; exact a3, fun z => ?_⟩
  · have := a1 p hp hb
    unfold c_i1 n_op at this ⊢
    rw [ei, h2, h3, ep, h5 p hp hb]
    exact this
  · rw [ei, h4]; exact a4 (by rw [← h1]; exact z)
theorem i_x_d (h : n_ok M X) {p k : Nat} (hb : m_bg (Mc M) p) (hb' : m_bg (Mc M) k) (hne : p ≠ k) : i_x M X p + Xp X p < i_x M X k ∨ i_x M X k + Xp X k < i_x M X p := by
  have l1 : i_x M X (p + 1) = i_x M X p + Xp X p + 1 := by rw [i_x, if_pos hb]
  have l2 : i_x M X (k + 1) = i_x M X k + Xp X k + 1 := by rw [i_x, if_pos hb']
  rcases Nat.lt_or_gt_of_ne hne with y | y
  · have := i_x_le h (p := p + 1) (q := k) (by omega)
    omega
  · have := i_x_le h (p := k + 1) (q := p) (by omega)
    omega
theorem c_I_up (h : n_ok M X) {X' : n_X} {s : xw_S} (h1 : Xc X' = Xc X) (h2 : Xp X' = Xp X) (h3 : Xn X' = Xn X) (h4 : Xt X' = Xt X) {k : Nat} (hk : k < ML M) (hbk : m_bg (Mc M) k) (h5 : ∀ p, p < ML M → m_bg (Mc M) p → p ≠ k → Xw X' p = Xw X p) (hI : c_I M X s) : c_I M X' (xw_st s 11 (i_x M X k + Xp X k).toNat (n_op M X' k)) := by
  have ei : ∀ p, i_x M X' p = i_x M X p := i_x_c h1 h2
  have en : i_n M X' = i_n M X := by unfold i_n; rw [ei, h1]
  have ep : n_pop X' = n_pop X := by unfold n_pop; rw [h1]
  have rk := i_x_r h k
  have lk : i_x M X (k + 1) = i_x M X k + Xp X k + 1 := by rw [i_x, if_pos hbk]
  have lL := i_x_le h (p := k + 1) (q := ML M) (by omega)
  have hppk := h.2.2.1 k
  obtain ⟨d1, d2, d3, d4⟩ := hI
  refine ⟨fun p hp hbp => ?_, by rw [ei, st_i (by decide)]; exact d2, by rw [en, st_i (by decide)]; exact d3, fun z => ?_⟩
  · obtain ⟨q1, q2, q3, q4, q5⟩ := d1 p hp hbp
    have rp := i_x_r h p
    have hpp := h.2.2.1 p
    unfold c_i1
    rw [ei, h2, h3, ep]
    by_cases hpk : p = k
    · subst hpk
      refine ⟨by rw [st_i (by decide)]; exact q1, fun z => ?_, st_s _ _ _ _, by rw [st_i (by decide)]; exact q4, by rw [st_i (by decide)]; exact q5⟩
      rw [st_i (i' := 12) (by decide), st_i (i' := 13) (by decide), st_k (by omega)]
      exact q2 z
    · have hd := i_x_d h hbp hbk hpk
      refine ⟨by rw [st_i (by decide)]; exact q1, fun z => ?_, ?_, by rw [st_i (by decide)]; exact q4, by rw [st_i (by decide)]; exact q5⟩
      · rw [st_i (i' := 12) (by decide), st_i (i' := 13) (by decide), st_k (by omega)]
        exact q2 z
      · rw [st_k (by omega), q3]
        unfold n_op
        rw [h5 p hp hbp hpk]
  · have rz := rk.2.2 (by rw [← h1]; exact z)
    obtain ⟨⟨v1, v2, v3⟩, ⟨v4, v5, v6⟩, v7, v8, v9⟩ := d4 (by rw [← h1]; exact z)
    rw [ei, h4]
    exact ⟨⟨by rw [st_k (by omega)]; exact v1, by rw [st_i (by decide)]; exact v2, by rw [st_i (by decide)]; exact v3⟩, ⟨by rw [st_k (by omega)]; exact v4, by rw [st_i (by decide)]; exact v5, by rw [st_i (by decide)]; exact v6⟩, by rw [st_k (by omega)]; exact v7, by rw [st_i (by decide)]; exact v8, by rw [st_i (by decide)]; exact v9⟩
def S_11 : Nat → Nat → Prop := fun i _ => i = 11
theorem c_wi (fu : Nat) (hfu : 2000 ≤ fu) (hW : m_W M me) (h : n_ok M X) (hcr : ∀ p, p < ML M → 0 ≤ Mc M p ∧ Mc M p ≤ 255) : ∀ (dd k N : Nat) (s : xw_S) (fl : Int), k + dd = ML M → i_n M X - i_x M X k < (N : Int) → c_I M (n_wk M X k) s → c_pl M X s → (fl = 0 ∨ fl = 1) → ∃ s' fl', (∀ K : xw_S → Int → Option (xw_S × Int), lp_LM_widenWhereNeeded_4 fu K N s fl (i_x M X k) = K s' fl') ∧ frm S_11 s s' ∧ c_I M (n_ws M X) s' ∧ (fl' = 0 ∨ fl' = 1) ∧ (fl' = 1 ↔ (fl = 1 ∨ ∃ p, k ≤ p ∧ p < ML M ∧ Xw X p = 0 ∧ n_wd M X p = 1)) := by
  have hL := hW.1
  have rL := i_x_r h (ML M)
  -- a step over an item that is no short branch
  have skip : ∀ (N : Nat) (s : xw_S) (fl j : Int) (K : xw_S → Int → Option (xw_S × Int)), s.1 10 7 = i_n M X → 0 ≤ j → j < i_n M X → (0 ≤ s.1 11 j.toNat ∧ s.1 11 j.toNat ≤ 255) → ¬ q_sb (s.1 11 j.toNat) → lp_LM_widenWhereNeeded_4 fu K (N + 1) s fl j = lp_LM_widenWhereNeeded_4 fu K N s fl (j + 1) := by
    intro N s fl j K h7 j0 j1 hr hns
    have rn : i_n M X ≤ 243 := by unfold i_n; split <;> omega
    rw [lp_LM_widenWhereNeeded_4, h7, xw_grd_t ⟨⟨by omega, by omega⟩, ⟨by omega, by omega⟩⟩, xw_if_f (by omega), xw_grd_t (by omega), xw_bn2_e (q_OPsb fu s ⟨by omega, by omega⟩), xw_jn_e, if_neg hns, xw_grd_t (by decide), xw_if_t rfl]
    rfl
  have rn : i_n M X ≤ 243 ∧ i_x M X (ML M) ≤ i_n M X := by unfold i_n; split <;> omega
  intro dd
  induction dd with
  | zero =>
    intro k N s fl hk hN hI hP hfl
    have e : k = ML M := by omega
    subst e
    have en : i_n M (n_wk M X (ML M)) = i_n M X := by unfold i_n; rw [i_x_wk]; rfl
    have h7 : s.1 10 7 = i_n M X := by rw [← en]; exact hI.2.2.1
    have hI' : c_I M (n_ws M X) s := c_I_x (X := n_wk M X (ML M)) rfl rfl rfl rfl (fun p hp _ => by
      show n_wd M X p = if p < ML M then n_wd M X p else Xw X p
      rw [if_pos hp]) hI
    refine ⟨s, fl, fun K => ?_, frm_rf _ _, hI', hfl, ⟨Or.inl, fun z => z.elim id (fun ⟨p, z1, z2, _⟩ => by omega)⟩⟩
    have stop : ∀ N' : Nat, lp_LM_widenWhereNeeded_4 fu K (N' + 1) s fl (i_n M X) = K s fl := by
      intro N'
      rw [lp_LM_widenWhereNeeded_4, h7, xw_grd_t ⟨⟨by omega, by omega⟩, ⟨by omega, by omega⟩⟩, xw_if_t (by omega)]
    by_cases h0 : Xc X = 0
    · obtain ⟨t1, t2, t3⟩ := hI.2.2.2 h0
      rw [i_x_wk] at t2 t3
      have en2 : i_n M X = i_x M X (ML M) + 2 := by unfold i_n; rw [if_pos h0]
      obtain ⟨N, rfl⟩ : ∃ n', N = n' + 1 + 1 + 1 := ⟨N - 3, by omega⟩
      have e1 : (i_x M X (ML M) + 1).toNat = (i_x M X (ML M)).toNat + 1 := by omega
      rw [skip (N + 1 + 1) s fl _ K h7 (by omega) (by omega) (by rw [t2.1]; omega) (by rw [t2.1]; unfold q_sb; omega), skip (N + 1) s fl _ K h7 (by omega) (by omega) (by rw [e1, t3.1]; omega) (by rw [e1, t3.1]; unfold q_sb; omega), show i_x M X (ML M) + 1 + 1 = i_n M X by omega]
      exact stop N
    · have en2 : i_n M X = i_x M X (ML M) := by unfold i_n; rw [if_neg h0]; omega
      obtain ⟨N, rfl⟩ : ∃ n', N = n' + 1 := ⟨N - 1, by omega⟩
      rw [← en2]
      exact stop N
  | succ dd ih =>
    intro k N s fl hk hN hI hP hfl
    have en : i_n M (n_wk M X k) = i_n M X := by unfold i_n; rw [i_x_wk]; rfl
    have h7 : s.1 10 7 = i_n M X := by rw [← en]; exact hI.2.2.1
    have r := i_x_r h k
    have le1 := i_x_le h (p := k) (q := ML M) (by omega)
    by_cases hb : m_bg (Mc M) k
    · have l1 : i_x M X (k + 1) = i_x M X k + Xp X k + 1 := by rw [i_x, if_pos hb]
      have le2 := i_x_le h (p := k + 1) (q := ML M) (by omega)
      have hpp := h.2.2.1 k
      obtain ⟨b1, b2, b3, b4, b5⟩ := hI.1 k (by omega) hb
      rw [i_x_wk] at b1 b2 b3 b4 b5
      have b2' : Xp X k = 1 → s.1 11 (i_x M X k).toNat = n_pop X := fun z => (b2 z).1
      have b3' : s.1 11 (i_x M X k + Xp X k).toNat = n_op M X k := by
        have e : n_op M (n_wk M X k) k = n_op M X k := by
          unfold n_op
          show Mc M k + 10 * (if k < k then n_wd M X k else Xw X k) = _
          rw [if_neg (by omega)]
        rw [← e]; exact b3
      have b4' : s.1 12 (i_x M X k + Xp X k).toNat = (if q_br (Mc M k) then (k : Int) + m_way (Mc M) (ML M) k else 0) := b4
      have hopr := n_op_r h (hcr k (by omega))
      -- over what is put, to the instruction itself
      obtain ⟨N1, hN1, hst⟩ : ∃ N1 : Nat, i_n M X - i_x M X (k + 1) < (N1 : Int) ∧ ∀ K : xw_S → Int → Option (xw_S × Int), lp_LM_widenWhereNeeded_4 fu K N s fl (i_x M X k) = lp_LM_widenWhereNeeded_4 fu K (N1 + 1) s fl (i_x M X k + Xp X k) := by
        rcases hpp with z | z
        · obtain ⟨N, rfl⟩ : ∃ n', N = n' + 1 := ⟨N - 1, by omega⟩
          exact ⟨N, by omega, fun K => by rw [z, show i_x M X k + 0 = i_x M X k by omega]⟩
        · obtain ⟨N, rfl⟩ : ∃ n', N = n' + 1 + 1 := ⟨N - 2, by omega⟩
          refine ⟨N, by omega, fun K => ?_⟩
          have ep := n_pop_r X
          rw [skip (N + 1) s fl _ K h7 (by omega) (by omega) (by rw [b2' z]; omega) (by rw [b2' z]; unfold q_sb; omega), z]
      have same : n_wd M X k = Xw X k → c_I M (n_wk M X (k + 1)) s := fun hs => c_I_x (X := n_wk M X k) rfl rfl rfl rfl (fun p hp _ => by
        show (if p < k + 1 then n_wd M X p else Xw X p) = if p < k then n_wd M X p else Xw X p
        by_cases hpk : p = k
        · subst hpk; rw [if_pos (by omega), if_neg (by omega), hs]
        · by_cases hlt : p < k
          · rw [if_pos (by omega), if_pos hlt]
          · rw [if_neg (by omega), if_neg hlt]) hI
      have fin0 : n_wd M X k = Xw X k → ∀ (s' : xw_S) (fl' : Int), (fl' = 1 ↔ (fl = 1 ∨ ∃ p, k + 1 ≤ p ∧ p < ML M ∧ Xw X p = 0 ∧ n_wd M X p = 1)) → (fl' = 1 ↔ (fl = 1 ∨ ∃ p, k ≤ p ∧ p < ML M ∧ Xw X p = 0 ∧ n_wd M X p = 1)) := by
        intro hs s' fl' hh
        rw [hh]
        constructor
        · exact fun z => z.imp id (fun ⟨p, z1, z2⟩ => ⟨p, by omega, z2⟩)
        · refine fun z => z.imp id (fun ⟨p, z1, z2, z3, z4⟩ => ?_)
          by_cases hpk : p = k
          · subst hpk; omega
          · exact ⟨p, by omega, z2, z3, z4⟩
      by_cases hsb : q_sb (n_op M X k)
      · have hw0 : Xw X k = 0 ∧ q_sb (Mc M k) ∧ n_op M X k = Mc M k := by
          rcases n_opx h k with ⟨e1, e2⟩ | ⟨e1, e2, e3⟩
          · exact ⟨e2, by rw [← e1]; exact hsb, e1⟩
          · unfold q_sb at hsb; omega
        have hbr : q_br (Mc M k) := Or.inl hw0.2.1
        have hpl := (hW.2.2.2.1 k (by omega) hb).1 hbr
        have hpl1 := hpl.1
        have hpl2 := hpl.2.1
        have u1 := n_ld_ub h ((k : Int) + m_way (Mc M) (ML M) k).toNat
        have u2 := n_ld_0 h ((k : Int) + m_way (Mc M) (ML M) k).toNat
        have u3 := n_ld_ub h k
        have u4 := n_ld_0 h k
        have u6 : n_ow M X k = n_ld M X k + 2 * Xp X k := rfl
        have h15 : ∀ p, p ≤ ML M → m_bg (Mc M) p → s.1 15 p = i_x M X p := fun p hp hbp => by
          by_cases hpL : p = ML M
          · rw [hpL, ← i_x_wk (M := M) (X := X) k]; exact hI.2.1
          · have := (hI.1 p (by omega) hbp).1
            rw [i_x_wk] at this
            exact this
        have enp := q_np fu h (by omega) h15 hP.1 (p := ((k : Int) + m_way (Mc M) (ML M) k).toNat) (by omega) hpl.2.2
        rw [show ((((k : Int) + m_way (Mc M) (ML M) k).toNat : Nat) : Int) = (k : Int) + m_way (Mc M) (ML M) k by omega] at enp
        have enw : f_LM_newWay fu s (i_x M X k + Xp X k) = some (s, n_y M X k) := by
          unfold f_LM_newWay
          rw [xw_grd_t (by omega), b4', if_pos hbr, xw_bn2_e enp, xw_grd_t (by omega), hP.2.1 k (by omega) hb]
          rfl
        have ey : n_ld M X ((k : Int) + m_way (Mc M) (ML M) k).toNat - n_ow M X k = n_y M X k := rfl
        have pr : ∀ K : xw_S → Int → Option (xw_S × Int), lp_LM_widenWhereNeeded_4 fu K (N1 + 1) s fl (i_x M X k + Xp X k) = xw_grd (xw_r (if -24 ≤ n_y M X k ∧ n_y M X k ≤ 24 then 1 else 0)) (xw_if ((if -24 ≤ n_y M X k ∧ n_y M X k ≤ 24 then (1 : Int) else 0) = 0) (lp_LM_widenWhereNeeded_4 fu K N1 (xw_st s 11 (i_x M X k + Xp X k).toNat (Mc M k + 10)) 1 (i_x M X (k + 1))) (lp_LM_widenWhereNeeded_4 fu K N1 s fl (i_x M X (k + 1)))) := by
          intro K
          rw [lp_LM_widenWhereNeeded_4, h7, xw_grd_t ⟨⟨by omega, by omega⟩, ⟨by omega, by omega⟩⟩, xw_if_f (by omega), xw_grd_t (by omega), b3', xw_bn2_e (q_OPsb fu s ⟨by omega, by omega⟩), xw_jn_e, if_pos hsb, xw_grd_t (by decide), xw_if_f (by decide), xw_bn2_e enw, xw_bn2_e (q_OPsw fu s ⟨by omega, by omega⟩), l1, b3', hw0.2.2]
          rfl
        by_cases ho : -24 ≤ n_y M X k ∧ n_y M X k ≤ 24
        · have hs : n_wd M X k = Xw X k := by unfold n_wd; rw [if_neg (fun z => by have := z.2.2.2.2; omega)]
          obtain ⟨s', fl', g1, g2, g3, g4, g5⟩ := ih (k + 1) N1 s fl (by omega) hN1 (same hs) hP hfl
          refine ⟨s', fl', fun K => ?_, g2, g3, g4, fin0 hs s' fl' g5⟩
          rw [hst, pr, if_pos ho, xw_grd_t (by decide), xw_if_f (by decide)]
          exact g1 K
        · have hwd : n_wd M X k = 1 := by unfold n_wd; rw [if_pos ⟨hw0.1, by omega, hb, hw0.2.1, by omega⟩]
          have hI2 : c_I M (n_wk M X (k + 1)) (xw_st s 11 (i_x M X k + Xp X k).toNat (Mc M k + 10)) := by
            have := c_I_up (n_wk_ok h k) (X' := n_wk M X (k + 1)) rfl rfl rfl rfl (k := k) (by omega) hb (fun p _ _ hpk => by
              show (if p < k + 1 then n_wd M X p else Xw X p) = if p < k then n_wd M X p else Xw X p
              by_cases hlt : p < k
              · rw [if_pos (by omega), if_pos hlt]
              · rw [if_neg (by omega), if_neg hlt]) hI
            have e : n_op M (n_wk M X (k + 1)) k = Mc M k + 10 := by
              unfold n_op
              show Mc M k + 10 * (if k < k + 1 then n_wd M X k else Xw X k) = _
              rw [if_pos (by omega), hwd]
              omega
            rw [i_x_wk, e] at this
            exact this
          have hP2 : c_pl M X (xw_st s 11 (i_x M X k + Xp X k).toNat (Mc M k + 10)) := ⟨fun p hp hbp => by rw [st_i (by decide)]; exact hP.1 p hp hbp, fun p hp hbp => by rw [st_i (by decide)]; exact hP.2.1 p hp hbp, by rw [st_i (by decide)]; exact hP.2.2.1, fun z => by rw [st_i (by decide), st_i (by decide)]; exact hP.2.2.2 z⟩
          obtain ⟨s', fl', g1, g2, g3, g4, g5⟩ := ih (k + 1) N1 (xw_st s 11 (i_x M X k + Xp X k).toNat (Mc M k + 10)) 1 (by omega) hN1 hI2 hP2 (Or.inr rfl)
          refine ⟨s', fl', fun K => ?_, frm_tr (frm_st rfl) g2, g3, g4, ?_⟩
          · rw [hst, pr, if_neg ho, xw_grd_t (by decide), xw_if_t rfl]
            exact g1 K
          · rw [g5]
            exact ⟨fun _ => Or.inr ⟨k, Nat.le_refl _, by omega, hw0.1, hwd⟩, fun _ => Or.inl rfl⟩
      · have hs : n_wd M X k = Xw X k := by
          unfold n_wd
          rw [if_neg (fun z => hsb (by
            rcases n_opx h k with ⟨e1, _⟩ | ⟨_, _, e3⟩
            · rw [e1]; exact z.2.2.2.1
            · have := z.1; omega))]
        obtain ⟨s', fl', g1, g2, g3, g4, g5⟩ := ih (k + 1) N1 s fl (by omega) hN1 (same hs) hP hfl
        refine ⟨s', fl', fun K => ?_, g2, g3, g4, fin0 hs s' fl' g5⟩
        rw [hst, skip N1 s fl _ K h7 (by omega) (by omega) (by rw [b3']; exact hopr) (by rw [b3']; exact hsb), ← l1]
        exact g1 K
    · have l1 : i_x M X (k + 1) = i_x M X k := by rw [i_x, if_neg hb]
      obtain ⟨s', fl', g1, g2, g3, g4, g5⟩ := ih (k + 1) N s fl (by omega) (by omega) (c_I_x (X := n_wk M X k) rfl rfl rfl rfl (fun p hp hbp => by
        show (if p < k + 1 then n_wd M X p else Xw X p) = if p < k then n_wd M X p else Xw X p
        by_cases hpk : p = k
        · subst hpk; exact absurd hbp hb
        · by_cases hlt : p < k
          · rw [if_pos (by omega), if_pos hlt]
          · rw [if_neg (by omega), if_neg hlt]) hI) hP hfl
      refine ⟨s', fl', fun K => ?_, g2, g3, g4, ?_⟩
      · rw [← l1]; exact g1 K
      · rw [g5]
        have hs : n_wd M X k = Xw X k := by unfold n_wd; rw [if_neg (fun z => hb z.2.2.1)]
        constructor
        · exact fun z => z.imp id (fun ⟨p, z1, z2⟩ => ⟨p, by omega, z2⟩)
        · refine fun z => z.imp id (fun ⟨p, z1, z2, z3, z4⟩ => ?_)
          by_cases hpk : p = k
          · subst hpk; omega
          · exact ⟨p, by omega, z2, z3, z4⟩
theorem q_wi (fu : Nat) (hfu : 2000 ≤ fu) (hW : m_W M me) (h : n_ok M X) (hcr : ∀ p, p < ML M → 0 ≤ Mc M p ∧ Mc M p ≤ 255) {s : xw_S} (hI : c_I M X s) (hP : c_pl M X s) : ∃ s' fl, f_LM_widenWhereNeeded fu s = some (s', fl) ∧ frm S_11 s s' ∧ c_I M (n_ws M X) s' ∧ (fl = 0 ∨ fl = 1) ∧ (fl = 1 ↔ n_chg M X) := by
  have hL := hW.1
  have r := i_x_r h (ML M)
  have rn : i_n M X ≤ 243 := by unfold i_n; split <;> omega
  have r0 := i_x_r h 0
  -- the first item of a TRACE
  have key : ∃ N1 : Nat, i_n M X - i_x M X 0 < (N1 : Int) ∧ ∀ K : xw_S → Int → Option (xw_S × Int), lp_LM_widenWhereNeeded_4 fu K fu s 0 0 = lp_LM_widenWhereNeeded_4 fu K N1 s 0 (i_x M X 0) := by
    by_cases h0 : Xc X = 0
    · obtain ⟨f', ef⟩ : ∃ f', fu = f' + 1 := ⟨fu - 1, by omega⟩
      have e0 : i_x M X 0 = 1 := by rw [i_x, if_pos h0]
      have t1 := (hI.2.2.2 h0).1.1
      refine ⟨f', by omega, fun K => ?_⟩
      have st : ∀ N : Nat, lp_LM_widenWhereNeeded_4 fu K (N + 1) s 0 0 = lp_LM_widenWhereNeeded_4 fu K N s 0 (0 + 1) := by
        intro N
        have h7 := hI.2.2.1
        have gt : 0 < i_n M X := by
          have := i_x_le h (p := 0) (q := ML M) (by omega)
          unfold i_n
          split <;> omega
        rw [lp_LM_widenWhereNeeded_4, h7, xw_grd_t ⟨by decide, ⟨by omega, by omega⟩⟩, xw_if_f (by omega), xw_grd_t (by decide)]
        have t1' : s.1 11 (0 : Int).toNat = 30 := t1
        rw [t1', xw_bn2_e (q_OPsb fu s (by decide)), xw_jn_e, if_neg (by decide), xw_grd_t (by decide), xw_if_t rfl]
        rfl
      have := st f'
      rw [← ef] at this
      rw [this, e0]
      rfl
    · have e0 : i_x M X 0 = 0 := by rw [i_x, if_neg h0]
      exact ⟨fu, by omega, fun K => by rw [e0]⟩
  obtain ⟨N1, n1, n2⟩ := key
  have hI0 : c_I M (n_wk M X 0) s := c_I_x (X := X) rfl rfl rfl rfl (fun p _ _ => by show (if p < 0 then n_wd M X p else Xw X p) = _; rw [if_neg (by omega)]) hI
  obtain ⟨s', fl, g1, g2, g3, g4, g5⟩ := c_wi fu hfu hW h hcr (ML M) 0 N1 s 0 (by omega) n1 hI0 hP (Or.inl rfl)
  refine ⟨s', fl, ?_, g2, g3, g4, ?_⟩
  · unfold f_LM_widenWhereNeeded
    rw [xw_jn_e, n2, g1, xw_grd_t g4]
  · rw [g5]
    exact ⟨fun z => z.elim (fun y => absurd y (by decide)) (fun ⟨p, _, z2⟩ => ⟨p, z2⟩), fun ⟨p, z2⟩ => Or.inr ⟨p, Nat.zero_le _, z2⟩⟩
def S_lo : Nat → Nat → Prop := fun i _ => i = 11 ∨ i = 14
theorem c_lo (fu : Nat) (hfu : 2000 ≤ fu) (hW : m_W M me) (h : n_ok M X) (hcr : ∀ p, p < ML M → 0 ≤ Mc M p ∧ Mc M p ≤ 255) {Kn : Nat} (hKL : Kn ≤ ML M) (hK : ∀ k, k < Kn → n_chg M (n_it M X k)) (hKn : ¬ n_chg M (n_it M X Kn)) : ∀ (dd k N : Nat) (s : xw_S), k + dd = Kn → dd < N → c_I M (n_it M X k) s → c_pl M (n_it M X k) s → ∃ s', (∀ K : xw_S → Option xw_S, lp_LM_layOut_6 fu K N s (k : Int) = K s') ∧ frm S_lo s s' ∧ c_I M (n_it M X Kn) s' ∧ c_pl M (n_it M X Kn) s' := by
  have hL := hW.1
  intro dd
  induction dd with
  | zero =>
    intro k N s hk hN hI hP
    obtain ⟨N, rfl⟩ : ∃ n', N = n' + 1 := ⟨N - 1, by omega⟩
    have ek : k = Kn := by omega
    subst ek
    obtain ⟨s1, fl, a1, a2, a3, a4, a5⟩ := q_wi fu hfu hW (n_ok_it h k) hcr hI hP
    have hfl : fl = 0 := by
      rcases a4 with z | z
      · exact z
      · exact absurd (a5.1 z) hKn
    subst hfl
    refine ⟨s1, fun K => ?_, frm_mono a2 (fun _ _ z => Or.inl z), ?_, ?_⟩
    · rw [lp_LM_layOut_6, xw_grd_t ⟨by omega, by omega⟩, xw_if_f (by omega), xw_bn2_e a1, xw_grd_t (by decide), xw_if_t rfl]
    · refine c_I_x (X := n_ws M (n_it M X k)) rfl rfl rfl rfl (fun p hp _ => ?_) a3
      show Xw (n_it M X k) p = n_wd M (n_it M X k) p
      rcases n_wd_1 (n_ok_it h k) p with z | z
      · rcases (n_ok_it h k).2.2.2.1 p with y | y
        · rw [z, y]
        · exfalso
          unfold n_wd at z
          rw [if_neg (fun u => by have := u.1; omega)] at z
          omega
      · rcases (n_ok_it h k).2.2.2.1 p with y | y
        · exact absurd ⟨p, hp, y, z⟩ hKn
        · rw [z, y.1]
    · exact ⟨fun p hp hb => by rw [a2.2 _ _ (by unfold S_11; omega)]; exact hP.1 p hp hb, fun p hp hb => by rw [a2.2 _ _ (by unfold S_11; omega)]; exact hP.2.1 p hp hb, by rw [a2.2 _ _ (by unfold S_11; omega)]; exact hP.2.2.1, fun z => by rw [a2.2 _ _ (by unfold S_11; omega), a2.2 _ _ (by unfold S_11; omega)]; exact hP.2.2.2 z⟩
  | succ dd ih =>
    intro k N s hk hN hI hP
    obtain ⟨N, rfl⟩ : ∃ n', N = n' + 1 := ⟨N - 1, by omega⟩
    obtain ⟨s1, fl, a1, a2, a3, a4, a5⟩ := q_wi fu hfu hW (n_ok_it h k) hcr hI hP
    have hfl : fl = 1 := a5.2 (hK k (by omega))
    subst hfl
    obtain ⟨s2, b1, b2, b3, b4⟩ := q_cp fu hfu (n_ok_ws (n_ok_it h k)) (by omega) a3 hcr
    obtain ⟨s', g1, g2, g3, g4⟩ := ih (k + 1) N s2 (by omega) (by omega) b3 b4
    refine ⟨s', fun K => ?_, frm_tr (frm_tr (frm_mono a2 (fun _ _ z => Or.inl z)) (frm_mono b2 (fun _ _ z => Or.inr z))) g2, g3, g4⟩
    rw [lp_LM_layOut_6, xw_grd_t ⟨by omega, by omega⟩, xw_if_f (by omega), xw_bn2_e a1, xw_grd_t (by decide), xw_if_f (by decide), xw_bnd_e b1, xw_let_e]
    exact g1 K
theorem q_lo (fu : Nat) (hfu : 2000 ≤ fu) (hW : m_W M me) (h : n_ok M X) (hcr : ∀ p, p < ML M → 0 ≤ Mc M p ∧ Mc M p ≤ 255) {Kn : Nat} (hKL : Kn ≤ ML M) (hK : ∀ k, k < Kn → n_chg M (n_it M X k)) (hKn : ¬ n_chg M (n_it M X Kn)) {s : xw_S} (hI : c_I M X s) : ∃ s', f_LM_layOut fu s = some s' ∧ frm S_lo s s' ∧ c_I M (n_it M X Kn) s' ∧ c_pl M (n_it M X Kn) s' := by
  have hL := hW.1
  obtain ⟨s1, a1, a2, a3, a4⟩ := q_cp fu hfu h (by omega) hI hcr
  obtain ⟨s', g1, g2, g3, g4⟩ := c_lo fu hfu hW h hcr hKL hK hKn Kn 0 fu s1 (by omega) (by omega) a3 a4
  have g1' : ∀ K : xw_S → Option xw_S, lp_LM_layOut_6 fu K fu s1 0 = K s' := g1
  refine ⟨s', ?_, frm_tr (frm_mono a2 (fun _ _ z => Or.inr z)) g2, g3, g4⟩
  unfold f_LM_layOut
  rw [xw_bnd_e a1, xw_jn_e, g1']
end
