/-! 88.g: planTrace and planCover -/
def i_n (M : m_M) (X : n_X) : Int := i_x M X (ML M) + (if Xc X = 0 then 2 else 0)
/-- all items stand -/
def c_I (M : m_M) (X : n_X) (s : xw_S) : Prop := (∀ p, p < ML M → m_bg (Mc M) p → c_i1 M X s p) ∧ s.1 15 (ML M) = i_x M X (ML M) ∧ s.1 10 7 = i_n M X ∧ (Xc X = 0 → (s.1 11 0 = 30 ∧ s.1 12 0 = 3 * Xt X ∧ s.1 13 0 = -1) ∧ (s.1 11 (i_x M X (ML M)).toNat = 30 ∧ s.1 12 (i_x M X (ML M)).toNat = 3 * Xt X + 2 ∧ s.1 13 (i_x M X (ML M)).toNat = -1) ∧ s.1 11 ((i_x M X (ML M)).toNat + 1) = 32 ∧ s.1 12 ((i_x M X (ML M)).toNat + 1) = 0 ∧ s.1 13 ((i_x M X (ML M)).toNat + 1) = -1)
def S_pl : Nat → Nat → Prop := fun i k => S_it i k ∨ i = 15 ∨ i = 16
section
variable {M : m_M} {X : n_X} {me : Int}
/-- one place planned -/
theorem c_step (fu : Nat) (hW : m_W M me) (h : n_ok M X) (hw : ∀ p, Xw X p = 0) {k : Nat} (hk : k < ML M) (hb : m_bg (Mc M) k) {s : xw_S} (hE : c_E M 12 s) (hn : s.1 10 7 = i_x M X k) (h15 : s.1 15 k = i_x M X k) (hc : ∀ p, p < k → m_bg (Mc M) p → c_i1 M X s p) (h00 : Xc X = 0 → s.1 11 0 = 30 ∧ s.1 12 0 = 3 * Xt X ∧ s.1 13 0 = -1) :
    (Xp X k = 0 → ∃ s', f_LM_addOldItem fu s (k : Int) = some s' ∧ frm S_it s s' ∧ s'.1 10 7 = i_x M X (k + 1) ∧ (∀ p, p < k + 1 → m_bg (Mc M) p → c_i1 M X s' p) ∧ (Xc X = 0 → s'.1 11 0 = 30 ∧ s'.1 12 0 = 3 * Xt X ∧ s'.1 13 0 = -1)) ∧
    (Xp X k = 1 → ∃ s1 s', f_LM_addItem fu s (n_pop X) (Xn X k) (-1) = some s1 ∧ f_LM_addOldItem fu s1 (k : Int) = some s' ∧ frm S_it s s1 ∧ frm S_it s s' ∧ s'.1 10 7 = i_x M X (k + 1) ∧ (∀ p, p < k + 1 → m_bg (Mc M) p → c_i1 M X s' p) ∧ (Xc X = 0 → s'.1 11 0 = 30 ∧ s'.1 12 0 = 3 * Xt X ∧ s'.1 13 0 = -1)) := by
  have hL := hW.1
  have r := i_x_r h k
  have l1 : i_x M X (k + 1) = i_x M X k + Xp X k + 1 := by rw [i_x, if_pos hb]
  have eop : n_op M X k = Mc M k := by unfold n_op; rw [hw k]; omega
  refine ⟨fun hp0 => ?_, fun hp1 => ?_⟩
  · obtain ⟨s', a1, a2, a3, a4, a5⟩ := q_addO fu hW hE hk hn (by omega) (by omega)
    have f15 : ∀ p, s'.1 15 p = s.1 15 p := fun p => a2.2 _ _ (by unfold S_it; omega)
    refine ⟨s', a1, a2, by rw [a3, l1, hp0]; omega, fun p hp hbp => ?_, fun z => ?_⟩
    · by_cases hpk : p = k
      · subst hpk
        refine ⟨by rw [f15]; exact h15, fun z => by omega, ?_, ?_, ?_⟩
        · rw [hp0, show i_x M X p + 0 = i_x M X p by omega, a4.1, eop]
        · rw [hp0, show i_x M X p + 0 = i_x M X p by omega]; exact a4.2.1
        · rw [hp0, show i_x M X p + 0 = i_x M X p by omega]; exact a4.2.2
      · exact c_i1_f h (k := k) hbp (by omega) (hc p (by omega) hbp) (f15 p) (fun i j i1 i2 hj => a5 i j i1 i2 (by omega))
    · have := r.2.2 z
      rw [a5 11 0 (by omega) (by omega) (by omega), a5 12 0 (by omega) (by omega) (by omega), a5 13 0 (by omega) (by omega) (by omega)]
      exact h00 z
  · obtain ⟨s1, b1, b2, b3, b4, b5⟩ := q_addI fu hn (by omega) (by omega) (n_pop X) (Xn X k) (-1)
    obtain ⟨s', a1, a2, a3, a4, a5⟩ := q_addO fu hW (c_E_it hE b2 (fun i k z => by unfold S_it at z; omega)) hk b3 (by omega) (by omega)
    have f15 : ∀ p, s'.1 15 p = s.1 15 p := fun p => by rw [a2.2 _ _ (by unfold S_it; omega), b2.2 _ _ (by unfold S_it; omega)]
    refine ⟨s1, s', b1, a1, b2, frm_tr b2 a2, by rw [a3, l1, hp1], fun p hp hbp => ?_, fun z => ?_⟩
    · by_cases hpk : p = k
      · subst hpk
        refine ⟨by rw [f15]; exact h15, fun z => ?_, ?_, ?_, ?_⟩
        · rw [a5 11 _ (by omega) (by omega) (by omega), a5 12 _ (by omega) (by omega) (by omega), a5 13 _ (by omega) (by omega) (by omega)]
          exact b4
        · rw [hp1, a4.1, eop]
        · rw [hp1]; exact a4.2.1
        · rw [hp1]; exact a4.2.2
      · exact c_i1_f h (k := k) hbp (by omega) (hc p (by omega) hbp) (f15 p) (fun i j i1 i2 hj => by rw [a5 i j i1 i2 (by omega), b5 i j i1 i2 (by omega)])
    · have := r.2.2 z
      rw [a5 11 0 (by omega) (by omega) (by omega), a5 12 0 (by omega) (by omega) (by omega), a5 13 0 (by omega) (by omega) (by omega), b5 11 0 (by omega) (by omega) (by omega), b5 12 0 (by omega) (by omega) (by omega), b5 13 0 (by omega) (by omega) (by omega)]
      exact h00 z
/-- the place is noted first -/
theorem c_note (h : n_ok M X) {k : Nat} {s : xw_S} (hn : s.1 10 7 = i_x M X k) (hc : ∀ p, p < k → m_bg (Mc M) p → c_i1 M X s p) : (xw_st s 15 k (i_x M X k)).1 10 7 = i_x M X k ∧ (xw_st s 15 k (i_x M X k)).1 15 k = i_x M X k ∧ ∀ p, p < k → m_bg (Mc M) p → c_i1 M X (xw_st s 15 k (i_x M X k)) p := by
  refine ⟨by rw [st_i (by decide)]; exact hn, st_s _ _ _ _, fun p hp hb => ?_⟩
  exact c_i1_f h (k := k) hb hp (hc p hp hb) (st_k (by omega)) (fun i j i1 i2 _ => st_i (by omega))
theorem c_tr12 (fu : Nat) (hW : m_W M me) (h : n_ok M X) (hw : ∀ p, Xw X p = 0) (hcv : Xc X = 0) (hXp : Xp X = l_pu M 0) (hXn : ∀ p, Xn X p = 3 * Xt X + 1) : ∀ (dd k N : Nat) (s : xw_S), k + dd = ML M → dd < N → c_E M 12 s → s.1 10 7 = i_x M X k → (∀ p, p < k → m_bg (Mc M) p → c_i1 M X s p) → (s.1 11 0 = 30 ∧ s.1 12 0 = 3 * Xt X ∧ s.1 13 0 = -1) → ∃ s', (∀ K : xw_S → Option xw_S, lp_LM_planTrace_12 fu (Xt X) K N s (k : Int) = K s') ∧ frm S_pl s s' ∧ s'.1 10 7 = i_x M X (ML M) ∧ (∀ p, p < ML M → m_bg (Mc M) p → c_i1 M X s' p) ∧ (s'.1 11 0 = 30 ∧ s'.1 12 0 = 3 * Xt X ∧ s'.1 13 0 = -1) := by
  have hL := hW.1
  have ht := h.2.1
  intro dd
  induction dd with
  | zero =>
    intro k N s hk hN hE hn hc h00
    obtain ⟨N, rfl⟩ : ∃ n', N = n' + 1 := ⟨N - 1, by omega⟩
    have hlen : s.1 (48 + 4 * 12) 8 = (ML M : Int) := hE.1.1.2.2.1
    have e : k = ML M := by omega
    subst e
    exact ⟨s, fun K => by rw [lp_LM_planTrace_12, hlen, xw_grd_t ⟨⟨by omega, by omega⟩, ⟨by omega, by omega⟩⟩, xw_if_t (by omega)], frm_rf _ _, hn, hc, h00⟩
  | succ dd ih =>
    intro k N s hk hN hE hn hc h00
    obtain ⟨N, rfl⟩ : ∃ n', N = n' + 1 := ⟨N - 1, by omega⟩
    have hlen : s.1 (48 + 4 * 12) 8 = (ML M : Int) := hE.1.1.2.2.1
    have hck := hE.1.1.2.2.2.2 k (by omega)
    by_cases hb : m_bg (Mc M) k
    · obtain ⟨n1, n2, n3⟩ := c_note h hn hc
      have fz : frm S_pl s (xw_st s 15 k (i_x M X k)) := frm_st (Or.inr (Or.inl rfl))
      have hEz := c_E_it hE fz (fun i k z => by unfold S_pl S_it at z; omega)
      have h00z : Xc X = 0 → (xw_st s 15 k (i_x M X k)).1 11 0 = 30 ∧ (xw_st s 15 k (i_x M X k)).1 12 0 = 3 * Xt X ∧ (xw_st s 15 k (i_x M X k)).1 13 0 = -1 := fun _ => by
        rw [st_i (by decide), st_i (by decide), st_i (by decide)]; exact h00
      obtain ⟨st0, st1⟩ := c_step fu hW h hw (show k < ML M by omega) hb hEz n1 n2 n3 h00z
      by_cases h14 : Mc M k = 14
      · have hp1 : Xp X k = 1 := by rw [hXp]; unfold l_pu l_tr; rw [if_pos rfl, if_pos ⟨by omega, hb, h14⟩]
        obtain ⟨s1, s2, a1, a2, a3, a4, a5, a6, a7⟩ := st1 hp1
        obtain ⟨s', g1, g2, g3⟩ := ih (k + 1) N s2 (by omega) (by omega) (c_E_it hEz a4 (fun i k z => by unfold S_it at z; omega)) a5 a6 (a7 hcv)
        refine ⟨s', fun K => ?_, frm_tr (frm_tr fz (frm_mono a4 (fun _ _ z => Or.inl z))) g2, g3⟩
        have epop : n_pop X = 30 := by unfold n_pop; rw [if_pos hcv]
        rw [epop, hXn] at a1
        rw [lp_LM_planTrace_12, hlen, xw_grd_t ⟨⟨by omega, by omega⟩, ⟨by omega, by omega⟩⟩, xw_if_f (by omega), xw_bn2_e (q_beg fu hE (by omega)), xw_jn_e, if_pos hb, xw_grd_t (by decide), xw_if_f (by decide), xw_grd_t (by omega), xw_let_e, Int.toNat_natCast, hn, xw_bn2_e (q_byteAt fu hEz.1.1 ⟨by omega, by omega⟩), m_at_in (by omega), xw_jn_e, xw_grd_t ⟨by omega, by omega⟩, xw_if_t h14, xw_bnd_e a1]
        dsimp only
        rw [xw_bnd_e a2, xw_let_e]
        exact g1 K
      · have hp0 : Xp X k = 0 := by rw [hXp]; unfold l_pu l_tr; rw [if_pos rfl, if_neg (fun z => h14 z.2.2)]
        obtain ⟨s2, a2, a4, a5, a6, a7⟩ := st0 hp0
        obtain ⟨s', g1, g2, g3⟩ := ih (k + 1) N s2 (by omega) (by omega) (c_E_it hEz a4 (fun i k z => by unfold S_it at z; omega)) a5 a6 (a7 hcv)
        refine ⟨s', fun K => ?_, frm_tr (frm_tr fz (frm_mono a4 (fun _ _ z => Or.inl z))) g2, g3⟩
        rw [lp_LM_planTrace_12, hlen, xw_grd_t ⟨⟨by omega, by omega⟩, ⟨by omega, by omega⟩⟩, xw_if_f (by omega), xw_bn2_e (q_beg fu hE (by omega)), xw_jn_e, if_pos hb, xw_grd_t (by decide), xw_if_f (by decide), xw_grd_t (by omega), xw_let_e, Int.toNat_natCast, hn, xw_bn2_e (q_byteAt fu hEz.1.1 ⟨by omega, by omega⟩), m_at_in (by omega), xw_jn_e, xw_grd_t ⟨by omega, by omega⟩, xw_if_f h14]
        dsimp only
        rw [xw_bnd_e a2, xw_let_e]
        exact g1 K
    · obtain ⟨s', g1, g2, g3⟩ := ih (k + 1) N s (by omega) (by omega) hE (by rw [hn, i_x, if_neg hb]) (fun p hp hbp => by
        by_cases hpk : p = k
        · subst hpk; exact absurd hbp hb
        · exact hc p (by omega) hbp) h00
      refine ⟨s', fun K => ?_, g2, g3⟩
      rw [lp_LM_planTrace_12, hlen, xw_grd_t ⟨⟨by omega, by omega⟩, ⟨by omega, by omega⟩⟩, xw_if_f (by omega), xw_bn2_e (q_beg fu hE (by omega)), xw_jn_e, if_neg hb, xw_grd_t (by decide), xw_if_t rfl]
      exact g1 K
theorem c_cv8 (fu : Nat) (hW : m_W M me) (h : n_ok M X) (hw : ∀ p, Xw X p = 0) (hcv : Xc X = 1) (hXp : Xp X = l_pu M 1) (hXn : ∀ p, Xn X p = l_nb M 1 p) : ∀ (dd k N : Nat) (s : xw_S), k + dd = ML M → dd < N → c_E M 12 s → s.1 10 7 = i_x M X k → (∀ p, p < k → m_bg (Mc M) p → c_i1 M X s p) → (∀ p, p < 121 → s.1 16 p = l_lh M (MN M) p) → ∃ s', (∀ K : xw_S → Option xw_S, lp_LM_planCover_8 fu K N s (l_nb M 1 k) (k : Int) = K s') ∧ frm S_pl s s' ∧ s'.1 10 7 = i_x M X (ML M) ∧ ∀ p, p < ML M → m_bg (Mc M) p → c_i1 M X s' p := by
  have hL := hW.1
  intro dd
  induction dd with
  | zero =>
    intro k N s hk hN hE hn hc h16
    obtain ⟨N, rfl⟩ : ∃ n', N = n' + 1 := ⟨N - 1, by omega⟩
    have hlen : s.1 (48 + 4 * 12) 8 = (ML M : Int) := hE.1.1.2.2.1
    have e : k = ML M := by omega
    subst e
    exact ⟨s, fun K => by rw [lp_LM_planCover_8, hlen, xw_grd_t ⟨⟨by omega, by omega⟩, ⟨by omega, by omega⟩⟩, xw_if_t (by omega)], frm_rf _ _, hn, hc⟩
  | succ dd ih =>
    intro k N s hk hN hE hn hc h16
    obtain ⟨N, rfl⟩ : ∃ n', N = n' + 1 := ⟨N - 1, by omega⟩
    have hlen : s.1 (48 + 4 * 12) 8 = (ML M : Int) := hE.1.1.2.2.1
    by_cases hb : m_bg (Mc M) k
    · obtain ⟨n1, n2, n3⟩ := c_note h hn hc
      have fz : frm S_pl s (xw_st s 15 k (i_x M X k)) := frm_st (Or.inr (Or.inl rfl))
      have hEz := c_E_it hE fz (fun i k z => by unfold S_pl S_it at z; omega)
      have h16k : (xw_st s 15 k (i_x M X k)).1 16 k = Xp X k := by rw [st_i (by decide), h16 k (by omega), hXp]; unfold l_pu; rw [if_neg (by decide)]
      obtain ⟨st0, st1⟩ := c_step fu hW h hw (show k < ML M by omega) hb hEz n1 n2 n3 (fun z => by omega)
      have h16' : ∀ z : xw_S, frm S_it (xw_st s 15 k (i_x M X k)) z → ∀ p, p < 121 → z.1 16 p = l_lh M (MN M) p := fun z hz p hp => by rw [hz.2 _ _ (by unfold S_it; omega), st_i (by decide)]; exact h16 p hp
      rcases h.2.2.1 k with hp0 | hp1
      · obtain ⟨s2, a2, a4, a5, a6, a7⟩ := st0 hp0
        obtain ⟨s', g1, g2, g3⟩ := ih (k + 1) N s2 (by omega) (by omega) (c_E_it hEz a4 (fun i k z => by unfold S_it at z; omega)) a5 a6 (h16' s2 a4)
        refine ⟨s', fun K => ?_, frm_tr (frm_tr fz (frm_mono a4 (fun _ _ z => Or.inl z))) g2, g3⟩
        have hn1 : l_nb M 1 (k + 1) = l_nb M 1 k := by rw [l_nb, if_neg (fun z => by rw [← hXp] at z; have := z.2; omega)]; omega
        rw [lp_LM_planCover_8, hlen, xw_grd_t ⟨⟨by omega, by omega⟩, ⟨by omega, by omega⟩⟩, xw_if_f (by omega), xw_bn2_e (q_beg fu hE (by omega)), xw_jn_e, if_pos hb, xw_grd_t (by decide), xw_if_f (by decide), xw_grd_t (by omega), xw_let_e, Int.toNat_natCast, hn, xw_jn_e, h16k, hp0, xw_grd_t (by decide), xw_if_t rfl]
        dsimp only
        rw [xw_bnd_e a2, xw_let_e]
        have := g1 K
        rw [hn1] at this
        exact this
      · obtain ⟨s1, s2, a1, a2, a3, a4, a5, a6, a7⟩ := st1 hp1
        obtain ⟨s', g1, g2, g3⟩ := ih (k + 1) N s2 (by omega) (by omega) (c_E_it hEz a4 (fun i k z => by unfold S_it at z; omega)) a5 a6 (h16' s2 a4)
        refine ⟨s', fun K => ?_, frm_tr (frm_tr fz (frm_mono a4 (fun _ _ z => Or.inl z))) g2, g3⟩
        have epop : n_pop X = 31 := by unfold n_pop; rw [if_neg (by omega)]
        have hn1 : l_nb M 1 (k + 1) = l_nb M 1 k + 1 := by rw [l_nb, if_pos ⟨hb, by rw [← hXp]; exact hp1⟩]
        rw [epop, hXn] at a1
        rw [lp_LM_planCover_8, hlen, xw_grd_t ⟨⟨by omega, by omega⟩, ⟨by omega, by omega⟩⟩, xw_if_f (by omega), xw_bn2_e (q_beg fu hE (by omega)), xw_jn_e, if_pos hb, xw_grd_t (by decide), xw_if_f (by decide), xw_grd_t (by omega), xw_let_e, Int.toNat_natCast, hn, xw_jn_e, h16k, hp1, xw_grd_t (by decide), xw_if_f (by decide), xw_bnd_e a1, xw_let_e]
        dsimp only
        rw [xw_bnd_e a2, xw_let_e]
        have := g1 K
        rw [hn1] at this
        exact this
    · obtain ⟨s', g1, g2, g3⟩ := ih (k + 1) N s (by omega) (by omega) hE (by rw [hn, i_x, if_neg hb]) (fun p hp hbp => by
        by_cases hpk : p = k
        · subst hpk; exact absurd hbp hb
        · exact hc p (by omega) hbp) h16
      refine ⟨s', fun K => ?_, g2, g3⟩
      have hn1 : l_nb M 1 (k + 1) = l_nb M 1 k := by rw [l_nb, if_neg (fun z => hb z.1)]; omega
      rw [lp_LM_planCover_8, hlen, xw_grd_t ⟨⟨by omega, by omega⟩, ⟨by omega, by omega⟩⟩, xw_if_f (by omega), xw_bn2_e (q_beg fu hE (by omega)), xw_jn_e, if_neg hb, xw_grd_t (by decide), xw_if_t rfl]
      have := g1 K
      rw [hn1] at this
      exact this
theorem q_planT (fu : Nat) (hfu : 2000 ≤ fu) (hW : m_W M me) (h : n_ok M X) (hw : ∀ p, Xw X p = 0) (hcv : Xc X = 0) (hXp : Xp X = l_pu M 0) (hXn : ∀ p, Xn X p = 3 * Xt X + 1) {s : xw_S} (hE : c_E M 12 s) (hn : s.1 10 7 = 0) : ∃ s', f_LM_planTrace fu s (Xt X) = some s' ∧ frm S_pl s s' ∧ c_I M X s' := by
  have hL := hW.1
  obtain ⟨s1, a1, a2, a3, a4, a5⟩ := q_addI fu hn (by omega) (by omega) 30 (3 * Xt X) (-1)
  have hE1 := c_E_it hE a2 (fun i k z => by unfold S_it at z; omega)
  have e0 : i_x M X 0 = 1 := by rw [i_x, if_pos hcv]
  obtain ⟨s2, b1, b2, b3, b4, b5⟩ := c_tr12 fu hW h hw hcv hXp hXn (ML M) 0 fu s1 (by omega) (by omega) hE1 (by rw [a3, e0]; omega) (fun p hp => by omega) a4
  have b1' : ∀ K : xw_S → Option xw_S, lp_LM_planTrace_12 fu (Xt X) K fu s1 0 = K s2 := b1
  have hlen : s2.1 (48 + 4 * 12) 8 = (ML M : Int) := by rw [b2.2 _ _ (by unfold S_pl S_it; omega)]; exact hE1.1.1.2.2.1
  have r := i_x_r h (ML M)
  have r1 := r.2.2 hcv
  have f3 : frm S_pl s2 (xw_st s2 15 (ML M) (i_x M X (ML M))) := frm_st (Or.inr (Or.inl rfl))
  obtain ⟨s4, d1, d2, d3, d4, d5⟩ := q_addI fu (s := xw_st s2 15 (ML M) (i_x M X (ML M))) (n := i_x M X (ML M)) (by rw [st_i (by decide)]; exact b3) (by omega) (by omega) 30 (3 * Xt X + 2) (-1)
  obtain ⟨s5, e1, e2, e3, e4, e5⟩ := q_addI fu d3 (by omega) (by omega) 32 0 (-1)
  refine ⟨s5, ?_, frm_tr (frm_tr (frm_tr (frm_tr (frm_mono a2 (fun _ _ z => Or.inl z)) b2) f3) (frm_mono d2 (fun _ _ z => Or.inl z))) (frm_mono e2 (fun _ _ z => Or.inl z)), fun p hp hb => ?_, ?_, ?_, fun _ => ⟨?_, ?_, ?_⟩⟩
  · unfold f_LM_planTrace
    rw [xw_bnd_e a1, xw_jn_e, b1', hlen, xw_grd_t (by omega), xw_let_e, Int.toNat_natCast, b3, xw_bnd_e d1, xw_bnd_e e1]
  · refine c_i1_f h (k := ML M) hb hp (b4 p hp hb) ?_ (fun i j i1 i2 hj => ?_)
    · rw [e2.2 _ _ (by unfold S_it; omega), d2.2 _ _ (by unfold S_it; omega), st_k (by omega)]
    · rw [e5 i j i1 i2 (by omega), d5 i j i1 i2 (by omega), st_i (by omega)]
  · rw [e2.2 _ _ (by unfold S_it; omega), d2.2 _ _ (by unfold S_it; omega), st_s]
  · rw [e3]; unfold i_n; rw [if_pos hcv]; omega
  · rw [e5 11 0 (by omega) (by omega) (by omega), e5 12 0 (by omega) (by omega) (by omega), e5 13 0 (by omega) (by omega) (by omega), d5 11 0 (by omega) (by omega) (by omega), d5 12 0 (by omega) (by omega) (by omega), d5 13 0 (by omega) (by omega) (by omega), st_i (by decide), st_i (by decide), st_i (by decide)]
    exact b5
  · rw [e5 11 _ (by omega) (by omega) (by omega), e5 12 _ (by omega) (by omega) (by omega), e5 13 _ (by omega) (by omega) (by omega)]
    exact d4
  · rw [show (i_x M X (ML M)).toNat + 1 = (i_x M X (ML M) + 1).toNat by omega]
    exact e4
theorem q_planC (fu : Nat) (hfu : 2000 ≤ fu) (hW : m_W M me) (h : n_ok M X) (hw : ∀ p, Xw X p = 0) (hcv : Xc X = 1) (hXp : Xp X = l_pu M 1) (hXn : ∀ p, Xn X p = l_nb M 1 p) {s : xw_S} (hE : c_E M 12 s) (hn : s.1 10 7 = 0) : ∃ s', f_LM_planCover fu s = some s' ∧ frm S_pl s s' ∧ c_I M X s' := by
  have hL := hW.1
  obtain ⟨s1, a1, a2, a3⟩ := q_fl fu hfu hW hE
  have hE1 := c_E_16 hE a2
  have e0 : i_x M X 0 = 0 := by rw [i_x, if_neg (by omega)]
  obtain ⟨s2, b1, b2, b3, b4⟩ := c_cv8 fu hW h hw hcv hXp hXn (ML M) 0 fu s1 (by omega) (by omega) hE1 (by rw [e0, a2.2 _ _ (by unfold S_16; omega)]; exact hn) (fun p hp => by omega) a3
  have b1' : ∀ K : xw_S → Option xw_S, lp_LM_planCover_8 fu K fu s1 0 0 = K s2 := b1
  have hlen : s2.1 (48 + 4 * 12) 8 = (ML M : Int) := by rw [b2.2 _ _ (by unfold S_pl S_it; omega)]; exact hE1.1.1.2.2.1
  refine ⟨xw_st s2 15 (ML M) (i_x M X (ML M)), ?_, frm_tr (frm_tr (frm_mono a2 (fun _ _ z => Or.inr (Or.inr z))) b2) (frm_st (Or.inr (Or.inl rfl))), fun p hp hb => ?_, st_s _ _ _ _, ?_, fun z => by omega⟩
  · unfold f_LM_planCover
    rw [xw_bnd_e a1, xw_jn_e, b1', hlen, xw_grd_t (by omega), xw_let_e, Int.toNat_natCast, b3]
  · exact c_i1_f h (k := ML M) hb hp (b4 p hp hb) (st_k (by omega)) (fun i j i1 i2 hj => st_i (by omega))
  · rw [st_i (by decide), b3]; unfold i_n; rw [if_neg (by omega)]; omega
end
