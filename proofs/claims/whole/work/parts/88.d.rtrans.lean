/-! 88.d: the reference's transform -/
def l_nb (M : m_M) (cv : Int) : Nat → Int
  | 0 => 0
  | p + 1 => l_nb M cv p + (if m_bg (Mc M) p ∧ l_pu M cv p = 1 then 1 else 0)
theorem l_nb_r (M : m_M) (cv : Int) : ∀ p : Nat, 0 ≤ l_nb M cv p ∧ l_nb M cv p ≤ (p : Int)
  | 0 => by unfold l_nb; omega
  | p + 1 => by
    have := l_nb_r M cv p
    unfold l_nb
    split <;> omega
def n_X0 (M : m_M) (cv t : Int) : n_X := (cv, t, l_pu M cv, (fun p => if cv = 0 then 3 * t + 1 else l_nb M cv p), fun _ => 0)
theorem l_pu_r (M : m_M) (cv : Int) (p : Nat) : l_pu M cv p = 0 ∨ l_pu M cv p = 1 := by
  unfold l_pu l_tr
  split
  · split
    · exact Or.inr rfl
    · exact Or.inl rfl
  · exact l_lh_r M _ p
theorem n_ok0 {M : m_M} {cv t : Int} (hcv : cv = 0 ∨ cv = 1) (ht : 0 ≤ t ∧ t ≤ 2) (hL : ML M ≤ 120) : n_ok M (n_X0 M cv t) := by
  refine ⟨hcv, ht, l_pu_r M cv, fun p => Or.inl rfl, fun p hp => ?_⟩
  show 0 ≤ (if cv = 0 then 3 * t + 1 else l_nb M cv p) ∧ (if cv = 0 then 3 * t + 1 else l_nb M cv p) ≤ 255
  have := l_nb_r M cv p
  split <;> omega
def n_c1 (M : m_M) (X : n_X) (c : Nat → Int) (p : Nat) : Prop := (Xp X p = 1 → c (n_ld M X p).toNat = n_pop X ∧ c ((n_ld M X p).toNat + 1) = Xn X p) ∧ n_c2 M X c p
theorem n_c1_c {M : m_M} {X : n_X} {me : Int} (hW : m_W M me) (h : n_ok M X) {c c' : Nat → Int} {p : Nat} (hp : p < ML M) (hb : m_bg (Mc M) p) (hc : ∀ j : Nat, (j : Int) < n_ld M X (p + 1) → c' j = c j) (h1 : n_c1 M X c p) : n_c1 M X c' p := by
  have hin := m_in hW.2.2.1 hp hb
  have hl1 : n_ld M X (p + 1) = n_ow M X p + q_sz (Mc M p) + Xw X p := by rw [n_ld, if_pos hb]; rfl
  have h0 := n_ld_0 h p
  have hpp := h.2.2.1 p
  have how : n_ow M X p = n_ld M X p + 2 * Xp X p := rfl
  have hsz := n_op_sz h p
  have hw0 : 0 ≤ Xw X p := by
    rcases h.2.2.2.1 p with z | z
    · omega
    · have := z.1
      omega
  obtain ⟨a1, a2, a3, a4⟩ := h1
  refine ⟨fun z => ?_, ?_, fun z => ⟨fun y => ?_, fun y => ?_⟩, fun z i i1 i2 => ?_⟩
  · rw [hc _ (by omega), hc _ (by omega)]; exact a1 z
  · rw [hc _ (by omega)]; exact a2
  · have z3 : q_sz (n_op M X p) = 3 := by
      have hn : n_op M X p = 20 ∨ n_op M X p = 21 ∨ n_op M X p = 22 := by
        unfold q_wb at y
        omega
      rcases hn with e | e | e <;> rw [e] <;> decide
    rw [hc _ (by omega), hc _ (by omega)]
    exact (a3 z).1 y
  · have z2 : 2 ≤ q_sz (n_op M X p) := by
      have z' := (n_op_f h p).2.2.1.2 z
      have hn : n_op M X p = 10 ∨ n_op M X p = 11 ∨ n_op M X p = 12 ∨ n_op M X p = 20 ∨ n_op M X p = 21 ∨ n_op M X p = 22 := by
        unfold q_br q_sb q_wb at z'
        omega
      rcases hn with e | e | e | e | e | e <;> rw [e] <;> decide
    rw [hc _ (by omega)]
    exact (a3 z).2 y
  · rw [hc _ (by omega)]
    exact a4 z i i1 i2
/-- what stands while the reference emits -/
def r_Z (M : m_M) (X : n_X) (q t : Nat) (s : xw_S) : Prop := r_C M q s ∧ r_P M X s ∧ (∀ p, p < ML M → s.1 17 p = Xp X p) ∧ (∀ p, p < ML M → s.1 18 p = Xw X p) ∧ s.1 10 t = Xc X
theorem r_Z_em {M : m_M} {X : n_X} {q t : Nat} {s s' : xw_S} (h : r_Z M X q t s) (hf : frm S_em s s') : r_Z M X q t s' := by
  obtain ⟨h1, h2, h3, h4, h5⟩ := h
  refine ⟨r_C_em h1 hf, fun p hp hb => ?_, fun p hp => ?_, fun p hp => ?_, ?_⟩
  · rw [hf.2 _ _ (by unfold S_em; omega), hf.2 _ _ (by unfold S_em; omega)]; exact h2 p hp hb
  · rw [hf.2 _ _ (by unfold S_em; omega)]; exact h3 p hp
  · rw [hf.2 _ _ (by unfold S_em; omega)]; exact h4 p hp
  · rw [hf.2 _ _ (by unfold S_em; omega)]; exact h5
theorem r_t156 (fu : Nat) (hfu : 1000 ≤ fu) {M : m_M} {X : n_X} {me : Int} {cv : Int} (hW : m_W M me) (h : n_ok M X) (hcv : Xc X = cv) (hXp : Xp X = l_pu M cv) (hXn : Xn X = fun p => if cv = 0 then 3 * Xt X + 1 else l_nb M cv p) {q t : Nat} (ht : t < 3) (htX : Xt X = (t : Int)) (hLd : n_ld M X (ML M) ≤ 120) (c4 : Int) : ∀ (dd k N : Nat) (s : xw_S), k + dd = ML M → dd < N → r_Z M X q t s → r_m s (n_ld M X k) → (∀ p, p < k → m_bg (Mc M) p → n_c1 M X (s.1 21) p) → (cv = 0 → s.1 21 0 = 30 ∧ s.1 21 1 = 3 * Xt X) → ∃ s', (∀ K : xw_S → Int → Option (xw_S × Int), lp_MD_transform_156 fu (q : Int) (t : Int) c4 K N s (l_nb M cv k) (k : Int) = K s' c4) ∧ frm S_em s s' ∧ r_m s' (n_ld M X (ML M)) ∧ (∀ p, p < ML M → m_bg (Mc M) p → n_c1 M X (s'.1 21) p) ∧ (cv = 0 → s'.1 21 0 = 30 ∧ s'.1 21 1 = 3 * Xt X) := by
  have hL := hW.1
  intro dd
  induction dd with
  | zero =>
    intro k N s hk hN hZ hm hc1 hpre
    obtain ⟨N, rfl⟩ : ∃ n', N = n' + 1 := ⟨N - 1, by omega⟩
    have hB := hZ.1.1.1
    have hq := hB.1
    refine ⟨s, fun K => ?_, frm_rf _ _, by rw [← show k = ML M by omega]; exact hm, fun p hp => hc1 p (by omega), hpre⟩
    rw [lp_MD_transform_156, xw_grd_t (by omega), Int.toNat_natCast, hB.2.2.1, xw_grd_t ⟨⟨by omega, by omega⟩, ⟨by omega, by omega⟩⟩, xw_if_t (by omega)]
  | succ dd ih =>
    intro k N s hk hN hZ hm hc1 hpre
    obtain ⟨N, rfl⟩ : ∃ n', N = n' + 1 := ⟨N - 1, by omega⟩
    have hB := hZ.1.1.1
    have hq := hB.1
    have h14 := hZ.1.2 k (by omega)
    have h17 := hZ.2.2.1 k (by omega)
    have h10 := hZ.2.2.2.2
    have hcvr := h.1
    have hld0 := n_ld_0 h k
    have hmono : ∀ p, p < k → n_ld M X (p + 1) ≤ n_ld M X k := fun p hp => n_ld_le h (by omega)
    by_cases hb : m_bg (Mc M) k
    · rw [if_pos hb] at h14
      have hin := m_in hW.2.2.1 (by omega) hb
      have hl1 : n_ld M X (k + 1) = n_ow M X k + q_sz (Mc M k) + Xw X k := by rw [n_ld, if_pos hb]; rfl
      have hle := n_ld_le h (p := k + 1) (q := ML M) (by omega)
      have how : n_ow M X k = n_ld M X k + 2 * Xp X k := rfl
      have hw0 : 0 ≤ Xw X k := by
        rcases h.2.2.2.1 k with z | z
        · omega
        · have := z.1
          omega
      -- the instruction itself
      have one : ∀ (z : xw_S) (i5 : Int), frm S_em s z → r_m z (n_ow M X k) → (∀ j : Nat, (j : Int) < n_ld M X k → z.1 21 j = s.1 21 j) → (Xp X k = 1 → z.1 21 (n_ld M X k).toNat = n_pop X ∧ z.1 21 ((n_ld M X k).toNat + 1) = Xn X k) → i5 = l_nb M cv (k + 1) → ∃ s', (∀ K : xw_S → Int → Option (xw_S × Int), jb_MD_transform_233 fu (q : Int) (lp_MD_transform_156 fu (q : Int) (t : Int) c4 K N) z i5 (k : Int) = K s' c4) ∧ frm S_em s s' ∧ r_m s' (n_ld M X (ML M)) ∧ (∀ p, p < ML M → m_bg (Mc M) p → n_c1 M X (s'.1 21) p) ∧ (cv = 0 → s'.1 21 0 = 30 ∧ s'.1 21 1 = 3 * Xt X) := by
        intro z i5 hf hmz hold hput hi5
        have hZz := r_Z_em hZ hf
        obtain ⟨z1, a1, a2, a3, a4, a5⟩ := q_emit1 fu hfu hW h hZz.1 hZz.2.1 hZz.2.2.2.1 hLd (p := k) (by omega) hb hmz
        have hk1 : n_c1 M X (z1.1 21) k := by
          refine ⟨fun y => ?_, a5⟩
          rw [a4 _ (by omega), a4 _ (by omega)]
          exact hput y
        obtain ⟨s', g1, g2, g3, g4, g5⟩ := ih (k + 1) N z1 (by omega) (by omega) (r_Z_em hZz a2) a3 (fun p hp hbp => by
          by_cases hpk : p = k
          · subst hpk; exact hk1
          · have := hmono p (by omega)
            exact n_c1_c hW h (by omega) hbp (fun j hj => by rw [a4 j (by have := h.2.2.1 k; omega), hold j (by omega)]) (hc1 p (by omega) hbp)) (fun y => by
          have hp2 : n_pre X = 2 := by unfold n_pre; rw [hcv, if_pos y]
          have hp3 := (n_ld_0 h k).1
          have := h.2.2.1 k
          rw [a4 _ (by omega), a4 _ (by omega), hold _ (by omega), hold _ (by omega)]
          exact hpre y)
        refine ⟨s', fun K => ?_, frm_tr (frm_tr hf a2) g2, g3, g4, g5⟩
        have z14 := hZz.1.2 k (by omega)
        rw [if_pos hb] at z14
        unfold jb_MD_transform_233
        rw [xw_grd_t (by omega), xw_jn_e, Int.toNat_natCast, z14, xw_grd_t (by decide), xw_if_f (by decide), xw_bnd_e a1, hi5]
        exact g1 K
      rcases h.2.2.1 k with hp0 | hp1
      · obtain ⟨s', g1, g2⟩ := one s (l_nb M cv k) (frm_rf _ _) (by rw [how, hp0, show n_ld M X k + 2 * 0 = n_ld M X k by omega]; exact hm) (fun j _ => rfl) (fun y => by omega) (by rw [l_nb, if_neg (fun y => by rw [← hXp] at y; have := y.2; omega)]; omega)
        refine ⟨s', fun K => ?_, g2⟩
        rw [lp_MD_transform_156, xw_grd_t (by omega), Int.toNat_natCast, hB.2.2.1, xw_grd_t ⟨⟨by omega, by omega⟩, ⟨by omega, by omega⟩⟩, xw_if_f (by omega), xw_grd_t (by omega), xw_jn_e, Int.toNat_natCast, h14, xw_grd_t (by decide), xw_if_f (by decide), h17, hp0, xw_grd_t (by decide), xw_if_t rfl]
        exact g1 K
      · have hXnk := h.2.2.2.2 k (by omega)
        obtain ⟨z1, a1, a2, a3, a4, a5⟩ := q_emit fu hm (by omega) (n_pop X)
        obtain ⟨z2, b1, b2, b3, b4, b5⟩ := q_emit fu a3 (by omega) (Xn X k)
        have hpopr : n_pop X = 30 ∨ n_pop X = 31 := by
          unfold n_pop
          split
          · exact Or.inl rfl
          · exact Or.inr rfl
        obtain ⟨s', g1, g2⟩ := one z2 (l_nb M cv k + 1) (frm_tr a2 b2) (by rw [how, hp1, show n_ld M X k + 2 * 1 = n_ld M X k + 1 + 1 by omega]; exact b3) (fun j hj => by rw [b5 j (by omega), a5 j (by omega)]) (fun _ => by
          refine ⟨?_, ?_⟩
          · rw [b5 _ (by omega), a4, z_e1' (by omega) (by omega)]
            omega
          · rw [show (n_ld M X k).toNat + 1 = (n_ld M X k + 1).toNat by omega, b4, z_e1' (by omega) (by omega)]
            omega) (by rw [l_nb, if_pos ⟨hb, by rw [← hXp]; exact hp1⟩])
        refine ⟨s', fun K => ?_, g2⟩
        have z10 : z1.1 10 t = Xc X := by rw [a2.2 _ _ (by unfold S_em; omega)]; exact h10
        have e204 : jb_MD_transform_204 fu (t : Int) (jb_MD_transform_233 fu (q : Int) (lp_MD_transform_156 fu (q : Int) (t : Int) c4 K N)) s (l_nb M cv k) (k : Int) (n_pop X) = K s' c4 := by
          unfold jb_MD_transform_204
          rw [xw_bnd_e a1, xw_grd_t (by omega), xw_jn_e, Int.toNat_natCast, z10, xw_grd_t ⟨by omega, by omega⟩]
          by_cases c0 : Xc X = 0
          · have e : 3 * (t : Int) + 1 = Xn X k := by rw [hXn]; show _ = if cv = 0 then 3 * Xt X + 1 else l_nb M cv k; rw [if_pos (by omega), htX]
            rw [xw_if_t c0, e]
            dsimp only
            rw [xw_bnd_e b1, xw_let_e]
            exact g1 K
          · have e : l_nb M cv k = Xn X k := by rw [hXn]; show _ = if cv = 0 then 3 * Xt X + 1 else l_nb M cv k; rw [if_neg (by omega)]
            rw [xw_if_f c0]
            dsimp only
            have b1' : f_MD_emit fu z1 (l_nb M cv k) = some z2 := by rw [e]; exact b1
            rw [xw_bnd_e b1', xw_let_e]
            exact g1 K
        rw [lp_MD_transform_156, xw_grd_t (by omega), Int.toNat_natCast, hB.2.2.1, xw_grd_t ⟨⟨by omega, by omega⟩, ⟨by omega, by omega⟩⟩, xw_if_f (by omega), xw_grd_t (by omega), xw_jn_e, Int.toNat_natCast, h14, xw_grd_t (by decide), xw_if_f (by decide), h17, hp1, xw_grd_t (by decide), xw_if_f (by decide), xw_grd_t (by omega), xw_jn_e, Int.toNat_natCast, h10, xw_grd_t ⟨by omega, by omega⟩]
        by_cases c0 : Xc X = 0
        · rw [xw_if_t c0]
          have e : n_pop X = 30 := by unfold n_pop; rw [if_pos c0]
          rw [e] at e204
          exact e204
        · rw [xw_if_f c0]
          have e : n_pop X = 31 := by unfold n_pop; rw [if_neg c0]
          rw [e] at e204
          exact e204
    · rw [if_neg hb] at h14
      have hl1 : n_ld M X (k + 1) = n_ld M X k := by rw [n_ld, if_neg hb]
      have hn1 : l_nb M cv (k + 1) = l_nb M cv k := by rw [l_nb, if_neg (fun z => hb z.1)]; omega
      obtain ⟨s', g1, g2⟩ := ih (k + 1) N s (by omega) (by omega) hZ (by rw [hl1]; exact hm) (fun p hp hbp => by
        by_cases hpk : p = k
        · subst hpk; exact absurd hbp hb
        · exact hc1 p (by omega) hbp) hpre
      refine ⟨s', fun K => ?_, g2⟩
      rw [lp_MD_transform_156, xw_grd_t (by omega), Int.toNat_natCast, hB.2.2.1, xw_grd_t ⟨⟨by omega, by omega⟩, ⟨by omega, by omega⟩⟩, xw_if_f (by omega), xw_grd_t (by omega), xw_jn_e, Int.toNat_natCast, h14, xw_grd_t (by decide), xw_if_t rfl]
      unfold jb_MD_transform_233
      rw [xw_grd_t (by omega), xw_jn_e, Int.toNat_natCast, h14, xw_grd_t (by decide), xw_if_t rfl]
      have := g1 K
      rw [hn1] at this
      exact this
/-! the handlers -/
theorem r_t259 (fu : Nat) {M : m_M} {X : n_X} {me : Int} (hW : m_W M me) {q : Nat} (hq : q < 12) (t c4 : Int) : ∀ (dd i N : Nat) (s : xw_S), i + dd = 4 * MN M → dd < N → s.1 8 q = (MN M : Int) → (∀ j, j < 4 * MN M → s.1 9 (20 * q + j) = if j < i then n_h M X j else Mh M j) → (∀ p, p ≤ ML M → m_bg (Mc M) p → s.1 19 p = n_ld M X p) → ∃ s', (∀ K : xw_S → Int → Option (xw_S × Int), lp_MD_transform_259 fu (q : Int) t c4 K N s (i : Int) = K s' c4) ∧ frm (fun i' k => i' = 9 ∧ 20 * q ≤ k ∧ k < 20 * q + 20) s s' ∧ ∀ j, j < 4 * MN M → s'.1 9 (20 * q + j) = n_h M X j := by
  have hN5 := hW.1.2.2
  intro dd
  induction dd with
  | zero =>
    intro i N s hi hN h8 h9 h19
    obtain ⟨N, rfl⟩ : ∃ n', N = n' + 1 := ⟨N - 1, by omega⟩
    refine ⟨s, fun K => ?_, frm_rf _ _, fun j hj => ?_⟩
    · rw [lp_MD_transform_259, xw_grd_t (by omega), Int.toNat_natCast, h8, xw_grd_t ⟨⟨by omega, by omega⟩, ⟨by omega, by omega⟩⟩, xw_if_t (by omega)]
    · rw [h9 j hj, if_pos (by omega)]
  | succ dd ih =>
    intro i N s hi hN h8 h9 h19
    obtain ⟨N, rfl⟩ : ∃ n', N = n' + 1 := ⟨N - 1, by omega⟩
    have h9i := h9 i (by omega)
    rw [if_neg (by omega)] at h9i
    obtain ⟨s', g1, g2, g3⟩ := ih (i + 1) N (xw_st s 9 (20 * q + i) (n_h M X i)) (by omega) (by omega) (by rw [st_i (by decide)]; exact h8) (fun j hj => by
      by_cases hji : j = i
      · subst hji
        rw [st_s, if_pos (by omega)]
      · rw [st_k (by omega), h9 j hj]
        by_cases hlt : j < i
        · rw [if_pos hlt, if_pos (by omega)]
        · rw [if_neg hlt, if_neg (by omega)]) (fun p hp hb => by rw [st_i (by decide)]; exact h19 p hp hb)
    refine ⟨s', fun K => ?_, frm_tr (frm_st ⟨rfl, by omega, by omega⟩) g2, g3⟩
    have ei : ((20 * (q : Int)) + (i : Int)).toNat = 20 * q + i := by omega
    rw [lp_MD_transform_259, xw_grd_t (by omega), Int.toNat_natCast, h8, xw_grd_t ⟨⟨by omega, by omega⟩, ⟨by omega, by omega⟩⟩, xw_if_f (by omega), xw_jn_e, z_rm4 i (by omega), xw_grd_t ⟨by omega, by omega⟩]
    have tl : ∀ v : Int, v = n_h M X i → (fun (s102 : xw_S) (i6_323 : Int) (t0_323 : Int) (t1_323 : Int) => xw_grd ((0 ≤ t1_323 ∧ t1_323 < ((240 : Nat) : Int))) (xw_let (xw_st s102 9 (t1_323).toNat t0_323) (fun s104 => xw_let (i6_323 + 1) (fun v106 => lp_MD_transform_259 fu (q : Int) t c4 K N s104 v106)))) s (i : Int) v ((20 * (q : Int)) + (i : Int)) = K s' c4 := by
      intro v hv
      dsimp only
      rw [xw_grd_t (by omega), ei, hv, xw_let_e, xw_let_e]
      exact g1 K
    by_cases h3 : i % 4 = 3
    · rw [xw_if_t (by omega), xw_grd_t (by omega), ei, h9i]
      exact tl _ (by unfold n_h; rw [if_pos (by omega), if_pos h3])
    · have hpl : 0 ≤ Mh M i ∧ Mh M i ≤ (ML M : Int) ∧ m_bg (Mc M) (Mh M i).toNat := by
        have hh := hW.2.2.2.2 (i / 4) (by omega)
        obtain ⟨⟨x1, x2⟩, x3, x4⟩ := hh
        have x3a := x3.1
        have x3b := x3.2.1
        have x4a := x4.1
        have x4b := x4.2.1
        have hc : i = 4 * (i / 4) ∨ i = 4 * (i / 4) + 1 ∨ i = 4 * (i / 4) + 2 := by omega
        rcases hc with e | e | e
        · rw [e]; exact ⟨by omega, by omega, x3.2.2⟩
        · rw [e]
          rcases x2 with y | y
          · rw [y, Int.toNat_natCast]; exact ⟨by omega, by omega, hW.2.2.1⟩
          · have y1 := y.1
            have y2 := y.2.1
            exact ⟨by omega, by omega, y.2.2⟩
        · rw [e]; exact ⟨by omega, by omega, x4.2.2⟩
      have hL := hW.1
      have hp1 := hpl.1
      have hp2 := hpl.2.1
      rw [xw_if_f (by omega), xw_grd_t (by omega), ei, h9i, xw_grd_t (by omega), h19 _ (by omega) hpl.2.2]
      exact tl _ (by unfold n_h; rw [if_pos (by omega), if_neg h3])
theorem r_t428 (fu : Nat) {q : Nat} (hq : q < 12) {m : Nat} (hm : m ≤ 120) : ∀ (dd k N : Nat) (s : xw_S), k + dd = m → dd < N → s.1 0 29 = (m : Int) → (∀ j, j < k → s.1 7 (120 * q + j) = s.1 21 j) → ∃ s', (∀ K : xw_S → Option (xw_S × Int), lp_MD_transform_428 fu (q : Int) K N s (k : Int) = K s') ∧ frm (fun i' k => i' = 7 ∧ 120 * q ≤ k ∧ k < 120 * q + 120) s s' ∧ ∀ j, j < m → s'.1 7 (120 * q + j) = s.1 21 j := by
  intro dd
  induction dd with
  | zero =>
    intro k N s hk hN h29 h7
    obtain ⟨N, rfl⟩ : ∃ n', N = n' + 1 := ⟨N - 1, by omega⟩
    exact ⟨s, fun K => by rw [lp_MD_transform_428, h29, xw_grd_t ⟨⟨by omega, by omega⟩, ⟨by omega, by omega⟩⟩, xw_if_t (by omega)], frm_rf _ _, fun j hj => h7 j (by omega)⟩
  | succ dd ih =>
    intro k N s hk hN h29 h7
    obtain ⟨N, rfl⟩ : ∃ n', N = n' + 1 := ⟨N - 1, by omega⟩
    obtain ⟨s', g1, g2, g3⟩ := ih (k + 1) N (xw_st s 7 (120 * q + k) (s.1 21 k)) (by omega) (by omega) (by rw [st_i (by decide)]; exact h29) (fun j hj => by
      rw [st_i (i' := 21) (by decide)]
      by_cases hjk : j = k
      · rw [hjk, st_s]
      · rw [st_k (by omega)]; exact h7 j (by omega))
    refine ⟨s', fun K => ?_, frm_tr (frm_st ⟨rfl, by omega, by omega⟩) g2, fun j hj => by rw [g3 j hj, st_i (by decide)]⟩
    rw [lp_MD_transform_428, h29, xw_grd_t ⟨⟨by omega, by omega⟩, ⟨by omega, by omega⟩⟩, xw_if_f (by omega), xw_grd_t (by omega), xw_grd_t (by omega), xw_let_e, xw_let_e, Int.toNat_natCast, show ((120 * (q : Int)) + (k : Int)).toNat = 120 * q + k by omega]
    exact g1 K
theorem r_t19 (fu : Nat) (q t : Int) : ∀ (dd k N : Nat) (s : xw_S), k + dd = 121 → dd < N → (∀ j, j < k → s.1 18 j = 0) → ∃ s', (∀ K : xw_S → Option (xw_S × Int), lp_MD_transform_19 fu q t K N s (k : Int) = K s') ∧ frm (fun i _ => i = 18) s s' ∧ ∀ j, j < 121 → s'.1 18 j = 0 := by
  intro dd
  induction dd with
  | zero =>
    intro k N s hk hN h
    obtain ⟨N, rfl⟩ : ∃ n', N = n' + 1 := ⟨N - 1, by omega⟩
    exact ⟨s, fun K => by rw [lp_MD_transform_19, xw_grd_t ⟨by omega, by omega⟩, xw_if_t (by omega)], frm_rf _ _, fun j hj => h j (by omega)⟩
  | succ dd ih =>
    intro k N s hk hN h
    obtain ⟨N, rfl⟩ : ∃ n', N = n' + 1 := ⟨N - 1, by omega⟩
    obtain ⟨s', g1, g2, g3⟩ := ih (k + 1) N (xw_st s 18 k 0) (by omega) (by omega) (fun j hj => by
      by_cases hjk : j = k
      · rw [hjk, st_s]
      · rw [st_k hjk]; exact h j (by omega))
    refine ⟨s', fun K => ?_, frm_tr (frm_st rfl) g2, g3⟩
    rw [lp_MD_transform_19, xw_grd_t ⟨by omega, by omega⟩, xw_if_f (by omega), xw_grd_t (by omega), xw_let_e, xw_let_e, Int.toNat_natCast]
    exact g1 K
