/-! 88.b: widening, as a pure thing; the reference's lay -/
def n_wd (M : m_M) (X : n_X) (p : Nat) : Int := if Xw X p = 0 ∧ p < ML M ∧ m_bg (Mc M) p ∧ q_sb (Mc M p) ∧ (n_y M X p < -24 ∨ 24 < n_y M X p) then 1 else Xw X p
def n_ws (M : m_M) (X : n_X) : n_X := (Xc X, Xt X, Xp X, Xn X, n_wd M X)
def n_chg (M : m_M) (X : n_X) : Prop := ∃ p, p < ML M ∧ Xw X p = 0 ∧ n_wd M X p = 1
def n_it (M : m_M) (X : n_X) : Nat → n_X
  | 0 => X
  | k + 1 => n_ws M (n_it M X k)
theorem n_ok_ws {M : m_M} {X : n_X} (h : n_ok M X) : n_ok M (n_ws M X) := by
  obtain ⟨h1, h2, h3, h4, h5⟩ := h
  refine ⟨h1, h2, h3, fun p => ?_, h5⟩
  show n_wd M X p = 0 ∨ (n_wd M X p = 1 ∧ q_sb (Mc M p))
  unfold n_wd
  by_cases hc : Xw X p = 0 ∧ p < ML M ∧ m_bg (Mc M) p ∧ q_sb (Mc M p) ∧ (n_y M X p < -24 ∨ 24 < n_y M X p)
  · rw [if_pos hc]; exact Or.inr ⟨rfl, hc.2.2.2.1⟩
  · rw [if_neg hc]; exact h4 p
theorem n_ok_it {M : m_M} {X : n_X} (h : n_ok M X) : ∀ k, n_ok M (n_it M X k)
  | 0 => h
  | k + 1 => n_ok_ws (n_ok_it h k)
theorem n_it_c (M : m_M) (X : n_X) : ∀ k, Xc (n_it M X k) = Xc X ∧ Xt (n_it M X k) = Xt X ∧ Xp (n_it M X k) = Xp X ∧ Xn (n_it M X k) = Xn X
  | 0 => ⟨rfl, rfl, rfl, rfl⟩
  | k + 1 => n_it_c M X k
theorem n_wd_1 {M : m_M} {X : n_X} (h : n_ok M X) (p : Nat) : n_wd M X p = 0 ∨ n_wd M X p = 1 := by
  rcases (n_ok_ws h).2.2.2.1 p with z | z
  · exact Or.inl z
  · exact Or.inr z.1
theorem n_fin (M : m_M) : ∀ (m : Nat) (X : n_X), n_ok M X → m_sum (fun p => if Xw X p = 0 then 1 else 0) (ML M) ≤ m → ∃ K, K ≤ m ∧ (∀ k, k < K → n_chg M (n_it M X k)) ∧ ¬ n_chg M (n_it M X K) := by
  intro m
  induction m with
  | zero =>
    intro X h hm
    refine ⟨0, Nat.le_refl _, fun k hk => by omega, ?_⟩
    rintro ⟨p, h1, h2, h3⟩
    have : m_sum (fun _ => 0) (ML M) < m_sum (fun p => if Xw X p = 0 then 1 else 0) (ML M) := m_sum_lt2 (k := p) (ML M) h1 (fun _ _ => Nat.zero_le _) (by
      show 0 < if Xw X p = 0 then 1 else 0
      rw [if_pos (show Xw X p = 0 from h2)]; decide)
    omega
  | succ m ih =>
    intro X h hm
    by_cases hc : n_chg M X
    · obtain ⟨p, h1, h2, h3⟩ := hc
      have hlt : m_sum (fun p => if Xw (n_ws M X) p = 0 then 1 else 0) (ML M) < m_sum (fun p => if Xw X p = 0 then 1 else 0) (ML M) := by
        refine m_sum_lt2 (k := p) (ML M) h1 (fun p' _ => ?_) ?_
        · show (if n_wd M X p' = 0 then 1 else 0) ≤ if Xw X p' = 0 then 1 else 0
          unfold n_wd
          by_cases hc : Xw X p' = 0 ∧ p' < ML M ∧ m_bg (Mc M) p' ∧ q_sb (Mc M p') ∧ (n_y M X p' < -24 ∨ 24 < n_y M X p')
          · rw [if_pos hc, if_neg (by decide)]; exact Nat.zero_le _
          · rw [if_neg hc]; exact Nat.le_refl _
        · show (if n_wd M X p = 0 then 1 else 0) < if Xw X p = 0 then 1 else 0
          rw [h3, h2]; decide
      obtain ⟨K, k1, k2, k3⟩ := ih (n_ws M X) (n_ok_ws h) (by omega)
      have sh : ∀ k, n_it M (n_ws M X) k = n_it M X (k + 1) := by
        intro k
        induction k with
        | zero => rfl
        | succ k ihk => rw [n_it, ihk]; rfl
      refine ⟨K + 1, by omega, fun k hk => ?_, by rw [← sh]; exact k3⟩
      cases k with
      | zero => exact ⟨p, h1, h2, h3⟩
      | succ k => rw [← sh]; exact k2 k (by omega)
    · exact ⟨0, Nat.zero_le _, fun k hk => by omega, hc⟩
theorem n_fin' {M : m_M} {X : n_X} (h : n_ok M X) : ∃ K, K ≤ ML M ∧ (∀ k, k < K → n_chg M (n_it M X k)) ∧ ¬ n_chg M (n_it M X K) := by
  refine n_fin M (ML M) X h ?_
  have := m_sum_le (f := fun p => if Xw X p = 0 then 1 else 0) (a := 1) (ML M) (fun p _ => by split <;> omega)
  omega
theorem n_ld_ub {M : m_M} {X : n_X} (h : n_ok M X) : ∀ p : Nat, n_ld M X p ≤ 2 + 6 * (p : Int)
  | 0 => by show n_pre X ≤ _; unfold n_pre; split <;> omega
  | p + 1 => by
    have a := n_ld_ub h p
    have b := n_ld_s h p
    omega
/-- the places are those of X -/
def r_P (M : m_M) (X : n_X) (s : xw_S) : Prop := ∀ p, p < ML M → m_bg (Mc M) p → s.1 19 p = n_ld M X p ∧ s.1 20 p = n_ow M X p
theorem r_lay5 (fu : Nat) {M : m_M} {X : n_X} (h : n_ok M X) {q : Nat} : ∀ (dd k N : Nat) (s : xw_S), k + dd = ML M → dd < N → r_C M q s → (∀ p, p < ML M → s.1 17 p = Xp X p) → (∀ p, p < ML M → s.1 18 p = Xw X p) → (∀ p, p < k → m_bg (Mc M) p → s.1 19 p = n_ld M X p ∧ s.1 20 p = n_ow M X p) → ∃ s', (∀ K : xw_S → Int → Option (xw_S × Int), lp_MD_lay_5 fu (q : Int) K N s (n_ld M X k) (k : Int) = K s' (n_ld M X (ML M))) ∧ frm (fun i _ => i = 19 ∨ i = 20) s s' ∧ r_P M X s' := by
  intro dd
  induction dd with
  | zero =>
    intro k N s hk hN hC h17 h18 hP
    obtain ⟨N, rfl⟩ : ∃ n', N = n' + 1 := ⟨N - 1, by omega⟩
    have hB := hC.1.1
    have hq := hB.1
    have hL := hB.2.1
    exact ⟨s, fun K => by rw [lp_MD_lay_5, xw_grd_t (by omega), Int.toNat_natCast, hB.2.2.1, xw_grd_t ⟨⟨by omega, by omega⟩, ⟨by omega, by omega⟩⟩, xw_if_t (by omega), show k = ML M by omega], frm_rf _ _, fun p hp => hP p (by omega)⟩
  | succ dd ih =>
    intro k N s hk hN hC h17 h18 hP
    obtain ⟨N, rfl⟩ : ∃ n', N = n' + 1 := ⟨N - 1, by omega⟩
    have hB := hC.1.1
    have hq := hB.1
    have hL := hB.2.1
    have hck := hB.2.2.2.2 k (by omega)
    have h14 := hC.2 k (by omega)
    by_cases hb : m_bg (Mc M) k
    · rw [if_pos hb] at h14
      have h17k := h17 k (by omega)
      have h18k := h18 k (by omega)
      have f1 : frm (fun i _ => i = 19 ∨ i = 20) s (xw_st (xw_st s 19 k (n_ld M X k)) 20 k (n_ow M X k)) := frm_tr (frm_st (Or.inl rfl)) (frm_st (Or.inr rfl))
      have e18 : ∀ p, (xw_st (xw_st s 19 k (n_ld M X k)) 20 k (n_ow M X k)).1 18 p = s.1 18 p := fun p => by rw [st_i (by decide), st_i (by decide)]
      have hC' := r_C_f hC (rfm_frm f1) (fun i k y => by omega)
      obtain ⟨s', g1, g2, g3⟩ := ih (k + 1) N (xw_st (xw_st s 19 k (n_ld M X k)) 20 k (n_ow M X k)) (by omega) (by omega) hC' (fun p hp => by rw [f1.2 17 p (show ¬ (17 = 19 ∨ 17 = 20) by decide)]; exact h17 p hp) (fun p hp => by rw [e18]; exact h18 p hp) (fun p hp hbp => by
        by_cases hpk : p = k
        · subst hpk
          exact ⟨by rw [st_i (by decide), st_s], st_s _ _ _ _⟩
        · rw [st_i (by decide), st_k hpk, st_k hpk, st_i (by decide)]
          exact hP p (by omega) hbp)
      refine ⟨s', fun K => ?_, frm_tr f1 g2, g3⟩
      have hl1 : n_ld M X (k + 1) = n_ow M X k + q_sz (Mc M k) + Xw X k := by rw [n_ld, if_pos hb]; rfl
      have tl : ∀ t0 : Int, t0 = n_ow M X k → (fun (s12 : xw_S) (i4_51 : Int) (t0_51 : Int) => xw_grd ((0 ≤ i4_51 ∧ i4_51 < ((121 : Nat) : Int))) (xw_let (xw_st s12 20 (i4_51).toNat t0_51) (fun s14 => xw_bn2 (f_MD_op fu s14 (q : Int) i4_51) (fun s16 r18 => xw_bn2 (f_MD_sizeOf fu s16 r18) (fun s19 r21 => xw_jn (fun (s24 : xw_S) (i4_87 : Int) (t0_87 : Int) (t1_87 : Int) => xw_let (t1_87 + t0_87) (fun v25 => (fun (s27 : xw_S) (i3_89 : Int) (i4_89 : Int) => xw_let (i4_89 + 1) (fun v28 => lp_MD_lay_5 fu (q : Int) K N s27 i3_89 v28)) s24 v25 i4_87))
     (fun (j87 : xw_S → Int → Int → Int → Option (xw_S × Int)) => xw_grd (xw_r (s19.1 18 (i4_51).toNat)) (xw_if (s19.1 18 (i4_51).toNat = 0) (j87 s19 i4_51 0 (t0_51 + r21))
     (j87 s19 i4_51 1 (t0_51 + r21))))))))) (xw_st s 19 k (n_ld M X k)) (k : Int) t0 = K s' (n_ld M X (ML M)) := by
        intro t0 ht
        subst ht
        dsimp only
        rw [xw_grd_t (by omega), xw_let_e, Int.toNat_natCast, xw_bn2_e (q_MDop' fu hC'.1.1 (by omega)), xw_bn2_e (q_MDsz fu _ ⟨by omega, by omega⟩), xw_jn_e, e18, h18k]
        rcases h.2.2.2.1 k with z | z
        · rw [z, xw_grd_t (by decide), xw_if_t rfl]
          have e : n_ow M X k + q_sz (Mc M k) + 0 = n_ld M X (k + 1) := by rw [hl1, z]
          show lp_MD_lay_5 fu (q : Int) K N _ (n_ow M X k + q_sz (Mc M k) + 0) ((k + 1 : Nat) : Int) = _
          rw [e]
          exact g1 K
        · rw [z.1, xw_grd_t (by decide), xw_if_f (by decide)]
          have e : n_ow M X k + q_sz (Mc M k) + 1 = n_ld M X (k + 1) := by rw [hl1, z.1]
          show lp_MD_lay_5 fu (q : Int) K N _ (n_ow M X k + q_sz (Mc M k) + 1) ((k + 1 : Nat) : Int) = _
          rw [e]
          exact g1 K
      rw [lp_MD_lay_5, xw_grd_t (by omega), Int.toNat_natCast, hB.2.2.1, xw_grd_t ⟨⟨by omega, by omega⟩, ⟨by omega, by omega⟩⟩, xw_if_f (by omega), xw_grd_t (by omega), xw_jn_e, Int.toNat_natCast, h14, xw_grd_t (by decide), xw_if_f (by decide), xw_let_e, xw_jn_e, st_i (by decide), h17k]
      rcases h.2.2.1 k with z | z
      · rw [z, xw_grd_t (by decide), xw_if_t rfl]
        exact tl _ (by unfold n_ow; rw [z]; omega)
      · rw [z, xw_grd_t (by decide), xw_if_f (by decide)]
        exact tl _ (by unfold n_ow; rw [z]; omega)
    · rw [if_neg hb] at h14
      obtain ⟨s', g1, g2, g3⟩ := ih (k + 1) N s (by omega) (by omega) hC h17 h18 (fun p hp hbp => by
        by_cases hpk : p = k
        · subst hpk; exact absurd hbp hb
        · exact hP p (by omega) hbp)
      refine ⟨s', fun K => ?_, g2, g3⟩
      have hl1 : n_ld M X (k + 1) = n_ld M X k := by rw [n_ld, if_neg hb]
      rw [lp_MD_lay_5, xw_grd_t (by omega), Int.toNat_natCast, hB.2.2.1, xw_grd_t ⟨⟨by omega, by omega⟩, ⟨by omega, by omega⟩⟩, xw_if_f (by omega), xw_grd_t (by omega), xw_jn_e, Int.toNat_natCast, h14, xw_grd_t (by decide), xw_if_t rfl]
      have := g1 K
      rw [hl1] at this
      exact this
theorem r_lay113 (fu : Nat) {M : m_M} {X : n_X} {me : Int} (hW : m_W M me) (h : n_ok M X) {q : Nat} : ∀ (dd k N : Nat) (s : xw_S) (fl : Int), k + dd = ML M → dd < N → r_C M q s → r_P M X s → (∀ p, k ≤ p → p < ML M → s.1 18 p = Xw X p) → (fl = 0 ∨ fl = 1) → ∃ s' fl', (∀ K : xw_S → Int → Option (xw_S × Int), lp_MD_lay_113 fu (q : Int) K N s fl (k : Int) = K s' fl') ∧ frm (fun i _ => i = 18) s s' ∧ (∀ p, p < ML M → (k ≤ p → s'.1 18 p = n_wd M X p) ∧ (p < k → s'.1 18 p = s.1 18 p)) ∧ (fl' = 0 ∨ fl' = 1) ∧ (fl' = 1 ↔ (fl = 1 ∨ ∃ p, k ≤ p ∧ p < ML M ∧ Xw X p = 0 ∧ n_wd M X p = 1)) := by
  intro dd
  induction dd with
  | zero =>
    intro k N s fl hk hN hC hP h18 hfl
    obtain ⟨N, rfl⟩ : ∃ n', N = n' + 1 := ⟨N - 1, by omega⟩
    have hB := hC.1.1
    have hq := hB.1
    have hL := hB.2.1
    exact ⟨s, fl, fun K => by rw [lp_MD_lay_113, xw_grd_t (by omega), Int.toNat_natCast, hB.2.2.1, xw_grd_t ⟨⟨by omega, by omega⟩, ⟨by omega, by omega⟩⟩, xw_if_t (by omega)], frm_rf _ _, fun p hp => ⟨fun z => by omega, fun _ => rfl⟩, hfl, ⟨Or.inl, fun z => z.elim id (fun ⟨p, z1, z2, _⟩ => by omega)⟩⟩
  | succ dd ih =>
    intro k N s fl hk hN hC hP h18 hfl
    obtain ⟨N, rfl⟩ : ∃ n', N = n' + 1 := ⟨N - 1, by omega⟩
    have hB := hC.1.1
    have hq := hB.1
    have hL := hB.2.1
    have hck := hB.2.2.2.2 k (by omega)
    have h14 := hC.2 k (by omega)
    have h18k := h18 k (Nat.le_refl _) (by omega)
    have hpre : ∀ K : xw_S → Int → Option (xw_S × Int), lp_MD_lay_113 fu (q : Int) K (N + 1) s fl (k : Int) = xw_jn (fun (s68 : xw_S) (i4_210 : Int) (i5_210 : Int) => xw_let (i5_210 + 1) (fun v69 => lp_MD_lay_113 fu (q : Int) K N s68 i4_210 v69))
        (fun (j210 : xw_S → Int → Int → Option (xw_S × Int)) => xw_grd (xw_r (s.1 14 k)) (xw_if (s.1 14 k = 0) (j210 s fl (k : Int))
        (xw_grd (xw_r (s.1 18 k)) (xw_if (s.1 18 k = 0) (xw_bn2 (f_MD_op fu s (q : Int) (k : Int)) (fun s44 r46 => xw_bn2 (f_MD_branches fu s44 r46) (fun s47 r49 => xw_grd (xw_r r49) (xw_if (r49 = 0) (j210 s47 fl (k : Int))
        (xw_bn2 (f_MD_op fu s47 (q : Int) (k : Int)) (fun s52 r54 => xw_grd (xw_r r54) (xw_if (20 ≤ r54) (j210 s52 fl (k : Int))
        (xw_bn2 (f_MD_target fu s52 (q : Int) (k : Int)) (fun s57 r59 => xw_grd ((0 ≤ r59 ∧ r59 < ((121 : Nat) : Int))) (xw_bn2 (f_MD_outside fu s57 ((s57.1 19 (r59).toNat) - (s57.1 20 k)) (-24) 24) (fun s61 r63 => xw_grd (xw_r r63) (xw_if (r63 = 0) (j210 s61 fl (k : Int))
        (xw_let (xw_st s61 18 k 1) (fun s66 => j210 s66 1 (k : Int)))))))))))))
        )) (j210 s fl (k : Int)))))) := by
      intro K
      rw [lp_MD_lay_113, xw_grd_t (by omega), Int.toNat_natCast, hB.2.2.1, xw_grd_t ⟨⟨by omega, by omega⟩, ⟨by omega, by omega⟩⟩, xw_if_f (by omega), xw_grd_t (by omega), Int.toNat_natCast]
    -- nothing is done here
    have skip : n_wd M X k = Xw X k → ∃ s' fl', (∀ K : xw_S → Int → Option (xw_S × Int), lp_MD_lay_113 fu (q : Int) K N s fl ((k + 1 : Nat) : Int) = K s' fl') ∧ frm (fun i _ => i = 18) s s' ∧ (∀ p, p < ML M → (k ≤ p → s'.1 18 p = n_wd M X p) ∧ (p < k → s'.1 18 p = s.1 18 p)) ∧ (fl' = 0 ∨ fl' = 1) ∧ (fl' = 1 ↔ (fl = 1 ∨ ∃ p, k ≤ p ∧ p < ML M ∧ Xw X p = 0 ∧ n_wd M X p = 1)) := by
      intro hs
      obtain ⟨s', fl', g1, g2, g3, g4, g5⟩ := ih (k + 1) N s fl (by omega) (by omega) hC hP (fun p h1 h2 => h18 p (by omega) h2) hfl
      refine ⟨s', fl', g1, g2, fun p hp => ⟨fun z => ?_, fun z => (g3 p hp).2 (by omega)⟩, g4, ?_⟩
      · by_cases hpk : p = k
        · subst hpk
          rw [(g3 p hp).2 (by omega), h18k, hs]
        · exact (g3 p hp).1 (by omega)
      · rw [g5]
        constructor
        · exact fun z => z.imp id (fun ⟨p, z1, z2⟩ => ⟨p, by omega, z2⟩)
        · refine fun z => z.imp id (fun ⟨p, z1, z2, z3, z4⟩ => ?_)
          by_cases hpk : p = k
          · subst hpk; omega
          · exact ⟨p, by omega, z2, z3, z4⟩
    by_cases hb : m_bg (Mc M) k
    · rw [if_pos hb] at h14
      have hin := m_in hW.2.2.1 (by omega) hb
      have hwp := hW.2.2.2.1 k (by omega) hb
      by_cases hw0 : Xw X k = 0
      · by_cases hbr : q_br (Mc M k)
        · by_cases h20 : 20 ≤ Mc M k
          · obtain ⟨s', fl', g1, g2, g3, g4, g5⟩ := skip (by unfold n_wd; rw [if_neg (fun z => by have := z.2.2.2.1; unfold q_sb at this; omega)])
            refine ⟨s', fl', fun K => ?_, g2, g3, g4, g5⟩
            rw [hpre, xw_jn_e, h14, h18k, hw0, xw_grd_t (by decide), xw_if_f (by decide), xw_grd_t (by decide), xw_if_t rfl, xw_bn2_e (q_MDop' fu hB (by omega)), xw_bn2_e (q_MDbr fu s ⟨by omega, by omega⟩), if_pos hbr, xw_grd_t (by decide), xw_if_f (by decide), xw_bn2_e (q_MDop' fu hB (by omega)), xw_grd_t ⟨by omega, by omega⟩, xw_if_t h20]
            exact g1 K
          · have hpl := hwp.1 hbr
            have hpl1 := hpl.1
            have hpl2 := hpl.2.1
            have hsb : q_sb (Mc M k) := by unfold q_br q_sb q_wb at hbr; unfold q_sb; omega
            have eP1 := (hP ((k : Int) + m_way (Mc M) (ML M) k).toNat (by omega) hpl.2.2).1
            have eP2 := (hP k (by omega) hb).2
            have u1 := n_ld_ub h ((k : Int) + m_way (Mc M) (ML M) k).toNat
            have u2 := n_ld_0 h ((k : Int) + m_way (Mc M) (ML M) k).toNat
            have u3 := n_ld_ub h k
            have u4 := n_ld_0 h k
            have u5 := h.2.2.1 k
            have u6 : n_ow M X k = n_ld M X k + 2 * Xp X k := rfl
            have ey : n_ld M X ((k : Int) + m_way (Mc M) (ML M) k).toNat - n_ow M X k = n_y M X k := rfl
            have pr : ∀ K : xw_S → Int → Option (xw_S × Int), lp_MD_lay_113 fu (q : Int) K (N + 1) s fl (k : Int) = xw_grd (xw_r (if n_y M X k < -24 ∨ 24 < n_y M X k then 1 else 0)) (xw_if ((if n_y M X k < -24 ∨ 24 < n_y M X k then (1 : Int) else 0) = 0) (lp_MD_lay_113 fu (q : Int) K N s fl ((k + 1 : Nat) : Int)) (lp_MD_lay_113 fu (q : Int) K N (xw_st s 18 k 1) 1 ((k + 1 : Nat) : Int))) := by
              intro K
              rw [hpre, xw_jn_e, h14, h18k, hw0, xw_grd_t (by decide), xw_if_f (by decide), xw_grd_t (by decide), xw_if_t rfl, xw_bn2_e (q_MDop' fu hB (by omega)), xw_bn2_e (q_MDbr fu s ⟨by omega, by omega⟩), if_pos hbr, xw_grd_t (by decide), xw_if_f (by decide), xw_bn2_e (q_MDop' fu hB (by omega)), xw_grd_t ⟨by omega, by omega⟩, xw_if_f h20, xw_bn2_e (q_target fu hB hbr hin.2), xw_grd_t (by omega), eP1, eP2, ey, xw_bn2_e (q_outside fu s ⟨by omega, by omega⟩ (by decide) (by decide))]
              rfl
            by_cases ho : n_y M X k < -24 ∨ 24 < n_y M X k
            · have hwd : n_wd M X k = 1 := by unfold n_wd; rw [if_pos ⟨hw0, by omega, hb, hsb, ho⟩]
              obtain ⟨s', fl', g1, g2, g3, g4, g5⟩ := ih (k + 1) N (xw_st s 18 k 1) 1 (by omega) (by omega) (r_C_f hC (rfm_frm (frm_st (S := fun i _ => i = 18) rfl)) (fun i k y => by omega)) (fun p hp hbp => by rw [st_i (by decide), st_i (by decide)]; exact hP p hp hbp) (fun p h1 h2 => by rw [st_k (by omega)]; exact h18 p (by omega) h2) (Or.inr rfl)
              refine ⟨s', fl', fun K => ?_, frm_tr (frm_st rfl) g2, fun p hp => ⟨fun z => ?_, fun z => ?_⟩, g4, ?_⟩
              · rw [pr, if_pos ho, xw_grd_t (by decide), xw_if_f (by decide)]
                exact g1 K
              · by_cases hpk : p = k
                · subst hpk
                  rw [(g3 p hp).2 (by omega), st_s, hwd]
                · exact (g3 p hp).1 (by omega)
              · rw [(g3 p hp).2 (by omega), st_k (by omega)]
              · rw [g5]
                exact ⟨fun _ => Or.inr ⟨k, Nat.le_refl _, by omega, hw0, hwd⟩, fun _ => Or.inl rfl⟩
            · obtain ⟨s', fl', g1, g2, g3, g4, g5⟩ := skip (by unfold n_wd; rw [if_neg (fun z => ho z.2.2.2.2)])
              refine ⟨s', fl', fun K => ?_, g2, g3, g4, g5⟩
              rw [pr, if_neg ho, xw_grd_t (by decide), xw_if_t rfl]
              exact g1 K
        · obtain ⟨s', fl', g1, g2, g3, g4, g5⟩ := skip (by unfold n_wd; rw [if_neg (fun z => hbr (Or.inl z.2.2.2.1))])
          refine ⟨s', fl', fun K => ?_, g2, g3, g4, g5⟩
          rw [hpre, xw_jn_e, h14, h18k, hw0, xw_grd_t (by decide), xw_if_f (by decide), xw_grd_t (by decide), xw_if_t rfl, xw_bn2_e (q_MDop' fu hB (by omega)), xw_bn2_e (q_MDbr fu s ⟨by omega, by omega⟩), if_neg hbr, xw_grd_t (by decide), xw_if_t rfl]
          exact g1 K
      · have hw1 : Xw X k = 1 := by
          rcases h.2.2.2.1 k with z | z
          · exact absurd z hw0
          · exact z.1
        obtain ⟨s', fl', g1, g2, g3, g4, g5⟩ := skip (by unfold n_wd; rw [if_neg (fun z => hw0 z.1)])
        refine ⟨s', fl', fun K => ?_, g2, g3, g4, g5⟩
        rw [hpre, xw_jn_e, h14, h18k, hw1, xw_grd_t (by decide), xw_if_f (by decide), xw_grd_t (by decide), xw_if_f (by decide)]
        exact g1 K
    · rw [if_neg hb] at h14
      obtain ⟨s', fl', g1, g2, g3, g4, g5⟩ := skip (by unfold n_wd; rw [if_neg (fun z => hb z.2.2.1)])
      refine ⟨s', fl', fun K => ?_, g2, g3, g4, g5⟩
      rw [hpre, xw_jn_e, h14, xw_grd_t (by decide), xw_if_t rfl]
      exact g1 K
def S_ly : Nat → Nat → Prop := fun i _ => i = 18 ∨ i = 19 ∨ i = 20
theorem q_lay (fu : Nat) (hfu : 1000 ≤ fu) {M : m_M} {X : n_X} {me : Int} (hW : m_W M me) (h : n_ok M X) {q : Nat} {s : xw_S} (hC : r_C M q s) (h17 : ∀ p, p < ML M → s.1 17 p = Xp X p) (h18 : ∀ p, p < ML M → s.1 18 p = Xw X p) : ∃ s' fl, f_MD_lay fu s (q : Int) (n_pre X) = some (s', fl) ∧ frm S_ly s s' ∧ r_P M X s' ∧ s'.1 19 (ML M) = n_ld M X (ML M) ∧ (∀ p, p < ML M → s'.1 18 p = n_wd M X p) ∧ (fl = 0 ∨ fl = 1) ∧ (fl = 1 ↔ n_chg M X) := by
  have hL := hW.1
  have hq := hC.1.1.1
  obtain ⟨s1, a1, a2, a3⟩ := r_lay5 fu h (ML M) 0 fu s (by omega) (by omega) hC h17 h18 (fun p hp => by omega)
  have a1' : ∀ K : xw_S → Int → Option (xw_S × Int), lp_MD_lay_5 fu (q : Int) K fu s (n_pre X) 0 = K s1 (n_ld M X (ML M)) := a1
  have f1 : frm (fun i _ => i = 19 ∨ i = 20) s (xw_st s1 19 (ML M) (n_ld M X (ML M))) := frm_tr a2 (frm_st (Or.inl rfl))
  have hlen : s1.1 6 q = (ML M : Int) := by rw [a2.2 6 q (show ¬ (6 = 19 ∨ 6 = 20) by decide)]; exact hC.1.1.2.2.1
  have hP1 : r_P M X (xw_st s1 19 (ML M) (n_ld M X (ML M))) := fun p hp hb => by
    rw [st_k (by omega), st_i (by decide)]
    exact a3 p hp hb
  obtain ⟨s2, fl, b1, b2, b3, b4, b5⟩ := r_lay113 fu hW h (ML M) 0 fu (xw_st s1 19 (ML M) (n_ld M X (ML M))) 0 (by omega) (by omega) (r_C_f hC (rfm_frm f1) (fun i k y => by omega)) hP1 (fun p _ hp => by rw [f1.2 18 p (show ¬ (18 = 19 ∨ 18 = 20) by decide)]; exact h18 p hp) (Or.inl rfl)
  have b1' : ∀ K : xw_S → Int → Option (xw_S × Int), lp_MD_lay_113 fu (q : Int) K fu (xw_st s1 19 (ML M) (n_ld M X (ML M))) 0 0 = K s2 fl := b1
  refine ⟨s2, fl, ?_, frm_tr (frm_mono f1 (fun _ _ z => Or.inr z)) (frm_mono b2 (fun _ _ z => Or.inl z)), fun p hp hb => ?_, ?_, fun p hp => (b3 p hp).1 (Nat.zero_le _), b4, ?_⟩
  · unfold f_MD_lay
    rw [xw_jn_e, a1', xw_grd_t (by omega), Int.toNat_natCast, hlen, xw_grd_t (by omega), xw_let_e, Int.toNat_natCast, xw_jn_e, b1', xw_grd_t b4]
  · rw [b2.2 19 p (show ¬ (19 = 18) by decide), b2.2 20 p (show ¬ (20 = 18) by decide)]
    exact hP1 p hp hb
  · rw [b2.2 19 _ (show ¬ (19 = 18) by decide), st_s]
  · rw [b5]
    exact ⟨fun z => z.elim (fun y => absurd y (by decide)) (fun ⟨p, _, z2⟩ => ⟨p, z2⟩), fun ⟨p, z2⟩ => Or.inr ⟨p, Nat.zero_le _, z2⟩⟩
/-! the rounds of it -/
theorem r_tr40 (fu : Nat) (hfu : 1000 ≤ fu) {M : m_M} {X : n_X} {me : Int} (hW : m_W M me) (h : n_ok M X) {q t : Nat} (ht : t < 3) {Kn : Nat} (hK : ∀ k, k < Kn → n_chg M (n_it M X k)) (hKn : ¬ n_chg M (n_it M X Kn)) : ∀ (dd k N : Nat) (s : xw_S), k + dd = Kn → dd + 1 < N → r_C M q s → s.1 10 t = Xc X → (∀ p, p < ML M → s.1 17 p = Xp X p) → (∀ p, p < ML M → s.1 18 p = Xw (n_it M X k) p) → ∃ s', (∀ K : xw_S → Option (xw_S × Int), lp_MD_transform_40 fu (q : Int) (t : Int) K N s 1 = K s') ∧ frm S_ly s s' ∧ r_P M (n_it M X Kn) s' ∧ s'.1 19 (ML M) = n_ld M (n_it M X Kn) (ML M) ∧ ∀ p, p < ML M → s'.1 18 p = Xw (n_it M X Kn) p := by
  intro dd
  induction dd with
  | zero =>
    intro k N s hk hN hC h10 h17 h18
    obtain ⟨N, rfl⟩ : ∃ n', N = n' + 1 + 1 := ⟨N - 2, by omega⟩
    have ek : k = Kn := by omega
    subst ek
    have hx := n_it_c M X k
    have hcv := h.1
    obtain ⟨s1, fl, a1, a2, a3, a4, a5, a6, a7⟩ := q_lay fu hfu hW (n_ok_it h k) hC (fun p hp => by rw [hx.2.2.1]; exact h17 p hp) h18
    have hfl : fl = 0 := by
      rcases a6 with z | z
      · exact z
      · exact absurd (a7.1 z) hKn
    subst hfl
    refine ⟨s1, fun K => ?_, a2, a3, a4, fun p hp => ?_⟩
    · have ep : n_pre (n_it M X k) = if Xc X = 0 then 2 else 0 := by unfold n_pre; rw [hx.1]
      have stop : lp_MD_transform_40 fu (q : Int) (t : Int) K (N + 1) s1 0 = K s1 := by rw [lp_MD_transform_40, xw_grd_t (by decide), xw_if_t rfl]
      rw [ep] at a1
      rw [lp_MD_transform_40, xw_grd_t (by decide), xw_if_f (by decide), xw_grd_t (by omega), xw_jn_e, Int.toNat_natCast, h10, xw_grd_t ⟨by omega, by omega⟩]
      by_cases c0 : Xc X = 0
      · rw [if_pos c0] at a1
        rw [xw_if_t c0]
        dsimp only
        rw [xw_bn2_e a1]
        exact stop
      · rw [if_neg c0] at a1
        rw [xw_if_f c0]
        dsimp only
        rw [xw_bn2_e a1]
        exact stop
    · rw [a5 p hp]
      rcases n_wd_1 (n_ok_it h k) p with z | z
      · rcases (n_ok_it h k).2.2.2.1 p with y | y
        · rw [z, y]
        · exfalso
          unfold n_wd at z
          rw [if_neg (fun u => by have := u.1; omega)] at z
          omega
      · rcases (n_ok_it h k).2.2.2.1 p with y | y
        · exact absurd ⟨p, hp, y, z⟩ hKn
        · rw [z, y.1]
  | succ dd ih =>
    intro k N s hk hN hC h10 h17 h18
    obtain ⟨N, rfl⟩ : ∃ n', N = n' + 1 := ⟨N - 1, by omega⟩
    have hx := n_it_c M X k
    have hcv := h.1
    obtain ⟨s1, fl, a1, a2, a3, a4, a5, a6, a7⟩ := q_lay fu hfu hW (n_ok_it h k) hC (fun p hp => by rw [hx.2.2.1]; exact h17 p hp) h18
    have hfl : fl = 1 := a7.2 (hK k (by omega))
    subst hfl
    obtain ⟨s', g1, g2, g3, g4, g5⟩ := ih (k + 1) N s1 (by omega) (by omega) (r_C_f hC (rfm_frm a2) (fun i k y => by unfold S_ly at y; omega)) (by rw [a2.2 _ _ (by unfold S_ly; omega)]; exact h10) (fun p hp => by rw [a2.2 _ _ (by unfold S_ly; omega)]; exact h17 p hp) a5
    refine ⟨s', fun K => ?_, frm_tr a2 g2, g3, g4, g5⟩
    have ep : n_pre (n_it M X k) = if Xc X = 0 then 2 else 0 := by unfold n_pre; rw [hx.1]
    rw [ep] at a1
    rw [lp_MD_transform_40, xw_grd_t (by decide), xw_if_f (by decide), xw_grd_t (by omega), xw_jn_e, Int.toNat_natCast, h10, xw_grd_t ⟨by omega, by omega⟩]
    by_cases c0 : Xc X = 0
    · rw [if_pos c0] at a1
      rw [xw_if_t c0]
      dsimp only
      rw [xw_bn2_e a1]
      exact g1 K
    · rw [if_neg c0] at a1
      rw [xw_if_f c0]
      dsimp only
      rw [xw_bn2_e a1]
      exact g1 K
