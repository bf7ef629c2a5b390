/-! 84: load -/
/-- right: well formed, and with a closed solution -/
def m_GD (M : m_M) (A : Nat → Int) (me : Int) : Prop := m_WF (Mc M) (ML M) (Mh M) (MN M) (Mo M) me ∧ ∃ d S, m_CL M A d S
theorem m_W_of {M : m_M} {me : Int} (h : m_hd M) (hw : m_WF (Mc M) (ML M) (Mh M) (MN M) (Mo M) me) : m_W M me := by
  obtain ⟨h1, h2, h3, h4, h5, h6⟩ := h
  refine ⟨⟨by omega, by omega, by omega⟩, ⟨by omega, by omega, by omega, by omega, by omega, by omega⟩, hw.1, fun p hp hb => ?_, fun i hi => hw.2.2 i (Nat.zero_le _) hi⟩
  have x := hw.2.1 p (Nat.zero_le _) hp hb
  exact ⟨fun z => (x.1 z).1, x.2.1, x.2.2.1⟩
def S_ck : Nat → Nat → Prop := fun i k => i = 9 ∨ (i = 8 ∧ (k = 1 ∨ k = 2)) ∨ (48 ≤ i ∧ i < 64 ∧ (i % 4 = 2 ∨ (i % 4 = 0 ∧ (k = 10 ∨ k = 11))))
theorem l_C (fu : Nat) (hfu : 1000 ≤ fu) {Mz : Nat → m_M} {r : Nat} (hr : r ≤ 4) (hhd : ∀ j, j < r → m_hd (Mz j)) : ∀ (dd k N : Nat) (s : xw_S), k + dd = r → dd < N → (∀ j, j < r → c_M s j (Mz j)) → (∀ j, j < k → c_X (Mz j) (fun m => Ma (Mz m)) j s) → (∀ p, p < 120 → 0 ≤ s.1 9 p ∧ s.1 9 p < 64) →
    (∃ s', (∀ K58 K70 : xw_S → Int → Option (xw_S × Int), lp_AW_load_20 fu (r : Int) K58 K70 N s (k : Int) = K70 s' (r : Int)) ∧ frm S_ck s s' ∧ (∀ p, p < 120 → 0 ≤ s'.1 9 p ∧ s'.1 9 p < 64) ∧ (∀ j, j < r → c_X (Mz j) (fun m => Ma (Mz m)) j s') ∧ ∀ j, k ≤ j → j < r → m_GD (Mz j) (fun m => Ma (Mz m)) (r : Int)) ∨
    (∃ s' i, k ≤ i ∧ i < r ∧ (∀ j, k ≤ j → j < i → m_GD (Mz j) (fun m => Ma (Mz m)) (r : Int)) ∧ ¬ m_GD (Mz i) (fun m => Ma (Mz m)) (r : Int) ∧ (∀ K58 K70 : xw_S → Int → Option (xw_S × Int), lp_AW_load_20 fu (r : Int) K58 K70 N s (k : Int) = K58 s' (i : Int)) ∧ frm S_ck s s' ∧ ∀ p, p < 120 → 0 ≤ s'.1 9 p ∧ s'.1 9 p < 64) := by
  intro dd
  induction dd with
  | zero =>
    intro k N s hk hN hM hX hg
    obtain ⟨N, rfl⟩ : ∃ n', N = n' + 1 := ⟨N - 1, by omega⟩
    exact Or.inl ⟨s, fun K58 K70 => by rw [lp_AW_load_20, xw_grd_t ⟨⟨by omega, by omega⟩, ⟨by omega, by omega⟩⟩, xw_if_t (by omega)], frm_rf _ _, hg, fun j hj => hX j (by omega), fun j h1 h2 => by omega⟩
  | succ dd ih =>
    intro k N s hk hN hM hX hg
    obtain ⟨N, rfl⟩ : ∃ n', N = n' + 1 := ⟨N - 1, by omega⟩
    obtain ⟨hB, hH, h4, h5, h6, h7⟩ := hM k (by omega)
    have hd := hhd k (by omega)
    obtain ⟨d1, d2, d3, d4, d5, d6⟩ := hd
    obtain ⟨s1, f1, t0, ct, w1, w0⟩ := q_wf fu k hfu hB hH (by omega) (lo := Mo (Mz k)) (me := (r : Int)) h6 ⟨by omega, by omega⟩ ⟨by omega, by omega⟩
    have fc1 : frm S_ck s s1 := frm_mono f1 (fun i j z => by unfold S_fi at z; unfold S_ck; omega)
    have hg1 : ∀ p, p < 120 → 0 ≤ s1.1 9 p ∧ s1.1 9 p < 64 := fun p hp => by rw [f1.2 _ _ (by unfold S_fi; omega)]; exact hg p hp
    have pre : ∀ (E : xw_S) (v : Int) (K58 K70 : xw_S → Int → Option (xw_S × Int)), f_B_isWellFormed fu s k (r : Int) = some (E, v) → lp_AW_load_20 fu (r : Int) K58 K70 (N + 1) s (k : Int) = xw_grd (xw_r v) (xw_if (v = 0) (K58 E (k : Int)) (xw_bn2 (f_FL_explore fu E k 0) (fun s15 r17 => xw_grd (xw_r r17) (xw_if (r17 = 0) (K58 s15 (k : Int)) (lp_AW_load_20 fu (r : Int) K58 K70 N s15 ((k + 1 : Nat) : Int)))))) := by
      intro E v K58 K70 he
      rw [lp_AW_load_20, xw_grd_t ⟨⟨by omega, by omega⟩, ⟨by omega, by omega⟩⟩, xw_if_f (by omega), xw_grd_t (by omega), show 4 * 0 + ((k : Int)).toNat = k by omega, xw_bn2_e he]
      rfl
    by_cases hw : m_WF (Mc (Mz k)) (ML (Mz k)) (Mh (Mz k)) (MN (Mz k)) (Mo (Mz k)) (r : Int)
    · have hM1 : ∀ j, j < r → c_M s1 j (Mz j) := fun j hj => c_M_f (hM j hj) f1 (fun i k z => by unfold S_fi at z; omega)
      have hW := m_W_of (hhd k (by omega)) hw
      obtain ⟨s2, rr, S, x1, x2, x3, x4, x5, x6, x7⟩ := q_FLex fu hfu (M := Mz k) (A := fun m => Ma (Mz m)) (me := (r : Int)) (b := k) (a := 0) (s := s1) hW ⟨by omega, (hM1 k (by omega)).1, (hM1 k (by omega)).2.1, (hM1 k (by omega)).2.2.2.1, (hM1 k (by omega)).2.2.2.2.2, by omega, fun m hm => ⟨by rw [show 4 * 0 + m = m by omega]; exact (hM1 m (by omega)).2.2.2.1, by have := (hhd m (by omega)).2.1; omega⟩⟩ hg1
      have fc2 : frm S_ck s1 s2 := frm_mono x2 (fun i j z => by unfold S_xp S_ex at z; unfold S_ck; omega)
      by_cases hr1 : rr = 1
      · subst hr1
        have hgd : m_GD (Mz k) (fun m => Ma (Mz m)) (r : Int) := ⟨hw, _, _, x3.2.1 rfl⟩
        have hM2 : ∀ j, j < r → c_M s2 j (Mz j) := fun j hj => c_M_f (hM1 j hj) x2 (fun i k z => by unfold S_xp S_ex at z; omega)
        have hX2 : ∀ j, j < k + 1 → c_X (Mz j) (fun m => Ma (Mz m)) j s2 := fun j hj => by
          by_cases hjk : j = k
          · subst hjk
            exact ⟨⟨S, x3⟩, x4, x6, x7⟩
          · exact c_X_f (c_X_f (hX j (by omega)) f1 (fun i k z => by unfold S_fi at z; omega)) x2 (fun i k z => by unfold S_xp S_ex at z; omega)
        rcases ih (k + 1) N s2 (by omega) (by omega) hM2 hX2 x5 with ⟨s', g1, g2, g3, g4, g5⟩ | ⟨s', i, g1, g2, g3, g4, g5, g6, g7⟩
        · refine Or.inl ⟨s', fun K58 K70 => ?_, frm_tr (frm_tr fc1 fc2) g2, g3, g4, fun j j1 j2 => ?_⟩
          · rw [pre s1 1 K58 K70 (w1 hw), xw_grd_t (by decide), xw_if_f (by decide), xw_bn2_e x1, xw_grd_t (by decide), xw_if_f (by decide)]
            exact g1 K58 K70
          · by_cases hjk : j = k
            · subst hjk; exact hgd
            · exact g5 j (by omega) j2
        · refine Or.inr ⟨s', i, by omega, g2, fun j j1 j2 => ?_, g4, fun K58 K70 => ?_, frm_tr (frm_tr fc1 fc2) g6, g7⟩
          · by_cases hjk : j = k
            · subst hjk; exact hgd
            · exact g3 j (by omega) j2
          · rw [pre s1 1 K58 K70 (w1 hw), xw_grd_t (by decide), xw_if_f (by decide), xw_bn2_e x1, xw_grd_t (by decide), xw_if_f (by decide)]
            exact g5 K58 K70
      · have hr0 : rr = 0 := x3.1.resolve_right hr1
        subst hr0
        refine Or.inr ⟨s2, k, Nat.le_refl _, by omega, fun j j1 j2 => by omega, ?_, fun K58 K70 => ?_, frm_tr fc1 fc2, x5⟩
        · rintro ⟨_, d, T, hC⟩
          exact absurd (x3.2.2 d T hC).1 (by decide)
        · rw [pre s1 1 K58 K70 (w1 hw), xw_grd_t (by decide), xw_if_f (by decide), xw_bn2_e x1, xw_grd_t (by decide), xw_if_t rfl]
    · refine Or.inr ⟨s1, k, Nat.le_refl _, by omega, fun j j1 j2 => by omega, fun z => hw z.1, fun K58 K70 => ?_, fc1, hg1⟩
      rw [pre s1 0 K58 K70 (w0 hw), xw_grd_t (by decide), xw_if_t rfl]
theorem l_R (fu : Nat) (hfu : 10000 ≤ fu) {Mz : Nat → m_M} {r : Nat} (hr : r ≤ 4) (hhd : ∀ j, j < r → m_hd (Mz j)) : ∀ (dd k N : Nat) (s : xw_S), k + dd = r → dd < N → (∀ j, j < r → r_M s (8 + j) (Mz j)) → s.1 0 11 = (r : Int) →
    (∃ s', (∀ (K134 : xw_S → Int → Option (xw_S × Int)) (K146 : xw_S → Option (xw_S × Int)), lp_MD_load_104 fu K134 K146 N s (k : Int) = K146 s') ∧ rfm (fun i k => S_rx i k ∨ i = 14) s s' ∧ ∀ j, k ≤ j → j < r → m_GD (Mz j) (fun m => Ma (Mz m)) (r : Int)) ∨
    (∃ s' i, k ≤ i ∧ i < r ∧ (∀ j, k ≤ j → j < i → m_GD (Mz j) (fun m => Ma (Mz m)) (r : Int)) ∧ ¬ m_GD (Mz i) (fun m => Ma (Mz m)) (r : Int) ∧ (∀ (K134 : xw_S → Int → Option (xw_S × Int)) (K146 : xw_S → Option (xw_S × Int)), lp_MD_load_104 fu K134 K146 N s (k : Int) = K134 s' (i : Int)) ∧ rfm (fun i k => S_rx i k ∨ i = 14) s s') := by
  intro dd
  induction dd with
  | zero =>
    intro k N s hk hN hM h11
    obtain ⟨N, rfl⟩ : ∃ n', N = n' + 1 := ⟨N - 1, by omega⟩
    exact Or.inl ⟨s, fun K134 K146 => by rw [lp_MD_load_104, h11, xw_grd_t ⟨⟨by omega, by omega⟩, ⟨by omega, by omega⟩⟩, xw_if_t (by omega)], rfm_rf _ _, fun j h1 h2 => by omega⟩
  | succ dd ih =>
    intro k N s hk hN hM h11
    obtain ⟨N, rfl⟩ : ∃ n', N = n' + 1 := ⟨N - 1, by omega⟩
    obtain ⟨hB, hH, h4, h5, h6, h7⟩ := hM k (by omega)
    obtain ⟨d1, d2, d3, d4, d5, d6⟩ := hhd k (by omega)
    obtain ⟨s1, f1, t0, w1, w0⟩ := q_fm fu (8 + k) (by omega) hB hH (lo := Mo (Mz k)) (me := (r : Int)) h6 ⟨by omega, by omega⟩ h11 ⟨by omega, by omega⟩
    have fc1 : rfm (fun i k => S_rx i k ∨ i = 14) s s1 := rfm_mono (rfm_frm f1) (fun i j z => Or.inr z)
    have ek : (8 : Int) + (k : Int) = ((8 + k : Nat) : Int) := by omega
    have pre : ∀ (E : xw_S) (v : Int) (K134 : xw_S → Int → Option (xw_S × Int)) (K146 : xw_S → Option (xw_S × Int)), f_MD_formed fu s ((8 + k : Nat) : Int) = some (E, v) → lp_MD_load_104 fu K134 K146 (N + 1) s (k : Int) = xw_grd (xw_r v) (xw_if (v = 0) (K134 E (k : Int)) (xw_bn2 (f_MD_explore fu E ((8 + k : Nat) : Int)) (fun s15 r17 => xw_grd (xw_r r17) (xw_if (r17 = 0) (K134 s15 (k : Int)) (lp_MD_load_104 fu K134 K146 N s15 ((k + 1 : Nat) : Int)))))) := by
      intro E v K134 K146 he
      rw [lp_MD_load_104, h11, xw_grd_t ⟨⟨by omega, by omega⟩, ⟨by omega, by omega⟩⟩, xw_if_f (by omega), ek, xw_bn2_e he]
      rfl
    by_cases hw : m_WF (Mc (Mz k)) (ML (Mz k)) (Mh (Mz k)) (MN (Mz k)) (Mo (Mz k)) (r : Int)
    · have hM1 : ∀ j, j < r → r_M s1 (8 + j) (Mz j) := fun j hj => r_M_f (hM j hj) (rfm_frm f1) (fun i k z => by unfold S_14 at z; omega)
      have hW := m_W_of (hhd k (by omega)) hw
      obtain ⟨s2, rr, S, x1, x2, x3, x4, x5⟩ := q_MDex fu hfu (M := Mz k) (A := fun m => Ma (Mz m)) (me := (r : Int)) (q := 8 + k) (s := s1) hW ⟨(hM1 k (by omega)).1, (hM1 k (by omega)).2.1, (hM1 k (by omega)).2.2.2.1, (hM1 k (by omega)).2.2.2.2.2, by omega, fun m hm => ⟨by rw [show (8 + k) / 4 * 4 + m = 8 + m by omega]; exact (hM1 m (by omega)).2.2.2.1, by have := (hhd m (by omega)).2.1; omega⟩⟩
      have hM2 : ∀ j, j < r → r_M s2 (8 + j) (Mz j) := fun j hj => r_M_f (hM1 j hj) x2 (fun i k z => by unfold S_rx at z; omega)
      have h112 : s2.1 0 11 = (r : Int) := by rw [x2 _ _ (by unfold S_rx; omega), f1.2 _ _ (by unfold S_14; omega)]; exact h11
      by_cases hr1 : rr = 1
      · subst hr1
        have hgd : m_GD (Mz k) (fun m => Ma (Mz m)) (r : Int) := ⟨hw, _, _, x3.2.1 rfl⟩
        rcases ih (k + 1) N s2 (by omega) (by omega) hM2 h112 with ⟨s', g1, g2, g5⟩ | ⟨s', i, g1, g2, g3, g4, g5, g6⟩
        · refine Or.inl ⟨s', fun K58 K70 => ?_, rfm_tr (rfm_tr fc1 x2) g2, fun j j1 j2 => ?_⟩
          · rw [pre s1 1 K58 K70 (w1 hw), xw_grd_t (by decide), xw_if_f (by decide), xw_bn2_e x1, xw_grd_t (by decide), xw_if_f (by decide)]
            exact g1 K58 K70
          · by_cases hjk : j = k
            · subst hjk; exact hgd
            · exact g5 j (by omega) j2
        · refine Or.inr ⟨s', i, by omega, g2, fun j j1 j2 => ?_, g4, fun K58 K70 => ?_, rfm_tr (rfm_tr fc1 x2) g6⟩
          · by_cases hjk : j = k
            · subst hjk; exact hgd
            · exact g3 j (by omega) j2
          · rw [pre s1 1 K58 K70 (w1 hw), xw_grd_t (by decide), xw_if_f (by decide), xw_bn2_e x1, xw_grd_t (by decide), xw_if_f (by decide)]
            exact g5 K58 K70
      · have hr0 : rr = 0 := x3.1.resolve_right hr1
        subst hr0
        refine Or.inr ⟨s2, k, Nat.le_refl _, by omega, fun j j1 j2 => by omega, ?_, fun K58 K70 => ?_, rfm_tr fc1 x2⟩
        · rintro ⟨_, d, T, hC⟩
          exact absurd (x3.2.2 d T hC).1 (by decide)
        · rw [pre s1 1 K58 K70 (w1 hw), xw_grd_t (by decide), xw_if_f (by decide), xw_bn2_e x1, xw_grd_t (by decide), xw_if_t rfl]
    · refine Or.inr ⟨s1, k, Nat.le_refl _, by omega, fun j j1 j2 => by omega, fun z => hw z.1, fun K58 K70 => ?_, fc1⟩
      rw [pre s1 0 K58 K70 (w0 hw), xw_grd_t (by decide), xw_if_t rfl]
/-! the copies made -/
def S_ld : Nat → Nat → Prop := fun i k => 64 ≤ i ∧ i < 80 ∧ ¬ (i % 4 = 0 ∧ k = 3)
theorem l_bc (fu : Nat) {Mz : Nat → m_M} {A : Nat → Int} {r : Nat} (hr : r ≤ 4) (hhd : ∀ j, j < r → m_hd (Mz j)) : ∀ (dd k N : Nat) (s : xw_S), k + dd = r → dd < N → (∀ j, j < r → c_M s j (Mz j) ∧ c_X (Mz j) A j s) → (∀ j, j < k → c_M s (4 + j) (Mz j) ∧ c_X (Mz j) A (4 + j) s) → ∃ s', (∀ K : xw_S → Int → Option (xw_S × Int), lp_AW_load_72 fu (r : Int) K N s (k : Int) = K s' (r : Int)) ∧ frm S_ld s s' ∧ ∀ j, j < r → c_M s' (4 + j) (Mz j) ∧ c_X (Mz j) A (4 + j) s' := by
  intro dd
  induction dd with
  | zero =>
    intro k N s hk hN hM hX
    obtain ⟨N, rfl⟩ : ∃ n', N = n' + 1 := ⟨N - 1, by omega⟩
    exact ⟨s, fun K => by rw [lp_AW_load_72, xw_grd_t ⟨⟨by omega, by omega⟩, ⟨by omega, by omega⟩⟩, xw_if_t (by omega)], frm_rf _ _, fun j hj => hX j (by omega)⟩
  | succ dd ih =>
    intro k N s hk hN hM hX
    obtain ⟨N, rfl⟩ : ∃ n', N = n' + 1 := ⟨N - 1, by omega⟩
    obtain ⟨d1, d2, d3, d4, d5, d6⟩ := hhd k (by omega)
    have hcap : xb_cap (4 + k) = 40 := by unfold xb_cap; rw [if_pos (by omega)]
    have hhc : xb_hc (4 + k) = 12 := by unfold xb_hc; rw [if_pos (by omega)]
    obtain ⟨s1, a1, a2, a3, a4, a5⟩ := q_become fu (b0 := 4 + k) (b1 := k) (by omega) (by omega) (hM k (by omega)).1 (by omega) (by omega)
    obtain ⟨s', g1, g2, g3⟩ := ih (k + 1) N s1 (by omega) (by omega) (fun j hj => ⟨c_M_f (hM j hj).1 a2 (fun i k z => by unfold S_bc at z; omega), c_X_f (hM j hj).2 a2 (fun i k z => by unfold S_bc at z; omega)⟩) (fun j hj => by
      by_cases hjk : j = k
      · subst hjk
        exact ⟨a3, c_X_cp (hM j (by omega)).2 a4 a5⟩
      · exact ⟨c_M_f (hX j (by omega)).1 a2 (fun i k z => by unfold S_bc at z; omega), c_X_f (hX j (by omega)).2 a2 (fun i k z => by unfold S_bc at z; omega)⟩)
    refine ⟨s', fun K => ?_, frm_tr (frm_mono a2 (fun i k z => by unfold S_bc at z; unfold S_ld; omega)) g2, g3⟩
    rw [lp_AW_load_72, xw_grd_t ⟨⟨by omega, by omega⟩, ⟨by omega, by omega⟩⟩, xw_if_f (by omega), xw_grd_t (by omega), show 4 * 0 + ((k : Int)).toNat = k by omega, show 4 * 1 + ((k : Int)).toNat = 4 + k by omega, xw_bnd_e a1, xw_let_e]
    exact g1 K
def S_lR : Nat → Nat → Prop := fun i k => (2 ≤ i ∧ i ≤ 8 ∧ i ≠ 7 ∧ k < 4) ∨ (i = 7 ∧ k < 480) ∨ (i = 9 ∧ k < 80)
theorem l_cp (fu : Nat) (hfu : 1000 ≤ fu) {Mz : Nat → m_M} {r : Nat} (hr : r ≤ 4) : ∀ (dd k N : Nat) (s : xw_S), k + dd = r → dd < N → s.1 0 10 = (r : Int) → (∀ j, j < r → r_M s (8 + j) (Mz j)) → (∀ j, j < k → r_M s j (Mz j)) → ∃ s', (∀ K : xw_S → Option (xw_S × Int), lp_MD_load_161 fu K N s (k : Int) = K s') ∧ frm S_lR s s' ∧ ∀ j, j < r → r_M s' j (Mz j) := by
  intro dd
  induction dd with
  | zero =>
    intro k N s hk hN h10 hM hX
    obtain ⟨N, rfl⟩ : ∃ n', N = n' + 1 := ⟨N - 1, by omega⟩
    exact ⟨s, fun K => by rw [lp_MD_load_161, h10, xw_grd_t ⟨⟨by omega, by omega⟩, ⟨by omega, by omega⟩⟩, xw_if_t (by omega)], frm_rf _ _, fun j hj => hX j (by omega)⟩
  | succ dd ih =>
    intro k N s hk hN h10 hM hX
    obtain ⟨N, rfl⟩ : ∃ n', N = n' + 1 := ⟨N - 1, by omega⟩
    obtain ⟨s1, a1, a2, a3⟩ := q_copy fu hfu (q0 := k) (q1 := 8 + k) (by omega) (by omega) (hM k (by omega))
    have ek : (8 : Int) + (k : Int) = ((8 + k : Nat) : Int) := by omega
    obtain ⟨s', g1, g2, g3⟩ := ih (k + 1) N s1 (by omega) (by omega) (by rw [a2.2 _ _ (by unfold S_cR; omega)]; exact h10) (fun j hj => r_M_f (hM j hj) (rfm_frm a2) (fun i k z => by unfold S_cR at z; omega)) (fun j hj => by
      by_cases hjk : j = k
      · subst hjk; exact a3
      · exact r_M_f (hX j (by omega)) (rfm_frm a2) (fun i k z => by unfold S_cR at z; omega))
    refine ⟨s', fun K => ?_, frm_tr (frm_mono a2 (fun i k z => by unfold S_cR at z; unfold S_lR; omega)) g2, g3⟩
    rw [lp_MD_load_161, h10, xw_grd_t ⟨⟨by omega, by omega⟩, ⟨by omega, by omega⟩⟩, xw_if_f (by omega), ek, xw_bnd_e a1, xw_let_e]
    exact g1 K
/-- what load may change of the class: where it refuses, and where it takes -/
def S_lc0 : Nat → Nat → Prop := fun i k => S_in i k ∨ S_ck i k
def S_lc1 : Nat → Nat → Prop := fun i k => S_lc0 i k ∨ S_ld i k ∨ (i = 0 ∧ (k = 9 ∨ k = 11)) ∨ i = 7
def S_lr0 : Nat → Nat → Prop := fun i k => S_iR i k ∨ S_rx i k ∨ i = 14
def S_lr1 : Nat → Nat → Prop := fun i k => S_lr0 i k ∨ S_lR i k ∨ (i = 0 ∧ (k = 10 ∨ k = 12)) ∨ i = 13
theorem q_load (fu : Nat) (hfu : 10000 ≤ fu) {σ ρ : xw_S} (hb : iv_b σ ρ) (h3 : ∀ j, j < 4 → σ.1 (48 + 4 * j) 3 = ((3 : Nat) : Int)) (hg : ∀ p, p < 120 → 0 ≤ σ.1 9 p ∧ σ.1 9 p < 64) :
    (∃ σ' ρ' r, f_AW_load fu σ = some (σ', r) ∧ f_MD_load fu ρ = some (ρ', r) ∧ frm S_lc0 σ σ' ∧ rfm S_lr0 ρ ρ' ∧ ∀ p, p < 120 → 0 ≤ σ'.1 9 p ∧ σ'.1 9 p < 64) ∨
    (∃ (σ' ρ' : xw_S) (n : Nat) (Mz : Nat → m_M), f_AW_load fu σ = some (σ', (n : Int)) ∧ f_MD_load fu ρ = some (ρ', (n : Int)) ∧ frm S_lc1 σ σ' ∧ rfm S_lr1 ρ ρ' ∧ (∀ p, p < 120 → 0 ≤ σ'.1 9 p ∧ σ'.1 9 p < 64) ∧ (1 ≤ n ∧ n ≤ 4) ∧ (σ'.1 0 9 = (n : Int) ∧ ρ'.1 0 10 = (n : Int) ∧ σ'.1 0 11 = 0 ∧ ρ'.1 0 12 = 0) ∧ (∀ j, j < 12 → σ'.1 7 j = 0 ∧ ρ'.1 13 j = 0) ∧ ∀ j, j < n → c_M σ' (4 + j) (Mz j) ∧ r_M ρ' j (Mz j) ∧ m_hd (Mz j) ∧ m_GD (Mz j) (fun m => Ma (Mz m)) (n : Int) ∧ c_X (Mz j) (fun m => Ma (Mz m)) (4 + j) σ') := by
  obtain ⟨b1, b2, b3, b4⟩ := hb
  obtain ⟨s1, p1, p0, pf, pin, prr, pM⟩ := q_into fu (by omega) (B := σ.1 2) (n := σ.1 1 1) (s := σ) ⟨rfl, b2, b3, fun k hk => ⟨rfl, (b4 k hk).2⟩⟩ h3
  obtain ⟨z1, q1, qf, q2, q0⟩ := q_intoR fu (by omega) (B := σ.1 2) (n := σ.1 1 1) (s := ρ) ⟨b1.symm, b2, b3, fun k hk => ⟨(b4 k hk).1.symm, (b4 k hk).2⟩⟩
  have hg1 : ∀ p, p < 120 → 0 ≤ s1.1 9 p ∧ s1.1 9 p < 64 := fun p hp => by rw [pf.2 _ _ (by unfold S_in S_tk; omega)]; exact hg p hp
  have pin1 := pin.1
  have pin2 := pin.2.1
  by_cases hG : t_G (σ.1 2) (σ.1 1 1)
  · obtain ⟨q2a, q2b, q2c⟩ := q2 hG
    have pM' := pM hG.1
    generalize hr : (t_r4 (σ.1 2) (σ.1 1 1)).toNat = r at *
    have er : t_r4 (σ.1 2) (σ.1 1 1) = (r : Int) := by omega
    rw [er] at p1 q2b
    generalize (t_LL (σ.1 2) (σ.1 1 1)).2 = Mz at *
    have hhd : ∀ j, j < r → m_hd (Mz j) := fun j hj => (pM' j hj).2
    have Lc := l_C fu (by omega) (by omega) hhd r 0 fu s1 (by omega) (by omega) (fun j hj => (pM' j hj).1) (fun j hj => by omega) hg1
    have Lr := l_R fu hfu (by omega) hhd r 0 fu z1 (by omega) (by omega) q2c q2b
    have eC : f_AW_load fu σ = xw_jn (fun (s23 : xw_S) (i1_70 : Int) => xw_jn (fun (s33 : xw_S) (i1_98 : Int) => xw_let (xw_st s33 0 9 i1_98) (fun s34 => xw_let (xw_st s34 0 11 0) (fun s36 => xw_bnd (f_AW_forgetFailures fu s36) (fun s38 => some (s38, i1_98)))))
        (fun (k98 : xw_S → Int → Option (xw_S × Int)) => lp_AW_load_72 fu i1_70 k98 fu s23 0))
        (fun (k70 : xw_S → Int → Option (xw_S × Int)) => xw_jn (fun (s22 : xw_S) (i2_58 : Int) => some (s22, (-1000) - i2_58))
        (fun (k58 : xw_S → Int → Option (xw_S × Int)) => lp_AW_load_20 fu (r : Int) k58 k70 fu s1 0)) := by
      unfold f_AW_load
      rw [xw_bn2_e (p1 hG), xw_grd_t ⟨by omega, by omega⟩, xw_if_t (by omega)]
    have eR : f_MD_load fu ρ = xw_jn (fun (s49 : xw_S) => xw_let (xw_st s49 0 10 (s49.1 0 11)) (fun s50 => xw_let (xw_st s50 0 12 0) (fun s52 => xw_jn (fun (s62 : xw_S) => xw_jn (fun (s71 : xw_S) => some (s71, s71.1 0 10))
        (fun (k205 : xw_S → Option (xw_S × Int)) => lp_MD_load_186 fu k205 fu s62 0))
        (fun (k184 : xw_S → Option (xw_S × Int)) => lp_MD_load_161 fu k184 fu s52 0))))
        (fun (k146 : xw_S → Option (xw_S × Int)) => xw_jn (fun (s48 : xw_S) (i1_134 : Int) => some (s48, (-1000) - i1_134))
        (fun (k134 : xw_S → Int → Option (xw_S × Int)) => lp_MD_load_104 fu k134 k146 fu z1 0)) := by
      rw [q1]
      unfold k_ld30
      rw [q2a, xw_grd_t (by decide), xw_if_t (by decide)]
    rcases Lc with ⟨s2, g1, g2, g3, g4, g5⟩ | ⟨s2, i, g1, g2, g3, g4, g5, g6, g7⟩
    · rcases Lr with ⟨z2, k1, k2, k5⟩ | ⟨z2, i, k1, k2, k3, k4, k5, k6⟩
      · right
        have g1' : ∀ K58 K70 : xw_S → Int → Option (xw_S × Int), lp_AW_load_20 fu (r : Int) K58 K70 fu s1 0 = K70 s2 (r : Int) := g1
        have k1' : ∀ (K134 : xw_S → Int → Option (xw_S × Int)) (K146 : xw_S → Option (xw_S × Int)), lp_MD_load_104 fu K134 K146 fu z1 0 = K146 z2 := k1
        have hM2 : ∀ j, j < r → c_M s2 j (Mz j) := fun j hj => c_M_f (pM' j hj).1 g2 (fun i k z => by unfold S_ck at z; omega)
        obtain ⟨s3, u1, u2, u3⟩ := l_bc fu (A := fun m => Ma (Mz m)) (by omega) hhd r 0 fu s2 (by omega) (by omega) (fun j hj => ⟨hM2 j hj, g4 j hj⟩) (fun j hj => by omega)
        have u1' : ∀ K : xw_S → Int → Option (xw_S × Int), lp_AW_load_72 fu (r : Int) K fu s2 0 = K s3 (r : Int) := u1
        obtain ⟨s4, v1, v2, v3⟩ := q_ff fu (by omega) (xw_st (xw_st s3 0 9 (r : Int)) 0 11 0)
        have hz11 : z2.1 0 11 = (r : Int) := by rw [k2 _ _ (by unfold S_rx; omega)]; exact q2b
        have zM : ∀ j, j < r → r_M (xw_st (xw_st z2 0 10 (r : Int)) 0 12 0) (8 + j) (Mz j) := fun j hj => by
          refine r_M_f (r_M_f (q2c j hj) k2 (fun i k z => by unfold S_rx at z; omega)) (S := fun i _ => i = 0) ?_ (fun i k z => by omega)
          intro i k hik
          rw [st_i hik, st_i hik]
        obtain ⟨z3, w1, w2, w3⟩ := l_cp fu (by omega) (Mz := Mz) (r := r) (by omega) r 0 fu (xw_st (xw_st z2 0 10 (r : Int)) 0 12 0) (by omega) (by omega) (by rw [st_k (by decide), st_s]) zM (fun j hj => by omega)
        have w1' : ∀ K : xw_S → Option (xw_S × Int), lp_MD_load_161 fu K fu (xw_st (xw_st z2 0 10 (r : Int)) 0 12 0) 0 = K z3 := w1
        obtain ⟨z4, y1, y2, y3⟩ := r_ff fu 12 0 fu z3 (by omega) (by omega) (fun j hj => by omega)
        have y1' : ∀ K : xw_S → Option (xw_S × Int), lp_MD_load_186 fu K fu z3 0 = K z4 := y1
        have e10 : z4.1 0 10 = (r : Int) := by rw [y2.2 _ _ (by decide), w2.2 _ _ (by unfold S_lR; omega), st_k (by decide), st_s]
        refine ⟨s4, z4, r, Mz, ?_, ?_, ?_, ?_, ?_, by omega, ⟨?_, e10, ?_, ?_⟩, fun j hj => ⟨v3 j hj, y3 j hj⟩, fun j hj => ?_⟩
        · rw [eC, xw_jn_e, xw_jn_e, g1', xw_jn_e, u1', xw_let_e, xw_let_e, xw_bnd_e v1]
        · rw [eR, xw_jn_e, xw_jn_e, k1', hz11, xw_let_e, xw_let_e, xw_jn_e, w1', xw_jn_e, y1', e10]
        · refine frm_tr (frm_tr (frm_tr (frm_tr (frm_tr (frm_mono pf (fun _ _ z => Or.inl (Or.inl z))) (frm_mono g2 (fun _ _ z => Or.inl (Or.inr z)))) (frm_mono u2 (fun _ _ z => Or.inr (Or.inl z)))) (frm_st (Or.inr (Or.inr (Or.inl ⟨rfl, Or.inl rfl⟩))))) (frm_st (Or.inr (Or.inr (Or.inl ⟨rfl, Or.inr rfl⟩))))) (frm_mono v2 (fun _ _ z => Or.inr (Or.inr (Or.inr z))))
        · refine rfm_tr (rfm_tr (rfm_tr (rfm_tr (rfm_tr (rfm_mono (rfm_frm qf) (fun _ _ z => Or.inl (Or.inl z))) (rfm_mono k2 (fun _ _ z => Or.inl (Or.inr z)))) (rfm_frm (frm_st (Or.inr (Or.inr (Or.inl ⟨rfl, Or.inl rfl⟩)))))) (rfm_frm (frm_st (Or.inr (Or.inr (Or.inl ⟨rfl, Or.inr rfl⟩)))))) (rfm_mono (rfm_frm w2) (fun _ _ z => Or.inr (Or.inl z)))) (rfm_mono (rfm_frm y2) (fun _ _ z => Or.inr (Or.inr (Or.inr z))))
        · intro p hp
          rw [v2.2 9 p (show ¬ (9 = 7) by decide), st_i (by decide), st_i (by decide), u2.2 _ _ (by unfold S_ld; omega)]
          exact g3 p hp
        · rw [v2.2 _ _ (by decide), st_k (by decide), st_s]
        · rw [v2.2 _ _ (by decide), st_s]
        · rw [y2.2 _ _ (by decide), w2.2 _ _ (by unfold S_lR; omega), st_s]
        · have fz : frm (fun i _ => i = 0 ∨ i = 7) s3 s4 := frm_tr (frm_tr (frm_st (Or.inl rfl)) (frm_st (Or.inl rfl))) (frm_mono v2 (fun _ _ z => Or.inr z))
          exact ⟨c_M_f (u3 j hj).1 fz (fun i k z => by omega), r_M_f (w3 j hj) (rfm_frm y2) (fun i k z => by omega), hhd j hj, g5 j (Nat.zero_le _) hj, c_X_f (u3 j hj).2 fz (fun i k z => by omega)⟩
      · exact absurd (g5 i k1 k2) k4
    · rcases Lr with ⟨z2, k1, k2, k5⟩ | ⟨z2, i', k1, k2, k3, k4, k5, k6⟩
      · exact absurd (k5 i g1 g2) g4
      · have ei : i = i' := by
          rcases Nat.lt_trichotomy i i' with h | h | h
          · exact absurd (k3 i g1 h) g4
          · exact h
          · exact absurd (g3 i' k1 h) k4
        subst ei
        left
        have g5' : ∀ K58 K70 : xw_S → Int → Option (xw_S × Int), lp_AW_load_20 fu (r : Int) K58 K70 fu s1 0 = K58 s2 (i : Int) := g5
        have k5' : ∀ (K134 : xw_S → Int → Option (xw_S × Int)) (K146 : xw_S → Option (xw_S × Int)), lp_MD_load_104 fu K134 K146 fu z1 0 = K134 z2 (i : Int) := k5
        refine ⟨s2, z2, (-1000) - (i : Int), ?_, ?_, ?_, ?_, g7⟩
        · rw [eC, xw_jn_e, xw_jn_e, g5']
        · rw [eR, xw_jn_e, xw_jn_e, k5']
        · exact frm_tr (frm_mono pf (fun _ _ z => Or.inl z)) (frm_mono g6 (fun _ _ z => Or.inr z))
        · exact rfm_tr (rfm_mono (rfm_frm qf) (fun _ _ z => Or.inl z)) (rfm_mono k6 (fun _ _ z => Or.inr z))
  · left
    have w := q0 hG
    refine ⟨s1, z1, -1 - (t_LL (σ.1 2) (σ.1 1 1)).1.1, ?_, ?_, frm_mono pf (fun _ _ z => Or.inl z), rfm_mono (rfm_frm qf) (fun _ _ z => Or.inl z), hg1⟩
    · unfold f_AW_load
      rw [xw_bn2_e (p0 hG), xw_grd_t ⟨by omega, by omega⟩, xw_if_f (by omega)]
    · rw [q1]
      unfold k_ld30
      rw [w, xw_grd_t ⟨by omega, by omega⟩, xw_if_f (by omega)]
