/-! 83: become and copy; the failures forgotten -/
/-- what is kept of a body that was explored -/
def c_X (M : m_M) (A : Nat → Int) (b : Nat) (s : xw_S) : Prop := (∃ S, m_EX M A (s.1 (50 + 4 * b)) S 1) ∧ (∀ p, p < ML M → (m_bg (Mc M) p → -1 ≤ s.1 (50 + 4 * b) p ∧ s.1 (50 + 4 * b) p ≤ 8 ∧ s.1 (50 + 4 * b) p ≤ Ms M) ∧ (¬ m_bg (Mc M) p → s.1 (50 + 4 * b) p = -2)) ∧ s.1 (48 + 4 * b) 11 = m_gr (s.1 (50 + 4 * b)) (ML M) ∧ s.1 (48 + 4 * b) 10 = m_ct (Mc M) (ML M)
theorem m_ar_c {c : Nat → Int} {L : Nat} {d d' : Nat → Int} {S : Nat → Nat → Prop} {t e : Int} {T : Nat → Prop} (hd : ∀ p, p < L → d p = d' p) (h : m_ar c L d S t e T) : m_ar c L d' S t e T :=
  ⟨h.1, by rw [← hd t.toNat (by have := h.1.1; have := h.1.2.1; omega)]; exact h.2.1, h.2.2⟩
theorem m_CL_c {M : m_M} {A d d' : Nat → Int} {S : Nat → Nat → Prop} (hd : ∀ p, p < ML M → d p = d' p) (h : m_CL M A d S) : m_CL M A d' S := by
  refine ⟨m_ar_c hd h.1, fun p hp hz => ?_⟩
  obtain ⟨⟨a0, a1, a2, a3⟩, a4, a5, a6⟩ := h.2 p hp (by rw [hd p hp]; exact hz)
  have e : m_af M A d' p = m_af M A d p := by unfold m_af; rw [hd p hp]
  refine ⟨⟨by rw [← hd p hp]; exact a0, by rw [← hd p hp]; exact a1, by rw [e]; exact a2, a3⟩, fun z => ?_, fun z => ?_, fun i h1 h2 => m_ar_c hd (a6 i h1 h2)⟩
  · rw [e]; exact m_ar_c hd (a4 z)
  · rw [e]; exact m_ar_c hd (a5 z)
theorem m_EX_c {M : m_M} {A d d' : Nat → Int} {S : Nat → Nat → Prop} {r : Int} (hd : ∀ p, p < ML M → d p = d' p) (h : m_EX M A d S r) : m_EX M A d' S r := by
  obtain ⟨a1, a2, a3⟩ := h
  refine ⟨a1, fun z => m_CL_c hd (a2 z), fun e T hC => ⟨(a3 e T hC).1, fun p hp hz => ?_⟩⟩
  have := (a3 e T hC).2 p hp (by rw [hd p hp]; exact hz)
  rw [← hd p hp]
  exact this
theorem m_gr_c {d d' : Nat → Int} : ∀ n, (∀ p, p < n → d p = d' p) → m_gr d n = m_gr d' n
  | 0, _ => rfl
  | n + 1, h => by
    rw [m_gr, m_gr, m_gr_c n (fun p hp => h p (by omega)), h n (by omega)]
theorem cp_e (σ : xw_S) (i sp j dp n i' k' : Nat) : (xw_cp σ i sp j dp n).1 i' k' = if i' = j ∧ dp ≤ k' ∧ k' < dp + n then σ.1 i (sp + (k' - dp)) else σ.1 i' k' := rfl
def k_bc (s : xw_S) (b0 b1 : Nat) : Nat → xw_S
  | 0 => s
  | k + 1 => xw_st (k_bc s b0 b1 k) (48 + 4 * b0) (4 + k) ((k_bc s b0 b1 k).1 (48 + 4 * b1) (4 + k))
theorem k_bc_e (s : xw_S) {b0 b1 : Nat} (hne : b0 ≠ b1) : ∀ j, frm (fun i k => i = 48 + 4 * b0 ∧ 4 ≤ k ∧ k < 4 + j) s (k_bc s b0 b1 j) ∧ ∀ k, 4 ≤ k → k < 4 + j → (k_bc s b0 b1 j).1 (48 + 4 * b0) k = s.1 (48 + 4 * b1) k
  | 0 => ⟨frm_rf _ _, fun k h1 h2 => by omega⟩
  | j + 1 => by
    obtain ⟨i1, i2⟩ := k_bc_e s hne j
    refine ⟨frm_tr (frm_mono i1 (fun i k z => ⟨z.1, z.2.1, by omega⟩)) (frm_st ⟨rfl, by omega, by omega⟩), fun k h1 h2 => ?_⟩
    rw [k_bc]
    by_cases hk : k = 4 + j
    · rw [hk, st_s, i1.2 _ _ (fun z => hne (by omega))]
    · rw [st_k hk]
      exact i2 k h1 (by omega)
theorem k_become (fu : Nat) (s0 : xw_S) (b0 b1 : Nat) : f_B_become fu s0 b0 b1 = xw_let (k_bc s0 b0 b1 8) (fun s15 => xw_grd ((0 ≤ s15.1 (48 + 4 * b0) 8 ∧ s15.1 (48 + 4 * b0) 8 ≤ ((xb_cap b1 : Nat) : Int) ∧ s15.1 (48 + 4 * b0) 8 ≤ ((xb_cap b0 : Nat) : Int))) (xw_let (xw_cp s15 (49 + 4 * b1) 0 (49 + 4 * b0) 0 (s15.1 (48 + 4 * b0) 8).toNat) (fun s18 => xw_grd ((0 ≤ s18.1 (48 + 4 * b0) 8 ∧ s18.1 (48 + 4 * b0) 8 ≤ ((xb_cap b1 : Nat) : Int) ∧ s18.1 (48 + 4 * b0) 8 ≤ ((xb_cap b0 : Nat) : Int))) (xw_let (xw_cp s18 (50 + 4 * b1) 0 (50 + 4 * b0) 0 (s18.1 (48 + 4 * b0) 8).toNat) (fun s21 => xw_grd ((0 ≤ (s21.1 (48 + 4 * b0) 9) * 4 ∧ (s21.1 (48 + 4 * b0) 9) * 4 ≤ ((xb_hc b1 : Nat) : Int) ∧ (s21.1 (48 + 4 * b0) 9) * 4 ≤ ((xb_hc b0 : Nat) : Int))) (xw_let (xw_cp s21 (51 + 4 * b1) 0 (51 + 4 * b0) 0 ((s21.1 (48 + 4 * b0) 9) * 4).toNat) (fun s24 => some s24))))))) := rfl
def S_bc (b : Nat) : Nat → Nat → Prop := fun i k => i = 49 + 4 * b ∨ i = 50 + 4 * b ∨ i = 51 + 4 * b ∨ (i = 48 + 4 * b ∧ 4 ≤ k ∧ k ≤ 11)
theorem q_become (fu : Nat) {s : xw_S} {b0 b1 : Nat} (hne : b0 ≠ b1) (hb0 : b0 < 13) {M : m_M} (hM : c_M s b1 M) (hL : ML M ≤ xb_cap b0) (hN : 4 * MN M ≤ xb_hc b0) : ∃ s', f_B_become fu s b0 b1 = some s' ∧ frm (S_bc b0) s s' ∧ c_M s' b0 M ∧ (∀ k, 4 ≤ k → k ≤ 11 → s'.1 (48 + 4 * b0) k = s.1 (48 + 4 * b1) k) ∧ ∀ p, p < ML M → s'.1 (50 + 4 * b0) p = s.1 (50 + 4 * b1) p := by
  obtain ⟨⟨a1, a2, a3, a4, a5⟩, ⟨c1, c2, c3, c4, c5⟩, d4, d5, d6, d7⟩ := hM
  obtain ⟨f1, f2⟩ := k_bc_e s hne 8
  have e8 : (k_bc s b0 b1 8).1 (48 + 4 * b0) 8 = (ML M : Int) := by rw [f2 8 (by omega) (by omega)]; exact a3
  have e9 : (k_bc s b0 b1 8).1 (48 + 4 * b0) 9 = (MN M : Int) := by rw [f2 9 (by omega) (by omega)]; exact c3
  rw [k_become, xw_let_e]
  generalize k_bc s b0 b1 8 = s15 at *
  have x1 : (xw_cp s15 (49 + 4 * b1) 0 (49 + 4 * b0) 0 (ML M)).1 (48 + 4 * b0) 8 = (ML M : Int) := by rw [cp_e, if_neg (by omega)]; exact e8
  have x2 : (xw_cp (xw_cp s15 (49 + 4 * b1) 0 (49 + 4 * b0) 0 (ML M)) (50 + 4 * b1) 0 (50 + 4 * b0) 0 (ML M)).1 (48 + 4 * b0) 9 = (MN M : Int) := by rw [cp_e, if_neg (by omega), cp_e, if_neg (by omega)]; exact e9
  rw [e8, xw_grd_t (by omega), xw_let_e, Int.toNat_natCast, x1, xw_grd_t (by omega), xw_let_e, Int.toNat_natCast, x2, xw_grd_t (by omega), xw_let_e, show ((MN M : Int) * 4).toNat = 4 * MN M by omega]
  have g48 : ∀ k, (xw_cp (xw_cp (xw_cp s15 (49 + 4 * b1) 0 (49 + 4 * b0) 0 (ML M)) (50 + 4 * b1) 0 (50 + 4 * b0) 0 (ML M)) (51 + 4 * b1) 0 (51 + 4 * b0) 0 (4 * MN M)).1 (48 + 4 * b0) k = s15.1 (48 + 4 * b0) k := fun k => by
    rw [cp_e, if_neg (by omega), cp_e, if_neg (by omega), cp_e, if_neg (by omega)]
  have g49 : ∀ p, p < ML M → (xw_cp (xw_cp (xw_cp s15 (49 + 4 * b1) 0 (49 + 4 * b0) 0 (ML M)) (50 + 4 * b1) 0 (50 + 4 * b0) 0 (ML M)) (51 + 4 * b1) 0 (51 + 4 * b0) 0 (4 * MN M)).1 (49 + 4 * b0) p = s.1 (49 + 4 * b1) p := fun p hp => by
    rw [cp_e, if_neg (by omega), cp_e, if_neg (by omega), cp_e, if_pos ⟨rfl, by omega, by omega⟩, f1.2 _ _ (by omega), show 0 + (p - 0) = p by omega]
  have g50 : ∀ p, p < ML M → (xw_cp (xw_cp (xw_cp s15 (49 + 4 * b1) 0 (49 + 4 * b0) 0 (ML M)) (50 + 4 * b1) 0 (50 + 4 * b0) 0 (ML M)) (51 + 4 * b1) 0 (51 + 4 * b0) 0 (4 * MN M)).1 (50 + 4 * b0) p = s.1 (50 + 4 * b1) p := fun p hp => by
    rw [cp_e, if_neg (by omega), cp_e, if_pos ⟨rfl, by omega, by omega⟩, cp_e, if_neg (by omega), f1.2 _ _ (by omega), show 0 + (p - 0) = p by omega]
  have g51 : ∀ p, p < 4 * MN M → (xw_cp (xw_cp (xw_cp s15 (49 + 4 * b1) 0 (49 + 4 * b0) 0 (ML M)) (50 + 4 * b1) 0 (50 + 4 * b0) 0 (ML M)) (51 + 4 * b1) 0 (51 + 4 * b0) 0 (4 * MN M)).1 (51 + 4 * b0) p = s.1 (51 + 4 * b1) p := fun p hp => by
    rw [cp_e, if_pos ⟨rfl, by omega, by omega⟩, cp_e, if_neg (by omega), cp_e, if_neg (by omega), f1.2 _ _ (by omega), show 0 + (p - 0) = p by omega]
  have gf : frm (S_bc b0) s (xw_cp (xw_cp (xw_cp s15 (49 + 4 * b1) 0 (49 + 4 * b0) 0 (ML M)) (50 + 4 * b1) 0 (50 + 4 * b0) 0 (ML M)) (51 + 4 * b1) 0 (51 + 4 * b0) 0 (4 * MN M)) := ⟨f1.1, fun i k z => by
    unfold S_bc at z
    rw [cp_e, if_neg (by omega), cp_e, if_neg (by omega), cp_e, if_neg (by omega), f1.2 _ _ (by omega)]⟩
  generalize xw_cp (xw_cp (xw_cp s15 (49 + 4 * b1) 0 (49 + 4 * b0) 0 (ML M)) (50 + 4 * b1) 0 (50 + 4 * b0) 0 (ML M)) (51 + 4 * b1) 0 (51 + 4 * b0) 0 (4 * MN M) = s' at *
  refine ⟨s', rfl, gf, ⟨⟨hb0, hL, ?_, fun p hp => ?_, a5⟩, ⟨hb0, hN, ?_, fun p hp => ?_, c5⟩, ?_, ?_, ?_, ?_⟩, fun k h1 h2 => ?_, g50⟩
  · rw [g48]; exact e8
  · rw [g49 p hp]; exact a4 p hp
  · rw [g48]; exact e9
  · rw [g51 p hp]; exact c4 p hp
  · rw [g48, f2 4 (by omega) (by omega)]; exact d4
  · rw [g48, f2 5 (by omega) (by omega)]; exact d5
  · rw [g48, f2 6 (by omega) (by omega)]; exact d6
  · rw [g48, f2 7 (by omega) (by omega)]; exact d7
  · rw [g48, f2 k h1 (by omega)]
theorem c_X_cp {s s' : xw_S} {b0 b1 : Nat} {M : m_M} {A : Nat → Int} (hX : c_X M A b1 s) (h1 : ∀ k, 4 ≤ k → k ≤ 11 → s'.1 (48 + 4 * b0) k = s.1 (48 + 4 * b1) k) (h2 : ∀ p, p < ML M → s'.1 (50 + 4 * b0) p = s.1 (50 + 4 * b1) p) : c_X M A b0 s' := by
  obtain ⟨⟨S, x1⟩, x2, x3, x4⟩ := hX
  refine ⟨⟨S, m_EX_c (fun p hp => (h2 p hp).symm) x1⟩, fun p hp => ?_, ?_, ?_⟩
  · rw [h2 p hp]; exact x2 p hp
  · rw [h1 11 (by omega) (by omega), x3]
    exact m_gr_c _ (fun p hp => (h2 p hp).symm)
  · rw [h1 10 (by omega) (by omega)]; exact x4
theorem c_X_f {s s' : xw_S} {b : Nat} {M : m_M} {A : Nat → Int} {S : Nat → Nat → Prop} (hX : c_X M A b s) (hf : frm S s s') (hS : ∀ i k, S i k → ¬ (i = 48 + 4 * b ∧ 4 ≤ k ∧ k ≤ 11) ∧ i ≠ 50 + 4 * b) : c_X M A b s' :=
  c_X_cp hX (fun k h1 h2 => hf.2 _ _ (fun z => (hS _ _ z).1 ⟨rfl, h1, h2⟩)) (fun p _ => hf.2 _ _ (fun z => (hS _ _ z).2 rfl))
/-! the reference's copy -/
theorem r_cp7 (fu : Nat) {q1 q0 : Nat} (h1 : q1 < 12) (h0 : q0 < 12) (hne : q0 ≠ q1) : ∀ (dd k N : Nat) (s : xw_S), k + dd = 120 → dd < N → ∃ s', (∀ K : xw_S → Option xw_S, lp_MD_copy_74 fu (q1 : Int) (q0 : Int) K N s (k : Int) = K s') ∧ frm (fun i j => i = 7 ∧ 120 * q0 + k ≤ j ∧ j < 120 * q0 + 120) s s' ∧ ∀ j, k ≤ j → j < 120 → s'.1 7 (120 * q0 + j) = s.1 7 (120 * q1 + j) := by
  intro dd
  induction dd with
  | zero =>
    intro k N s hk hN
    obtain ⟨N, rfl⟩ : ∃ n', N = n' + 1 := ⟨N - 1, by omega⟩
    exact ⟨s, fun K => by rw [lp_MD_copy_74, xw_grd_t ⟨by omega, by omega⟩, xw_if_t (by omega)], frm_rf _ _, fun j h1 h2 => by omega⟩
  | succ dd ih =>
    intro k N s hk hN
    obtain ⟨N, rfl⟩ : ∃ n', N = n' + 1 := ⟨N - 1, by omega⟩
    obtain ⟨s', g1, g2, g3⟩ := ih (k + 1) N (xw_st s 7 (120 * q0 + k) (s.1 7 (120 * q1 + k))) (by omega) (by omega)
    refine ⟨s', fun K => ?_, frm_tr (frm_st ⟨rfl, by omega, by omega⟩) (frm_mono g2 (fun i j z => ⟨z.1, by omega, by omega⟩)), fun j j1 j2 => ?_⟩
    · rw [lp_MD_copy_74, xw_grd_t ⟨by omega, by omega⟩, xw_if_f (by omega), xw_grd_t (by omega), xw_grd_t (by omega), xw_let_e, xw_let_e, show ((120 * (q0 : Int)) + (k : Int)).toNat = 120 * q0 + k by omega, show ((120 * (q1 : Int)) + (k : Int)).toNat = 120 * q1 + k by omega]
      exact g1 K
    · by_cases hj : j = k
      · rw [hj, g2.2 _ _ (by omega), st_s]
      · rw [g3 j (by omega) j2, st_k (by omega)]
theorem r_cp9 (fu : Nat) {q1 q0 : Nat} (h1 : q1 < 12) (h0 : q0 < 12) (hne : q0 ≠ q1) : ∀ (dd k N : Nat) (s : xw_S), k + dd = 20 → dd < N → ∃ s', (∀ K : xw_S → Option xw_S, lp_MD_copy_110 fu (q1 : Int) (q0 : Int) K N s (k : Int) = K s') ∧ frm (fun i j => i = 9 ∧ 20 * q0 + k ≤ j ∧ j < 20 * q0 + 20) s s' ∧ ∀ j, k ≤ j → j < 20 → s'.1 9 (20 * q0 + j) = s.1 9 (20 * q1 + j) := by
  intro dd
  induction dd with
  | zero =>
    intro k N s hk hN
    obtain ⟨N, rfl⟩ : ∃ n', N = n' + 1 := ⟨N - 1, by omega⟩
    exact ⟨s, fun K => by rw [lp_MD_copy_110, xw_grd_t ⟨by omega, by omega⟩, xw_if_t (by omega)], frm_rf _ _, fun j h1 h2 => by omega⟩
  | succ dd ih =>
    intro k N s hk hN
    obtain ⟨N, rfl⟩ : ∃ n', N = n' + 1 := ⟨N - 1, by omega⟩
    obtain ⟨s', g1, g2, g3⟩ := ih (k + 1) N (xw_st s 9 (20 * q0 + k) (s.1 9 (20 * q1 + k))) (by omega) (by omega)
    refine ⟨s', fun K => ?_, frm_tr (frm_st ⟨rfl, by omega, by omega⟩) (frm_mono g2 (fun i j z => ⟨z.1, by omega, by omega⟩)), fun j j1 j2 => ?_⟩
    · rw [lp_MD_copy_110, xw_grd_t ⟨by omega, by omega⟩, xw_if_f (by omega), xw_grd_t (by omega), xw_grd_t (by omega), xw_let_e, xw_let_e, show ((20 * (q0 : Int)) + (k : Int)).toNat = 20 * q0 + k by omega, show ((20 * (q1 : Int)) + (k : Int)).toNat = 20 * q1 + k by omega]
      exact g1 K
    · by_cases hj : j = k
      · rw [hj, g2.2 _ _ (by omega), st_s]
      · rw [g3 j (by omega) j2, st_k (by omega)]
def S_cR (q : Nat) : Nat → Nat → Prop := fun i k => (2 ≤ i ∧ i ≤ 8 ∧ i ≠ 7 ∧ k = q) ∨ (i = 7 ∧ 120 * q ≤ k ∧ k < 120 * q + 120) ∨ (i = 9 ∧ 20 * q ≤ k ∧ k < 20 * q + 20)
def k_cy (s : xw_S) (q1 q0 : Nat) : xw_S :=
  let s3 := xw_st s 2 q0 (s.1 2 q1)
  let s5 := xw_st s3 3 q0 (s3.1 3 q1)
  let s7 := xw_st s5 4 q0 (s5.1 4 q1)
  let s9 := xw_st s7 5 q0 (s7.1 5 q1)
  let s11 := xw_st s9 6 q0 (s9.1 6 q1)
  xw_st s11 8 q0 (s11.1 8 q1)
theorem k_cy_e (s : xw_S) (q1 q0 : Nat) : frm (fun i k => 2 ≤ i ∧ i ≤ 8 ∧ i ≠ 7 ∧ k = q0) s (k_cy s q1 q0) ∧ ∀ i, 2 ≤ i → i ≤ 8 → i ≠ 7 → (k_cy s q1 q0).1 i q0 = s.1 i q1 := by
  have f1 : frm (fun i k => 2 ≤ i ∧ i ≤ 8 ∧ i ≠ 7 ∧ k = q0) s (k_cy s q1 q0) := by
    unfold k_cy
    exact frm_tr (frm_tr (frm_tr (frm_tr (frm_tr (frm_st ⟨by decide, by decide, by decide, rfl⟩) (frm_st ⟨by decide, by decide, by decide, rfl⟩)) (frm_st ⟨by decide, by decide, by decide, rfl⟩)) (frm_st ⟨by decide, by decide, by decide, rfl⟩)) (frm_st ⟨by decide, by decide, by decide, rfl⟩)) (frm_st ⟨by decide, by decide, by decide, rfl⟩)
  refine ⟨f1, fun i h1 h2 h3 => ?_⟩
  have hi : i = 2 ∨ i = 3 ∨ i = 4 ∨ i = 5 ∨ i = 6 ∨ i = 8 := by omega
  unfold k_cy
  dsimp only
  rcases hi with rfl | rfl | rfl | rfl | rfl | rfl
  · rw [st_i (by decide), st_i (by decide), st_i (by decide), st_i (by decide), st_i (by decide), st_s]
  · rw [st_i (by decide), st_i (by decide), st_i (by decide), st_i (by decide), st_s, st_i (by decide)]
  · rw [st_i (by decide), st_i (by decide), st_i (by decide), st_s, st_i (by decide), st_i (by decide)]
  · rw [st_i (by decide), st_i (by decide), st_s, st_i (by decide), st_i (by decide), st_i (by decide)]
  · rw [st_i (by decide), st_s, st_i (by decide), st_i (by decide), st_i (by decide), st_i (by decide)]
  · rw [st_s, st_i (by decide), st_i (by decide), st_i (by decide), st_i (by decide), st_i (by decide)]
theorem q_copy (fu : Nat) (hfu : 1000 ≤ fu) {s : xw_S} {q1 q0 : Nat} (h0 : q0 < 12) (hne : q0 ≠ q1) {M : m_M} (hM : r_M s q1 M) : ∃ s', f_MD_copy fu s (q1 : Int) (q0 : Int) = some s' ∧ frm (S_cR q0) s s' ∧ r_M s' q0 M := by
  have h1 : q1 < 12 := hM.1.1
  obtain ⟨f1, f2⟩ := k_cy_e s q1 q0
  obtain ⟨s2, g1, g2, g3⟩ := r_cp7 fu h1 h0 hne 120 0 fu (k_cy s q1 q0) (by omega) (by omega)
  obtain ⟨s3, k1, k2, k3⟩ := r_cp9 fu h1 h0 hne 20 0 fu s2 (by omega) (by omega)
  have g1' : ∀ K : xw_S → Option xw_S, lp_MD_copy_74 fu (q1 : Int) (q0 : Int) K fu (k_cy s q1 q0) 0 = K s2 := g1
  have k1' : ∀ K : xw_S → Option xw_S, lp_MD_copy_110 fu (q1 : Int) (q0 : Int) K fu s2 0 = K s3 := k1
  obtain ⟨⟨a1, a2, a3, a4, a5⟩, ⟨c1, c2, c3, c4, c5⟩, d4, d5, d6, d7⟩ := hM
  have ef : ∀ i, 2 ≤ i → i ≤ 8 → i ≠ 7 → s3.1 i q0 = s.1 i q1 := fun i i1 i2 i3 => by rw [k2.2 _ _ (by omega), g2.2 _ _ (by omega)]; exact f2 i i1 i2 i3
  refine ⟨s3, ?_, ?_, ⟨⟨h0, a2, ?_, fun p hp => ?_, a5⟩, ⟨h0, c2, ?_, fun i hi => ?_, c5⟩, ?_, ?_, ?_, ?_⟩⟩
  · have e : f_MD_copy fu s (q1 : Int) (q0 : Int) = xw_grd ((0 ≤ (q1 : Int) ∧ (q1 : Int) < ((12 : Nat) : Int))) (xw_grd ((0 ≤ (q0 : Int) ∧ (q0 : Int) < ((12 : Nat) : Int))) (xw_jn (fun (s24 : xw_S) => xw_jn (fun (s34 : xw_S) => some s34)
 (fun (k144 : xw_S → Option xw_S) => lp_MD_copy_110 fu (q1 : Int) (q0 : Int) k144 fu s24 0))
 (fun (k108 : xw_S → Option xw_S) => lp_MD_copy_74 fu (q1 : Int) (q0 : Int) k108 fu (k_cy s ((q1 : Int)).toNat ((q0 : Int)).toNat) 0))) := rfl
    rw [e, xw_grd_t (by omega), xw_grd_t (by omega), xw_jn_e, Int.toNat_natCast, Int.toNat_natCast, g1', xw_jn_e, k1']
  · exact frm_tr (frm_tr (frm_mono f1 (fun _ _ z => Or.inl z)) (frm_mono g2 (fun _ _ z => Or.inr (Or.inl ⟨z.1, by omega, by omega⟩)))) (frm_mono k2 (fun _ _ z => Or.inr (Or.inr ⟨z.1, by omega, by omega⟩)))
  · rw [ef 6 (by omega) (by omega) (by omega)]; exact a3
  · rw [k2.2 _ _ (by omega), g3 p (by omega) (by omega), f1.2 _ _ (by omega)]
    exact a4 p hp
  · rw [ef 8 (by omega) (by omega) (by omega)]; exact c3
  · rw [k3 i (by omega) (by omega), g2.2 _ _ (by omega), f1.2 _ _ (by omega)]
    exact c4 i hi
  · rw [ef 2 (by omega) (by omega) (by omega)]; exact d4
  · rw [ef 3 (by omega) (by omega) (by omega)]; exact d5
  · rw [ef 4 (by omega) (by omega) (by omega)]; exact d6
  · rw [ef 5 (by omega) (by omega) (by omega)]; exact d7
/-! the failures forgotten -/
theorem c_ff (fu : Nat) : ∀ (dd k N : Nat) (s : xw_S), k + dd = 12 → dd < N → (∀ j, j < k → s.1 7 j = 0) → ∃ s', (∀ K : xw_S → Option xw_S, lp_AW_forgetFailures_2 fu K N s (k : Int) = K s') ∧ frm (fun i _ => i = 7) s s' ∧ ∀ j, j < 12 → s'.1 7 j = 0 := by
  intro dd
  induction dd with
  | zero =>
    intro k N s hk hN h
    obtain ⟨N, rfl⟩ : ∃ n', N = n' + 1 := ⟨N - 1, by omega⟩
    exact ⟨s, fun K => by rw [lp_AW_forgetFailures_2, xw_grd_t ⟨by omega, by omega⟩, xw_if_t (by omega)], frm_rf _ _, fun j hj => h j (by omega)⟩
  | succ dd ih =>
    intro k N s hk hN h
    obtain ⟨N, rfl⟩ : ∃ n', N = n' + 1 := ⟨N - 1, by omega⟩
    obtain ⟨s', g1, g2, g3⟩ := ih (k + 1) N (xw_st s 7 k 0) (by omega) (by omega) (fun j hj => by
      by_cases hjk : j = k
      · rw [hjk, st_s]
      · rw [st_k hjk]; exact h j (by omega))
    refine ⟨s', fun K => ?_, frm_tr (frm_st rfl) g2, g3⟩
    rw [lp_AW_forgetFailures_2, xw_grd_t ⟨by omega, by omega⟩, xw_if_f (by omega), xw_grd_t (by omega), xw_let_e, xw_let_e, Int.toNat_natCast]
    exact g1 K
theorem q_ff (fu : Nat) (hfu : 1000 ≤ fu) (s : xw_S) : ∃ s', f_AW_forgetFailures fu s = some s' ∧ frm (fun i _ => i = 7) s s' ∧ ∀ j, j < 12 → s'.1 7 j = 0 := by
  obtain ⟨s', g1, g2, g3⟩ := c_ff fu 12 0 fu s (by omega) (by omega) (fun j hj => by omega)
  exact ⟨s', g1 (fun s9 => some s9), g2, g3⟩
theorem r_ff (fu : Nat) : ∀ (dd k N : Nat) (s : xw_S), k + dd = 12 → dd < N → (∀ j, j < k → s.1 13 j = 0) → ∃ s', (∀ K : xw_S → Option (xw_S × Int), lp_MD_load_186 fu K N s (k : Int) = K s') ∧ frm (fun i _ => i = 13) s s' ∧ ∀ j, j < 12 → s'.1 13 j = 0 := by
  intro dd
  induction dd with
  | zero =>
    intro k N s hk hN h
    obtain ⟨N, rfl⟩ : ∃ n', N = n' + 1 := ⟨N - 1, by omega⟩
    exact ⟨s, fun K => by rw [lp_MD_load_186, xw_grd_t ⟨by omega, by omega⟩, xw_if_t (by omega)], frm_rf _ _, fun j hj => h j (by omega)⟩
  | succ dd ih =>
    intro k N s hk hN h
    obtain ⟨N, rfl⟩ : ∃ n', N = n' + 1 := ⟨N - 1, by omega⟩
    obtain ⟨s', g1, g2, g3⟩ := ih (k + 1) N (xw_st s 13 k 0) (by omega) (by omega) (fun j hj => by
      by_cases hjk : j = k
      · rw [hjk, st_s]
      · rw [st_k hjk]; exact h j (by omega))
    refine ⟨s', fun K => ?_, frm_tr (frm_st rfl) g2, g3⟩
    rw [lp_MD_load_186, xw_grd_t ⟨by omega, by omega⟩, xw_if_f (by omega), xw_grd_t (by omega), xw_let_e, xw_let_e, Int.toNat_natCast]
    exact g1 K
