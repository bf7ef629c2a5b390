/-! 89.c: weave as a whole, and what always holds -/
/-- method j is woven -/
def w_D (Mz : Nat → m_M) (n : Int) (j : Nat) (σ ρ : xw_S) (W : m_M) : Prop := c_M σ (8 + j) W ∧ r_M ρ (4 + j) W ∧ m_W W n ∧ c_X W (fun m => Ma (Mz m)) (8 + j) σ ∧ m_E W ∧ Ma W = Ma (Mz j)
/-- method j is loaded -/
def w_L (Mz : Nat → m_M) (n : Int) (j : Nat) (σ ρ : xw_S) : Prop := c_M σ (4 + j) (Mz j) ∧ r_M ρ j (Mz j) ∧ m_W (Mz j) n ∧ c_X (Mz j) (fun m => Ma (Mz m)) (4 + j) σ ∧ m_E (Mz j) ∧ m_hd (Mz j)
def S_vc : Nat → Nat → Prop := fun i k => i = 7 ∨ i = 9 ∨ (i = 8 ∧ (k = 1 ∨ k = 2)) ∨ (10 ≤ i ∧ i ≤ 16) ∨ (80 ≤ i ∧ i < 100 ∧ ¬ (i % 4 = 0 ∧ k = 3))
def S_vr : Nat → Nat → Prop := fun i k => i = 13 ∨ i = 14 ∨ (17 ≤ i ∧ i ≤ 21) ∨ (i = 0 ∧ k = 29) ∨ (2 ≤ i ∧ i ≤ 8 ∧ i ≠ 7 ∧ 4 ≤ k ∧ k < 8) ∨ (i = 7 ∧ 480 ≤ k ∧ k < 960) ∨ (i = 9 ∧ 80 ≤ k ∧ k < 160)
theorem w_L_f {Mz : Nat → m_M} {n : Int} {j : Nat} {σ ρ σ' ρ' : xw_S} (hj : j < 4) (h : w_L Mz n j σ ρ) (hf : frm S_vc σ σ') (hg : rfm S_vr ρ ρ') : w_L Mz n j σ' ρ' :=
  ⟨c_M_f h.1 hf (fun i k z => by unfold S_vc at z; omega), r_M_f h.2.1 hg (fun i k z => by unfold S_vr at z; omega), h.2.2.1, c_X_f h.2.2.2.1 hf (fun i k z => by unfold S_vc at z; omega), h.2.2.2.2⟩
/-- one method -/
theorem w_one (fu : Nat) (hfu : 10000 ≤ fu) {Mz : Nat → m_M} {n m : Nat} (hn : n ≤ 4) (hm : m < n) {σ ρ : xw_S} (hc : iv_c σ ρ) (hL : ∀ j, j < n → w_L Mz (n : Int) j σ ρ) (hg : ∀ p, p < 120 → 0 ≤ σ.1 9 p ∧ σ.1 9 p < 64) (h3 : σ.1 (48 + 4 * (8 + m)) 3 = ((5 : Nat) : Int)) (h7 : ∀ j, j < 3 → σ.1 7 (3 * m + j) = 0) (rc : Int) : ∃ (σ1 σ2 σ' ρ1 ρ' : xw_S) (W : m_M) (c : Nat) (r : Int), c ≤ 3 ∧ f_B_become fu σ (8 + m) (4 + m) = some σ1 ∧ f_AW_sendAlongChain fu σ1 (m : Int) = some (σ2, (c : Int)) ∧ f_FL_explore fu σ2 (8 + m) 1 = some (σ', r) ∧ f_MD_copy fu ρ (m : Int) ((4 + m : Nat) : Int) = some ρ1 ∧ (∀ K : xw_S → Int → Int → Option (xw_S × Int), lp_MD_weave_36 fu (m : Int) K fu ρ1 rc 0 = K ρ' (rc + c) (m : Int)) ∧ frm (fun i k => S_vc i k ∧ ¬ (i = 7 ∧ ¬ (3 * m ≤ k ∧ k < 3 * m + 3)) ∧ (80 ≤ i → i < 96 → 80 + 4 * m ≤ i ∧ i < 84 + 4 * m)) σ σ' ∧ frm (fun i k => S_vr i k ∧ ¬ (i = 13 ∧ ¬ (3 * m ≤ k ∧ k < 3 * m + 3)) ∧ (2 ≤ i → i ≤ 8 → i ≠ 7 → k = 4 + m) ∧ (i = 7 → 120 * (4 + m) ≤ k ∧ k < 120 * (4 + m) + 120) ∧ (i = 9 → 20 * (4 + m) ≤ k ∧ k < 20 * (4 + m) + 20)) ρ ρ' ∧ (∀ p, p < 120 → 0 ≤ σ'.1 9 p ∧ σ'.1 9 p < 64) ∧ w_D Mz (n : Int) m σ' ρ' W ∧ ∀ j, j < 3 → σ'.1 7 (3 * m + j) = ρ'.1 13 (3 * m + j) ∧ (σ'.1 7 (3 * m + j) = 0 ∨ σ'.1 7 (3 * m + j) = 1) := by
  obtain ⟨l1, l2, l3, l4, l5, l6⟩ := hL m hm
  obtain ⟨d1, d2, d3, d4, d5, d6⟩ := l6
  have hcap : xb_cap (8 + m) = 120 := by unfold xb_cap; rw [if_neg (by omega)]
  have hhc : xb_hc (8 + m) = 20 := by unfold xb_hc; rw [if_neg (by omega)]
  obtain ⟨σ1, a1, a2, a3, a4, a5⟩ := q_become fu (s := σ) (b0 := 8 + m) (b1 := 4 + m) (by omega) (by omega) l1 (by omega) (by omega)
  obtain ⟨ρ1, b1, b2, b3⟩ := q_copy fu (by omega) (s := ρ) (q1 := m) (q0 := 4 + m) (by omega) (by omega) l2
  have hE1 : c_E (Mz m) (8 + m) σ1 := by
    refine ⟨a3, fun p hp => ?_⟩
    rw [a5 p hp]
    have := l4.2.1 p hp
    by_cases hb : m_bg (Mc (Mz m)) p
    · have := this.1 hb
      exact ⟨⟨by omega, by omega⟩, ⟨fun z => by omega, fun z => absurd hb z⟩⟩
    · have := this.2 hb
      exact ⟨⟨by omega, by omega⟩, ⟨fun _ => hb, fun _ => this⟩⟩
  obtain ⟨S, hEX⟩ := l4.1
  have hw1 : w_M (Mz m) (fun m => Ma (Mz m)) (n : Int) (8 + m) (4 + m) σ1 ρ1 (Mz m) := ⟨hE1, b3, l3, ⟨_, _, hEX.2.1 rfl⟩, l5, rfl, rfl⟩
  obtain ⟨σ2, ρ', W, c, p0, p1, p2, p3, p4, p5, p6, p7⟩ := w_chain fu (by omega) (M0 := Mz m) (A := fun m => Ma (Mz m)) (me := (n : Int)) (m := m) (by omega) ⟨by omega, by omega⟩ d2 3 0 fu fu σ1 ρ1 (Mz m) 0 rc (by omega) (by omega) (by omega) (iv_c_f hc (fun k => a2.2 _ _ (by unfold S_bc; omega)) (fun t k ht => a2.2 _ _ (by unfold S_bc; omega)) (b2.2 _ _ (by unfold S_cR; omega)) (fun t => ⟨b2.2 _ _ (by unfold S_cR; omega), b2.2 _ _ (by unfold S_cR; omega), b2.2 _ _ (by unfold S_cR; omega)⟩)) hw1 (by rw [a2.2 _ _ (by unfold S_bc; omega)]; exact h3) (by rw [b2.2 _ _ (by unfold S_cR; omega)]; exact l2.2.2.1) (by rw [b2.2 _ _ (by unfold S_cR; omega)]; exact l2.2.2.2.1) (fun j _ hj => by rw [a2.2 _ _ (by unfold S_bc; omega)]; exact h7 j hj)
  obtain ⟨w1, w2, w3, ⟨dd, SS, w4⟩, w5, w6⟩ := p5
  have hg2 : ∀ p, p < 120 → 0 ≤ σ2.1 9 p ∧ σ2.1 9 p < 64 := fun p hp => by
    rw [p3.2 _ _ (by unfold S_wc S_ct1 S_ct0; omega), a2.2 _ _ (by unfold S_bc; omega)]
    exact hg p hp
  obtain ⟨σ', r, T, x1, x2, x3, x4, x5, x6, x7⟩ := q_FLex fu (by omega) (M := W) (A := fun m => Ma (Mz m)) (me := (n : Int)) (b := 8 + m) (a := 1) (s := σ2) w3 ⟨by omega, w1.1.1, w1.1.2.1, w1.1.2.2.2.1, w1.1.2.2.2.2.2, by omega, fun k hk => ⟨by
    rw [p3.2 _ _ (by unfold S_wc S_ct1 S_ct0; omega), a2.2 _ _ (by unfold S_bc; omega), show 4 * 1 + k = 4 + k by omega]
    exact (hL k (by omega)).1.2.2.2.1, (hL k (by omega)).2.2.2.2.2.2.1⟩⟩ hg2
  have hr := (x3.2.2 dd SS w4).1
  subst hr
  have fx : frm (fun i k => S_vc i k ∧ ¬ (i = 7 ∧ ¬ (3 * m ≤ k ∧ k < 3 * m + 3)) ∧ (80 ≤ i → i < 96 → 80 + 4 * m ≤ i ∧ i < 84 + 4 * m)) σ σ' := by
    refine frm_tr (frm_tr (frm_mono a2 (fun i k z => ?_)) (frm_mono p3 (fun i k z => ?_))) (frm_mono x2 (fun i k z => ?_))
    · unfold S_bc at z; unfold S_vc; omega
    · unfold S_wc S_ct1 S_ct0 at z; unfold S_vc; omega
    · unfold S_xp S_ex at z; unfold S_vc; omega
  refine ⟨σ1, σ2, σ', ρ1, ρ', W, c, 1, p0, a1, ?_, x1, b1, p2, fx, ?_, x5, ⟨c_M_f w1.1 x2 (fun i k z => by unfold S_xp S_ex at z; omega), w2, w3, ⟨⟨T, x3⟩, x4, x6, x7⟩, w5, w6.2⟩, fun j hj => ?_⟩
  · have := p1 (fun s24 i2 => some (s24, i2))
    rw [show (0 : Int) + (c : Int) = (c : Int) by omega] at this
    exact this
  · refine frm_tr (frm_mono b2 (fun i k z => ?_)) (frm_mono p4 (fun i k z => ?_))
    · unfold S_cR at z; unfold S_vr; omega
    · unfold S_wr S_t1 S_t0 S_em at z; unfold S_vr; omega
  · have := p7 j (Nat.zero_le _) hj
    rw [x2.2 _ _ (by unfold S_xp S_ex; omega)]
    exact this
theorem w_loop (fu : Nat) (hfu : 10000 ≤ fu) {Mz : Nat → m_M} {n : Nat} (hn : n ≤ 4) : ∀ (dd m N1 N2 : Nat) (σ ρ : xw_S) (cnt : Int) (Wz : Nat → m_M), m + dd = n → dd < N1 → dd < N2 → iv_c σ ρ → σ.1 0 9 = (n : Int) → ρ.1 0 10 = (n : Int) → (∀ j, j < n → w_L Mz (n : Int) j σ ρ) → (∀ j, j < m → w_D Mz (n : Int) j σ ρ (Wz j)) → (∀ p, p < 120 → 0 ≤ σ.1 9 p ∧ σ.1 9 p < 64) → (∀ j, j < n → σ.1 (48 + 4 * (8 + j)) 3 = ((5 : Nat) : Int)) → (∀ k, 3 * m ≤ k → k < 12 → σ.1 7 k = 0) → (∀ k, k < 3 * m → σ.1 7 k = ρ.1 13 k ∧ (σ.1 7 k = 0 ∨ σ.1 7 k = 1)) → ∃ (σ' ρ' : xw_S) (c : Int) (Wz' : Nat → m_M), (∀ K : xw_S → Int → Option (xw_S × Int), lp_AW_weave_17 fu K N1 σ cnt (m : Int) = K σ' c) ∧ (∀ K : xw_S → Int → Option (xw_S × Int), lp_MD_weave_18 fu K N2 ρ cnt (m : Int) = K ρ' c) ∧ frm S_vc σ σ' ∧ frm S_vr ρ ρ' ∧ (∀ p, p < 120 → 0 ≤ σ'.1 9 p ∧ σ'.1 9 p < 64) ∧ (∀ j, j < n → w_D Mz (n : Int) j σ' ρ' (Wz' j)) ∧ (∀ k, 3 * n ≤ k → k < 12 → σ'.1 7 k = 0 ∧ ρ'.1 13 k = ρ.1 13 k) ∧ ∀ k, k < 3 * n → σ'.1 7 k = ρ'.1 13 k ∧ (σ'.1 7 k = 0 ∨ σ'.1 7 k = 1) := by
  intro dd
  induction dd with
  | zero =>
    intro m N1 N2 σ ρ cnt Wz hm h1 h2 hc h9 h10 hL hD hg h3 h7 h7'
    obtain ⟨N1, rfl⟩ : ∃ n', N1 = n' + 1 := ⟨N1 - 1, by omega⟩
    obtain ⟨N2, rfl⟩ : ∃ n', N2 = n' + 1 := ⟨N2 - 1, by omega⟩
    have e : m = n := by omega
    subst e
    refine ⟨σ, ρ, cnt, Wz, fun K => ?_, fun K => ?_, frm_rf _ _, frm_rf _ _, hg, hD, fun k k1 k2 => ⟨h7 k k1 k2, rfl⟩, h7'⟩
    · rw [lp_AW_weave_17, h9, xw_grd_t ⟨⟨by omega, by omega⟩, ⟨by omega, by omega⟩⟩, xw_if_t (by omega)]
    · rw [lp_MD_weave_18, h10, xw_grd_t ⟨⟨by omega, by omega⟩, ⟨by omega, by omega⟩⟩, xw_if_t (by omega)]
  | succ dd ih =>
    intro m N1 N2 σ ρ cnt Wz hm h1 h2 hc h9 h10 hL hD hg h3 h7 h7'
    obtain ⟨N1, rfl⟩ : ∃ n', N1 = n' + 1 := ⟨N1 - 1, by omega⟩
    obtain ⟨N2, rfl⟩ : ∃ n', N2 = n' + 1 := ⟨N2 - 1, by omega⟩
    obtain ⟨σ1, σ2, σ3, ρ1, ρ3, W, c, r, q0, q1, q2, q3, q4, q5, q6, q7, q8, q9, q10⟩ := w_one fu hfu hn (show m < n by omega) hc hL hg (h3 m (by omega)) (fun j hj => h7 (3 * m + j) (by omega) (by omega)) cnt
    have f3 : frm S_vc σ σ3 := frm_mono q6 (fun _ _ z => z.1)
    have g3 : frm S_vr ρ ρ3 := frm_mono q7 (fun _ _ z => z.1)
    obtain ⟨σ', ρ', c', Wz', p1, p2, p3, p4, p5, p6, p7, p8⟩ := ih (m + 1) N1 N2 σ3 ρ3 (cnt + c) (fun j => if j = m then W else Wz j) (by omega) (by omega) (by omega) (iv_c_f hc (fun k => f3.2 _ _ (by unfold S_vc; omega)) (fun t k ht => f3.2 _ _ (by unfold S_vc; omega)) (g3.2 _ _ (by unfold S_vr; omega)) (fun t => ⟨g3.2 _ _ (by unfold S_vr; omega), g3.2 _ _ (by unfold S_vr; omega), g3.2 _ _ (by unfold S_vr; omega)⟩)) (by rw [f3.2 _ _ (by unfold S_vc; omega)]; exact h9) (by rw [g3.2 _ _ (by unfold S_vr; omega)]; exact h10) (fun j hj => w_L_f (by omega) (hL j hj) f3 (rfm_frm g3)) (fun j hj => by
      by_cases hjm : j = m
      · subst hjm
        rw [if_pos rfl]
        exact q9
      · rw [if_neg hjm]
        obtain ⟨y1, y2, y3, y4, y5, y6⟩ := hD j (by omega)
        refine ⟨c_M_f y1 q6 (fun i k z => ?_), r_M_f y2 (rfm_frm q7) (fun i k z => ?_), y3, c_X_f y4 q6 (fun i k z => ?_), y5, y6⟩
        · obtain ⟨z1, z2, z3⟩ := z
          omega
        · obtain ⟨z1, z2, z3, z4, z5⟩ := z
          refine ⟨fun u => ?_, fun u => ?_, fun u => ?_⟩
          · have := z3 u.1 u.2.1 u.2.2.1
            omega
          · have := z4 u.1
            omega
          · have := z5 u.1
            omega
        · obtain ⟨z1, z2, z3⟩ := z
          omega) q8 (fun j hj => by rw [f3.2 _ _ (by unfold S_vc; omega)]; exact h3 j hj) (fun k k1 k2 => by rw [q6.2 _ _ (fun z => z.2.1 ⟨rfl, by omega⟩)]; exact h7 k (by omega) k2) (fun k hk => by
      by_cases hkm : k < 3 * m
      · rw [q6.2 _ _ (fun z => z.2.1 ⟨rfl, by omega⟩), q7.2 _ _ (fun z => z.2.1 ⟨rfl, by omega⟩)]
        exact h7' k hkm
      · have := q10 (k - 3 * m) (by omega)
        rw [show 3 * m + (k - 3 * m) = k by omega] at this
        exact this)
    refine ⟨σ', ρ', c', Wz', fun K => ?_, fun K => ?_, frm_tr f3 p3, frm_tr g3 p4, p5, p6, fun k k1 k2 => ⟨(p7 k k1 k2).1, by rw [(p7 k k1 k2).2, q7.2 _ _ (fun z => z.2.1 ⟨rfl, by omega⟩)]⟩, p8⟩
    · rw [lp_AW_weave_17, h9, xw_grd_t ⟨⟨by omega, by omega⟩, ⟨by omega, by omega⟩⟩, xw_if_f (by omega), xw_grd_t (by omega), show 4 * 2 + ((m : Int)).toNat = 8 + m by omega, show 4 * 1 + ((m : Int)).toNat = 4 + m by omega, xw_bnd_e q1, xw_bn2_e q2, xw_let_e, xw_bn2_e q3, xw_let_e]
      exact p1 K
    · rw [lp_MD_weave_18, h10, xw_grd_t ⟨⟨by omega, by omega⟩, ⟨by omega, by omega⟩⟩, xw_if_f (by omega), show (4 : Int) + (m : Int) = ((4 + m : Nat) : Int) by omega, xw_bnd_e q4, xw_jn_e, q5, xw_let_e]
      exact p2 K
/-! what always holds -/
def iv_0 (σ : xw_S) : Prop := (∀ p, p < 120 → 0 ≤ σ.1 9 p ∧ σ.1 9 p < 64) ∧ (∀ j, j < 4 → σ.1 (48 + 4 * j) 3 = ((3 : Nat) : Int)) ∧ ∀ j, j < 4 → σ.1 (48 + 4 * (8 + j)) 3 = ((5 : Nat) : Int)
def iv_I (σ ρ : xw_S) : Prop := iv_b σ ρ ∧ iv_c σ ρ ∧ iv_f σ ρ ∧ iv_r σ ρ ∧ iv_k σ ρ ∧ iv_0 σ ∧ ∃ Mz Wz : Nat → m_M, (∀ j : Nat, (j : Int) < σ.1 0 9 → w_L Mz (σ.1 0 9) j σ ρ) ∧ (σ.1 0 11 = 1 → ∀ j : Nat, (j : Int) < σ.1 0 9 → w_D Mz (σ.1 0 9) j σ ρ (Wz j))
theorem iv_weave (fu : Nat) (hfu : 10000 ≤ fu) {σ ρ : xw_S} (h : iv_I σ ρ) : ∃ σ' ρ' r, f_AW_weave fu σ = some (σ', r) ∧ f_MD_weave fu ρ = some (ρ', r) ∧ iv_I σ' ρ' := by
  obtain ⟨hb, hc, hf, hr, hk, h0, Mz, Wz, hL, hD⟩ := h
  obtain ⟨k1, k2, k3, k4, k5⟩ := hk
  by_cases hz : σ.1 0 9 = 0
  · refine ⟨σ, ρ, -1, ?_, ?_, hb, hc, hf, hr, ⟨k1, k2, k3, k4, k5⟩, h0, Mz, Wz, hL, hD⟩
    · unfold f_AW_weave
      rw [xw_grd_t ⟨by omega, by omega⟩, xw_if_t hz]
    · unfold f_MD_weave
      rw [xw_grd_t ⟨by omega, by omega⟩, xw_if_t (by omega)]
  · obtain ⟨n, en⟩ : ∃ n : Nat, σ.1 0 9 = (n : Int) := ⟨(σ.1 0 9).toNat, by omega⟩
    obtain ⟨σ1, a1, a2, a3⟩ := q_ff fu (by omega) σ
    have f1 : frm S_vc σ σ1 := frm_mono a2 (fun i k z => Or.inl z)
    have g1 : rfm S_vr ρ (xw_st ρ 0 12 1) ∨ True := Or.inr trivial
    have nf1 : ∀ i k, i ≠ 7 → σ1.1 i k = σ.1 i k := fun i k hi => a2.2 i k hi
    have ng1 : ∀ i k, ¬ (i = 0 ∧ k = 12) → (xw_st ρ 0 12 1).1 i k = ρ.1 i k := fun i k hi => by rw [st_e, if_neg hi]
    have hc1 : iv_c σ1 (xw_st ρ 0 12 1) := iv_c_f hc (fun k => nf1 _ _ (by decide)) (fun t k ht => nf1 _ _ (by omega)) (ng1 _ _ (by decide)) (fun t => ⟨ng1 _ _ (by omega), ng1 _ _ (by omega), ng1 _ _ (by omega)⟩)
    rw [en] at hL
    have hL1 : ∀ j, j < n → w_L Mz (n : Int) j σ1 (xw_st ρ 0 12 1) := fun j hj => by
      obtain ⟨y1, y2, y3, y4, y5⟩ := hL j (by omega)
      exact ⟨c_M_f y1 a2 (fun i k z => by omega), r_M_f y2 (S := fun i k => i = 0 ∧ k = 12) (fun i k z => ng1 i k z) (fun i k z => by omega), y3, c_X_f y4 a2 (fun i k z => by omega), y5⟩
    obtain ⟨σ', ρ', c, Wz', p1, p2, p3, p4, p5, p6, p7, p8⟩ := w_loop fu hfu (Mz := Mz) (n := n) (by omega) n 0 fu fu σ1 (xw_st ρ 0 12 1) 0 Wz (by omega) (by omega) (by omega) hc1 (by rw [nf1 _ _ (by decide)]; exact en) (by rw [ng1 _ _ (by decide), ← k1]; exact en) hL1 (fun j hj => by omega) (fun p hp => by rw [nf1 _ _ (by decide)]; exact h0.1 p hp) (fun j hj => by rw [nf1 _ _ (by omega)]; exact h0.2.2 j (by omega)) (fun k _ hk => a3 k hk) (fun k hk => by omega)
    have p1' : ∀ K : xw_S → Int → Option (xw_S × Int), lp_AW_weave_17 fu K fu σ1 0 0 = K σ' c := p1
    have p2' : ∀ K : xw_S → Int → Option (xw_S × Int), lp_MD_weave_18 fu K fu (xw_st ρ 0 12 1) 0 0 = K ρ' c := p2
    -- what the ends hold
    have nf : ∀ i k, ¬ S_vc i k → ¬ (i = 0 ∧ k = 11) → (xw_st σ' 0 11 1).1 i k = σ.1 i k := fun i k hi hi2 => by
      rw [st_e, if_neg hi2, p3.2 _ _ hi, nf1 _ _ (fun z => hi (Or.inl z))]
    have ng : ∀ i k, ¬ S_vr i k → ¬ (i = 0 ∧ k = 12) → ρ'.1 i k = ρ.1 i k := fun i k hi hi2 => by
      rw [p4.2 _ _ hi, ng1 _ _ hi2]
    have e9 : (xw_st σ' 0 11 1).1 0 9 = (n : Int) := by rw [nf _ _ (by unfold S_vc; omega) (by decide)]; exact en
    have fz : frm (fun i k => i = 0 ∧ k = 11) σ' (xw_st σ' 0 11 1) := frm_st ⟨rfl, rfl⟩
    refine ⟨xw_st σ' 0 11 1, ρ', c, ?_, ?_, ?_, ?_, ?_, ?_, ?_, ?_, Mz, Wz', ?_, ?_⟩
    · unfold f_AW_weave
      rw [xw_grd_t ⟨by omega, by omega⟩, xw_if_f hz, xw_bnd_e a1, xw_jn_e, p1', xw_let_e]
    · unfold f_MD_weave
      rw [xw_grd_t ⟨by omega, by omega⟩, xw_if_f (by omega), xw_let_e, xw_jn_e, p2']
    · obtain ⟨b1, b2, b3, b4⟩ := hb
      refine ⟨by rw [nf _ _ (by unfold S_vc; omega) (by decide), ng _ _ (by unfold S_vr; omega) (by decide)]; exact b1, by rw [nf _ _ (by unfold S_vc; omega) (by decide)]; exact b2, by rw [nf _ _ (by unfold S_vc; omega) (by decide)]; exact b3, fun k hk => ?_⟩
      rw [nf _ _ (by unfold S_vc; omega) (by decide)] at hk
      rw [nf _ _ (by unfold S_vc; omega) (by omega), ng _ _ (by unfold S_vr; omega) (by omega)]
      exact b4 k hk
    · obtain ⟨c1, c2, c3, c4⟩ := hc
      refine ⟨by rw [nf _ _ (by unfold S_vc; omega) (by decide), ng _ _ (by unfold S_vr; omega) (by decide)]; exact c1, by rw [nf _ _ (by unfold S_vc; omega) (by decide)]; exact c2, by rw [nf _ _ (by unfold S_vc; omega) (by decide)]; exact c3, fun t ht => ?_⟩
      rw [nf _ _ (by unfold S_vc; omega) (by decide)] at ht
      rw [nf _ _ (by unfold S_vc; omega) (by omega), nf _ _ (by unfold S_vc; omega) (by omega), nf _ _ (by unfold S_vc; omega) (by omega), ng _ _ (by unfold S_vr; omega) (by omega), ng _ _ (by unfold S_vr; omega) (by omega), ng _ _ (by unfold S_vr; omega) (by omega)]
      exact c4 t ht
    · intro k hk
      rw [st_i (by decide), e9]
      by_cases hkn : k < 3 * n
      · exact ⟨(p8 k hkn).1, (p8 k hkn).2, fun z => by omega⟩
      · obtain ⟨q1, q2⟩ := p7 k (by omega) hk
        obtain ⟨f1', f2', f3'⟩ := hf k hk
        have e7 := f3' (by rw [en]; omega)
        rw [q1, q2, ng1 _ _ (by omega), ← f1', e7]
        exact ⟨rfl, Or.inl rfl, fun _ => rfl⟩
    · obtain ⟨r1, r2, r3, r4, r5, r6, r7⟩ := hr
      refine ⟨?_, ?_, ?_, ?_, fun k hk hk2 => ?_, fun m p hm hp => ?_, fun m p hm hp1 hp2 => ?_⟩
      · rw [nf _ _ (by unfold S_vc; omega) (by decide), ng _ _ (by unfold S_vr; omega) (by decide)]; exact r1
      · rw [nf _ _ (by unfold S_vc; omega) (by decide), ng _ _ (by unfold S_vr; omega) (by decide)]; exact r2
      · rw [nf _ _ (by unfold S_vc; omega) (by decide), ng _ _ (by unfold S_vr; omega) (by decide)]; exact r3
      · rw [nf _ _ (by unfold S_vc; omega) (by decide)]; exact r4
      · rw [nf _ _ (by unfold S_vc; omega) (by decide)] at hk2
        rw [nf _ _ (by unfold S_vc; omega) (by omega), ng _ _ (by unfold S_vr; omega) (by omega)]; exact r5 k hk hk2
      · rw [nf _ _ (by unfold S_vc; omega) (by omega), ng _ _ (by unfold S_vr; omega) (by omega)]; exact r6 m p hm hp
      · rw [ng _ _ (by unfold S_vr; omega) (by omega)]; exact r7 m p hm hp1 hp2
    · have e12 : ρ'.1 0 12 = 1 := by rw [p4.2 _ _ (by unfold S_vr; omega), st_s]
      refine ⟨by rw [e9, ng _ _ (by unfold S_vr; omega) (by decide), ← k1, en], by rw [e9]; omega, by rw [e9]; omega, by rw [st_s, e12], Or.inr (st_s _ _ _ _)⟩
    · refine ⟨fun p hp => by rw [st_i (by decide)]; exact p5 p hp, fun j hj => ?_, fun j hj => ?_⟩
      · rw [nf _ _ (by unfold S_vc; omega) (by omega)]; exact h0.2.1 j hj
      · rw [nf _ _ (by unfold S_vc; omega) (by omega)]; exact h0.2.2 j hj
    · intro j hj
      rw [e9] at hj ⊢
      obtain ⟨y1, y2, y3, y4, y5⟩ := w_L_f (show j < 4 by omega) (hL1 j (by omega)) p3 (rfm_frm p4)
      exact ⟨c_M_f y1 fz (fun i k z => by omega), y2, y3, c_X_f y4 fz (fun i k z => by omega), y5⟩
    · intro _ j hj
      rw [e9] at hj ⊢
      obtain ⟨y1, y2, y3, y4, y5⟩ := p6 j (by omega)
      exact ⟨c_M_f y1 fz (fun i k z => by omega), y2, y3, c_X_f y4 fz (fun i k z => by omega), y5⟩
