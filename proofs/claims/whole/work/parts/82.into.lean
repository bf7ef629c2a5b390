/-! 82: all methods are read -/
theorem t_s_1 {B : Nat → Int} {n : Int} {σ : t_S} (h : σ.2 = 1) (lo hi : Int) : t_s B n σ lo hi = σ := by
  unfold t_s
  rw [if_neg (fun z => by have := z.1; omega)]
  exact Prod.ext rfl h.symm
theorem t_d_b {σ : t_S} (h : σ.2 = 1) (nm : Nat → Int) (x : Int) (k : Nat) : t_d nm x σ k = σ := by
  have := t_d_1 (nm := nm) (x := x) (σ := σ) (k := 0) (by show σ.2 ≠ 0; omega) k
  rw [Nat.zero_add] at this
  exact this
theorem t_cs_b {B : Nat → Int} {n : Int} {σ : t_S} (h : σ.2 = 1) (hi : Nat → Int) (k : Nat) : t_cs B n hi σ k = σ := by
  have := t_cs_1 (B := B) (n := n) (hi := hi) (σ := σ) (k := 0) h k
  rw [Nat.zero_add] at this
  exact this
theorem t_M_1 {B : Nat → Int} {n : Int} {σ : t_S} (h : σ.2 = 1) (nm : Nat → Int) (i : Nat) : (t_M B n nm i σ).1 = σ := by
  simp only [t_M, t_s_1 h, t_d_b h, t_cs_b h]
def t_L (B : Nat → Int) (n : Int) (σ : t_S) : Nat → t_S × (Nat → m_M)
  | 0 => (σ, fun _ => (fun _ => 0, 0, fun _ => 0, 0, 0, 0, 0, 0))
  | k + 1 => ((t_M B n (fun j => Mm ((t_L B n σ k).2 j)) k (t_L B n σ k).1).1, fun j => if j = k then (t_M B n (fun j => Mm ((t_L B n σ k).2 j)) k (t_L B n σ k).1).2 else (t_L B n σ k).2 j)
theorem t_L_1 {B : Nat → Int} {n : Int} {σ : t_S} {k : Nat} (h : (t_L B n σ k).1.2 = 1) : ∀ m, (t_L B n σ (k + m)).1 = (t_L B n σ k).1
  | 0 => rfl
  | m + 1 => by
    rw [← Nat.add_assoc, t_L, t_L_1 h m]
    exact t_M_1 h _ _
theorem t_M_hd (B : Nat → Int) (n : Int) (nm : Nat → Int) (i : Nat) (σ : t_S) : m_hd (t_M B n nm i σ).2 := by
  have hL : ∀ τ, 1 ≤ (t_x B n τ 1 40).toNat ∧ (t_x B n τ 1 40).toNat ≤ 40 := fun τ => by
    have := t_x_r (B := B) (n := n) (σ := τ) (lo := 1) (hi := 40) (by decide)
    omega
  have hN : ∀ τ, (t_x B n τ 0 3).toNat ≤ 3 := fun τ => by
    have := t_x_r (B := B) (n := n) (σ := τ) (lo := 0) (hi := 3) (by decide)
    omega
  refine ⟨t_x_r (σ := σ) (by decide), t_x_r (B := B) (n := n) (lo := 0) (hi := 2) (by decide), ?_, t_x_r (B := B) (n := n) (lo := 1) (hi := 8) (by decide), hL _, hN _⟩
  have h1 := t_x_r (B := B) (n := n) (σ := t_d nm (t_x B n σ 97 122) (t_s B n σ 97 122) i) (lo := 0) (hi := 2) (by decide)
  exact t_x_r (B := B) (n := n) (σ := t_s B n (t_d nm (t_x B n σ 97 122) (t_s B n σ 97 122) i) 0 2) (lo := t_x B n (t_d nm (t_x B n σ 97 122) (t_s B n σ 97 122) i) 0 2) (hi := 6) (by omega)
theorem t_L_hd {B : Nat → Int} {n : Int} {σ : t_S} : ∀ k j, j < k → m_hd ((t_L B n σ k).2 j)
  | 0, j, h => by omega
  | k + 1, j, h => by
    have e2 : (t_L B n σ (k + 1)).2 j = if j = k then (t_M B n (fun j => Mm ((t_L B n σ k).2 j)) k (t_L B n σ k).1).2 else (t_L B n σ k).2 j := rfl
    rw [e2]
    by_cases hjk : j = k
    · rw [if_pos hjk]; exact t_M_hd _ _ _ _ _
    · rw [if_neg hjk]; exact t_L_hd k j (by omega)
theorem c_M_f {s s' : xw_S} {b : Nat} {M : m_M} {S : Nat → Nat → Prop} (h : c_M s b M) (hf : frm S s s') (hS : ∀ i k, S i k → ¬ (i = 48 + 4 * b ∧ 4 ≤ k ∧ k ≤ 9) ∧ i ≠ 49 + 4 * b ∧ i ≠ 51 + 4 * b) : c_M s' b M := by
  obtain ⟨⟨b1, b2, b3, b4, b5⟩, ⟨c1, c2, c3, c4, c5⟩, d4, d5, d6, d7⟩ := h
  have e1 : ∀ k, 4 ≤ k → k ≤ 9 → s'.1 (48 + 4 * b) k = s.1 (48 + 4 * b) k := fun k h1 h2 => hf.2 _ _ (fun z => (hS _ _ z).1 ⟨rfl, h1, h2⟩)
  have e2 : ∀ k, s'.1 (49 + 4 * b) k = s.1 (49 + 4 * b) k := fun k => hf.2 _ _ (fun z => (hS _ _ z).2.1 rfl)
  have e3 : ∀ k, s'.1 (51 + 4 * b) k = s.1 (51 + 4 * b) k := fun k => hf.2 _ _ (fun z => (hS _ _ z).2.2 rfl)
  refine ⟨⟨b1, b2, ?_, fun p hp => ?_, b5⟩, ⟨c1, c2, ?_, fun i hi => ?_, c5⟩, ?_, ?_, ?_, ?_⟩
  · rw [e1 8 (by omega) (by omega)]; exact b3
  · rw [e2]; exact b4 p hp
  · rw [e1 9 (by omega) (by omega)]; exact c3
  · rw [e3]; exact c4 i hi
  · rw [e1 4 (by omega) (by omega)]; exact d4
  · rw [e1 5 (by omega) (by omega)]; exact d5
  · rw [e1 6 (by omega) (by omega)]; exact d6
  · rw [e1 7 (by omega) (by omega)]; exact d7
theorem r_M_f {s s' : xw_S} {q : Nat} {M : m_M} {S : Nat → Nat → Prop} (h : r_M s q M) (hf : rfm S s s') (hS : ∀ i k, S i k → ¬ (2 ≤ i ∧ i ≤ 8 ∧ i ≠ 7 ∧ k = q) ∧ ¬ (i = 7 ∧ 120 * q ≤ k ∧ k < 120 * q + 120) ∧ ¬ (i = 9 ∧ 20 * q ≤ k ∧ k < 20 * q + 20)) : r_M s' q M := by
  obtain ⟨⟨b1, b2, b3, b4, b5⟩, ⟨c1, c2, c3, c4, c5⟩, d4, d5, d6, d7⟩ := h
  have e1 : ∀ i, 2 ≤ i → i ≤ 8 → i ≠ 7 → s'.1 i q = s.1 i q := fun i h1 h2 h3 => hf _ _ (fun z => (hS _ _ z).1 ⟨h1, h2, h3, rfl⟩)
  have e2 : ∀ k, k < 120 → s'.1 7 (120 * q + k) = s.1 7 (120 * q + k) := fun k hk => hf _ _ (fun z => (hS _ _ z).2.1 ⟨rfl, by omega, by omega⟩)
  have e3 : ∀ k, k < 20 → s'.1 9 (20 * q + k) = s.1 9 (20 * q + k) := fun k hk => hf _ _ (fun z => (hS _ _ z).2.2 ⟨rfl, by omega, by omega⟩)
  refine ⟨⟨b1, b2, ?_, fun p hp => ?_, b5⟩, ⟨c1, c2, ?_, fun i hi => ?_, c5⟩, ?_, ?_, ?_, ?_⟩
  · rw [e1 6 (by omega) (by omega) (by omega)]; exact b3
  · rw [e2 p (by omega)]; exact b4 p hp
  · rw [e1 8 (by omega) (by omega) (by omega)]; exact c3
  · rw [e3 i (by omega)]; exact c4 i hi
  · rw [e1 2 (by omega) (by omega) (by omega)]; exact d4
  · rw [e1 3 (by omega) (by omega) (by omega)]; exact d5
  · rw [e1 4 (by omega) (by omega) (by omega)]; exact d6
  · rw [e1 5 (by omega) (by omega) (by omega)]; exact d7
/-- the class's reader and its fresh bodies -/
def S_in : Nat → Nat → Prop := fun i k => S_tk i k ∨ (48 ≤ i ∧ i < 64 ∧ ¬ (i % 4 = 0 ∧ k = 3))
theorem t_iC (fu : Nat) (hfu : 1000 ≤ fu) {B : Nat → Int} {n : Int} (σ : t_S) {r : Nat} (hr : r ≤ 4) : ∀ (dd k N : Nat) (s : xw_S), k + dd = r → dd < N → t_C B n s (t_L B n σ k).1 → ((t_L B n σ k).1.2 = 0 → ∀ j, j < k → c_M s j ((t_L B n σ k).2 j) ∧ m_hd ((t_L B n σ k).2 j)) → (∀ j, j < 4 → s.1 (48 + 4 * j) 3 = ((3 : Nat) : Int)) → ∃ s', (∀ K : xw_S → Int → Option (xw_S × Int), lp_CF_readInto_30 fu 0 (r : Int) K N s (k : Int) = K s' (r : Int)) ∧ frm S_in s s' ∧ t_C B n s' (t_L B n σ r).1 ∧ ((t_L B n σ r).1.2 = 0 → ∀ j, j < r → c_M s' j ((t_L B n σ r).2 j) ∧ m_hd ((t_L B n σ r).2 j)) := by
  intro dd
  induction dd with
  | zero =>
    intro k N s hk hN hC hM h3
    obtain ⟨N, rfl⟩ : ∃ n', N = n' + 1 := ⟨N - 1, by omega⟩
    have e : r = k := by omega
    subst e
    exact ⟨s, fun K => by rw [lp_CF_readInto_30, xw_grd_t ⟨⟨by omega, by omega⟩, ⟨by omega, by omega⟩⟩, xw_if_t (by omega)], frm_rf _ _, hC, hM⟩
  | succ dd ih =>
    intro k N s hk hN hC hM h3
    obtain ⟨N, rfl⟩ : ∃ n', N = n' + 1 := ⟨N - 1, by omega⟩
    have hw := hC.2.2.2.2.2
    have hw3 := hC.2.2.1
    by_cases h0 : (t_L B n σ k).1.2 = 0
    · have hMk := hM h0
      obtain ⟨s1, a1, a2, a3, a4, a5⟩ := t_rmC fu hfu hC (i := k) (by omega) (nm := fun j => Mm ((t_L B n σ k).2 j)) (fun j hj => ⟨(hMk j hj).1.2.2.1, by
        have := (hMk j hj).2.1
        exact ⟨by omega, by omega⟩⟩) (h3 k (by omega))
      have f1 : frm S_in s s1 := frm_mono a2 (fun i' k' z => by unfold S_rm S_ah S_tk at z; unfold S_in S_tk; omega)
      have a3' : t_C B n s1 (t_L B n σ (k + 1)).1 := a3
      have e2 : ∀ j, (t_L B n σ (k + 1)).2 j = if j = k then (t_M B n (fun j => Mm ((t_L B n σ k).2 j)) k (t_L B n σ k).1).2 else (t_L B n σ k).2 j := fun j => rfl
      obtain ⟨s', g1, g2, g3, g4⟩ := ih (k + 1) N s1 (by omega) (by omega) a3' (fun _ j hj => by
        rw [e2]
        by_cases hjk : j = k
        · rw [if_pos hjk, hjk]
          exact ⟨a4, a5⟩
        · rw [if_neg hjk]
          refine ⟨c_M_f (hMk j (by omega)).1 a2 (fun i' k' z => ?_), (hMk j (by omega)).2⟩
          unfold S_rm S_tk S_ah at z
          omega) (fun j hj => by rw [f1.2 _ _ (by unfold S_in S_tk; omega)]; exact h3 j hj)
      refine ⟨s', fun K => ?_, frm_tr f1 g2, g3, g4⟩
      rw [lp_CF_readInto_30, xw_grd_t ⟨⟨by omega, by omega⟩, ⟨by omega, by omega⟩⟩, xw_if_f (by omega), hw3, xw_grd_t ⟨by omega, by omega⟩, xw_if_t h0, xw_bnd_e a1, xw_let_e]
      exact g1 K
    · have h1 : (t_L B n σ k).1.2 = 1 := by omega
      have e := t_L_1 h1 (r - k)
      rw [show k + (r - k) = r by omega] at e
      rw [e]
      refine ⟨s, fun K => ?_, frm_rf _ _, hC, fun z => absurd z h0⟩
      rw [lp_CF_readInto_30, xw_grd_t ⟨⟨by omega, by omega⟩, ⟨by omega, by omega⟩⟩, xw_if_f (by omega), hw3, xw_grd_t ⟨by omega, by omega⟩, xw_if_f h0]
def t_r4 (B : Nat → Int) (n : Int) : Int := t_x B n (t_s B n (0, 0) 202 202) 1 4
def t_LL (B : Nat → Int) (n : Int) : t_S × (Nat → m_M) := t_L B n (t_s B n (t_s B n (0, 0) 202 202) 1 4) (t_r4 B n).toNat
/-- the bytes are read to their end, and are right -/
def t_G (B : Nat → Int) (n : Int) : Prop := (t_LL B n).1.2 = 0 ∧ n ≤ (t_LL B n).1.1
theorem q_into (fu : Nat) (hfu : 1000 ≤ fu) {B : Nat → Int} {n : Int} {s : xw_S} (hb : s.1 1 1 = n ∧ 0 ≤ n ∧ n ≤ 240 ∧ ∀ k : Nat, (k : Int) < n → s.1 2 k = B k ∧ 0 ≤ B k ∧ B k ≤ 255) (h3 : ∀ j, j < 4 → s.1 (48 + 4 * j) 3 = ((3 : Nat) : Int)) : ∃ s', (t_G B n → f_CF_readInto fu s 0 = some (s', t_r4 B n)) ∧ (¬ t_G B n → f_CF_readInto fu s 0 = some (s', -1 - (t_LL B n).1.1)) ∧ frm S_in s s' ∧ t_in (t_LL B n).1 ∧ (1 ≤ t_r4 B n ∧ t_r4 B n ≤ 4) ∧ ((t_LL B n).1.2 = 0 → ∀ j, j < (t_r4 B n).toNat → c_M s' j ((t_LL B n).2 j) ∧ m_hd ((t_LL B n).2 j)) := by
  obtain ⟨b1, b2, b3, b4⟩ := hb
  have C0 : t_C B n (xw_st (xw_st s 1 2 0) 1 3 0) (0, 0) := by
    refine ⟨⟨by rw [st_k (by decide), st_k (by decide), b1], b2, b3, fun k hk => ⟨by rw [st_i (by decide), st_i (by decide), (b4 k hk).1], (b4 k hk).2⟩⟩, by rw [st_k (by decide), st_s], by rw [st_s], by decide, by decide, Or.inl rfl⟩
  have f0 : frm S_tk s (xw_st (xw_st s 1 2 0) 1 3 0) := frm_tr (frm_st ⟨rfl, Or.inl rfl⟩) (frm_st ⟨rfl, Or.inr rfl⟩)
  obtain ⟨s1, a1, a2, a3⟩ := t_c fu C0 (lo := 202) (hi := 202) (by decide) (by decide)
  obtain ⟨s2, c1, c2, c3⟩ := t_c fu a3 (lo := 1) (hi := 4) (by decide) (by decide)
  have rr : 1 ≤ t_r4 B n ∧ t_r4 B n ≤ 4 := t_x_r (by decide)
  have c1' : f_CF_take fu s1 1 4 = some (s2, t_r4 B n) := c1
  have f2 : frm S_tk s s2 := frm_tr (frm_tr f0 a2) c2
  obtain ⟨s3, g1, g2, g3, g4⟩ := t_iC fu hfu (B := B) (n := n) (t_s B n (t_s B n (0, 0) 202 202) 1 4) (r := (t_r4 B n).toNat) (by omega) (t_r4 B n).toNat 0 fu s2 (by omega) (by omega) c3 (fun _ j hj => by omega) (fun j hj => by rw [f2.2 _ _ (by unfold S_tk; omega)]; exact h3 j hj)
  have g1' : ∀ K : xw_S → Int → Option (xw_S × Int), lp_CF_readInto_30 fu 0 (t_r4 B n) K fu s2 0 = K s3 (t_r4 B n) := fun K => by
    have := g1 K
    rw [show (((t_r4 B n).toNat : Nat) : Int) = t_r4 B n by omega] at this
    exact this
  have g3' : t_C B n s3 (t_LL B n).1 := g3
  have e : f_CF_readInto fu s 0 = xw_grd (xw_r (s3.1 1 3)) (xw_if (s3.1 1 3 = 0) (xw_grd (xw_r (s3.1 1 2) ∧ xw_r (s3.1 1 1)) (xw_if (s3.1 1 1 ≤ s3.1 1 2) (some (s3, t_r4 B n)) (some (s3, (-1) - (s3.1 1 2))))) (some (s3, (-1) - (s3.1 1 2)))) := by
    unfold f_CF_readInto
    rw [xw_let_e, xw_let_e, xw_bn2_e a1, xw_bn2_e c1', xw_jn_e, g1', xw_jn_e]
  obtain ⟨⟨x1, x2, x3, x4⟩, y1, y2, y3, y4, y5⟩ := g3'
  rw [e, y1, y2, x1, xw_grd_t ⟨by omega, by omega⟩, xw_grd_t ⟨⟨by omega, by omega⟩, ⟨by omega, by omega⟩⟩]
  refine ⟨s3, fun hg => ?_, fun hg => ?_, frm_tr (frm_mono f2 (fun _ _ z => Or.inl z)) g2, ⟨y3, y4, y5⟩, rr, g4⟩
  · rw [xw_if_t hg.1, xw_if_t hg.2]
  · by_cases h0 : (t_LL B n).1.2 = 0
    · rw [xw_if_t h0, xw_if_f (fun z => hg ⟨h0, z⟩)]
    · rw [xw_if_f h0]
/-- the reference's reader and its fresh methods -/
def S_iR : Nat → Nat → Prop := fun i k => S_nx i k ∨ (i = 0 ∧ k = 11) ∨ (2 ≤ i ∧ i ≤ 8 ∧ i ≠ 7 ∧ 8 ≤ k ∧ k < 12) ∨ (i = 7 ∧ 960 ≤ k ∧ k < 1440) ∨ (i = 9 ∧ 160 ≤ k ∧ k < 240)
theorem t_iR (fu : Nat) (hfu : 1000 ≤ fu) {B : Nat → Int} {n : Int} (σ : t_S) {r : Nat} (hr : r ≤ 4) : ∀ (dd k N : Nat) (m : Int) (s : xw_S), k + dd = r → dd < N → 241 ≤ m → m + 10 * (dd : Int) < 80000 → t_R B n m s (t_L B n σ k).1 → ((t_L B n σ k).1.2 = 0 → s.1 0 11 = (r : Int) ∧ ∀ j, j < k → r_M s (8 + j) ((t_L B n σ k).2 j) ∧ m_hd ((t_L B n σ k).2 j)) → (∀ k, (t_L B n σ k).1.2 = 0 → ∀ j, j < k → m_hd ((t_L B n σ k).2 j)) → ∃ s', (∀ K : xw_S → Option (xw_S × Int), lp_MD_load_33 fu K N s (k : Int) = K s') ∧ frm S_iR s s' ∧ t_R B n (m + 10 * (dd : Int)) s' (t_L B n σ r).1 ∧ ((t_L B n σ r).1.2 = 0 → s'.1 0 11 = (r : Int) ∧ ∀ j, j < r → r_M s' (8 + j) ((t_L B n σ r).2 j)) := by
  intro dd
  induction dd with
  | zero =>
    intro k N m s hk hN hm hm2 hR hM hhd
    obtain ⟨N, rfl⟩ : ∃ n', N = n' + 1 := ⟨N - 1, by omega⟩
    have e : r = k := by omega
    subst e
    refine ⟨s, fun K => ?_, frm_rf _ _, t_R_m hR (by omega) (by omega), fun z => ⟨(hM z).1, fun j hj => ((hM z).2 j hj).1⟩⟩
    have hin := hR.2.2.2.2
    by_cases h0 : (t_L B n σ r).1.2 = 0
    · rw [lp_MD_load_33, (hR.2.1 h0).1, xw_grd_t (by decide), xw_if_f (by decide), (hM h0).1, xw_grd_t ⟨⟨by omega, by omega⟩, ⟨by omega, by omega⟩⟩, xw_if_t (by omega)]
    · have w := hR.2.2.1 (by have := hin.2.2; omega)
      have w2 := hin.1
      have w3 := hin.2.1
      rw [lp_MD_load_33, w, xw_grd_t ⟨by omega, by omega⟩, xw_if_t w2]
  | succ dd ih =>
    intro k N m s hk hN hm hm2 hR hM hhd
    obtain ⟨N, rfl⟩ : ∃ n', N = n' + 1 := ⟨N - 1, by omega⟩
    have hin := hR.2.2.2.2
    by_cases h0 : (t_L B n σ k).1.2 = 0
    · obtain ⟨h11, hMk⟩ := hM h0
      obtain ⟨s1, a1, a2, a3, a4⟩ := t_rmR fu hfu (B := B) (n := n) (m := m) hm (by omega) hR (i := k) (by omega) (nm := fun j => Mm ((t_L B n σ k).2 j)) (fun j hj => ⟨(hMk j hj).1.2.2.1, by
        have := (hMk j hj).2.1
        exact ⟨by omega, by omega⟩⟩)
      have f1 : frm S_iR s s1 := frm_mono a2 (fun i' k' z => by unfold S_rR S_nx at z; unfold S_iR S_nx; omega)
      have a3' : t_R B n (m + 10) s1 (t_L B n σ (k + 1)).1 := a3
      have e2 : ∀ j, (t_L B n σ (k + 1)).2 j = if j = k then (t_M B n (fun j => Mm ((t_L B n σ k).2 j)) k (t_L B n σ k).1).2 else (t_L B n σ k).2 j := fun j => rfl
      obtain ⟨s', g1, g2, g3, g4⟩ := ih (k + 1) N (m + 10) s1 (by omega) (by omega) (by omega) (by omega) a3' (fun z => ⟨by rw [a2.2 _ _ (by unfold S_rR S_nx; omega)]; exact h11, fun j hj => by
        refine ⟨?_, hhd (k + 1) z j hj⟩
        rw [e2]
        by_cases hjk : j = k
        · rw [if_pos hjk, hjk]
          exact a4 z
        · rw [if_neg hjk]
          refine r_M_f (hMk j (by omega)).1 (rfm_frm a2) (fun i' k' y => ?_)
          unfold S_rR S_nx at y
          omega⟩) hhd
      refine ⟨s', fun K => ?_, frm_tr f1 g2, by
        have : m + 10 + 10 * (dd : Int) = m + 10 * ((dd + 1 : Nat) : Int) := by omega
        rw [← this]; exact g3, g4⟩
      have ek : (8 : Int) + (k : Int) = ((8 + k : Nat) : Int) := by omega
      rw [lp_MD_load_33, (hR.2.1 h0).1, xw_grd_t (by decide), xw_if_f (by decide), h11, xw_grd_t ⟨⟨by omega, by omega⟩, ⟨by omega, by omega⟩⟩, xw_if_f (by omega), ek, xw_bnd_e a1, xw_let_e]
      exact g1 K
    · have h1 : (t_L B n σ k).1.2 = 1 := by have := hin.2.2; omega
      have w := hR.2.2.1 h1
      have w2 := hin.1
      have w3 := hin.2.1
      have e := t_L_1 h1 (r - k)
      rw [show k + (r - k) = r by omega] at e
      rw [e]
      refine ⟨s, fun K => ?_, frm_rf _ _, t_R_m hR (by omega) (by omega), fun z => absurd z h0⟩
      rw [lp_MD_load_33, w, xw_grd_t ⟨by omega, by omega⟩, xw_if_t w2]
/-- the reference's load behind its reading -/
def k_ld30 (fu : Nat) (s30 : xw_S) : Option (xw_S × Int) := xw_grd (xw_r (s30.1 0 14)) (xw_if (s30.1 0 14 < 0) (xw_jn (fun (s49 : xw_S) => xw_let (xw_st s49 0 10 (s49.1 0 11)) (fun s50 => xw_let (xw_st s50 0 12 0) (fun s52 => xw_jn (fun (s62 : xw_S) => xw_jn (fun (s71 : xw_S) => some (s71, s71.1 0 10))
 (fun (k205 : xw_S → Option (xw_S × Int)) => lp_MD_load_186 fu k205 fu s62 0))
 (fun (k184 : xw_S → Option (xw_S × Int)) => lp_MD_load_161 fu k184 fu s52 0))))
 (fun (k146 : xw_S → Option (xw_S × Int)) => xw_jn (fun (s48 : xw_S) (i1_134 : Int) => some (s48, (-1000) - i1_134))
 (fun (k134 : xw_S → Int → Option (xw_S × Int)) => lp_MD_load_104 fu k134 k146 fu s30 0)))
 (some (s30, (-1) - (s30.1 0 14))))
theorem k_load (fu : Nat) (s0 : xw_S) : f_MD_load fu s0 = xw_let (xw_st s0 0 13 0) (fun s1 => xw_let (xw_st s1 0 14 (-1)) (fun s3 => xw_bn2 (f_MD_next fu s3 202 202) (fun s5 r7 => xw_bn2 (f_MD_next fu s5 1 4) (fun s8 r10 => xw_let (xw_st s8 0 11 r10) (fun s11 => xw_jn (fun (s23 : xw_S) => xw_jn (fun (s30 : xw_S) => k_ld30 fu s30)
 (fun (j88 : xw_S → Option (xw_S × Int)) => xw_grd (xw_r (s23.1 0 14)) (xw_if (0 ≤ s23.1 0 14) (j88 s23)
 (xw_grd (xw_r (s23.1 0 13) ∧ xw_r (s23.1 0 1)) (xw_if (s23.1 0 1 ≤ s23.1 0 13) (j88 s23)
 (xw_let (xw_st s23 0 14 (s23.1 0 13)) (fun s28 => j88 s28)))))))
 (fun (k62 : xw_S → Option (xw_S × Int)) => lp_MD_load_33 fu k62 fu s11 0)))))) := rfl
theorem q_intoR (fu : Nat) (hfu : 1000 ≤ fu) {B : Nat → Int} {n : Int} {s : xw_S} (hb : s.1 0 1 = n ∧ 0 ≤ n ∧ n ≤ 240 ∧ ∀ k : Nat, (k : Int) < n → s.1 1 k = B k ∧ 0 ≤ B k ∧ B k ≤ 255) : ∃ s', f_MD_load fu s = k_ld30 fu s' ∧ frm S_iR s s' ∧ (t_G B n → s'.1 0 14 = -1 ∧ s'.1 0 11 = t_r4 B n ∧ ∀ j, j < (t_r4 B n).toNat → r_M s' (8 + j) ((t_LL B n).2 j)) ∧ (¬ t_G B n → s'.1 0 14 = (t_LL B n).1.1) := by
  obtain ⟨b1, b2, b3, b4⟩ := hb
  have R0 : t_R B n 240 (xw_st (xw_st s 0 13 0) 0 14 (-1)) (0, 0) := by
    refine ⟨⟨by rw [st_k (by decide), st_k (by decide), b1], b2, b3, fun k hk => ⟨by rw [st_i (by decide), st_i (by decide), (b4 k hk).1], (b4 k hk).2⟩⟩, fun _ => ⟨by rw [st_s], by rw [st_k (by decide), st_s]⟩, fun z => absurd z (show ¬ ((0 : Int) = 1) by decide), by rw [st_k (by decide), st_s]; omega, by decide, by decide, Or.inl rfl⟩
  have f0 : frm S_iR s (xw_st (xw_st s 0 13 0) 0 14 (-1)) := frm_tr (frm_st (Or.inl ⟨rfl, Or.inl rfl⟩)) (frm_st (Or.inl ⟨rfl, Or.inr rfl⟩))
  obtain ⟨s1, y1, a1, a2, a3, a4, a5, a6, a7⟩ := t_r fu R0 (by decide) (lo := 202) (hi := 202) (by decide) (by decide) (by decide)
  obtain ⟨s2, y2, c1, c2, c3, c4, c5, c6, c7⟩ := t_r fu a3 (by decide) (lo := 1) (hi := 4) (by decide) (by decide) (by decide)
  have rr : 1 ≤ t_r4 B n ∧ t_r4 B n ≤ 4 := t_x_r (by decide)
  have c4' : (t_s B n (t_s B n (0, 0) 202 202) 1 4).2 = 0 → y2 = t_r4 B n := c4
  have f2 : frm S_iR s (xw_st s2 0 11 y2) := frm_tr (frm_tr (frm_tr f0 (frm_mono a2 (fun _ _ z => Or.inl z))) (frm_mono c2 (fun _ _ z => Or.inl z))) (frm_st (Or.inr (Or.inl ⟨rfl, rfl⟩)))
  have R2 : t_R B n (240 + 1 + 1) (xw_st s2 0 11 y2) (t_s B n (t_s B n (0, 0) 202 202) 1 4) := by
    obtain ⟨z1, z2, z3, z4, z5⟩ := c3
    refine ⟨⟨by rw [st_k (by decide)]; exact z1.1, z1.2.1, z1.2.2.1, fun k hk => ⟨by rw [st_i (by decide)]; exact (z1.2.2.2 k hk).1, (z1.2.2.2 k hk).2⟩⟩, ?_, ?_, ?_, z5⟩
    · rw [st_k (by decide), st_k (by decide)]; exact z2
    · rw [st_k (by decide)]; exact z3
    · rw [st_k (by decide)]; exact z4
  obtain ⟨s3, g1, g2, g3, g4⟩ := t_iR fu hfu (B := B) (n := n) (t_s B n (t_s B n (0, 0) 202 202) 1 4) (r := (t_r4 B n).toNat) (by omega) (t_r4 B n).toNat 0 fu (240 + 1 + 1) (xw_st s2 0 11 y2) (by omega) (by omega) (by decide) (by omega) R2 (fun z => ⟨by rw [st_s, c4' z]; omega, fun j hj => by omega⟩) (fun k _ j hj => t_L_hd k j hj)
  have g1' : ∀ K : xw_S → Option (xw_S × Int), lp_MD_load_33 fu K fu (xw_st s2 0 11 y2) 0 = K s3 := g1
  have g3' : t_R B n (240 + 1 + 1 + 10 * (((t_r4 B n).toNat : Nat) : Int)) s3 (t_LL B n).1 := g3
  have g4' : (t_LL B n).1.2 = 0 → s3.1 0 11 = (((t_r4 B n).toNat : Nat) : Int) ∧ ∀ j, j < (t_r4 B n).toNat → r_M s3 (8 + j) ((t_LL B n).2 j) := g4
  have e : f_MD_load fu s = xw_grd (xw_r (s3.1 0 14)) (xw_if (0 ≤ s3.1 0 14) (k_ld30 fu s3) (xw_grd (xw_r (s3.1 0 13) ∧ xw_r (s3.1 0 1)) (xw_if (s3.1 0 1 ≤ s3.1 0 13) (k_ld30 fu s3) (k_ld30 fu (xw_st s3 0 14 (s3.1 0 13)))))) := by
    rw [k_load, xw_let_e, xw_let_e, xw_bn2_e a1, xw_bn2_e c1, xw_let_e, xw_jn_e, g1', xw_jn_e]
    rfl
  obtain ⟨⟨x1, x2, x3, x4⟩, w1, w2, w3, w4⟩ := g3'
  rw [e]
  rcases w4.2.2 with h0 | h0
  · obtain ⟨u1, u2⟩ := w1 h0
    obtain ⟨v1, v2⟩ := g4' h0
    have w4a := w4.1
    have w4b := w4.2.1
    rw [u1, u2, x1, xw_grd_t (by decide), xw_if_f (by decide), xw_grd_t ⟨⟨by omega, by omega⟩, ⟨by omega, by omega⟩⟩]
    by_cases hn : n ≤ (t_LL B n).1.1
    · rw [xw_if_t hn]
      exact ⟨s3, rfl, frm_tr f2 g2, fun _ => ⟨u1, by rw [v1]; omega, v2⟩, fun z => absurd ⟨h0, hn⟩ z⟩
    · rw [xw_if_f hn]
      exact ⟨_, rfl, frm_tr (frm_tr f2 g2) (frm_st (Or.inl ⟨rfl, Or.inr rfl⟩)), fun z => absurd z.2 hn, fun _ => st_s _ _ _ _⟩
  · have u := w2 h0
    have w4a := w4.1
    have w4b := w4.2.1
    rw [u, xw_grd_t ⟨by omega, by omega⟩, xw_if_t w4a]
    exact ⟨s3, rfl, frm_tr f2 g2, fun z => absurd z.1 (by omega), fun _ => u⟩
