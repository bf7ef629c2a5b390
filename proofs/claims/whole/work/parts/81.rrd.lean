/-! 81: the reference reads a method -/
theorem t_R_lo {B : Nat → Int} {n m m' : Int} {s : xw_S} {σ : t_S} (h : t_R B n m s σ) (h1 : s.1 0 13 ≤ m') (h2 : 240 ≤ m') (h3 : m' ≤ 90000) : t_R B n m' s σ := by
  obtain ⟨a, b, c, d, e⟩ := h
  exact ⟨a, b, c, ⟨d.1, h1, h2, h3⟩, e⟩
theorem t_rf (fu : Nat) {B : Nat → Int} {n m : Int} {s : xw_S} {σ : t_S} (h : t_R B n m s σ) (hm : m < 90000) {lo hi : Int} (hl : xw_r lo) (hl0 : 0 ≤ lo) (hh : xw_r hi) (i j : Nat) (hi2 : 1 < i) : ∃ s', (∀ (c : Prop) [Decidable c] (_ : c) (K : xw_S → Option xw_S), xw_bn2 (f_MD_next fu s lo hi) (fun s1 x => xw_grd c (xw_let (xw_st s1 i j x) K)) = K s') ∧ (∀ K : xw_S → Option xw_S, xw_bn2 (f_MD_next fu s lo hi) (fun s1 x => xw_let (xw_st s1 i j x) K) = K s') ∧ frm (fun i' k => S_nx i' k ∨ (i' = i ∧ k = j)) s s' ∧ t_R B n (m + 1) s' (t_s B n σ lo hi) ∧ ((t_s B n σ lo hi).2 = 0 → s'.1 i j = t_x B n σ lo hi) ∧ (-1 ≤ s'.1 i j ∧ s'.1 i j ≤ 255) ∧ (σ.2 = 0 → s'.1 0 13 ≤ 241) := by
  obtain ⟨s1, y, h1, h2, h3, h4, h5, h6, h7⟩ := t_r fu h hm hl hl0 hh
  refine ⟨xw_st s1 i j y, fun c _ hc K => by rw [xw_bn2_e h1, xw_grd_t hc]; rfl, fun K => by rw [xw_bn2_e h1]; rfl, frm_tr (frm_mono h2 (fun _ _ z => Or.inl z)) (frm_st (Or.inr ⟨rfl, rfl⟩)), t_R_st h3 hi2, fun z => by rw [st_s]; exact h4 z, by rw [st_s]; exact ⟨h5, h6⟩, fun z => by rw [st_i (by omega)]; exact h7 z⟩
theorem t_dR (fu : Nat) {B : Nat → Int} {n m : Int} (i : Nat) (hi : i < 4) {nm : Nat → Int} {x : Int} (σ : t_S) (hσ : t_in σ) (hσ1 : σ.2 = 0 → 1 ≤ σ.1) : ∀ (dd k N : Nat) (s : xw_S), k + dd = i → dd < N → t_R B n m s (t_d nm x σ k) → (∀ j, j < i → s.1 2 (8 + j) = nm j ∧ xw_r (nm j)) → ((t_d nm x σ k).2 = 0 → s.1 2 (8 + i) = x) → xw_r x → ∃ s', (∀ K : xw_S → Option xw_S, lp_MD_readMethod_17 fu ((8 + i : Nat) : Int) K N s ((8 + k : Nat) : Int) = K s') ∧ frm S_nx s s' ∧ t_R B n m s' (t_d nm x σ i) := by
  intro dd
  induction dd with
  | zero =>
    intro k N s hk hN hC hnm hx hxr
    obtain ⟨N, rfl⟩ : ∃ n', N = n' + 1 := ⟨N - 1, by omega⟩
    exact ⟨s, fun K => by rw [lp_MD_readMethod_17, xw_grd_t ⟨⟨by omega, by omega⟩, ⟨by omega, by omega⟩⟩, xw_if_t (by omega)], frm_rf _ _, by rw [show i = k by omega]; exact hC⟩
  | succ dd ih =>
    intro k N s hk hN hC hnm hx hxr
    obtain ⟨N, rfl⟩ : ∃ n', N = n' + 1 := ⟨N - 1, by omega⟩
    obtain ⟨c1, c2, c3, c4, c5⟩ := hC
    obtain ⟨d1, d2⟩ := t_d_in (nm := nm) (x := x) hσ hσ1 k
    have e0 : ((8 + k : Nat) : Int) + 1 = ((8 + (k + 1) : Nat) : Int) := by omega
    by_cases h0 : (t_d nm x σ k).2 = 0
    · obtain ⟨w1, w2⟩ := c2 h0
      have hk' := hnm k (by omega)
      have hx' := hx h0
      by_cases h1 : nm k = x
      · have e2 : t_d nm x σ (k + 1) = ((t_d nm x σ k).1 - 1, 1) := by rw [t_d, if_pos ⟨h0, h1⟩]
        have hin := (t_d_in (nm := nm) (x := x) hσ hσ1 (k + 1)).1
        have f1 : frm S_nx s (xw_st s 0 14 (s.1 0 13 - 1)) := frm_st ⟨rfl, Or.inr rfl⟩
        obtain ⟨s', g1, g2, g3⟩ := ih (k + 1) N (xw_st s 0 14 (s.1 0 13 - 1)) (by omega) (by omega) ⟨⟨by rw [st_k (by decide)]; exact c1.1, c1.2.1, c1.2.2.1, fun j hj => ⟨by rw [st_i (by decide)]; exact (c1.2.2.2 j hj).1, (c1.2.2.2 j hj).2⟩⟩, fun z => by rw [e2] at z; exact absurd z (show ¬ ((1 : Int) = 0) by decide), fun _ => by rw [st_s, e2, w2], by rw [st_k (by decide)]; exact c4, hin⟩ (fun j hj => ⟨by rw [st_i (by decide)]; exact (hnm j hj).1, (hnm j hj).2⟩) (fun z => by rw [e2] at z; exact absurd z (show ¬ ((1 : Int) = 0) by decide)) hxr
        refine ⟨s', fun K => ?_, frm_tr f1 g2, g3⟩
        rw [lp_MD_readMethod_17, xw_grd_t ⟨⟨by omega, by omega⟩, ⟨by omega, by omega⟩⟩, xw_if_f (by omega), xw_jn_e, w1, xw_grd_t (by decide), xw_if_f (by decide), xw_grd_t (by omega), xw_grd_t (by omega), Int.toNat_natCast, Int.toNat_natCast, hk'.1, hx', xw_grd_t ⟨hk'.2, hxr⟩, xw_if_t h1, xw_let_e]
        dsimp only
        rw [xw_let_e, e0]
        exact g1 K
      · have e2 : t_d nm x σ (k + 1) = t_d nm x σ k := by rw [t_d, if_neg (fun z => h1 z.2)]
        obtain ⟨s', g1, g2, g3⟩ := ih (k + 1) N s (by omega) (by omega) (by rw [e2]; exact ⟨c1, c2, c3, c4, c5⟩) hnm (fun _ => hx') hxr
        refine ⟨s', fun K => ?_, g2, g3⟩
        rw [lp_MD_readMethod_17, xw_grd_t ⟨⟨by omega, by omega⟩, ⟨by omega, by omega⟩⟩, xw_if_f (by omega), xw_jn_e, w1, xw_grd_t (by decide), xw_if_f (by decide), xw_grd_t (by omega), xw_grd_t (by omega), Int.toNat_natCast, Int.toNat_natCast, hk'.1, hx', xw_grd_t ⟨hk'.2, hxr⟩, xw_if_f h1]
        dsimp only
        rw [xw_let_e, e0]
        exact g1 K
    · have w1 := c3 (by have := d1.2.2; omega)
      have w2 := d1.1
      have w3 := d1.2.1
      have e2 : t_d nm x σ (k + 1) = t_d nm x σ k := by rw [t_d, if_neg (fun z => h0 z.1)]
      obtain ⟨s', g1, g2, g3⟩ := ih (k + 1) N s (by omega) (by omega) (by rw [e2]; exact ⟨c1, c2, c3, c4, c5⟩) hnm (fun z => by rw [e2] at z; exact absurd z h0) hxr
      refine ⟨s', fun K => ?_, g2, g3⟩
      rw [lp_MD_readMethod_17, xw_grd_t ⟨⟨by omega, by omega⟩, ⟨by omega, by omega⟩⟩, xw_if_f (by omega), xw_jn_e, w1, xw_grd_t ⟨by omega, by omega⟩, xw_if_t w2]
      dsimp only
      rw [xw_let_e, e0]
      exact g1 K
theorem t_cs_in {B : Nat → Int} {n : Int} {hi : Nat → Int} {σ : t_S} (hn : n ≤ 240) (h : t_in σ) : ∀ k, t_in (t_cs B n hi σ k)
  | 0 => h
  | k + 1 => t_in_s hn (t_cs_in hn h k)
theorem t_cs_0 {B : Nat → Int} {n : Int} {hi : Nat → Int} {σ : t_S} : ∀ {k : Nat}, (t_cs B n hi σ k).2 = 0 → σ.2 = 0
  | 0, h => h
  | k + 1, h => t_cs_0 (k := k) (t_s_0 h).1
theorem t_cR (fu : Nat) {B : Nat → Int} {n m : Int} (hm : 241 ≤ m) (hm2 : m < 90000) {q : Nat} (hq : q < 12) {L : Nat} (hL : L ≤ 120) (σ : t_S) (hσ : t_in σ) : ∀ (dd k N : Nat) (s : xw_S), k + dd = L → dd < N → t_R B n m s (t_cs B n (fun _ => 255) σ k) → ((t_cs B n (fun _ => 255) σ k).2 = 0 → s.1 6 q = (L : Int) ∧ ∀ j, j < k → s.1 7 (120 * q + j) = t_cx B n (fun _ => 255) σ j) → ∃ s', (∀ K : xw_S → Option xw_S, lp_MD_readMethod_129 fu (q : Int) K N s (k : Int) = K s') ∧ frm (fun i' k' => S_nx i' k' ∨ (i' = 7 ∧ 120 * q ≤ k' ∧ k' < 120 * q + 120)) s s' ∧ t_R B n m s' (t_cs B n (fun _ => 255) σ L) ∧ ((t_cs B n (fun _ => 255) σ L).2 = 0 → ∀ j, j < L → s'.1 7 (120 * q + j) = t_cx B n (fun _ => 255) σ j) := by
  intro dd
  induction dd with
  | zero =>
    intro k N s hk hN hR hc
    obtain ⟨N, rfl⟩ : ∃ n', N = n' + 1 := ⟨N - 1, by omega⟩
    have hin := t_cs_in (B := B) (hi := fun _ => 255) hR.1.2.2.1 hσ k
    refine ⟨s, fun K => ?_, frm_rf _ _, by rw [show L = k by omega]; exact hR, fun z j hj => ?_⟩
    · by_cases h0 : (t_cs B n (fun _ => 255) σ k).2 = 0
      · have w := hR.2.1 h0
        rw [lp_MD_readMethod_129, w.1, xw_grd_t (by decide), xw_if_f (by decide), xw_grd_t (by omega), Int.toNat_natCast, (hc h0).1, xw_grd_t ⟨⟨by omega, by omega⟩, ⟨by omega, by omega⟩⟩, xw_if_t (by omega)]
      · have w := hR.2.2.1 (by have := hin.2.2; omega)
        have w2 := hin.1
        have w3 := hin.2.1
        rw [lp_MD_readMethod_129, w, xw_grd_t ⟨by omega, by omega⟩, xw_if_t w2]
    · rw [show L = k by omega] at z
      exact (hc z).2 j (by omega)
  | succ dd ih =>
    intro k N s hk hN hR hc
    obtain ⟨N, rfl⟩ : ∃ n', N = n' + 1 := ⟨N - 1, by omega⟩
    have hin := t_cs_in (B := B) (hi := fun _ => 255) hR.1.2.2.1 hσ k
    by_cases h0 : (t_cs B n (fun _ => 255) σ k).2 = 0
    · have w := hR.2.1 h0
      obtain ⟨h6, h7⟩ := hc h0
      obtain ⟨s1, a1, a2, a3, a4, a5, a6, a7⟩ := t_rf fu hR hm2 (lo := 0) (hi := 255) (by decide) (by decide) (by decide) 7 (120 * q + k) (by decide)
      have a4' : t_R B n (m + 1) s1 (t_cs B n (fun _ => 255) σ (k + 1)) := a4
      obtain ⟨s', g1, g2, g3, g4⟩ := ih (k + 1) N s1 (by omega) (by omega) (t_R_lo a4' (by have := a7 h0; omega) (by omega) (by omega)) (fun z => ⟨by rw [a3.2 _ _ (by unfold S_nx; omega)]; exact h6, fun j hj => by
        by_cases hjk : j = k
        · subst hjk; exact a5 z
        · rw [a3.2 _ _ (by unfold S_nx; omega)]
          exact h7 j (by omega)⟩)
      refine ⟨s', fun K => ?_, frm_tr (frm_mono a3 (fun i' k' z => z.elim Or.inl (fun y => Or.inr ⟨y.1, by omega, by omega⟩))) g2, g3, g4⟩
      rw [lp_MD_readMethod_129, w.1, xw_grd_t (by decide), xw_if_f (by decide), xw_grd_t (by omega), Int.toNat_natCast, h6, xw_grd_t ⟨⟨by omega, by omega⟩, ⟨by omega, by omega⟩⟩, xw_if_f (by omega), show ((120 * (q : Int)) + (k : Int)).toNat = 120 * q + k by omega, a1 _ (show 0 ≤ 120 * (q : Int) + (k : Int) ∧ 120 * (q : Int) + (k : Int) < ((1440 : Nat) : Int) by omega)]
      exact g1 K
    · have h1 : (t_cs B n (fun _ => 255) σ k).2 = 1 := by have := hin.2.2; omega
      have w := hR.2.2.1 h1
      have w2 := hin.1
      have w3 := hin.2.1
      have e := t_cs_1 h1 (L - k)
      rw [show k + (L - k) = L by omega] at e
      rw [e]
      refine ⟨s, fun K => ?_, frm_rf _ _, hR, fun z => absurd z h0⟩
      rw [lp_MD_readMethod_129, w, xw_grd_t ⟨by omega, by omega⟩, xw_if_t w2]
theorem z_rm4 : ∀ k : Nat, k < 240 → xw_rm (k : Int) 4 = ((k % 4 : Nat) : Int) := by decide +kernel
theorem t_hR (fu : Nat) {B : Nat → Int} {n m : Int} (hm : 241 ≤ m) (hm2 : m < 90000) {q : Nat} (hq : q < 12) {H : Nat} (hH : H ≤ 12) (h4 : H % 4 = 0) (σ : t_S) (hσ : t_in σ) : ∀ (dd k N : Nat) (s : xw_S), k + dd = H → dd < N → t_R B n m s (t_cs B n t_hh σ k) → ((t_cs B n t_hh σ k).2 = 0 → s.1 8 q = ((H / 4 : Nat) : Int) ∧ ∀ j, j < k → s.1 9 (20 * q + j) = t_cx B n t_hh σ j) → ∃ s', (∀ K : xw_S → Option xw_S, lp_MD_readMethod_185 fu (q : Int) K N s (k : Int) = K s') ∧ frm (fun i' k' => S_nx i' k' ∨ (i' = 9 ∧ 20 * q ≤ k' ∧ k' < 20 * q + 20)) s s' ∧ t_R B n m s' (t_cs B n t_hh σ H) ∧ ((t_cs B n t_hh σ H).2 = 0 → ∀ j, j < H → s'.1 9 (20 * q + j) = t_cx B n t_hh σ j) := by
  intro dd
  induction dd with
  | zero =>
    intro k N s hk hN hR hc
    obtain ⟨N, rfl⟩ : ∃ n', N = n' + 1 := ⟨N - 1, by omega⟩
    have hin := t_cs_in (B := B) (hi := t_hh) hR.1.2.2.1 hσ k
    refine ⟨s, fun K => ?_, frm_rf _ _, by rw [show H = k by omega]; exact hR, fun z j hj => ?_⟩
    · by_cases h0 : (t_cs B n t_hh σ k).2 = 0
      · have w := hR.2.1 h0
        rw [lp_MD_readMethod_185, w.1, xw_grd_t (by decide), xw_if_f (by decide), xw_grd_t (by omega), Int.toNat_natCast, (hc h0).1, xw_grd_t ⟨⟨by omega, by omega⟩, ⟨by omega, by omega⟩⟩, xw_if_t (by omega)]
      · have w := hR.2.2.1 (by have := hin.2.2; omega)
        have w2 := hin.1
        have w3 := hin.2.1
        rw [lp_MD_readMethod_185, w, xw_grd_t ⟨by omega, by omega⟩, xw_if_t w2]
    · rw [show H = k by omega] at z
      exact (hc z).2 j (by omega)
  | succ dd ih =>
    intro k N s hk hN hR hc
    obtain ⟨N, rfl⟩ : ∃ n', N = n' + 1 := ⟨N - 1, by omega⟩
    have hin := t_cs_in (B := B) (hi := t_hh) hR.1.2.2.1 hσ k
    by_cases h0 : (t_cs B n t_hh σ k).2 = 0
    · have w := hR.2.1 h0
      obtain ⟨h6, h7⟩ := hc h0
      have hhr : xw_r (t_hh k) := by
        unfold t_hh
        split <;> decide
      obtain ⟨s1, a1, a2, a3, a4, a5, a6, a7⟩ := t_rf fu hR hm2 (lo := 0) (hi := t_hh k) (by decide) (by decide) hhr 9 (20 * q + k) (by decide)
      have a4' : t_R B n (m + 1) s1 (t_cs B n t_hh σ (k + 1)) := a4
      obtain ⟨s', g1, g2, g3, g4⟩ := ih (k + 1) N s1 (by omega) (by omega) (t_R_lo a4' (by have := a7 h0; omega) (by omega) (by omega)) (fun z => ⟨by rw [a3.2 _ _ (by unfold S_nx; omega)]; exact h6, fun j hj => by
        by_cases hjk : j = k
        · subst hjk; exact a5 z
        · rw [a3.2 _ _ (by unfold S_nx; omega)]
          exact h7 j (by omega)⟩)
      refine ⟨s', fun K => ?_, frm_tr (frm_mono a3 (fun i' k' z => z.elim Or.inl (fun y => Or.inr ⟨y.1, by omega, by omega⟩))) g2, g3, g4⟩
      rw [lp_MD_readMethod_185, w.1, xw_grd_t (by decide), xw_if_f (by decide), xw_grd_t (by omega), Int.toNat_natCast, h6, xw_grd_t ⟨⟨by omega, by omega⟩, ⟨by omega, by omega⟩⟩, xw_if_f (by omega), xw_jn_e, z_rm4 k (by omega), xw_grd_t ⟨by omega, by omega⟩]
      have ei : ((20 * (q : Int)) + (k : Int)).toNat = 20 * q + k := by omega
      have hg : 0 ≤ 20 * (q : Int) + (k : Int) ∧ 20 * (q : Int) + (k : Int) < ((240 : Nat) : Int) := by omega
      by_cases h3 : k % 4 = 3
      · have eh : t_hh k = 9 := by unfold t_hh; rw [if_pos h3]
        rw [eh] at a1
        rw [xw_if_t (by omega)]
        dsimp only
        rw [ei, a1 _ hg]
        exact g1 K
      · have eh : t_hh k = 255 := by unfold t_hh; rw [if_neg h3]
        rw [eh] at a1
        rw [xw_if_f (by omega)]
        dsimp only
        rw [ei, a1 _ hg]
        exact g1 K
    · have h1 : (t_cs B n t_hh σ k).2 = 1 := by have := hin.2.2; omega
      have w := hR.2.2.1 h1
      have w2 := hin.1
      have w3 := hin.2.1
      have e := t_cs_1 h1 (H - k)
      rw [show k + (H - k) = H by omega] at e
      rw [e]
      refine ⟨s, fun K => ?_, frm_rf _ _, hR, fun z => absurd z h0⟩
      rw [lp_MD_readMethod_185, w, xw_grd_t ⟨by omega, by omega⟩, xw_if_t w2]
def S_rR (q : Nat) : Nat → Nat → Prop := fun i' k => S_nx i' k ∨ (i' = 2 ∧ k = q) ∨ (i' = 3 ∧ k = q) ∨ (i' = 4 ∧ k = q) ∨ (i' = 5 ∧ k = q) ∨ (i' = 6 ∧ k = q) ∨ (i' = 7 ∧ 120 * q ≤ k ∧ k < 120 * q + 120) ∨ (i' = 8 ∧ k = q) ∨ (i' = 9 ∧ 20 * q ≤ k ∧ k < 20 * q + 20)
theorem t_rmR (fu : Nat) (hfu : 1000 ≤ fu) {B : Nat → Int} {n m : Int} (hm : 241 ≤ m) (hm2 : m < 80000) {s : xw_S} {σ : t_S} (hR : t_R B n m s σ) {i : Nat} (hi : i < 4) {nm : Nat → Int} (hnm : ∀ j, j < i → s.1 2 (8 + j) = nm j ∧ xw_r (nm j)) : ∃ s', f_MD_readMethod fu s ((8 + i : Nat) : Int) = some s' ∧ frm (S_rR (8 + i)) s s' ∧ t_R B n (m + 10) s' (t_M B n nm i σ).1 ∧ ((t_M B n nm i σ).1.2 = 0 → r_M s' (8 + i) (t_M B n nm i σ).2) := by
  have hn := hR.1.2.2.1
  have hq : 0 ≤ ((8 + i : Nat) : Int) ∧ ((8 + i : Nat) : Int) < ((12 : Nat) : Int) := by omega
  have rx := t_x_r (B := B) (n := n) (σ := σ) (lo := 97) (hi := 122) (by decide)
  obtain ⟨s2, a1, a2, a3, a4, a5, a6, a7⟩ := t_rf fu hR (by omega) (lo := 97) (hi := 122) (by decide) (by decide) (by decide) 2 (8 + i) (by decide)
  have hin1 := t_in_s (B := B) (lo := 97) (hi := 122) hn hR.2.2.2.2
  obtain ⟨s3, b1, b2, b3⟩ := t_dR fu i hi (B := B) (n := n) (m := m + 1) (nm := nm) (x := t_x B n σ 97 122) (t_s B n σ 97 122) hin1 (fun z => by
    have z2 := t_s_0 z
    unfold t_s
    rw [if_pos z2]
    have := hR.2.2.2.2.1
    show 1 ≤ σ.1 + 1
    omega) i 0 fu s2 (by omega) (by omega) a4 (fun j hj => ⟨by rw [a3.2 _ _ (by unfold S_nx; omega)]; exact (hnm j hj).1, (hnm j hj).2⟩) a5 ⟨by omega, by omega⟩
  have b1' : ∀ K : xw_S → Option xw_S, lp_MD_readMethod_17 fu ((8 + i : Nat) : Int) K fu s2 8 = K s3 := b1
  have G1 : (t_d nm (t_x B n σ 97 122) (t_s B n σ 97 122) i).2 = 0 → (t_s B n σ 97 122).2 = 0 := fun z => by
    have := (t_d_in (nm := nm) (x := t_x B n σ 97 122) hin1 (fun z => by
      have z2 := t_s_0 z
      unfold t_s
      rw [if_pos z2]
      have := hR.2.2.2.2.1
      show 1 ≤ σ.1 + 1
      omega) i).2 z
    rw [← this]; exact z
  have hin2 : t_in (t_d nm (t_x B n σ 97 122) (t_s B n σ 97 122) i) := b3.2.2.2.2
  obtain ⟨σ1, e1⟩ : ∃ z, z = t_d nm (t_x B n σ 97 122) (t_s B n σ 97 122) i := ⟨_, rfl⟩
  rw [← e1] at b3 G1 hin2
  obtain ⟨xa, ya⟩ : ∃ z, z = t_x B n σ1 0 2 := ⟨_, rfl⟩
  have ra := t_x_r (B := B) (n := n) (σ := σ1) (lo := 0) (hi := 2) (by decide)
  obtain ⟨s4, c1, c2, c3, c4, c5, c6, c7⟩ := t_rf fu b3 (by omega) (lo := 0) (hi := 2) (by decide) (by decide) (by decide) 3 (8 + i) (by decide)
  have G2 : (t_s B n σ1 0 2).2 = 0 → σ1.2 = 0 := fun z => (t_s_0 z).1
  rw [← ya] at c5 ra
  obtain ⟨σ2, e2⟩ : ∃ z, z = t_s B n σ1 0 2 := ⟨_, rfl⟩
  rw [← e2] at c4 c5 G2
  have hin3 := c4.2.2.2.2
  obtain ⟨xo, yo⟩ : ∃ z, z = t_x B n σ2 xa 6 := ⟨_, rfl⟩
  have G3 : (t_s B n σ2 xa 6).2 = 0 → σ2.2 = 0 := fun z => (t_s_0 z).1
  have ro := t_x_r (B := B) (n := n) (σ := σ2) (lo := xa) (hi := 6) (by omega)
  obtain ⟨lo, hlo, hlo0, hlo1, hloe, hlox⟩ : ∃ lo : Int, (0 ≤ lo ∧ lo ≤ 255) ∧ (0 ≤ s4.1 0 14 → lo = 0) ∧ (¬ 0 ≤ s4.1 0 14 → lo = s4.1 3 (8 + i)) ∧ t_s B n σ2 lo 6 = t_s B n σ2 xa 6 ∧ ((t_s B n σ2 xa 6).2 = 0 → t_x B n σ2 lo 6 = t_x B n σ2 xa 6) := by
    by_cases h0 : σ2.2 = 0
    · have w := c4.2.1 h0
      have v := c5 h0
      exact ⟨xa, by omega, fun z => by omega, fun _ => v.symm, rfl, fun _ => rfl⟩
    · have w := c4.2.2.1 (by have := hin3.2.2; omega)
      have w2 := hin3.1
      refine ⟨0, by omega, fun _ => rfl, fun z => by omega, ?_, fun z => absurd (t_s_0 z).1 h0⟩
      unfold t_s
      rw [if_neg (fun z => h0 z.1), if_neg (fun z => h0 z.1)]
  obtain ⟨s5, d1, d2, d3, d4, d5, d6, d7⟩ := t_rf fu c4 (by omega) (lo := lo) (hi := 6) ⟨by omega, by omega⟩ hlo.1 (by decide) 4 (8 + i) (by decide)
  rw [hloe] at d4 d5
  have d5' : (t_s B n σ2 xa 6).2 = 0 → s5.1 4 (8 + i) = t_x B n σ2 xa 6 := fun z => by rw [d5 z]; exact hlox z
  rw [← yo] at d5' ro
  obtain ⟨σ3, e3⟩ : ∃ z, z = t_s B n σ2 xa 6 := ⟨_, rfl⟩
  rw [← e3] at d4 d5' G3
  obtain ⟨xs, ys⟩ : ∃ z, z = t_x B n σ3 1 8 := ⟨_, rfl⟩
  have rs := t_x_r (B := B) (n := n) (σ := σ3) (lo := 1) (hi := 8) (by omega)
  have G4 : (t_s B n σ3 1 8).2 = 0 → σ3.2 = 0 := fun z => (t_s_0 z).1
  obtain ⟨s6, k1, k2, k3, k4, k5, k6, k7⟩ := t_rf fu d4 (by omega) (lo := 1) (hi := 8) (by decide) (by decide) (by decide) 5 (8 + i) (by decide)
  rw [← ys] at k5 rs
  obtain ⟨σ4, e4⟩ : ∃ z, z = t_s B n σ3 1 8 := ⟨_, rfl⟩
  rw [← e4] at k4 k5 G4
  obtain ⟨xL, yL⟩ : ∃ z, z = t_x B n σ4 1 40 := ⟨_, rfl⟩
  have rL := t_x_r (B := B) (n := n) (σ := σ4) (lo := 1) (hi := 40) (by omega)
  have G5 : (t_s B n σ4 1 40).2 = 0 → σ4.2 = 0 := fun z => (t_s_0 z).1
  obtain ⟨s7, l1, l2, l3, l4, l5, l6, l7⟩ := t_rf fu k4 (by omega) (lo := 1) (hi := 40) (by decide) (by decide) (by decide) 6 (8 + i) (by decide)
  rw [← yL] at l5 rL
  obtain ⟨σ5, e5⟩ : ∃ z, z = t_s B n σ4 1 40 := ⟨_, rfl⟩
  rw [← e5] at l4 l5 G5
  have hin5 := l4.2.2.2.2
  obtain ⟨s8, g1, g2, g3, g4⟩ := t_cR fu (m := m + 1 + 1 + 1 + 1 + 1) (by omega) (by omega) (q := 8 + i) (by omega) (L := xL.toNat) (by omega) σ5 hin5 xL.toNat 0 fu s7 (by omega) (by omega) l4 (fun z => ⟨by rw [l5 z]; omega, fun j hj => by omega⟩)
  have g1' : ∀ K : xw_S → Option xw_S, lp_MD_readMethod_129 fu ((8 + i : Nat) : Int) K fu s7 0 = K s8 := g1
  obtain ⟨σ6, e6⟩ : ∃ z, z = t_cs B n (fun _ => 255) σ5 xL.toNat := ⟨_, rfl⟩
  have G6 : (t_cs B n (fun _ => 255) σ5 xL.toNat).2 = 0 → σ5.2 = 0 := fun z => t_cs_0 z
  rw [← e6] at g3 g4 G6
  obtain ⟨xN, yN⟩ : ∃ z, z = t_x B n σ6 0 3 := ⟨_, rfl⟩
  have rN := t_x_r (B := B) (n := n) (σ := σ6) (lo := 0) (hi := 3) (by omega)
  have G7 : (t_s B n σ6 0 3).2 = 0 → σ6.2 = 0 := fun z => (t_s_0 z).1
  obtain ⟨s9, m1, m2, m3, m4, m5, m6, m7⟩ := t_rf fu g3 (by omega) (lo := 0) (hi := 3) (by decide) (by decide) (by decide) 8 (8 + i) (by decide)
  rw [← yN] at m5 rN
  obtain ⟨σ7, e7⟩ : ∃ z, z = t_s B n σ6 0 3 := ⟨_, rfl⟩
  rw [← e7] at m4 m5 G7
  have hin7 := m4.2.2.2.2
  obtain ⟨s11, n1, n2, n3, n4⟩ := t_hR fu (m := m + 1 + 1 + 1 + 1 + 1 + 1) (by omega) (by omega) (q := 8 + i) (by omega) (H := 4 * xN.toNat) (by omega) (by omega) σ7 hin7 (4 * xN.toNat) 0 fu s9 (by omega) (by omega) m4 (fun z => ⟨by rw [m5 z]; omega, fun j hj => by omega⟩)
  have n1' : ∀ K : xw_S → Option xw_S, lp_MD_readMethod_185 fu ((8 + i : Nat) : Int) K fu s9 0 = K s11 := n1
  have eM : t_M B n nm i σ = (t_cs B n t_hh σ7 (4 * xN.toNat), t_cx B n (fun _ => 255) σ5, xL.toNat, t_cx B n t_hh σ7, xN.toNat, t_x B n σ 97 122, xa, xo, xs) := by
    subst yN; subst e7; subst e6; subst yL; subst e5; subst ys; subst e4; subst yo; subst e3; subst ya; subst e2; subst e1
    rfl
  rw [eM]
  refine ⟨s11, ?_, ?_, t_R_m n3 (by omega) (by omega), fun gd => ?_⟩
  · unfold f_MD_readMethod
    simp only [Int.toNat_natCast]
    rw [a1 _ hq, xw_jn_e, b1', c1 _ hq, xw_jn_e]
    have J : ∀ E : Int → Option xw_S, xw_grd (xw_r (s4.1 0 14)) (xw_if (0 ≤ s4.1 0 14) (E 0) (E (s4.1 3 (8 + i)))) = E lo := by
      intro E
      have hr : xw_r (s4.1 0 14) := by
        rcases hin3.2.2 with z | z
        · have := c4.2.1 z
          exact ⟨by omega, by omega⟩
        · have := c4.2.2.1 z
          have w2 := hin3.1
          have w3 := hin3.2.1
          exact ⟨by omega, by omega⟩
      rw [xw_grd_t hr]
      by_cases h0 : 0 ≤ s4.1 0 14
      · rw [xw_if_t h0, hlo0 h0]
      · rw [xw_if_f h0, hlo1 h0]
    refine (J (fun t0 => xw_bn2 (f_MD_next fu s4 t0 6) (fun s31 r33 => xw_grd ((0 ≤ ((8 + i : Nat) : Int) ∧ ((8 + i : Nat) : Int) < ((12 : Nat) : Int))) (xw_let (xw_st s31 4 (8 + i) r33) (fun s35 => xw_bn2 (f_MD_next fu s35 1 8) (fun s37 r39 => xw_grd ((0 ≤ ((8 + i : Nat) : Int) ∧ ((8 + i : Nat) : Int) < ((12 : Nat) : Int))) (xw_let (xw_st s37 5 (8 + i) r39) (fun s41 => xw_bn2 (f_MD_next fu s41 1 40) (fun s43 r45 => xw_let (xw_st s43 6 (8 + i) r45) (fun s46 => xw_jn (fun (s62 : xw_S) => xw_bn2 (f_MD_next fu s62 0 3) (fun s63 r65 => xw_grd ((0 ≤ ((8 + i : Nat) : Int) ∧ ((8 + i : Nat) : Int) < ((12 : Nat) : Int))) (xw_let (xw_st s63 8 (8 + i) r65) (fun s67 => xw_jn (fun (s86 : xw_S) => some s86)
 (fun (k241 : xw_S → Option xw_S) => lp_MD_readMethod_185 fu ((8 + i : Nat) : Int) k241 fu s67 0)))))
 (fun (k171 : xw_S → Option xw_S) => lp_MD_readMethod_129 fu ((8 + i : Nat) : Int) k171 fu s46 0))))))))))).trans ?_
    rw [d1 _ hq, k1 _ hq, l2, xw_jn_e, g1', m1 _ hq, xw_jn_e, n1']
  · have t1 : ∀ i' k, S_nx i' k → S_rR (8 + i) i' k := fun _ _ z => Or.inl z
    have t2 : ∀ j, 2 ≤ j → j ≤ 6 → ∀ i' k, (S_nx i' k ∨ (i' = j ∧ k = 8 + i)) → S_rR (8 + i) i' k := fun j h1 h2 i' k z => z.elim Or.inl (fun y => by unfold S_rR; omega)
    exact frm_tr (frm_tr (frm_tr (frm_tr (frm_tr (frm_tr (frm_tr (frm_tr (frm_mono a3 (t2 2 (by omega) (by omega))) (frm_mono b2 t1)) (frm_mono c3 (t2 3 (by omega) (by omega)))) (frm_mono d3 (t2 4 (by omega) (by omega)))) (frm_mono k3 (t2 5 (by omega) (by omega)))) (frm_mono l3 (t2 6 (by omega) (by omega)))) (frm_mono g2 (fun _ _ z => z.elim Or.inl (fun y => by unfold S_rR; omega)))) (frm_mono m3 (fun _ _ z => z.elim Or.inl (fun y => by unfold S_rR; omega)))) (frm_mono n2 (fun _ _ z => z.elim Or.inl (fun y => by unfold S_rR; omega)))
  · have z7 : σ7.2 = 0 := t_cs_0 gd
    have z6 := G7 z7
    have z5 := G6 z6
    have z4 := G5 z5
    have z3 := G4 z4
    have z2 := G3 z3
    have z1 := G2 z2
    have z0 := G1 z1
    refine ⟨⟨by omega, ?_, ?_, ?_, ?_⟩, ⟨by omega, ?_, ?_, ?_, ?_⟩, ?_, ?_, ?_, ?_⟩
    · show xL.toNat ≤ 120
      omega
    · show s11.1 6 (8 + i) = ((xL.toNat : Nat) : Int)
      rw [n2.2 _ _ (by unfold S_nx; omega), m3.2 _ _ (by unfold S_nx; omega), g2.2 _ _ (by unfold S_nx; omega), l5 z5]
      omega
    · intro p hp
      show s11.1 7 (120 * (8 + i) + p) = t_cx B n (fun _ => 255) σ5 p
      rw [n2.2 _ _ (by unfold S_nx; omega), m3.2 _ _ (by unfold S_nx; omega)]
      exact g4 z6 p hp
    · intro p hp
      exact t_x_r (lo := 0) (hi := 255) (by decide)
    · show xN.toNat ≤ 5
      omega
    · show s11.1 8 (8 + i) = ((xN.toNat : Nat) : Int)
      rw [n2.2 _ _ (by unfold S_nx; omega), m5 z7]
      omega
    · intro j hj
      exact n4 gd j hj
    · intro j hj
      have hh : t_hh j = 9 ∨ t_hh j = 255 := by
        unfold t_hh
        split
        · exact Or.inl rfl
        · exact Or.inr rfl
      have := t_x_r (B := B) (n := n) (σ := t_cs B n t_hh σ7 j) (lo := 0) (hi := t_hh j) (by omega)
      show 0 ≤ t_x B n (t_cs B n t_hh σ7 j) 0 (t_hh j) ∧ t_x B n (t_cs B n t_hh σ7 j) 0 (t_hh j) ≤ 255
      omega
    · show s11.1 2 (8 + i) = t_x B n σ 97 122
      rw [n2.2 _ _ (by unfold S_nx; omega), m3.2 _ _ (by unfold S_nx; omega), g2.2 _ _ (by unfold S_nx; omega), l3.2 _ _ (by unfold S_nx; omega), k3.2 _ _ (by unfold S_nx; omega), d3.2 _ _ (by unfold S_nx; omega), c3.2 _ _ (by unfold S_nx; omega), b2.2 _ _ (by unfold S_nx; omega)]
      exact a5 z0
    · show s11.1 3 (8 + i) = xa
      rw [n2.2 _ _ (by unfold S_nx; omega), m3.2 _ _ (by unfold S_nx; omega), g2.2 _ _ (by unfold S_nx; omega), l3.2 _ _ (by unfold S_nx; omega), k3.2 _ _ (by unfold S_nx; omega), d3.2 _ _ (by unfold S_nx; omega)]
      exact c5 z2
    · show s11.1 4 (8 + i) = xo
      rw [n2.2 _ _ (by unfold S_nx; omega), m3.2 _ _ (by unfold S_nx; omega), g2.2 _ _ (by unfold S_nx; omega), l3.2 _ _ (by unfold S_nx; omega), k3.2 _ _ (by unfold S_nx; omega)]
      exact d5' z3
    · show s11.1 5 (8 + i) = xs
      rw [n2.2 _ _ (by unfold S_nx; omega), m3.2 _ _ (by unfold S_nx; omega), g2.2 _ _ (by unfold S_nx; omega), l3.2 _ _ (by unfold S_nx; omega)]
      exact k5 z4
