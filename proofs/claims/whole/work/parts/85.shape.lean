/-! 85: shape, depth, code, handler: of one body -/
def iv_B (σ ρ : xw_S) (b q : Nat) (M : m_M) (A : Nat → Int) (me : Int) : Prop := c_M σ b M ∧ r_M ρ q M ∧ m_W M me ∧ c_X M A b σ ∧ me ≤ 4 ∧ ∀ m : Nat, (m : Int) < me → ρ.1 3 (q / 4 * 4 + m) = A m ∧ 0 ≤ A m ∧ A m ≤ 2
theorem iv_B_x {σ ρ : xw_S} {b q : Nat} {M : m_M} {A : Nat → Int} {me : Int} (fu : Nat) (hfu : 10000 ≤ fu) (h : iv_B σ ρ b q M A me) : ∃ ρ', f_MD_explore fu ρ (q : Int) = some (ρ', 1) ∧ rfm (fun i k => S_rx i k ∨ i = 14) ρ ρ' ∧ r_M ρ' q M ∧ (∀ p, p < ML M → -1 ≤ ρ'.1 15 p ∧ ρ'.1 15 p ≤ 8) ∧ (∀ p, p < ML M → ρ'.1 14 p = if m_bg (Mc M) p then 1 else 0) ∧ ∀ p, p < ML M → (0 ≤ σ.1 (50 + 4 * b) p ∨ 0 ≤ ρ'.1 15 p) → σ.1 (50 + 4 * b) p = ρ'.1 15 p := by
  obtain ⟨h1, h2, h3, ⟨⟨S, x1⟩, x2, x3, x4⟩, h5, h6⟩ := h
  obtain ⟨s', r, T, a1, a2, a3, a4, a5⟩ := q_MDex fu hfu (M := M) (A := A) (me := me) (q := q) (s := ρ) h3 ⟨h2.1, h2.2.1, h2.2.2.2.1, h2.2.2.2.2.2, h5, h6⟩
  obtain ⟨u1, u2⟩ := m_EX_u x1 a3
  subst u1
  exact ⟨s', a1, a2, r_M_f h2 a2 (fun i k z => by unfold S_rx at z; omega), a4, a5, fun p hp hz => u2 rfl p hp hz⟩
theorem r_shp (fu : Nat) (p3 : Int) {q : Nat} (hq : q < 12) {c : Nat → Int} {L : Nat} (hL : L ≤ 120) {s : xw_S} (hlen : s.1 6 q = (L : Int)) (h14 : ∀ p, p < L → s.1 14 p = if m_bg c p then 1 else 0) (h15 : ∀ p, p < L → -1 ≤ s.1 15 p ∧ s.1 15 p ≤ 8) (K : xw_S → Int → Int → Int → Option (xw_S × Int)) : ∀ (dd k N : Nat), k + dd = L → dd < N → lp_MD_shape_40 fu p3 (q : Int) K N s (m_ct c k) (m_gr (s.1 15) k) (k : Int) = K s (q : Int) (m_ct c L) (m_gr (s.1 15) L) := by
  intro dd
  induction dd with
  | zero =>
    intro k N hk hN
    obtain ⟨N, rfl⟩ : ∃ n', N = n' + 1 := ⟨N - 1, by omega⟩
    rw [lp_MD_shape_40, xw_grd_t (by omega), Int.toNat_natCast, hlen, xw_grd_t ⟨⟨by omega, by omega⟩, ⟨by omega, by omega⟩⟩, xw_if_t (by omega), show k = L by omega]
  | succ dd ih =>
    intro k N hk hN
    obtain ⟨N, rfl⟩ : ∃ n', N = n' + 1 := ⟨N - 1, by omega⟩
    have i := ih (k + 1) N (by omega) (by omega)
    have r1 := m_gr_r (d := s.1 15) k (fun p hp => (h15 p (by omega)).2)
    have r2 := h15 k (by omega)
    rw [lp_MD_shape_40, xw_grd_t (by omega), Int.toNat_natCast, hlen, xw_grd_t ⟨⟨by omega, by omega⟩, ⟨by omega, by omega⟩⟩, xw_if_f (by omega), xw_grd_t (by omega), xw_jn_e, Int.toNat_natCast, h14 k (by omega)]
    have tail : ∀ t0 : Int, t0 = m_ct c (k + 1) → xw_grd ((0 ≤ (k : Int) ∧ (k : Int) < ((121 : Nat) : Int))) (xw_jn (fun (s25 : xw_S) (i5_97 : Int) (i7_97 : Int) (t0_97 : Int) => xw_let (i7_97 + 1) (fun v26 => lp_MD_shape_40 fu p3 (q : Int) K N s25 i5_97 t0_97 v26))
     (fun (j97 : xw_S → Int → Int → Int → Option (xw_S × Int)) => xw_grd (xw_r (s.1 15 ((k : Int)).toNat) ∧ xw_r (m_gr (s.1 15) k)) (xw_if (s.1 15 ((k : Int)).toNat ≤ m_gr (s.1 15) k) (j97 s t0 (k : Int) (m_gr (s.1 15) k))
     (j97 s t0 (k : Int) (s.1 15 ((k : Int)).toNat))))) = K s (q : Int) (m_ct c L) (m_gr (s.1 15) L) := by
      intro t0 ht
      subst ht
      rw [xw_grd_t (by omega), xw_jn_e, Int.toNat_natCast, xw_grd_t ⟨⟨by omega, by omega⟩, ⟨by omega, by omega⟩⟩]
      by_cases h1 : s.1 15 k ≤ m_gr (s.1 15) k
      · rw [xw_if_t h1]
        have e : m_gr (s.1 15) (k + 1) = m_gr (s.1 15) k := by rw [m_gr, if_neg (by omega)]
        rw [e] at i
        exact i
      · rw [xw_if_f h1]
        have e : m_gr (s.1 15) (k + 1) = s.1 15 k := by rw [m_gr, if_pos (by omega)]
        rw [e] at i
        exact i
    by_cases hb : m_bg c k
    · rw [if_pos hb, xw_grd_t (by decide), xw_if_f (by decide)]
      exact tail _ (by rw [m_ct, if_pos hb])
    · rw [if_neg hb, xw_grd_t (by decide), xw_if_t rfl]
      exact tail _ (by rw [m_ct, if_neg hb]; omega)
section
variable {σ ρ : xw_S} {b q : Nat} {M : m_M} {A : Nat → Int} {me : Int} {w m k : Int}
theorem q_shape (fu : Nat) (hfu : 10000 ≤ fu) (hI : iv_B σ ρ b q M A me) (hk : xw_r k) (hbo : f_AW_bodyOf fu σ w m = some (σ, some b)) (hsl : f_MD_slot fu ρ w m = some (ρ, (q : Int))) : ∃ ρ' r, f_AW_shape fu σ w m k = some (σ, r) ∧ f_MD_shape fu ρ w m k = some (ρ', r) ∧ rfm (fun i k => S_rx i k ∨ i = 14) ρ ρ' := by
  obtain ⟨ρ', a1, a2, a3, a4, a5, a6⟩ := iv_B_x fu hfu hI
  obtain ⟨h1, h2, h3, ⟨⟨S, x1⟩, x2, x3, x4⟩, h5, h6⟩ := hI
  have hb := h1.1.1
  have hq := h2.1.1
  have egr : m_gr (σ.1 (50 + 4 * b)) (ML M) = m_gr (ρ'.1 15) (ML M) := m_gr_e _ a6
  have eC : f_AW_shape fu σ w m k = xw_if (k = 0) (some (σ, σ.1 (48 + 4 * b) 8)) (xw_if (k = 1) (some (σ, σ.1 (48 + 4 * b) 9)) (xw_if (k = 2) (some (σ, σ.1 (48 + 4 * b) 10)) (xw_if (k = 3) (some (σ, σ.1 (48 + 4 * b) 11)) (some (σ, -1))))) := by
    unfold f_AW_shape
    rw [xw_bn2_e hbo]
    show xw_grd (b < 13) (xw_grd (xw_r k) _) = _
    rw [xw_grd_t hb, xw_grd_t hk]
  rw [eC, h1.1.2.2.1, h1.2.1.2.2.1, x3, x4, egr]
  by_cases h3k : 0 ≤ k ∧ k ≤ 3
  · have lp := r_shp fu k hq (c := Mc M) a3.1.2.1 a3.1.2.2.1 a5 a4 (fun (s28 : xw_S) (i4_105 : Int) (i5_105 : Int) (i6_105 : Int) => xw_grd (xw_r k) (xw_if (k = 0) (xw_grd ((0 ≤ i4_105 ∧ i4_105 < ((12 : Nat) : Int))) (some (s28, s28.1 6 (i4_105).toNat)))
        (xw_if (k = 1) (xw_grd ((0 ≤ i4_105 ∧ i4_105 < ((12 : Nat) : Int))) (some (s28, s28.1 8 (i4_105).toNat)))
        (xw_if (k = 2) (some (s28, i5_105))
        (some (s28, i6_105)))))) (ML M) 0 fu (by omega) (by have := h3.1; omega)
    have eR : f_MD_shape fu ρ w m k = xw_grd (xw_r k) (xw_if (k = 0) (xw_grd ((0 ≤ (q : Int) ∧ (q : Int) < ((12 : Nat) : Int))) (some (ρ', ρ'.1 6 ((q : Int)).toNat)))
        (xw_if (k = 1) (xw_grd ((0 ≤ (q : Int) ∧ (q : Int) < ((12 : Nat) : Int))) (some (ρ', ρ'.1 8 ((q : Int)).toNat)))
        (xw_if (k = 2) (some (ρ', m_ct (Mc M) (ML M)))
        (some (ρ', m_gr (ρ'.1 15) (ML M)))))) := by
      unfold f_MD_shape
      rw [xw_bn2_e hsl, xw_grd_t ⟨by omega, by omega⟩, xw_if_f (by omega), xw_bn2_e (q_outside fu ρ hk (by decide) (by decide)), if_neg (by omega), xw_grd_t (by decide), xw_if_t rfl, xw_bn2_e a1, xw_jn_e]
      exact lp
    rw [eR, xw_grd_t hk, xw_grd_t (by omega), xw_grd_t (by omega), Int.toNat_natCast, a3.1.2.2.1, a3.2.1.2.2.1]
    by_cases c0 : k = 0
    · rw [xw_if_t c0, xw_if_t c0]; exact ⟨_, _, rfl, rfl, a2⟩
    · rw [xw_if_f c0, xw_if_f c0]
      by_cases c1 : k = 1
      · rw [xw_if_t c1, xw_if_t c1]; exact ⟨_, _, rfl, rfl, a2⟩
      · rw [xw_if_f c1, xw_if_f c1]
        by_cases c2 : k = 2
        · rw [xw_if_t c2, xw_if_t c2]; exact ⟨_, _, rfl, rfl, a2⟩
        · rw [xw_if_f c2, xw_if_f c2, xw_if_t (by omega)]; exact ⟨_, _, rfl, rfl, a2⟩
  · refine ⟨ρ, -1, by rw [xw_if_f (by omega), xw_if_f (by omega), xw_if_f (by omega), xw_if_f (by omega)], ?_, rfm_rf _ _⟩
    unfold f_MD_shape
    rw [xw_bn2_e hsl, xw_grd_t ⟨by omega, by omega⟩, xw_if_f (by omega), xw_bn2_e (q_outside fu ρ hk (by decide) (by decide)), if_pos (by omega), xw_grd_t (by decide), xw_if_f (by decide)]
theorem q_depth (fu : Nat) (hfu : 10000 ≤ fu) (hI : iv_B σ ρ b q M A me) (hk : xw_r k) (hbo : f_AW_bodyOf fu σ w m = some (σ, some b)) (hsl : f_MD_slot fu ρ w m = some (ρ, (q : Int))) : ∃ ρ' r, f_AW_depth fu σ w m k = some (σ, r) ∧ f_MD_depth fu ρ w m k = some (ρ', r) ∧ rfm (fun i k => S_rx i k ∨ i = 14) ρ ρ' := by
  obtain ⟨ρ', a1, a2, a3, a4, a5, a6⟩ := iv_B_x fu hfu hI
  obtain ⟨h1, h2, h3, ⟨⟨S, x1⟩, x2, x3, x4⟩, h5, h6⟩ := hI
  have hb := h1.1.1
  have hq := h2.1.1
  have hL := h2.1.2.1
  have hLc := h1.1.2.1
  have hdr : ∀ p : Nat, p < ML M → xw_r (σ.1 (50 + 4 * b) p) := fun p hp => by
    by_cases hbg : m_bg (Mc M) p
    · have := (x2 p hp).1 hbg; exact ⟨by omega, by omega⟩
    · have := (x2 p hp).2 hbg; exact ⟨by omega, by omega⟩
  have eC : f_AW_depth fu σ w m k = some (σ, if 0 ≤ k ∧ k < (ML M : Int) ∧ 0 ≤ σ.1 (50 + 4 * b) k.toNat then σ.1 (50 + 4 * b) k.toNat else -1) := by
    unfold f_AW_depth
    rw [xw_bn2_e hbo]
    show xw_grd (b < 13) (xw_bn2 (f_B_isReached fu σ b k) _) = _
    rw [xw_grd_t hb, xw_bn2_e (q_reached fu h1.1 hdr hk)]
    by_cases hr : 0 ≤ k ∧ k < (ML M : Int) ∧ 0 ≤ σ.1 (50 + 4 * b) k.toNat
    · rw [if_pos hr, if_pos hr, xw_grd_t (by decide), xw_if_f (by decide), xw_grd_t (by omega)]
    · rw [if_neg hr, if_neg hr, xw_grd_t (by decide), xw_if_t rfl]
  rw [eC]
  by_cases hin : 0 ≤ k ∧ k < (ML M : Int)
  · refine ⟨ρ', ρ'.1 15 k.toNat, ?_, ?_, a2⟩
    · have y := a6 k.toNat (by omega)
      have z := a4 k.toNat (by omega)
      by_cases hr : 0 ≤ σ.1 (50 + 4 * b) k.toNat
      · rw [if_pos ⟨hin.1, hin.2, hr⟩, y (Or.inl hr)]
      · rw [if_neg (fun u => hr u.2.2)]
        have : ¬ 0 ≤ ρ'.1 15 k.toNat := fun u => hr (by rw [y (Or.inr u)]; exact u)
        rw [show ρ'.1 15 k.toNat = -1 by omega]
    · unfold f_MD_depth
      rw [xw_bn2_e hsl, xw_grd_t ⟨by omega, by omega⟩, xw_if_f (by omega), xw_grd_t (by omega), Int.toNat_natCast, h2.1.2.2.1, xw_bn2_e (q_outside fu ρ hk (by decide) ⟨by omega, by omega⟩), if_neg (by omega), xw_grd_t (by decide), xw_if_t rfl, xw_bn2_e a1, xw_grd_t (by omega)]
  · refine ⟨ρ, -1, by rw [if_neg (fun z => hin ⟨z.1, z.2.1⟩)], ?_, rfm_rf _ _⟩
    unfold f_MD_depth
    rw [xw_bn2_e hsl, xw_grd_t ⟨by omega, by omega⟩, xw_if_f (by omega), xw_grd_t (by omega), Int.toNat_natCast, h2.1.2.2.1, xw_bn2_e (q_outside fu ρ hk (by decide) ⟨by omega, by omega⟩), if_pos (by omega), xw_grd_t (by decide), xw_if_f (by decide)]
theorem q_code (fu : Nat) (h1 : c_M σ b M) (h2 : r_M ρ q M) (hk : xw_r k) (hbo : f_AW_bodyOf fu σ w m = some (σ, some b)) (hsl : f_MD_slot fu ρ w m = some (ρ, (q : Int))) : ∃ r, f_AW_code fu σ w m k = some (σ, r) ∧ f_MD_code fu ρ w m k = some (ρ, r) := by
  have hb := h1.1.1
  have hq := h2.1.1
  have hL := h2.1.2.1
  refine ⟨if 0 ≤ k ∧ k < (ML M : Int) then Mc M k.toNat else -1, ?_, ?_⟩
  · unfold f_AW_code
    rw [xw_bn2_e hbo]
    show xw_grd (b < 13) (xw_grd (xw_r k) _) = _
    rw [xw_grd_t hb, xw_grd_t hk]
    by_cases c0 : k < 0
    · rw [xw_if_t c0, if_neg (by omega)]
    · rw [xw_if_f c0, h1.1.2.2.1, xw_grd_t ⟨by omega, by omega⟩]
      by_cases c1 : k < (ML M : Int)
      · rw [xw_if_t c1, xw_bn2_e (q_byteAt fu h1.1 hk), if_pos ⟨by omega, c1⟩]
        unfold m_at
        rw [if_pos ⟨by omega, c1⟩]
      · rw [xw_if_f c1, if_neg (fun z => c1 z.2)]
  · unfold f_MD_code
    rw [xw_bn2_e hsl, xw_jn_e, xw_grd_t ⟨by omega, by omega⟩, xw_if_f (by omega), xw_grd_t (by omega), Int.toNat_natCast, h2.1.2.2.1, xw_bn2_e (q_outside fu ρ hk (by decide) ⟨by omega, by omega⟩)]
    by_cases hin : 0 ≤ k ∧ k < (ML M : Int)
    · rw [if_neg (by omega), xw_grd_t (by decide), xw_if_t rfl, xw_grd_t (by omega), if_pos hin, show (120 * (q : Int) + k).toNat = 120 * q + k.toNat by omega, h2.1.2.2.2.1 k.toNat (by omega)]
    · rw [if_pos (by omega), xw_grd_t (by decide), xw_if_f (by decide), if_neg hin]
theorem q_hand (fu : Nat) {j : Int} (h1 : c_M σ b M) (h2 : r_M ρ q M) (hk : xw_r k) (hj : xw_r j) (hbo : f_AW_bodyOf fu σ w m = some (σ, some b)) (hsl : f_MD_slot fu ρ w m = some (ρ, (q : Int))) : ∃ r, f_AW_handler fu σ w m k j = some (σ, r) ∧ f_MD_handler fu ρ w m k j = some (ρ, r) := by
  have hb := h1.1.1
  have hq := h2.1.1
  have hN := h2.2.1.2.1
  refine ⟨if (0 ≤ k ∧ k < (MN M : Int)) ∧ (0 ≤ j ∧ j ≤ 3) then Mh M (4 * k.toNat + j.toNat) else -1, ?_, ?_⟩
  · unfold f_AW_handler
    rw [xw_bn2_e hbo]
    show xw_grd (b < 13) (xw_grd (xw_r k) _) = _
    rw [xw_grd_t hb, xw_grd_t hk]
    by_cases c0 : k < 0
    · rw [xw_if_t c0, if_neg (by omega)]
    · rw [xw_if_f c0, h1.2.1.2.2.1, xw_grd_t ⟨by omega, by omega⟩]
      by_cases c1 : (MN M : Int) ≤ k
      · rw [xw_if_t c1, if_neg (by omega)]
      · rw [xw_if_f c1, xw_grd_t hj]
        by_cases c2 : j < 0
        · rw [xw_if_t c2, if_neg (by omega)]
        · rw [xw_if_f c2]
          by_cases c3 : j ≤ 3
          · have ep := q_part fu h1.2.1 (i := k.toNat) (w := j.toNat) (by omega) (by omega)
            rw [show ((k.toNat : Nat) : Int) = k by omega, show ((j.toNat : Nat) : Int) = j by omega] at ep
            rw [xw_if_t c3, xw_bn2_e ep, if_pos (by omega)]
          · rw [xw_if_f c3, if_neg (by omega)]
  · unfold f_MD_handler
    rw [xw_bn2_e hsl, xw_jn_e, xw_grd_t ⟨by omega, by omega⟩, xw_if_f (by omega), xw_bn2_e (q_outside fu ρ hj (by decide) (by decide))]
    by_cases c0 : 0 ≤ j ∧ j ≤ 3
    · rw [if_neg (by omega), xw_grd_t (by decide), xw_if_t rfl, xw_grd_t (by omega), Int.toNat_natCast, h2.2.1.2.2.1, xw_bn2_e (q_outside fu ρ hk (by decide) ⟨by omega, by omega⟩)]
      by_cases c1 : 0 ≤ k ∧ k < (MN M : Int)
      · rw [if_neg (by omega), xw_grd_t (by decide), xw_if_t rfl, xw_grd_t (by omega), if_pos ⟨c1, c0⟩, show (20 * (q : Int) + 4 * k + j).toNat = 20 * q + (4 * k.toNat + j.toNat) by omega, h2.2.1.2.2.2.1 _ (by omega)]
      · rw [if_pos (by omega), xw_grd_t (by decide), xw_if_f (by decide), if_neg (fun z => c1 z.1)]
    · rw [if_pos (by omega), xw_grd_t (by decide), xw_if_f (by decide), if_neg (fun z => c0 z.2)]
end
