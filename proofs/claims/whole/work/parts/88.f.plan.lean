/-! 88.f: the class plans: leaders and items -/
theorem c_fill (fu : Nat) {q n : Nat} (hn : n ≤ 1000) (v : Int) : ∀ (dd k N : Nat) (s : xw_S), k + dd = n → dd < N → (∀ j, j < k → s.1 q j = v) → ∃ s', (∀ K : xw_S → Option xw_S, lp_AR_fill_5 fu q n v (n : Int) K N s (k : Int) = K s') ∧ frm (fun i _ => i = q) s s' ∧ ∀ j, j < n → s'.1 q j = v := by
  intro dd
  induction dd with
  | zero =>
    intro k N s hk hN h
    obtain ⟨N, rfl⟩ : ∃ n', N = n' + 1 := ⟨N - 1, by omega⟩
    exact ⟨s, fun K => by rw [lp_AR_fill_5, xw_grd_t ⟨⟨by omega, by omega⟩, ⟨by omega, by omega⟩⟩, xw_if_t (by omega)], frm_rf _ _, fun j hj => h j (by omega)⟩
  | succ dd ih =>
    intro k N s hk hN h
    obtain ⟨N, rfl⟩ : ∃ n', N = n' + 1 := ⟨N - 1, by omega⟩
    obtain ⟨s', g1, g2, g3⟩ := ih (k + 1) N (xw_st s q k v) (by omega) (by omega) (fun j hj => by
      by_cases hjk : j = k
      · rw [hjk, st_s]
      · rw [st_k hjk]; exact h j (by omega))
    refine ⟨s', fun K => ?_, frm_tr (frm_st rfl) g2, g3⟩
    rw [lp_AR_fill_5, xw_grd_t ⟨⟨by omega, by omega⟩, ⟨by omega, by omega⟩⟩, xw_if_f (by omega), xw_grd_t (by omega), xw_let_e, xw_let_e, Int.toNat_natCast]
    exact g1 K
theorem q_fill (fu : Nat) (hfu : 2000 ≤ fu) {q n : Nat} (hn : n ≤ 1000) (v : Int) (s : xw_S) : ∃ s', f_AR_fill fu s q n v = some s' ∧ frm (fun i _ => i = q) s s' ∧ ∀ j, j < n → s'.1 q j = v := by
  obtain ⟨s', g1, g2, g3⟩ := c_fill fu (q := q) hn v n 0 fu s (by omega) (by omega) (fun j hj => by omega)
  exact ⟨s', g1 (fun s11 => some s11), g2, g3⟩
/-- a body whose beginnings are known -/
def c_E (M : m_M) (b : Nat) (s : xw_S) : Prop := c_M s b M ∧ ∀ p, p < ML M → xw_r (s.1 (50 + 4 * b) p) ∧ (s.1 (50 + 4 * b) p = -2 ↔ ¬ m_bg (Mc M) p)
theorem c_E_f {M : m_M} {b : Nat} {s s' : xw_S} {S : Nat → Nat → Prop} (h : c_E M b s) (hf : frm S s s') (hS : ∀ i k, S i k → ¬ (i = 48 + 4 * b ∧ 4 ≤ k ∧ k ≤ 9) ∧ i ≠ 49 + 4 * b ∧ i ≠ 51 + 4 * b ∧ i ≠ 50 + 4 * b) : c_E M b s' := by
  refine ⟨c_M_f h.1 hf (fun i k z => ⟨(hS i k z).1, (hS i k z).2.1, (hS i k z).2.2.1⟩), fun p hp => ?_⟩
  rw [hf.2 _ _ (fun z => (hS _ _ z).2.2.2 rfl)]
  exact h.2 p hp
theorem q_beg (fu : Nat) {M : m_M} {b : Nat} {s : xw_S} (h : c_E M b s) {p : Nat} (hp : p < ML M) : f_B_begins fu s b (p : Int) = some (s, if m_bg (Mc M) p then 1 else 0) := by
  have hL := h.1.1.2.1
  have hcap := xb_cap_le b
  rw [q_begins fu h.1.1 (fun p hp => (h.2 p hp).1) ⟨by omega, by omega⟩]
  have := (h.2 p hp).2
  by_cases hb : m_bg (Mc M) p
  · rw [if_pos hb, if_pos ⟨by omega, by omega, by rw [Int.toNat_natCast]; exact fun z => this.1 z hb⟩]
  · rw [if_neg hb, if_neg (fun z => z.2.2 (by rw [Int.toNat_natCast]; exact this.2 hb))]
/-! leaders -/
def S_16 : Nat → Nat → Prop := fun i _ => i = 16
theorem c_E_16 {M : m_M} {s s' : xw_S} (h : c_E M 12 s) (hf : frm S_16 s s') : c_E M 12 s' := c_E_f h hf (fun i k z => by unfold S_16 at z; omega)
theorem q_addL (fu : Nat) {s : xw_S} {f : Nat → Int} (h : ∀ p, p < 121 → s.1 16 p = f p) {t : Int} (ht : 0 ≤ t ∧ t < 121) : f_LM_addLeader fu s t = some (xw_st s 16 t.toNat 1) ∧ ∀ p, p < 121 → (xw_st s 16 t.toNat 1).1 16 p = l_up f t p := by
  refine ⟨?_, fun p hp => ?_⟩
  · unfold f_LM_addLeader
    rw [xw_grd_t ⟨by omega, by omega⟩, xw_if_f (by omega), xw_if_f (by omega), xw_grd_t (by omega)]
    rfl
  · unfold l_up
    rw [st_e]
    by_cases hpt : (p : Int) = t
    · rw [if_pos ⟨rfl, by omega⟩, if_pos hpt]
    · rw [if_neg (fun y => hpt (by omega)), if_neg hpt]
      exact h p hp
theorem c_fl17 (fu : Nat) {M : m_M} {me : Int} (hW : m_W M me) : ∀ (dd k N : Nat) (s : xw_S), k + dd = ML M → dd < N → c_E M 12 s → (∀ p, p < 121 → s.1 16 p = l_ld M k p) → ∃ s', (∀ K : xw_S → Option xw_S, lp_LM_findLeaders_17 fu K N s (k : Int) = K s') ∧ frm S_16 s s' ∧ ∀ p, p < 121 → s'.1 16 p = l_ld M (ML M) p := by
  have hL := hW.1
  intro dd
  induction dd with
  | zero =>
    intro k N s hk hN hE h16
    obtain ⟨N, rfl⟩ : ∃ n', N = n' + 1 := ⟨N - 1, by omega⟩
    have hlen : s.1 (48 + 4 * 12) 8 = (ML M : Int) := hE.1.1.2.2.1
    exact ⟨s, fun K => by rw [lp_LM_findLeaders_17, hlen, xw_grd_t ⟨⟨by omega, by omega⟩, ⟨by omega, by omega⟩⟩, xw_if_t (by omega)], frm_rf _ _, by rw [← show k = ML M by omega]; exact h16⟩
  | succ dd ih =>
    intro k N s hk hN hE h16
    obtain ⟨N, rfl⟩ : ∃ n', N = n' + 1 := ⟨N - 1, by omega⟩
    have hlen : s.1 (48 + 4 * 12) 8 = (ML M : Int) := hE.1.1.2.2.1
    have hB := hE.1.1
    have hck := hB.2.2.2.2 k (by omega)
    by_cases hb : m_bg (Mc M) k
    · have hin := m_in hW.2.2.1 (by omega) hb
      have hwp := hW.2.2.2.1 k (by omega) hb
      have half : ∀ (z : xw_S) (f : Nat → Int), frm S_16 s z → (∀ p, p < 121 → z.1 16 p = f p) → (∀ p, l_ld M (k + 1) p = l_up f ((k : Int) + q_sz (Mc M k)) p) → ∃ s', (∀ K : xw_S → Option xw_S, (fun (s36 : xw_S) (i1_85 : Int) (i2_85 : Int) => xw_bn2 (f_OP_size fu s36 i2_85) (fun s37 r39 => xw_bnd (f_LM_addLeader fu s37 (i1_85 + r39)) (fun s40 => (fun (s43 : xw_S) (i1_95 : Int) => xw_let (i1_95 + 1) (fun v44 => lp_LM_findLeaders_17 fu K N s43 v44)) s40 i1_85))) z (k : Int) (Mc M k) = K s') ∧ frm S_16 s s' ∧ ∀ p, p < 121 → s'.1 16 p = l_ld M (ML M) p := by
        intro z f hf hz hl
        obtain ⟨a1, a2⟩ := q_addL fu hz (t := (k : Int) + q_sz (Mc M k)) (by omega)
        obtain ⟨s', g1, g2, g3⟩ := ih (k + 1) N (xw_st z 16 ((k : Int) + q_sz (Mc M k)).toNat 1) (by omega) (by omega) (c_E_16 (c_E_16 hE hf) (frm_st rfl)) (fun p hp => by rw [hl p]; exact a2 p hp)
        refine ⟨s', fun K => ?_, frm_tr (frm_tr hf (frm_st rfl)) g2, g3⟩
        dsimp only
        rw [xw_bn2_e (q_OPsize fu z ⟨by omega, by omega⟩), xw_bnd_e a1, xw_let_e]
        exact g1 K
      by_cases hbr : q_br (Mc M k)
      · have hpl := hwp.1 hbr
        have hpl1 := hpl.1
        have hpl2 := hpl.2.1
        have hwr := m_way_r hB.2.2.2.2 (k : Int)
        obtain ⟨a1, a2⟩ := q_addL fu h16 (t := (k : Int) + m_way (Mc M) (ML M) k) (by omega)
        obtain ⟨s', g1, g2, g3⟩ := half (xw_st s 16 ((k : Int) + m_way (Mc M) (ML M) k).toNat 1) _ (frm_st rfl) a2 (fun p => by rw [l_ld, if_pos hb, if_pos (Or.inl hbr), if_pos hbr])
        refine ⟨s', fun K => ?_, g2, g3⟩
        rw [lp_LM_findLeaders_17, hlen, xw_grd_t ⟨⟨by omega, by omega⟩, ⟨by omega, by omega⟩⟩, xw_if_f (by omega), xw_bn2_e (q_beg fu hE (by omega)), xw_jn_e, if_pos hb, xw_grd_t (by decide), xw_if_f (by decide), xw_bn2_e (q_byteAt fu hB ⟨by omega, by omega⟩), m_at_in (by omega), xw_bn2_e (q_OPbr fu s ⟨by omega, by omega⟩), xw_jn_e, if_pos hbr, xw_grd_t (by decide), xw_if_f (by decide), xw_bn2_e (q_wayAt fu hB ⟨by omega, by omega⟩), xw_bnd_e a1]
        dsimp only
        rw [xw_jn_e, xw_grd_t (by decide), xw_if_f (by decide)]
        exact g1 K
      · by_cases hen : q_en (Mc M k)
        · obtain ⟨s', g1, g2, g3⟩ := half s (l_ld M k) (frm_rf _ _) h16 (fun p => by rw [l_ld, if_pos hb, if_pos (Or.inr hen), if_neg hbr])
          refine ⟨s', fun K => ?_, g2, g3⟩
          rw [lp_LM_findLeaders_17, hlen, xw_grd_t ⟨⟨by omega, by omega⟩, ⟨by omega, by omega⟩⟩, xw_if_f (by omega), xw_bn2_e (q_beg fu hE (by omega)), xw_jn_e, if_pos hb, xw_grd_t (by decide), xw_if_f (by decide), xw_bn2_e (q_byteAt fu hB ⟨by omega, by omega⟩), m_at_in (by omega), xw_bn2_e (q_OPbr fu s ⟨by omega, by omega⟩), xw_jn_e, if_neg hbr, xw_grd_t (by decide), xw_if_t rfl]
          dsimp only
          rw [xw_jn_e, xw_grd_t (by decide), xw_if_t rfl, xw_bn2_e (q_OPgo fu s ⟨by omega, by omega⟩), if_pos hen, xw_grd_t (by decide), xw_if_t rfl]
          exact g1 K
        · obtain ⟨s', g1, g2, g3⟩ := ih (k + 1) N s (by omega) (by omega) hE (fun p hp => by rw [l_ld, if_pos hb, if_neg (fun z => z.elim hbr hen)]; exact h16 p hp)
          refine ⟨s', fun K => ?_, g2, g3⟩
          rw [lp_LM_findLeaders_17, hlen, xw_grd_t ⟨⟨by omega, by omega⟩, ⟨by omega, by omega⟩⟩, xw_if_f (by omega), xw_bn2_e (q_beg fu hE (by omega)), xw_jn_e, if_pos hb, xw_grd_t (by decide), xw_if_f (by decide), xw_bn2_e (q_byteAt fu hB ⟨by omega, by omega⟩), m_at_in (by omega), xw_bn2_e (q_OPbr fu s ⟨by omega, by omega⟩), xw_jn_e, if_neg hbr, xw_grd_t (by decide), xw_if_t rfl]
          dsimp only
          rw [xw_jn_e, xw_grd_t (by decide), xw_if_t rfl, xw_bn2_e (q_OPgo fu s ⟨by omega, by omega⟩), if_neg hen, xw_grd_t (by decide), xw_if_f (by decide)]
          exact g1 K
    · obtain ⟨s', g1, g2, g3⟩ := ih (k + 1) N s (by omega) (by omega) hE (fun p hp => by rw [l_ld, if_neg hb]; exact h16 p hp)
      refine ⟨s', fun K => ?_, g2, g3⟩
      rw [lp_LM_findLeaders_17, hlen, xw_grd_t ⟨⟨by omega, by omega⟩, ⟨by omega, by omega⟩⟩, xw_if_f (by omega), xw_bn2_e (q_beg fu hE (by omega)), xw_jn_e, if_neg hb, xw_grd_t (by decide), xw_if_t rfl]
      exact g1 K
theorem c_fl103 (fu : Nat) {M : m_M} {me : Int} (hW : m_W M me) : ∀ (dd k N : Nat) (s : xw_S), k + dd = MN M → dd < N → c_E M 12 s → (∀ p, p < 121 → s.1 16 p = l_lh M k p) → ∃ s', (∀ K : xw_S → Option xw_S, lp_LM_findLeaders_103 fu K N s (k : Int) = K s') ∧ frm S_16 s s' ∧ ∀ p, p < 121 → s'.1 16 p = l_lh M (MN M) p := by
  have hL := hW.1
  intro dd
  induction dd with
  | zero =>
    intro k N s hk hN hE h16
    obtain ⟨N, rfl⟩ : ∃ n', N = n' + 1 := ⟨N - 1, by omega⟩
    have hn : s.1 (48 + 4 * 12) 9 = (MN M : Int) := hE.1.2.1.2.2.1
    exact ⟨s, fun K => by rw [lp_LM_findLeaders_103, hn, xw_grd_t ⟨⟨by omega, by omega⟩, ⟨by omega, by omega⟩⟩, xw_if_t (by omega)], frm_rf _ _, by rw [← show k = MN M by omega]; exact h16⟩
  | succ dd ih =>
    intro k N s hk hN hE h16
    obtain ⟨N, rfl⟩ : ∃ n', N = n' + 1 := ⟨N - 1, by omega⟩
    have hn : s.1 (48 + 4 * 12) 9 = (MN M : Int) := hE.1.2.1.2.2.1
    have h4 := (hW.2.2.2.2 k (by omega)).2.2
    have h4a := h4.1
    have h4b := h4.2.1
    have p2 : f_B_part fu s 12 (k : Int) 2 = some (s, Mh M (4 * k + 2)) := q_part fu hE.1.2.1 (by omega) (w := 2) (by omega)
    obtain ⟨a1, a2⟩ := q_addL fu h16 (t := Mh M (4 * k + 2)) (by omega)
    obtain ⟨s', g1, g2, g3⟩ := ih (k + 1) N (xw_st s 16 (Mh M (4 * k + 2)).toNat 1) (by omega) (by omega) (c_E_16 hE (frm_st rfl)) a2
    refine ⟨s', fun K => ?_, frm_tr (frm_st rfl) g2, g3⟩
    rw [lp_LM_findLeaders_103, hn, xw_grd_t ⟨⟨by omega, by omega⟩, ⟨by omega, by omega⟩⟩, xw_if_f (by omega), xw_bn2_e p2, xw_bnd_e a1, xw_let_e]
    exact g1 K
theorem q_fl (fu : Nat) (hfu : 2000 ≤ fu) {M : m_M} {me : Int} (hW : m_W M me) {s : xw_S} (hE : c_E M 12 s) : ∃ s', f_LM_findLeaders fu s = some s' ∧ frm S_16 s s' ∧ ∀ p, p < 121 → s'.1 16 p = l_lh M (MN M) p := by
  have hL := hW.1
  obtain ⟨s1, a1, a2, a3⟩ := q_fill fu hfu (q := 16) (n := 121) (by decide) 0 s
  have f1 : frm S_16 s (xw_st s1 16 0 1) := frm_tr a2 (frm_st rfl)
  obtain ⟨s2, b1, b2, b3⟩ := c_fl17 fu hW (ML M) 0 fu (xw_st s1 16 0 1) (by omega) (by omega) (c_E_16 hE f1) (fun p hp => by
    rw [l_ld]
    by_cases h0 : p = 0
    · rw [h0, st_s, if_pos rfl]
    · rw [st_k h0, a3 p hp, if_neg h0])
  have b1' : ∀ K : xw_S → Option xw_S, lp_LM_findLeaders_17 fu K fu (xw_st s1 16 (0 : Int).toNat 1) 0 = K s2 := b1
  obtain ⟨s3, d1, d2, d3⟩ := c_fl103 fu hW (MN M) 0 fu s2 (by omega) (by omega) (c_E_16 (c_E_16 hE f1) b2) b3
  have d1' : ∀ K : xw_S → Option xw_S, lp_LM_findLeaders_103 fu K fu s2 0 = K s3 := d1
  refine ⟨s3, ?_, frm_tr (frm_tr f1 b2) d2, d3⟩
  unfold f_LM_findLeaders
  rw [xw_bnd_e a1, xw_let_e, xw_jn_e, b1', xw_jn_e, d1']
/-! items -/
def i_x (M : m_M) (X : n_X) : Nat → Int
  | 0 => if Xc X = 0 then 1 else 0
  | k + 1 => if m_bg (Mc M) k then i_x M X k + Xp X k + 1 else i_x M X k
theorem i_x_r {M : m_M} {X : n_X} (h : n_ok M X) : ∀ k : Nat, 0 ≤ i_x M X k ∧ i_x M X k ≤ 1 + 2 * (k : Int) ∧ (Xc X = 0 → 1 ≤ i_x M X k)
  | 0 => by unfold i_x; split <;> omega
  | k + 1 => by
    have := i_x_r h k
    have hp := h.2.2.1 k
    unfold i_x
    split
    · exact ⟨by omega, by omega, fun z => by have := this.2.2 z; omega⟩
    · exact ⟨by omega, by omega, fun z => by have := this.2.2 z; omega⟩
theorem i_x_s {M : m_M} {X : n_X} (h : n_ok M X) (p : Nat) : i_x M X p ≤ i_x M X (p + 1) := by
  have hp := h.2.2.1 p
  rw [i_x]
  split <;> omega
theorem i_x_le {M : m_M} {X : n_X} (h : n_ok M X) {p q : Nat} (hpq : p ≤ q) : i_x M X p ≤ i_x M X q := by
  have : ∀ k, i_x M X p ≤ i_x M X (p + k) := by
    intro k
    induction k with
    | zero => exact Int.le_refl _
    | succ k ih => have := i_x_s h (p + k); rw [← Nat.add_assoc]; omega
  have := this (q - p)
  rwa [show p + (q - p) = q by omega] at this
/-- the items of place p -/
def c_i1 (M : m_M) (X : n_X) (s : xw_S) (p : Nat) : Prop := s.1 15 p = i_x M X p ∧ (Xp X p = 1 → s.1 11 (i_x M X p).toNat = n_pop X ∧ s.1 12 (i_x M X p).toNat = Xn X p ∧ s.1 13 (i_x M X p).toNat = -1) ∧ s.1 11 (i_x M X p + Xp X p).toNat = n_op M X p ∧ s.1 12 (i_x M X p + Xp X p).toNat = (if q_br (Mc M p) then (p : Int) + m_way (Mc M) (ML M) p else 0) ∧ s.1 13 (i_x M X p + Xp X p).toNat = (p : Int)
def S_it : Nat → Nat → Prop := fun i k => i = 11 ∨ i = 12 ∨ i = 13 ∨ (i = 10 ∧ k = 7)
theorem q_addI (fu : Nat) {s : xw_S} {n : Int} (hn : s.1 10 7 = n) (h0 : 0 ≤ n) (h1 : n < 243) (o v w : Int) : ∃ s', f_LM_addItem fu s o v w = some s' ∧ frm S_it s s' ∧ s'.1 10 7 = n + 1 ∧ (s'.1 11 n.toNat = o ∧ s'.1 12 n.toNat = v ∧ s'.1 13 n.toNat = w) ∧ ∀ i j, 11 ≤ i → i ≤ 13 → j ≠ n.toNat → s'.1 i j = s.1 i j := by
  have e1 : (xw_st s 11 n.toNat o).1 10 7 = n := by rw [st_i (by decide)]; exact hn
  have e2 : (xw_st (xw_st s 11 n.toNat o) 12 n.toNat v).1 10 7 = n := by rw [st_i (by decide)]; exact e1
  have e3 : (xw_st (xw_st (xw_st s 11 n.toNat o) 12 n.toNat v) 13 n.toNat w).1 10 7 = n := by rw [st_i (by decide)]; exact e2
  refine ⟨xw_st (xw_st (xw_st (xw_st s 11 n.toNat o) 12 n.toNat v) 13 n.toNat w) 10 7 (n + 1), ?_, ?_, st_s _ _ _ _, ⟨?_, ?_, ?_⟩, fun i j h1 h2 h3 => ?_⟩
  · unfold f_LM_addItem
    rw [hn, xw_grd_t ⟨by omega, by omega⟩, xw_if_t h1, xw_grd_t (by omega), xw_let_e, e1, xw_grd_t (by omega), xw_let_e, e2, xw_grd_t (by omega), xw_let_e, e3]
    rfl
  · exact frm_tr (frm_tr (frm_tr (frm_st (Or.inl rfl)) (frm_st (Or.inr (Or.inl rfl)))) (frm_st (Or.inr (Or.inr (Or.inl rfl))))) (frm_st (Or.inr (Or.inr (Or.inr ⟨rfl, rfl⟩))))
  · rw [st_i (by decide), st_i (by decide), st_i (by decide), st_s]
  · rw [st_i (by decide), st_i (by decide), st_s]
  · rw [st_i (by decide), st_s]
  · rw [st_i (by omega), st_k h3, st_k h3, st_k h3]
theorem c_E_it {M : m_M} {s s' : xw_S} {S : Nat → Nat → Prop} (h : c_E M 12 s) (hf : frm S s s') (hS : ∀ i k, S i k → i < 48) : c_E M 12 s' := c_E_f h hf (fun i k z => by have := hS i k z; omega)
theorem q_addO (fu : Nat) {M : m_M} {me : Int} (hW : m_W M me) {s : xw_S} (hE : c_E M 12 s) {p : Nat} (hp : p < ML M) {n : Int} (hn : s.1 10 7 = n) (h0 : 0 ≤ n) (h1 : n < 243) : ∃ s', f_LM_addOldItem fu s (p : Int) = some s' ∧ frm S_it s s' ∧ s'.1 10 7 = n + 1 ∧ (s'.1 11 n.toNat = Mc M p ∧ s'.1 12 n.toNat = (if q_br (Mc M p) then (p : Int) + m_way (Mc M) (ML M) p else 0) ∧ s'.1 13 n.toNat = (p : Int)) ∧ ∀ i j, 11 ≤ i → i ≤ 13 → j ≠ n.toNat → s'.1 i j = s.1 i j := by
  have hL := hW.1
  have hB := hE.1.1
  have hcp := hB.2.2.2.2 p hp
  obtain ⟨s', a1, a2, a3, a4, a5⟩ := q_addI fu hn h0 h1 (Mc M p) (if q_br (Mc M p) then (p : Int) + m_way (Mc M) (ML M) p else 0) (p : Int)
  refine ⟨s', ?_, a2, a3, a4, a5⟩
  unfold f_LM_addOldItem
  rw [xw_bn2_e (q_byteAt fu hB ⟨by omega, by omega⟩), m_at_in hp, xw_bn2_e (q_OPbr fu s ⟨by omega, by omega⟩), xw_jn_e]
  by_cases hbr : q_br (Mc M p)
  · rw [if_pos hbr] at a1 ⊢
    rw [xw_grd_t (by decide), xw_if_f (by decide), xw_bn2_e (q_wayAt fu hB ⟨by omega, by omega⟩)]
    dsimp only
    rw [xw_bnd_e a1]
  · rw [if_neg hbr] at a1 ⊢
    rw [xw_grd_t (by decide), xw_if_t rfl]
    dsimp only
    rw [xw_bnd_e a1]
/-- the items of earlier places stay -/
theorem c_i1_f {M : m_M} {X : n_X} (h : n_ok M X) {s s' : xw_S} {p k : Nat} (hb : m_bg (Mc M) p) (hpk : p < k) (h1 : c_i1 M X s p) (h15 : s'.1 15 p = s.1 15 p) (hj : ∀ i j : Nat, 11 ≤ i → i ≤ 13 → (j : Int) < i_x M X k → s'.1 i j = s.1 i j) : c_i1 M X s' p := by
  obtain ⟨a1, a2, a3, a4, a5⟩ := h1
  have r := i_x_r h p
  have hpp := h.2.2.1 p
  have l1 : i_x M X (p + 1) = i_x M X p + Xp X p + 1 := by rw [i_x, if_pos hb]
  have l2 := i_x_le h (p := p + 1) (q := k) (by omega)
  refine ⟨by rw [h15]; exact a1, fun z => ?_, ?_, ?_, ?_⟩
  · rw [hj 11 _ (by omega) (by omega) (by omega), hj 12 _ (by omega) (by omega) (by omega), hj 13 _ (by omega) (by omega) (by omega)]
    exact a2 z
  · rw [hj 11 _ (by omega) (by omega) (by omega)]; exact a3
  · rw [hj 12 _ (by omega) (by omega) (by omega)]; exact a4
  · rw [hj 13 _ (by omega) (by omega) (by omega)]; exact a5
