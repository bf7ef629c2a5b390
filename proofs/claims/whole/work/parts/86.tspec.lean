/-! 86: a transformed method: where things go -/
abbrev n_X : Type := Int × Int × (Nat → Int) × (Nat → Int) × (Nat → Int)
/-- 0: TRACE, 1: COVER -/
def Xc (X : n_X) : Int := X.1
def Xt (X : n_X) : Int := X.2.1
/-- whether something is put before a place -/
def Xp (X : n_X) : Nat → Int := X.2.2.1
/-- its number -/
def Xn (X : n_X) : Nat → Int := X.2.2.2.1
/-- whether the branch there is widened -/
def Xw (X : n_X) : Nat → Int := X.2.2.2.2
def n_pre (X : n_X) : Int := if Xc X = 0 then 2 else 0
def n_pst (X : n_X) : Nat := if Xc X = 0 then 3 else 0
def n_pop (X : n_X) : Int := if Xc X = 0 then 30 else 31
def n_ld (M : m_M) (X : n_X) : Nat → Int
  | 0 => n_pre X
  | p + 1 => if m_bg (Mc M) p then n_ld M X p + 2 * Xp X p + q_sz (Mc M p) + Xw X p else n_ld M X p
def n_ow (M : m_M) (X : n_X) (p : Nat) : Int := n_ld M X p + 2 * Xp X p
def n_ok (M : m_M) (X : n_X) : Prop := (Xc X = 0 ∨ Xc X = 1) ∧ (0 ≤ Xt X ∧ Xt X ≤ 2) ∧ (∀ p, Xp X p = 0 ∨ Xp X p = 1) ∧ (∀ p, Xw X p = 0 ∨ (Xw X p = 1 ∧ q_sb (Mc M p))) ∧ (∀ p, p < ML M → 0 ≤ Xn X p ∧ Xn X p ≤ 255)
theorem n_ld_s {M : m_M} {X : n_X} (h : n_ok M X) (p : Nat) : n_ld M X p ≤ n_ld M X (p + 1) ∧ n_ld M X (p + 1) ≤ n_ld M X p + 6 := by
  have h1 := h.2.2.1 p
  have h2 := h.2.2.2.1 p
  have h3 := q_sz_r (Mc M p)
  rw [n_ld]
  by_cases hb : m_bg (Mc M) p
  · rw [if_pos hb]; omega
  · rw [if_neg hb]; omega
theorem n_ld_m {M : m_M} {X : n_X} (h : n_ok M X) (p : Nat) : ∀ k, n_ld M X p ≤ n_ld M X (p + k)
  | 0 => Int.le_refl _
  | k + 1 => by
    have a := n_ld_m h p k
    have b := (n_ld_s h (p + k)).1
    rw [← Nat.add_assoc]
    omega
theorem n_ld_le {M : m_M} {X : n_X} (h : n_ok M X) {p q : Nat} (hpq : p ≤ q) : n_ld M X p ≤ n_ld M X q := by
  have := n_ld_m h p (q - p)
  rwa [show p + (q - p) = q by omega] at this
theorem n_ld_0 {M : m_M} {X : n_X} (h : n_ok M X) (p : Nat) : n_pre X ≤ n_ld M X p ∧ 0 ≤ n_ld M X p := by
  have := n_ld_le h (Nat.zero_le p)
  have e : n_ld M X 0 = n_pre X := rfl
  have h1 : 0 ≤ n_pre X := by unfold n_pre; split <;> omega
  omega
/-- inside an instruction none begins -/
theorem m_bg_no {c : Nat → Int} {a q : Nat} (h : m_bg c a) (h1 : a < q) (h2 : (q : Int) < (a : Int) + q_sz (c a)) : ¬ m_bg c q := by
  intro hq
  have := m_nx_in c h (q - a - 1) (Or.inl (by omega))
  rw [show a + (q - a - 1) + 1 = q by omega] at this
  unfold m_bg at hq
  omega
theorem m_bg_nx {c : Nat → Int} {a : Nat} (h : m_bg c a) (hz : 0 < q_sz (c a)) : m_bg c (a + (q_sz (c a)).toNat) := by
  have := m_nx_in c h ((q_sz (c a)).toNat - 1) (Or.inl (by omega))
  rw [show a + ((q_sz (c a)).toNat - 1) + 1 = a + (q_sz (c a)).toNat by omega] at this
  unfold m_bg
  omega
theorem n_ld_n {M : m_M} {X : n_X} {p : Nat} (hb : m_bg (Mc M) p) (hz : 0 < q_sz (Mc M p)) : n_ld M X (p + (q_sz (Mc M p)).toNat) = n_ow M X p + q_sz (Mc M p) + Xw X p := by
  have e1 : n_ld M X (p + 1) = n_ow M X p + q_sz (Mc M p) + Xw X p := by rw [n_ld, if_pos hb]; rfl
  have st : ∀ k, k + 1 ≤ (q_sz (Mc M p)).toNat → n_ld M X (p + (k + 1)) = n_ld M X (p + 1) := by
    intro k
    induction k with
    | zero => intro _; rfl
    | succ k ih =>
      intro hk
      rw [← ih (by omega)]
      show n_ld M X (p + (k + 1) + 1) = _
      rw [n_ld, if_neg (m_bg_no hb (by omega) (by omega))]
  have := st ((q_sz (Mc M p)).toNat - 1) (by omega)
  rw [show (q_sz (Mc M p)).toNat - 1 + 1 = (q_sz (Mc M p)).toNat by omega] at this
  rw [this, e1]
/-- where a branch at p leads now -/
def n_y (M : m_M) (X : n_X) (p : Nat) : Int := n_ld M X ((p : Int) + m_way (Mc M) (ML M) p).toNat - n_ow M X p
def n_op (M : m_M) (X : n_X) (p : Nat) : Int := Mc M p + 10 * Xw X p
/-- the new code -/
def n_C (M : m_M) (X : n_X) (c : Nat → Int) : Prop :=
  (Xc X = 0 → c 0 = 30 ∧ c 1 = 3 * Xt X) ∧
  (∀ p, p < ML M → m_bg (Mc M) p → (Xp X p = 1 → c (n_ld M X p).toNat = n_pop X ∧ c ((n_ld M X p).toNat + 1) = Xn X p) ∧ c (n_ow M X p).toNat = n_op M X p ∧
    (q_br (Mc M p) → (q_wb (n_op M X p) → c ((n_ow M X p).toNat + 1) = (n_y M X p / 256) % 256 ∧ c ((n_ow M X p).toNat + 2) = n_y M X p % 256) ∧ (¬ q_wb (n_op M X p) → c ((n_ow M X p).toNat + 1) = n_y M X p % 256)) ∧
    (¬ q_br (Mc M p) → ∀ i : Nat, 1 ≤ i → (i : Int) < q_sz (Mc M p) → c ((n_ow M X p).toNat + i) = Mc M (p + i))) ∧
  (Xc X = 0 → c (n_ld M X (ML M)).toNat = 30 ∧ c ((n_ld M X (ML M)).toNat + 1) = 3 * Xt X + 2 ∧ c ((n_ld M X (ML M)).toNat + 2) = 32)
def n_L (M : m_M) (X : n_X) : Nat := (n_ld M X (ML M)).toNat + n_pst X
theorem n_op_sz {M : m_M} {X : n_X} (h : n_ok M X) (p : Nat) : q_sz (n_op M X p) = q_sz (Mc M p) + Xw X p := by
  unfold n_op
  rcases h.2.2.2.1 p with z | ⟨z, y⟩
  · rw [z]; simp
  · rw [z]
    unfold q_sb at y
    have : Mc M p = 10 ∨ Mc M p = 11 ∨ Mc M p = 12 := by omega
    rcases this with e | e | e <;> rw [e] <;> decide
theorem n_bg {M : m_M} {X : n_X} {me : Int} {c : Nat → Int} (hW : m_W M me) (h : n_ok M X) (hC : n_C M X c) : ∀ p, p ≤ ML M → m_nx (Mc M) p ≤ (ML M : Int) ∧ m_bg c (n_ld M X (m_nx (Mc M) p).toNat).toNat := by
  have hz30 : q_sz 30 = 2 := by decide
  have hz31 : q_sz 31 = 2 := by decide
  intro p
  induction p with
  | zero =>
    intro hp
    refine ⟨by show (0 : Int) ≤ _; omega, ?_⟩
    show m_bg c (n_ld M X 0).toNat
    show m_bg c (n_pre X).toNat
    unfold n_pre
    by_cases h0 : Xc X = 0
    · rw [if_pos h0]
      have e := (hC.1 h0).1
      have := m_bg_nx (c := c) (a := 0) rfl (by rw [e, hz30]; decide)
      rw [e, hz30] at this
      exact this
    · rw [if_neg h0]; rfl
  | succ p ih =>
    intro hp
    obtain ⟨i1, i2⟩ := ih (by omega)
    by_cases hb : m_bg (Mc M) p
    · have hin := m_in hW.2.2.1 (by omega) hb
      have e : m_nx (Mc M) (p + 1) = (p : Int) + q_sz (Mc M p) := by rw [m_nx, if_pos hb]
      have ep : (m_nx (Mc M) p).toNat = p := by unfold m_bg at hb; omega
      rw [ep] at i2
      rw [e, show ((p : Int) + q_sz (Mc M p)).toNat = p + (q_sz (Mc M p)).toNat by omega, n_ld_n hb hin.1]
      refine ⟨hin.2, ?_⟩
      obtain ⟨c1, c2, c3, c4⟩ := hC.2.1 p (by omega) hb
      have hp0 := n_ld_0 h p
      have hpp := h.2.2.1 p
      have hww := h.2.2.2.1 p
      have ow : m_bg c (n_ow M X p).toNat := by
        unfold n_ow
        rcases hpp with z | z
        · rw [z, show n_ld M X p + 2 * 0 = n_ld M X p by omega]; exact i2
        · have e2 : q_sz (c (n_ld M X p).toNat) = 2 := by
            rw [(c1 z).1]
            unfold n_pop
            split
            · exact hz30
            · exact hz31
          have := m_bg_nx i2 (by rw [e2]; decide)
          rw [e2] at this
          rw [z, show (n_ld M X p + 2 * 1).toNat = (n_ld M X p).toNat + (2 : Int).toNat by omega]
          exact this
      have ez : q_sz (c (n_ow M X p).toNat) = q_sz (Mc M p) + Xw X p := by rw [c2]; exact n_op_sz h p
      have := m_bg_nx ow (by rw [ez]; omega)
      rw [ez] at this
      have hw0 : 0 ≤ n_ow M X p := by unfold n_ow; omega
      rw [show (n_ow M X p + q_sz (Mc M p) + Xw X p).toNat = (n_ow M X p).toNat + (q_sz (Mc M p) + Xw X p).toNat by omega]
      exact this
    · have e : m_nx (Mc M) (p + 1) = m_nx (Mc M) p := by rw [m_nx, if_neg hb]
      rw [e]
      exact ⟨i1, i2⟩
theorem n_bg1 {M : m_M} {X : n_X} {me : Int} {c : Nat → Int} (hW : m_W M me) (h : n_ok M X) (hC : n_C M X c) {p : Nat} (hp : p ≤ ML M) (hb : m_bg (Mc M) p) : m_bg c (n_ld M X p).toNat := by
  have := (n_bg hW h hC p hp).2
  rwa [show (m_nx (Mc M) p).toNat = p by unfold m_bg at hb; omega] at this
theorem n_bg2 {M : m_M} {X : n_X} {me : Int} {c : Nat → Int} (hW : m_W M me) (h : n_ok M X) (hC : n_C M X c) {p : Nat} (hp : p < ML M) (hb : m_bg (Mc M) p) : m_bg c (n_ow M X p).toNat := by
  have i2 := n_bg1 hW h hC (by omega) hb
  have hp0 := n_ld_0 h p
  unfold n_ow
  rcases h.2.2.1 p with z | z
  · rw [z, show n_ld M X p + 2 * 0 = n_ld M X p by omega]; exact i2
  · have e2 : q_sz (c (n_ld M X p).toNat) = 2 := by
      rw [((hC.2.1 p hp hb).1 z).1]
      unfold n_pop
      split <;> decide
    have := m_bg_nx i2 (by rw [e2]; decide)
    rw [e2] at this
    rw [z, show (n_ld M X p + 2 * 1).toNat = (n_ld M X p).toNat + (2 : Int).toNat by omega]
    exact this
/-- what kind of place q is in the new code -/
def n_K (M : m_M) (X : n_X) (q : Nat) : Prop := (Xc X = 0 ∧ q = 0) ∨ (∃ p, p < ML M ∧ m_bg (Mc M) p ∧ ((Xp X p = 1 ∧ q = (n_ld M X p).toNat) ∨ q = (n_ow M X p).toNat)) ∨ (Xc X = 0 ∧ (q = (n_ld M X (ML M)).toNat ∨ q = (n_ld M X (ML M)).toNat + 2))
theorem n_cov0 {M : m_M} {X : n_X} {me : Int} {c : Nat → Int} (hW : m_W M me) (h : n_ok M X) (hC : n_C M X c) : ∀ p, p ≤ ML M → ∀ q : Nat, (q : Int) < n_ld M X (m_nx (Mc M) p).toNat → m_bg c q → n_K M X q := by
  have hz30 : q_sz 30 = 2 := by decide
  intro p
  induction p with
  | zero =>
    intro hp q hq hb
    have hq' : (q : Int) < n_pre X := hq
    unfold n_pre at hq'
    by_cases h0 : Xc X = 0
    · rw [if_pos h0] at hq'
      by_cases q0 : q = 0
      · exact Or.inl ⟨h0, q0⟩
      · exact absurd hb (m_bg_no (c := c) (a := 0) rfl (by omega) (by rw [(hC.1 h0).1, hz30]; omega))
    · rw [if_neg h0] at hq'; omega
  | succ p ih =>
    intro hp q hq hbq
    by_cases hb : m_bg (Mc M) p
    · have hin := m_in hW.2.2.1 (by omega) hb
      have e : m_nx (Mc M) (p + 1) = (p : Int) + q_sz (Mc M p) := by rw [m_nx, if_pos hb]
      have ep : (m_nx (Mc M) p).toNat = p := by unfold m_bg at hb; omega
      have i := ih (by omega) q
      rw [ep] at i
      rw [e, show ((p : Int) + q_sz (Mc M p)).toNat = p + (q_sz (Mc M p)).toNat by omega, n_ld_n hb hin.1] at hq
      by_cases h1 : (q : Int) < n_ld M X p
      · exact i h1 hbq
      · obtain ⟨c1, c2, c3, c4⟩ := hC.2.1 p (by omega) hb
        have hp0 := n_ld_0 h p
        have bl := n_bg1 hW h hC (by omega) hb
        have bo := n_bg2 hW h hC (by omega) hb
        have ez : q_sz (c (n_ow M X p).toNat) = q_sz (Mc M p) + Xw X p := by rw [c2]; exact n_op_sz h p
        have how : n_ow M X p = n_ld M X p + 2 * Xp X p := rfl
        by_cases h2 : q = (n_ow M X p).toNat
        · exact Or.inr (Or.inl ⟨p, by omega, hb, Or.inr h2⟩)
        · rcases h.2.2.1 p with z | z
          · exact absurd hbq (m_bg_no bo (by omega) (by rw [ez]; omega))
          · by_cases h3 : q = (n_ld M X p).toNat
            · exact Or.inr (Or.inl ⟨p, by omega, hb, Or.inl ⟨z, h3⟩⟩)
            · by_cases h4 : (q : Int) < n_ow M X p
              · have e2 : q_sz (c (n_ld M X p).toNat) = 2 := by
                  rw [(c1 z).1]
                  unfold n_pop
                  split <;> decide
                exact absurd hbq (m_bg_no bl (by omega) (by rw [e2]; omega))
              · exact absurd hbq (m_bg_no bo (by omega) (by rw [ez]; omega))
    · have e : m_nx (Mc M) (p + 1) = m_nx (Mc M) p := by rw [m_nx, if_neg hb]
      rw [e] at hq
      exact ih (by omega) q hq hbq
theorem n_cov {M : m_M} {X : n_X} {me : Int} {c : Nat → Int} (hW : m_W M me) (h : n_ok M X) (hC : n_C M X c) {q : Nat} (hq : q < n_L M X) (hb : m_bg c q) : n_K M X q := by
  have hL := hW.2.2.1
  by_cases h1 : (q : Int) < n_ld M X (ML M)
  · refine n_cov0 hW h hC (ML M) (Nat.le_refl _) q ?_ hb
    rw [hL, Int.toNat_natCast]; exact h1
  · have h0 : Xc X = 0 := by
      apply Classical.byContradiction
      intro z
      unfold n_L n_pst at hq
      rw [if_neg z] at hq
      omega
    have hp0 := n_ld_0 h (ML M)
    have bl := n_bg1 hW h hC (Nat.le_refl _) (show m_bg (Mc M) (ML M) from hL)
    obtain ⟨t1, t2, t3⟩ := hC.2.2 h0
    unfold n_L n_pst at hq
    rw [if_pos h0] at hq
    by_cases h2 : q = (n_ld M X (ML M)).toNat
    · exact Or.inr (Or.inr ⟨h0, Or.inl h2⟩)
    · by_cases h3 : q = (n_ld M X (ML M)).toNat + 2
      · exact Or.inr (Or.inr ⟨h0, Or.inr h3⟩)
      · exact absurd hb (m_bg_no bl (by omega) (by rw [t1]; show (q : Int) < _ + 2; omega))
theorem n_end {M : m_M} {X : n_X} {me : Int} {c : Nat → Int} (hW : m_W M me) (h : n_ok M X) (hC : n_C M X c) : m_nx c (n_L M X) = (n_L M X : Int) := by
  have bl := n_bg1 hW h hC (Nat.le_refl _) (show m_bg (Mc M) (ML M) from hW.2.2.1)
  unfold n_L n_pst
  by_cases h0 : Xc X = 0
  · obtain ⟨t1, t2, t3⟩ := hC.2.2 h0
    have b2 := m_bg_nx bl (by rw [t1]; decide)
    rw [t1] at b2
    have b2' : m_bg c ((n_ld M X (ML M)).toNat + 2) := b2
    have b3 := m_bg_nx b2' (by rw [t3]; decide)
    rw [t3] at b3
    rw [if_pos h0]
    exact b3
  · rw [if_neg h0]; exact bl
/-- two codes of this kind are the same -/
theorem n_C_u {M : m_M} {X : n_X} {me : Int} {c c' : Nat → Int} (hW : m_W M me) (h : n_ok M X) (hC : n_C M X c) (hC' : n_C M X c') : ∀ q, q < n_L M X → c q = c' q := by
  have step : ∀ p, p ≤ ML M → ∀ q : Nat, (q : Int) < n_ld M X (m_nx (Mc M) p).toNat → c q = c' q := by
    intro p
    induction p with
    | zero =>
      intro hp q hq
      have hq' : (q : Int) < n_pre X := hq
      unfold n_pre at hq'
      by_cases h0 : Xc X = 0
      · rw [if_pos h0] at hq'
        have q01 : q = 0 ∨ q = 1 := by omega
        rcases q01 with rfl | rfl
        · rw [(hC.1 h0).1, (hC'.1 h0).1]
        · rw [(hC.1 h0).2, (hC'.1 h0).2]
      · rw [if_neg h0] at hq'; omega
    | succ p ih =>
      intro hp q hq
      by_cases hb : m_bg (Mc M) p
      · have hin := m_in hW.2.2.1 (by omega) hb
        have e : m_nx (Mc M) (p + 1) = (p : Int) + q_sz (Mc M p) := by rw [m_nx, if_pos hb]
        have ep : (m_nx (Mc M) p).toNat = p := by unfold m_bg at hb; omega
        have i := ih (by omega) q
        rw [ep] at i
        rw [e, show ((p : Int) + q_sz (Mc M p)).toNat = p + (q_sz (Mc M p)).toNat by omega, n_ld_n hb hin.1] at hq
        by_cases h1 : (q : Int) < n_ld M X p
        · exact i h1
        · obtain ⟨c1, c2, c3, c4⟩ := hC.2.1 p (by omega) hb
          obtain ⟨d1, d2, d3, d4⟩ := hC'.2.1 p (by omega) hb
          have hp0 := n_ld_0 h p
          have how : n_ow M X p = n_ld M X p + 2 * Xp X p := rfl
          have hsz := q_sz_r (Mc M p)
          have hw := h.2.2.2.1 p
          have hz1 := n_op_sz h p
          have hz2 := q_sz_r (n_op M X p)
          have hpp := h.2.2.1 p
          by_cases h4 : (q : Int) < n_ow M X p
          · have z : Xp X p = 1 := by
              rcases h.2.2.1 p with z | z
              · omega
              · exact z
            by_cases h5 : q = (n_ld M X p).toNat
            · rw [h5, (c1 z).1, (d1 z).1]
            · have h6 : q = (n_ld M X p).toNat + 1 := by omega
              rw [h6, (c1 z).2, (d1 z).2]
          · by_cases h5 : q = (n_ow M X p).toNat
            · rw [h5, c2, d2]
            · by_cases hbr : q_br (Mc M p)
              · by_cases hwb : q_wb (n_op M X p)
                · by_cases h6 : q = (n_ow M X p).toNat + 1
                  · rw [h6, ((c3 hbr).1 hwb).1, ((d3 hbr).1 hwb).1]
                  · have h7 : q = (n_ow M X p).toNat + 2 := by omega
                    rw [h7, ((c3 hbr).1 hwb).2, ((d3 hbr).1 hwb).2]
                · have h8 : q_sz (Mc M p) + Xw X p = 2 := by
                    rw [← n_op_sz h p]
                    have hn : n_op M X p = 10 ∨ n_op M X p = 11 ∨ n_op M X p = 12 := by
                      have : n_op M X p = Mc M p + 10 * Xw X p := rfl
                      unfold q_br q_sb q_wb at hbr
                      unfold q_wb at hwb
                      unfold q_sb at hw
                      omega
                    rcases hn with e | e | e <;> rw [e] <;> decide
                  have h6 : q = (n_ow M X p).toNat + 1 := by omega
                  rw [h6, (c3 hbr).2 hwb, (d3 hbr).2 hwb]
              · have hw0 : Xw X p = 0 := by
                  rcases hw with z | z
                  · exact z
                  · exact absurd (Or.inl z.2) hbr
                have h6 : q = (n_ow M X p).toNat + (q - (n_ow M X p).toNat) := by omega
                rw [h6, c4 hbr _ (by omega) (by omega), d4 hbr _ (by omega) (by omega)]
      · have e : m_nx (Mc M) (p + 1) = m_nx (Mc M) p := by rw [m_nx, if_neg hb]
        rw [e] at hq
        exact ih (by omega) q hq
  intro q hq
  by_cases h1 : (q : Int) < n_ld M X (ML M)
  · refine step (ML M) (Nat.le_refl _) q ?_
    rw [hW.2.2.1, Int.toNat_natCast]; exact h1
  · have h0 : Xc X = 0 := by
      apply Classical.byContradiction
      intro z
      unfold n_L n_pst at hq
      rw [if_neg z] at hq
      omega
    have hp0 := n_ld_0 h (ML M)
    obtain ⟨t1, t2, t3⟩ := hC.2.2 h0
    obtain ⟨u1, u2, u3⟩ := hC'.2.2 h0
    unfold n_L n_pst at hq
    rw [if_pos h0] at hq
    have hq3 : q = (n_ld M X (ML M)).toNat ∨ q = (n_ld M X (ML M)).toNat + 1 ∨ q = (n_ld M X (ML M)).toNat + 2 := by omega
    rcases hq3 with e | e | e
    · rw [e, t1, u1]
    · rw [e, t2, u2]
    · rw [e, t3, u3]
