/-! 89.a: what a run needs of code, and that transforming keeps it -/
def m_E (M : m_M) : Prop := ∀ p, p < ML M → m_bg (Mc M) p → (Mc M p = 31 → m_nu M p < 40) ∧ (Mc M p = 32 → ∀ i, i < MN M → m_cov M i p → (p : Int) < Mh M (4 * i + 2))
theorem n_ld_3 {M : m_M} {X : n_X} {me : Int} {cv : Int} (hW : m_W M me) (h : n_ok M X) (hXp : Xp X = l_pu M cv) : ∀ p, p ≤ ML M → 3 * l_nb M cv p ≤ n_ld M X p := by
  intro p
  induction p with
  | zero =>
    intro _
    have e : n_ld M X 0 = n_pre X := rfl
    have h1 : 0 ≤ n_pre X := by unfold n_pre; split <;> omega
    rw [e, l_nb]
    omega
  | succ p ih =>
    intro hp
    have i := ih (by omega)
    by_cases hb : m_bg (Mc M) p
    · have hin := m_in hW.2.2.1 (by omega) hb
      have hpp := h.2.2.1 p
      have hw0 : 0 ≤ Xw X p := by
        rcases h.2.2.2.1 p with z | z
        · omega
        · have := z.1
          omega
      rw [n_ld, if_pos hb, l_nb]
      by_cases h1 : m_bg (Mc M) p ∧ l_pu M cv p = 1
      · have : Xp X p = 1 := by rw [hXp]; exact h1.2
        rw [if_pos h1]; omega
      · rw [if_neg h1]; omega
    · rw [n_ld, if_neg hb, l_nb, if_neg (fun z => hb z.1)]; omega
theorem n_E {M : m_M} {X : n_X} {me : Int} {c : Nat → Int} {cv : Int} (hW : m_W M me) (h : n_ok M X) (hC : n_C M X c) (hL : n_L M X ≤ 120) (hcv : Xc X = cv) (hXp : Xp X = l_pu M cv) (hXn : Xn X = fun p => if cv = 0 then 3 * Xt X + 1 else l_nb M cv p) (hE : m_E M) : m_E (n_M M X c) := by
  have hl0 := n_ld_0 h (ML M)
  have hl : n_ld M X (ML M) ≤ (n_L M X : Int) := by unfold n_L; omega
  intro q hq hb
  have hq' : q < n_L M X := hq
  have ec : Mc (n_M M X c) q = c q := rfl
  rw [ec]
  rcases n_cov hW h hC hq' hb with ⟨k0, k1⟩ | ⟨p, hp, hbp, k⟩ | ⟨k0, k1⟩
  · rw [k1, (hC.1 k0).1]
    exact ⟨fun z => absurd z (by decide), fun z => absurd z (by decide)⟩
  · have hin := m_in hW.2.2.1 hp hbp
    have hpp := h.2.2.1 p
    have hp0 := n_ld_0 h p
    have how : n_ow M X p = n_ld M X p + 2 * Xp X p := rfl
    have n1 := n_ld_n (X := X) hbp hin.1
    have n2 := n_ld_le h (p := p + (q_sz (Mc M p)).toNat) (q := ML M) (by omega)
    have hw0 : 0 ≤ Xw X p := by
      rcases h.2.2.2.1 p with z | z
      · omega
      · have := z.1
        omega
    rcases k with ⟨k2, k3⟩ | k3
    · obtain ⟨e1, e2⟩ := (hC.2.1 p hp hbp).1 k2
      rw [k3, e1]
      refine ⟨fun z => ?_, fun z => ?_⟩
      · have hc0 : ¬ cv = 0 := by
          intro y
          unfold n_pop at z
          rw [hcv, if_pos y] at z
          exact absurd z (by decide)
        show m_at c (n_L M X) ((((n_ld M X p).toNat : Nat) : Int) + 1) < 40
        rw [show (((n_ld M X p).toNat : Nat) : Int) + 1 = (((n_ld M X p).toNat + 1 : Nat) : Int) by omega, m_at_in (by omega), e2, hXn]
        show (if cv = 0 then 3 * Xt X + 1 else l_nb M cv p) < 40
        rw [if_neg hc0]
        have h3 := n_ld_3 hW h hXp (p + 1) (by omega)
        have hle := n_ld_le h (p := p + 1) (q := ML M) (by omega)
        rw [l_nb, if_pos ⟨hbp, by rw [← hXp]; exact k2⟩] at h3
        omega
      · exfalso
        rcases n_pop_r X with y | y <;> omega
    · have c2 := (hC.2.1 p hp hbp).2.1
      rw [k3, c2]
      have hop := n_opx h p
      refine ⟨fun z => ?_, fun z i hi hcv' => ?_⟩
      · have z' : Mc M p = 31 := by omega
        have c4 := (hC.2.1 p hp hbp).2.2.2 (by unfold q_br q_sb q_wb; omega) 1 (by omega) (by rw [z']; decide)
        show m_at c (n_L M X) ((((n_ow M X p).toNat : Nat) : Int) + 1) < 40
        have hz : q_sz (Mc M p) = 2 := by rw [z']; decide
        rw [show (((n_ow M X p).toNat : Nat) : Int) + 1 = (((n_ow M X p).toNat + 1 : Nat) : Int) by omega, m_at_in (by omega), c4]
        have := (hE p hp hbp).1 z'
        unfold m_nu at this
        rw [show (p : Int) + 1 = ((p + 1 : Nat) : Int) by omega, m_at_in (by omega)] at this
        exact this
      · have z' : Mc M p = 32 := by omega
        show (((n_ow M X p).toNat : Nat) : Int) < n_h M X (4 * i + 2)
        have hcv2 : n_h M X (4 * i) ≤ (((n_ow M X p).toNat : Nat) : Int) ∧ (((n_ow M X p).toNat : Nat) : Int) < n_h M X (4 * i + 1) := hcv'
        by_cases ho : i < MN M
        · have e0 : n_h M X (4 * i) = n_ld M X (Mh M (4 * i)).toNat := by unfold n_h; rw [if_pos (by omega), if_neg (by omega)]
          have e1 : n_h M X (4 * i + 1) = n_ld M X (Mh M (4 * i + 1)).toNat := by unfold n_h; rw [if_pos (by omega), if_neg (by omega)]
          have e2 : n_h M X (4 * i + 2) = n_ld M X (Mh M (4 * i + 2)).toNat := by unfold n_h; rw [if_pos (by omega), if_neg (by omega)]
          rw [e0, e1] at hcv2
          obtain ⟨⟨x1, x2⟩, x3, x4⟩ := hW.2.2.2.2 i ho
          have x3a := x3.1
          have x3b := x3.2.1
          have x4a := x4.1
          have x4b := x4.2.1
          have hcov : m_cov M i p := by
            constructor
            · apply Int.not_lt.mp
              intro hlt
              have := n_lt hW h (p := p) (p' := (Mh M (4 * i)).toNat) (by omega) hbp x3.2.2 (by omega)
              omega
            · apply Int.lt_of_not_ge
              intro hge
              have := n_ld_le h (p := (Mh M (4 * i + 1)).toNat) (q := p) (by omega)
              omega
          have hlt := (hE p hp hbp).2 z' i ho hcov
          rw [e2]
          have := n_lt hW h (p := p) (p' := (Mh M (4 * i + 2)).toNat) (by omega) hbp x4.2.2 (by omega)
          omega
        · have hi' : i < MN M + (if Xc X = 0 then 1 else 0) := hi
          have h0 : Xc X = 0 := by
            apply Classical.byContradiction
            intro y
            rw [if_neg y] at hi'
            omega
          rw [if_pos h0] at hi'
          have e1 : n_h M X (4 * i + 1) = n_ld M X (ML M) := by unfold n_h; rw [if_neg (by omega), if_pos (by omega)]
          have e2 : n_h M X (4 * i + 2) = n_ld M X (ML M) := by unfold n_h; rw [if_neg (by omega), if_pos (by omega)]
          rw [e2]
          rw [e1] at hcv2
          exact hcv2.2
  · obtain ⟨t1, t2, t3⟩ := hC.2.2 k0
    have nocov : ∀ i, i < n_N M X → m_cov (n_M M X c) i ((n_ld M X (ML M)).toNat + 2) → False := by
      intro i hi hcv'
      have hcv2 : (((n_ld M X (ML M)).toNat + 2 : Nat) : Int) < n_h M X (4 * i + 1) := hcv'.2
      by_cases ho : i < MN M
      · have e1 : n_h M X (4 * i + 1) = n_ld M X (Mh M (4 * i + 1)).toNat := by unfold n_h; rw [if_pos (by omega), if_neg (by omega)]
        obtain ⟨⟨x1, x2⟩, x3, x4⟩ := hW.2.2.2.2 i ho
        have := n_ld_le h (p := (Mh M (4 * i + 1)).toNat) (q := ML M) (by
          rcases x2 with y | y
          · omega
          · have := y.2.1
            omega)
        omega
      · have hi' : i < MN M + (if Xc X = 0 then 1 else 0) := hi
        rw [if_pos k0] at hi'
        have e1 : n_h M X (4 * i + 1) = n_ld M X (ML M) := by unfold n_h; rw [if_neg (by omega), if_pos (by omega)]
        omega
    rcases k1 with k1 | k1
    · rw [k1, t1]
      exact ⟨fun z => absurd z (by decide), fun z => absurd z (by decide)⟩
    · rw [k1, t3]
      refine ⟨fun z => absurd z (by decide), fun _ i hi hcv' => (nocov i hi hcv').elim⟩
/-! a method on its way along the chain -/
/-- body b and method q hold M, which is right -/
def w_M (M0 : m_M) (A : Nat → Int) (me : Int) (b q : Nat) (σ ρ : xw_S) (M : m_M) : Prop := c_E M b σ ∧ r_M ρ q M ∧ m_W M me ∧ (∃ d S, m_CL M A d S) ∧ m_E M ∧ (Mm M = Mm M0 ∧ Ma M = Ma M0)
theorem w_tr (fu : Nat) (hfu : 2000 ≤ fu) {M0 M : m_M} {A : Nat → Int} {me : Int} {b q t : Nat} {cv : Int} {σ ρ : xw_S} (hb8 : 8 ≤ b) (hb12 : b < 12) (ht : t < 3) (hcv : cv = 0 ∨ cv = 1) (h3 : σ.1 (48 + 4 * b) 3 = ((5 : Nat) : Int)) (h10 : ρ.1 10 t = cv) (hw : w_M M0 A me b q σ ρ M) : ∃ σ' ρ' r M', f_LM_transform fu σ b cv (t : Int) = some (σ', r) ∧ f_MD_transform fu ρ (q : Int) (t : Int) = some (ρ', r) ∧ (r = 0 ∨ r = 1) ∧ frm (S_ct1 b) σ σ' ∧ frm (S_t1 q) ρ ρ' ∧ w_M M0 A me b q σ' ρ' M' := by
  obtain ⟨hE, hR, hW, ⟨d, S, hCL⟩, hX, hH⟩ := hw
  have hL := hW.1
  have h0 := n_ok0 (M := M) (cv := cv) (t := (t : Int)) hcv (by omega) (by omega)
  obtain ⟨Kn, k1, k2, k3⟩ := n_fin' h0
  obtain ⟨cF, cT⟩ := q_LMtr fu hfu hb8 hb12 hW hE h3 ht hcv k1 k2 k3
  obtain ⟨rF, rT⟩ := q_MDtr fu (by omega) hW hR ht hcv h10 k1 k2 k3
  have hok := n_ok_it h0 Kn
  have hx := n_it_c M (n_X0 M cv (t : Int)) Kn
  by_cases hg : n_L M (n_it M (n_X0 M cv (t : Int)) Kn) ≤ 120 ∧ n_N M (n_it M (n_X0 M cv (t : Int)) Kn) ≤ 5
  · obtain ⟨ρ', c, r1, r2, r3, r4⟩ := rT hg
    obtain ⟨σ', s1, s2, s3⟩ := cT hg c r3 r4.1.2.2.2.2
    refine ⟨σ', ρ', 1, n_M M (n_it M (n_X0 M cv (t : Int)) Kn) c, s1, r1, Or.inr rfl, s2, r2, s3, r4, n_W hW hok r3 hg.1 hg.2, ⟨_, _, n_CL hW hok r3 hg.1 hCL⟩, ?_, hH⟩
    refine n_E hW hok r3 hg.1 hx.1 hx.2.2.1 ?_ hX
    rw [hx.2.1]
    exact hx.2.2.2
  · obtain ⟨ρ', r1, r2⟩ := rF hg
    obtain ⟨σ', s1, s2⟩ := cF hg
    refine ⟨σ', ρ', 0, M, s1, r1, Or.inl rfl, frm_mono s2 (fun _ _ z => Or.inl z), frm_mono r2 (fun _ _ z => Or.inl z), ?_, ?_, hW, ⟨d, S, hCL⟩, hX, hH⟩
    · exact c_E_f hE s2 (fun i k z => by unfold S_ct0 at z; omega)
    · exact r_M_f hR (rfm_frm r2) (fun i k z => by unfold S_t0 at z; omega)
