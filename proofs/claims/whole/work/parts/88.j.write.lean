/-! 88.j: the class writes the new code -/
/-- the loom is ready -/
def c_Q (M : m_M) (X : n_X) (s : xw_S) : Prop := c_I M X s ∧ c_pl M X s ∧ c_E M 12 s
theorem c_Q_f {M : m_M} {X : n_X} {s s' : xw_S} {S : Nat → Nat → Prop} (h : c_Q M X s) (hf : frm S s s') (hS : ∀ i k, S i k → 48 ≤ i ∧ i < 96) : c_Q M X s' := by
  have nf : ∀ i k, i < 48 → s'.1 i k = s.1 i k := fun i k hi => hf.2 i k (fun z => by have := hS i k z; omega)
  obtain ⟨⟨b1, b2, b3, b4⟩, ⟨p1, p2, p3⟩, hE⟩ := h
  refine ⟨⟨fun p hp hb => ?_, by rw [nf _ _ (by decide)]; exact b2, by rw [nf _ _ (by decide)]; exact b3, fun z => ?_⟩, ⟨fun p hp hb => by rw [nf _ _ (by decide)]; exact p1 p hp hb, fun p hp hb => by rw [nf _ _ (by decide)]; exact p2 p hp hb, by rw [nf _ _ (by decide)]; exact p3.1, fun z => by rw [nf _ _ (by decide), nf _ _ (by decide)]; exact p3.2 z⟩, c_E_f hE hf (fun i k z => by have := hS i k z; omega)⟩
  · have := b1 p hp hb
    unfold c_i1 at this ⊢
    rw [nf _ _ (by decide), nf _ _ (by decide), nf _ _ (by decide), nf _ _ (by decide), nf _ _ (by decide), nf _ _ (by decide), nf _ _ (by decide)]
    exact this
  · rw [nf _ _ (by decide), nf _ _ (by decide), nf _ _ (by decide), nf _ _ (by decide), nf _ _ (by decide), nf _ _ (by decide), nf _ _ (by decide), nf _ _ (by decide), nf _ _ (by decide)]
    exact b4 z
def S_cd (b : Nat) : Nat → Nat → Prop := fun i _ => i = 49 + 4 * b
section
variable {b : Nat}
theorem c_wn (fu : Nat) (hb8 : 8 ≤ b) (hb12 : b < 12) {s : xw_S} {n j P o v : Int} (h7 : s.1 10 7 = n) (hn : n ≤ 243) (hj : 0 ≤ j ∧ j < n) (ho : s.1 11 j.toNat = o) (ho3 : o = 30 ∨ o = 31 ∨ o = 32) (hv : s.1 12 j.toNat = v) (hs : s.1 13 j.toNat = -1) (hP : s.1 14 j.toNat = P) (hP0 : 0 ≤ P) (hP1 : P + q_sz o ≤ 120) : ∃ s', (∀ (K : xw_S → Option xw_S) (N : Nat), lp_LM_writeCode_15 fu b K (N + 1) s j = lp_LM_writeCode_15 fu b K N s' (j + 1)) ∧ frm (S_cd b) s s' ∧ s'.1 (49 + 4 * b) P.toNat = o ∧ (o ≠ 32 → s'.1 (49 + 4 * b) (P.toNat + 1) = v) ∧ ∀ i : Nat, (i : Int) < P → s'.1 (49 + 4 * b) i = s.1 (49 + 4 * b) i := by
  have hcap : xb_cap b = 120 := by unfold xb_cap; rw [if_neg (by omega)]
  have nf : ∀ i k, i < 48 → (xw_st s (49 + 4 * b) P.toNat o).1 i k = s.1 i k := fun i k hi => st_i (by omega)
  have hnb : ¬ q_br o := by unfold q_br q_sb q_wb; omega
  have hsz : q_sz o = if o = 32 then 1 else 2 := by rcases ho3 with e | e | e <;> rw [e] <;> decide
  have pre : ∀ (K : xw_S → Option xw_S) (N : Nat), lp_LM_writeCode_15 fu b K (N + 1) s j = xw_bnd (f_LM_writeNumber fu (xw_st s (49 + 4 * b) P.toNat o) b j) (fun s22 => lp_LM_writeCode_15 fu b K N s22 (j + 1)) := by
    intro K N
    have hz : 0 < q_sz o := by rw [hsz]; split <;> omega
    rw [lp_LM_writeCode_15, h7, xw_grd_t ⟨⟨by omega, by omega⟩, ⟨by omega, by omega⟩⟩, xw_if_f (by omega), xw_grd_t (by omega), xw_grd_t (by omega), hP, ho, xw_grd_t (by omega), xw_let_e, nf 11 _ (by decide), ho, xw_bn2_e (q_OPbr fu _ ⟨by omega, by omega⟩), xw_jn_e, if_neg hnb, xw_grd_t (by decide), xw_if_t rfl, nf 13 _ (by decide), hs, xw_grd_t (by decide), xw_if_t rfl]
    rfl
  by_cases h32 : o = 32
  · refine ⟨xw_st s (49 + 4 * b) P.toNat o, fun K N => ?_, frm_st rfl, st_s _ _ _ _, fun z => absurd h32 z, fun i hi => st_k (by omega)⟩
    rw [pre K N]
    have e : f_LM_writeNumber fu (xw_st s (49 + 4 * b) P.toNat o) b j = some (xw_st s (49 + 4 * b) P.toNat o) := by
      unfold f_LM_writeNumber
      rw [xw_grd_t (by omega), nf 11 _ (by decide), ho, xw_bn2_e (q_OPsize fu _ ⟨by omega, by omega⟩), hsz, if_pos h32, xw_grd_t (by decide), xw_if_f (by decide)]
    rw [xw_bnd_e e]
  · rw [if_neg h32] at hsz
    refine ⟨xw_st (xw_st s (49 + 4 * b) P.toNat o) (49 + 4 * b) (P.toNat + 1) v, fun K N => ?_, frm_tr (frm_st rfl) (frm_st rfl), by rw [st_k (by omega), st_s], fun _ => st_s _ _ _ _, fun i hi => by rw [st_k (by omega), st_k (by omega)]⟩
    rw [pre K N]
    have e : f_LM_writeNumber fu (xw_st s (49 + 4 * b) P.toNat o) b j = some (xw_st (xw_st s (49 + 4 * b) P.toNat o) (49 + 4 * b) (P.toNat + 1) v) := by
      unfold f_LM_writeNumber
      rw [xw_grd_t (by omega), nf 11 _ (by decide), ho, xw_bn2_e (q_OPsize fu _ ⟨by omega, by omega⟩), hsz, xw_grd_t (by decide), xw_if_t rfl, xw_grd_t (by omega), nf 14 _ (by decide), hP, xw_grd_t (by omega), xw_let_e, nf 12 _ (by decide), hv, show (P + 1).toNat = P.toNat + 1 by omega]
    rw [xw_bnd_e e]
theorem c_wcp (fu : Nat) (hb8 : 8 ≤ b) (hb12 : b < 12) {M : m_M} {p : Nat} {j o : Int} (hj : 0 ≤ j ∧ j < 243) (ho : 0 ≤ o) (ho2 : o + q_sz (Mc M p) ≤ 120) (hpL : (p : Int) + q_sz (Mc M p) ≤ (ML M : Int)) (hz : 0 < q_sz (Mc M p)) : ∀ (dd i N : Nat) (s : xw_S), (i : Int) + dd = q_sz (Mc M p) → dd < N → 1 ≤ i → c_E M 12 s → s.1 11 j.toNat = Mc M p → s.1 13 j.toNat = (p : Int) → s.1 14 j.toNat = o → ∃ s', (∀ K : xw_S → Option xw_S, lp_LM_copyNumbers_2 fu b j K N s (i : Int) = K s') ∧ frm (S_cd b) s s' ∧ (∀ k : Nat, (k : Int) < o + i → s'.1 (49 + 4 * b) k = s.1 (49 + 4 * b) k) ∧ ∀ k : Nat, i ≤ k → (k : Int) < q_sz (Mc M p) → s'.1 (49 + 4 * b) (o.toNat + k) = Mc M (p + k) := by
  have hcap : xb_cap b = 120 := by unfold xb_cap; rw [if_neg (by omega)]
  have hzr := q_sz_r (Mc M p)
  intro dd
  induction dd with
  | zero =>
    intro i N s hi hN h1 hE h11 h13 h14
    obtain ⟨N, rfl⟩ : ∃ n', N = n' + 1 := ⟨N - 1, by omega⟩
    have hcp := hE.1.1.2.2.2.2 p (by omega)
    refine ⟨s, fun K => ?_, frm_rf _ _, fun k _ => rfl, fun k k1 k2 => by omega⟩
    rw [lp_LM_copyNumbers_2, xw_grd_t (by omega), h11, xw_bn2_e (q_OPsize fu s ⟨by omega, by omega⟩), xw_grd_t ⟨⟨by omega, by omega⟩, ⟨by omega, by omega⟩⟩, xw_if_t (by omega)]
  | succ dd ih =>
    intro i N s hi hN h1 hE h11 h13 h14
    obtain ⟨N, rfl⟩ : ∃ n', N = n' + 1 := ⟨N - 1, by omega⟩
    have hcp := hE.1.1.2.2.2.2 p (by omega)
    have hL := hE.1.1.2.1
    have hcap12 := xb_cap_le 12
    have nf : ∀ i' k, i' < 48 → (xw_st s (49 + 4 * b) (o.toNat + i) (Mc M (p + i))).1 i' k = s.1 i' k := fun i' k hi' => st_i (by omega)
    obtain ⟨s', g1, g2, g3, g4⟩ := ih (i + 1) N (xw_st s (49 + 4 * b) (o.toNat + i) (Mc M (p + i))) (by omega) (by omega) (by omega) (c_E_f hE (frm_st (S := S_cd b) rfl) (fun i k z => by unfold S_cd at z; omega)) (by rw [nf _ _ (by decide)]; exact h11) (by rw [nf _ _ (by decide)]; exact h13) (by rw [nf _ _ (by decide)]; exact h14)
    refine ⟨s', fun K => ?_, frm_tr (frm_st rfl) g2, fun k hk => by rw [g3 k (by omega), st_k (by omega)], fun k k1 k2 => ?_⟩
    · rw [lp_LM_copyNumbers_2, xw_grd_t (by omega), h11, xw_bn2_e (q_OPsize fu s ⟨by omega, by omega⟩), xw_grd_t ⟨⟨by omega, by omega⟩, ⟨by omega, by omega⟩⟩, xw_if_f (by omega), xw_grd_t (by omega), h13, h14, show (p : Int) + (i : Int) = ((p + i : Nat) : Int) by omega, xw_bn2_e (q_byteAt fu hE.1.1 ⟨by omega, by omega⟩), m_at_in (by omega), xw_grd_t (by omega), xw_let_e, xw_let_e, show (o + (i : Int)).toNat = o.toNat + i by omega]
      exact g1 K
    · by_cases hki : k = i
      · subst hki
        rw [g3 _ (by omega), st_s]
      · exact g4 k (by omega) k2
theorem c_wo (fu : Nat) (hfu : 2000 ≤ fu) (hb8 : 8 ≤ b) (hb12 : b < 12) {M : m_M} {X : n_X} {me : Int} (hW : m_W M me) (h : n_ok M X) (hLd : n_ld M X (ML M) ≤ 120) {s : xw_S} (hQ : c_Q M X s) {p : Nat} (hp : p < ML M) (hb : m_bg (Mc M) p) : ∃ s', (∀ (K : xw_S → Option xw_S) (N : Nat), lp_LM_writeCode_15 fu b K (N + 1) s (i_x M X p + Xp X p) = lp_LM_writeCode_15 fu b K N s' (i_x M X (p + 1))) ∧ frm (S_cd b) s s' ∧ n_c2 M X (s'.1 (49 + 4 * b)) p ∧ ∀ i : Nat, (i : Int) < n_ow M X p → s'.1 (49 + 4 * b) i = s.1 (49 + 4 * b) i := by
  have hL := hW.1
  have hcap : xb_cap b = 120 := by unfold xb_cap; rw [if_neg (by omega)]
  obtain ⟨hI, hP, hE⟩ := hQ
  have hcp := hE.1.1.2.2.2.2 p hp
  obtain ⟨b1, b2, b3, b4, b5⟩ := hI.1 p hp hb
  have h7 := hI.2.2.1
  have r := i_x_r h p
  have rL := i_x_r h (ML M)
  have l1 : i_x M X (p + 1) = i_x M X p + Xp X p + 1 := by rw [i_x, if_pos hb]
  have le := i_x_le h (p := p + 1) (q := ML M) (by omega)
  have hpp := h.2.2.1 p
  have rn : i_n M X ≤ 243 ∧ i_x M X (ML M) ≤ i_n M X := by unfold i_n; split <;> omega
  have h14 := hP.2.1 p hp hb
  have hin := m_in hW.2.2.1 hp hb
  have hl1 : n_ld M X (p + 1) = n_ow M X p + q_sz (Mc M p) + Xw X p := by rw [n_ld, if_pos hb]; rfl
  have hle := n_ld_le h (p := p + 1) (q := ML M) (by omega)
  have h0 := n_ld_0 h p
  have how : n_ow M X p = n_ld M X p + 2 * Xp X p := rfl
  have hzr := q_sz_r (Mc M p)
  have hw0 : 0 ≤ Xw X p := by
    rcases h.2.2.2.1 p with z | z
    · omega
    · have := z.1
      omega
  have hopr := n_op_r h hcp
  have nf : ∀ i k, i < 48 → (xw_st s (49 + 4 * b) (n_ow M X p).toNat (n_op M X p)).1 i k = s.1 i k := fun i k hi => st_i (by omega)
  have fz : frm (S_cd b) s (xw_st s (49 + 4 * b) (n_ow M X p).toNat (n_op M X p)) := frm_st rfl
  have hEz := c_E_f hE fz (fun i k z => by unfold S_cd at z; omega)
  have pre : ∀ (K : xw_S → Option xw_S) (N : Nat), lp_LM_writeCode_15 fu b K (N + 1) s (i_x M X p + Xp X p) = (if q_br (n_op M X p) then xw_bnd (f_LM_writeWay fu (xw_st s (49 + 4 * b) (n_ow M X p).toNat (n_op M X p)) b (i_x M X p + Xp X p)) (fun s25 => lp_LM_writeCode_15 fu b K N s25 (i_x M X (p + 1))) else xw_bnd (f_LM_copyNumbers fu (xw_st s (49 + 4 * b) (n_ow M X p).toNat (n_op M X p)) b (i_x M X p + Xp X p)) (fun s19 => lp_LM_writeCode_15 fu b K N s19 (i_x M X (p + 1)))) := by
    intro K N
    rw [lp_LM_writeCode_15, h7, xw_grd_t ⟨⟨by omega, by omega⟩, ⟨by omega, by omega⟩⟩, xw_if_f (by omega), xw_grd_t (by omega), xw_grd_t (by omega), h14, b3, xw_grd_t (by omega), xw_let_e, nf 11 _ (by decide), b3, xw_bn2_e (q_OPbr fu _ ⟨by omega, by omega⟩), xw_jn_e, l1]
    by_cases hbr : q_br (n_op M X p)
    · rw [if_pos hbr, if_pos hbr, xw_grd_t (by decide), xw_if_f (by decide)]
      rfl
    · rw [if_neg hbr, if_neg hbr, xw_grd_t (by decide), xw_if_t rfl, nf 13 _ (by decide), b5, xw_grd_t ⟨by omega, by omega⟩, xw_if_f (by omega)]
      rfl
  obtain ⟨⟨f13, f3, f2, f16⟩, fen, fbr, ftk, fpt⟩ := n_op_f h p
  by_cases hbr : q_br (Mc M p)
  · have hbr' := fbr.2 hbr
    have hpl := (hW.2.2.2.1 p hp hb).1 hbr
    have hpl1 := hpl.1
    have hpl2 := hpl.2.1
    have t1 := n_ld_le h (p := ((p : Int) + m_way (Mc M) (ML M) p).toNat) (q := ML M) (by omega)
    have t0 := n_ld_0 h ((p : Int) + m_way (Mc M) (ML M) p).toNat
    have ey : n_ld M X ((p : Int) + m_way (Mc M) (ML M) p).toNat - n_ow M X p = n_y M X p := rfl
    have hyr : -120 ≤ n_y M X p ∧ n_y M X p ≤ 120 := by rw [← ey]; omega
    have h15 : ∀ p, p ≤ ML M → m_bg (Mc M) p → (xw_st s (49 + 4 * b) (n_ow M X p).toNat (n_op M X p)).1 15 p = i_x M X p := fun p' hp' hbp => by
      rw [st_i (by omega)]
      by_cases hpL : p' = ML M
      · rw [hpL]; exact hI.2.1
      · exact (hI.1 p' (by omega) hbp).1
    have h15' : ∀ p', p' ≤ ML M → m_bg (Mc M) p' → (xw_st s (49 + 4 * b) (n_ow M X p).toNat (n_op M X p)).1 15 p' = i_x M X p' := fun p' hp' hbp => by
      rw [nf _ _ (by decide)]
      by_cases hpL : p' = ML M
      · rw [hpL]; exact hI.2.1
      · exact (hI.1 p' (by omega) hbp).1
    have h14' : ∀ p', p' ≤ ML M → m_bg (Mc M) p' → (xw_st s (49 + 4 * b) (n_ow M X p).toNat (n_op M X p)).1 14 (i_x M X p').toNat = n_ld M X p' := fun p' hp' hbp => by
      rw [nf _ _ (by decide)]; exact hP.1 p' hp' hbp
    have enp := q_np fu h (by omega) h15' h14' (p := ((p : Int) + m_way (Mc M) (ML M) p).toNat) (by omega) hpl.2.2
    rw [show ((((p : Int) + m_way (Mc M) (ML M) p).toNat : Nat) : Int) = (p : Int) + m_way (Mc M) (ML M) p by omega] at enp
    have enw : f_LM_newWay fu (xw_st s (49 + 4 * b) (n_ow M X p).toNat (n_op M X p)) (i_x M X p + Xp X p) = some (xw_st s (49 + 4 * b) (n_ow M X p).toNat (n_op M X p), n_y M X p) := by
      unfold f_LM_newWay
      rw [xw_grd_t (by omega), nf 12 _ (by decide), b4, if_pos hbr, xw_bn2_e enp, xw_grd_t (by omega), nf 14 _ (by decide), h14]
      rfl
    have hsz := n_op_sz h p
    by_cases hwb : q_wb (n_op M X p)
    · have z3 : q_sz (n_op M X p) = 3 := by
        have hn : n_op M X p = 20 ∨ n_op M X p = 21 ∨ n_op M X p = 22 := by unfold q_wb at hwb; omega
        rcases hn with e | e | e <;> rw [e] <;> decide
      refine ⟨xw_st (xw_st (xw_st s (49 + 4 * b) (n_ow M X p).toNat (n_op M X p)) (49 + 4 * b) ((n_ow M X p).toNat + 1) ((n_y M X p / 256) % 256)) (49 + 4 * b) ((n_ow M X p).toNat + 2) (n_y M X p % 256), fun K N => ?_, frm_tr (frm_tr fz (frm_st rfl)) (frm_st rfl), ⟨?_, fun _ => ⟨fun _ => ⟨?_, ?_⟩, fun z => absurd hwb z⟩, fun z => absurd hbr z⟩, fun i hi => ?_⟩
      · rw [pre K N, if_pos hbr']
        have e : f_LM_writeWay fu (xw_st s (49 + 4 * b) (n_ow M X p).toNat (n_op M X p)) b (i_x M X p + Xp X p) = some (xw_st (xw_st (xw_st s (49 + 4 * b) (n_ow M X p).toNat (n_op M X p)) (49 + 4 * b) ((n_ow M X p).toNat + 1) ((n_y M X p / 256) % 256)) (49 + 4 * b) ((n_ow M X p).toNat + 2) (n_y M X p % 256)) := by
          unfold f_LM_writeWay
          rw [xw_grd_t (by omega), xw_let_e, nf 14 _ (by decide), h14, xw_bn2_e enw, xw_grd_t (by omega), nf 11 _ (by decide), b3, xw_bn2_e (q_OPwb fu _ ⟨by omega, by omega⟩), if_pos hwb, xw_grd_t (by decide), xw_if_f (by decide), xw_grd_t (by omega), xw_let_e, xw_grd_t (by omega), xw_let_e, z_e2' (by omega) (by omega), z_e1' (by omega) (by omega), show (n_ow M X p + 1).toNat = (n_ow M X p).toNat + 1 by omega, show (n_ow M X p + 2).toNat = (n_ow M X p).toNat + 2 by omega]
        rw [xw_bnd_e e]
      · rw [st_k (by omega), st_k (by omega), st_s]
      · rw [st_k (by omega), st_s]
      · exact st_s _ _ _ _
      · rw [st_k (by omega), st_k (by omega), st_k (by omega)]
    · have z2 : 2 ≤ q_sz (n_op M X p) := by
        have hn : n_op M X p = 10 ∨ n_op M X p = 11 ∨ n_op M X p = 12 := by unfold q_wb at hwb; unfold q_br q_sb q_wb at hbr'; omega
        rcases hn with e | e | e <;> rw [e] <;> decide
      refine ⟨xw_st (xw_st s (49 + 4 * b) (n_ow M X p).toNat (n_op M X p)) (49 + 4 * b) ((n_ow M X p).toNat + 1) (n_y M X p % 256), fun K N => ?_, frm_tr fz (frm_st rfl), ⟨?_, fun _ => ⟨fun z => absurd z hwb, fun _ => ?_⟩, fun z => absurd hbr z⟩, fun i hi => ?_⟩
      · rw [pre K N, if_pos hbr']
        have e : f_LM_writeWay fu (xw_st s (49 + 4 * b) (n_ow M X p).toNat (n_op M X p)) b (i_x M X p + Xp X p) = some (xw_st (xw_st s (49 + 4 * b) (n_ow M X p).toNat (n_op M X p)) (49 + 4 * b) ((n_ow M X p).toNat + 1) (n_y M X p % 256)) := by
          unfold f_LM_writeWay
          rw [xw_grd_t (by omega), xw_let_e, nf 14 _ (by decide), h14, xw_bn2_e enw, xw_grd_t (by omega), nf 11 _ (by decide), b3, xw_bn2_e (q_OPwb fu _ ⟨by omega, by omega⟩), if_neg hwb, xw_grd_t (by decide), xw_if_t rfl, xw_grd_t (by omega), xw_let_e, z_e1' (by omega) (by omega), show (n_ow M X p + 1).toNat = (n_ow M X p).toNat + 1 by omega]
        rw [xw_bnd_e e]
      · rw [st_k (by omega), st_s]
      · exact st_s _ _ _ _
      · rw [st_k (by omega), st_k (by omega)]
  · have hbr' : ¬ q_br (n_op M X p) := fun z => hbr (fbr.1 z)
    have eop : n_op M X p = Mc M p ∧ Xw X p = 0 := by
      rcases n_opx h p with z | z
      · exact z
      · exact absurd (by unfold q_br q_sb; omega) hbr
    obtain ⟨s2, g1, g2, g3, g4⟩ := c_wcp fu hb8 hb12 (M := M) (p := p) (j := i_x M X p + Xp X p) (o := n_ow M X p) (by omega) (by omega) (by omega) hin.2 hin.1 ((q_sz (Mc M p)).toNat - 1) 1 fu (xw_st s (49 + 4 * b) (n_ow M X p).toNat (n_op M X p)) (by omega) (by omega) (by omega) hEz (by rw [nf _ _ (by decide), b3]; exact eop.1) (by rw [nf _ _ (by decide)]; exact b5) (by rw [nf _ _ (by decide)]; exact h14)
    have g1' : ∀ K : xw_S → Option xw_S, lp_LM_copyNumbers_2 fu b (i_x M X p + Xp X p) K fu (xw_st s (49 + 4 * b) (n_ow M X p).toNat (n_op M X p)) 1 = K s2 := g1
    refine ⟨s2, fun K N => ?_, frm_tr fz g2, ⟨?_, fun z => absurd z hbr, fun _ i i1 i2 => g4 i i1 i2⟩, fun i hi => ?_⟩
    · rw [pre K N, if_neg hbr']
      have e : f_LM_copyNumbers fu (xw_st s (49 + 4 * b) (n_ow M X p).toNat (n_op M X p)) b (i_x M X p + Xp X p) = some s2 := by
        unfold f_LM_copyNumbers
        rw [xw_jn_e, g1']
      rw [xw_bnd_e e]
    · rw [g3 _ (by omega), st_s]
    · rw [g3 i (by omega), st_k (by omega)]
end
