/-! 88.c: the reference emits an instruction -/
def S_em : Nat → Nat → Prop := fun i k => i = 21 ∨ (i = 0 ∧ k = 29)
/-- m bytes are made -/
def r_m (s : xw_S) (m : Int) : Prop := s.1 0 29 = m ∧ 0 ≤ m ∧ ∀ i : Nat, (i : Int) < m → 0 ≤ s.1 21 i ∧ s.1 21 i ≤ 255
theorem q_emit (fu : Nat) {s : xw_S} {m : Int} (h : r_m s m) (hm : m < 120) (v : Int) : ∃ s', f_MD_emit fu s v = some s' ∧ frm S_em s s' ∧ r_m s' (m + 1) ∧ s'.1 21 m.toNat = xw_an v 255 ∧ ∀ i, i ≠ m.toNat → s'.1 21 i = s.1 21 i := by
  obtain ⟨h1, h2, h3⟩ := h
  have e29 : (xw_st s 21 m.toNat (xw_an v 255)).1 0 29 = m := by rw [st_i (by decide), h1]
  refine ⟨xw_st (xw_st s 21 m.toNat (xw_an v 255)) 0 29 (m + 1), ?_, frm_tr (frm_st (Or.inl rfl)) (frm_st (Or.inr ⟨rfl, rfl⟩)), ⟨st_s _ _ _ _, by omega, fun i hi => ?_⟩, ?_, fun i hi => ?_⟩
  · unfold f_MD_emit
    rw [h1, xw_grd_t (by omega), xw_let_e, xw_let_e, e29]
  · rw [st_i (by decide)]
    by_cases him : i = m.toNat
    · rw [him, st_s]; exact q_byte_r v
    · rw [st_k him]; exact h3 i (by omega)
  · rw [st_i (by decide), st_s]
  · rw [st_i (by decide), st_k hi]
theorem z_e1 : ∀ n : Nat, n < 600 → xw_an ((n : Int) - 200) 255 = ((n : Int) - 200) % 256 := by decide +kernel
theorem z_e2 : ∀ n : Nat, n < 400 → xw_an (xw_hr ((n : Int) - 200) 8) 255 = (((n : Int) - 200) / 256) % 256 := by decide +kernel
theorem z_e1' {v : Int} (h1 : -200 ≤ v) (h2 : v < 400) : xw_an v 255 = v % 256 := by
  have := z_e1 (v + 200).toNat (by omega)
  rw [show (((v + 200).toNat : Nat) : Int) - 200 = v by omega] at this
  exact this
theorem z_e2' {v : Int} (h1 : -200 ≤ v) (h2 : v < 200) : xw_an (xw_hr v 8) 255 = (v / 256) % 256 := by
  have := z_e2 (v + 200).toNat (by omega)
  rw [show (((v + 200).toNat : Nat) : Int) - 200 = v by omega] at this
  exact this
def n_c2 (M : m_M) (X : n_X) (c : Nat → Int) (p : Nat) : Prop := c (n_ow M X p).toNat = n_op M X p ∧
    (q_br (Mc M p) → (q_wb (n_op M X p) → c ((n_ow M X p).toNat + 1) = (n_y M X p / 256) % 256 ∧ c ((n_ow M X p).toNat + 2) = n_y M X p % 256) ∧ (¬ q_wb (n_op M X p) → c ((n_ow M X p).toNat + 1) = n_y M X p % 256)) ∧
    (¬ q_br (Mc M p) → ∀ i : Nat, 1 ≤ i → (i : Int) < q_sz (Mc M p) → c ((n_ow M X p).toNat + i) = Mc M (p + i))
def k_e121 (fu : Nat) (q p : Int) (s50 : xw_S) (op : Int) : Option xw_S := xw_jn (fun (s70 : xw_S) => some s70) (fun (k159 : xw_S → Option xw_S) => lp_MD_emitOne_124 fu q p op k159 fu s50 1)
def k_e108 (fu : Nat) (q p : Int) (s41 : xw_S) (op y : Int) : Option xw_S := xw_bn2 (f_MD_branches fu s41 op) (fun s42 r44 => xw_jn (fun (s50 : xw_S) (i3_121 : Int) => k_e121 fu q p s50 i3_121)
 (fun (j121 : xw_S → Int → Option xw_S) => xw_grd (xw_r r44) (xw_if (r44 = 0) (j121 s42 op)
 (xw_bnd (f_MD_emit fu s42 y) (fun s47 => j121 s47 op)))))
def k_e84 (fu : Nat) (q p : Int) (s27 : xw_S) (op y wf op' : Int) : Option xw_S := xw_bnd (f_MD_emit fu s27 op') (fun s28 => xw_bn2 (f_MD_branches fu s28 op) (fun s31 r33 => xw_jn (fun (s41 : xw_S) (i3_108 : Int) (i4_108 : Int) => k_e108 fu q p s41 i3_108 i4_108)
 (fun (j108 : xw_S → Int → Int → Option xw_S) => xw_grd (xw_r r33) (xw_if (r33 = 0) (j108 s31 op y)
 (xw_grd (xw_r wf) (xw_if (wf = 0) (j108 s31 op y)
 (xw_bnd (f_MD_emit fu s31 (xw_hr y 8)) (fun s38 => j108 s38 op y))))))))
def k_e64 (fu : Nat) (q p : Int) (s23 : xw_S) (op y wf : Int) : Option xw_S := xw_grd ((0 ≤ p ∧ p < ((121 : Nat) : Int))) (xw_jn (fun (s27 : xw_S) (i3_84 : Int) (i4_84 : Int) (i5_84 : Int) (t0_84 : Int) => k_e84 fu q p s27 i3_84 i4_84 i5_84 t0_84)
 (fun (j84 : xw_S → Int → Int → Int → Int → Option xw_S) => xw_grd (xw_r (s23.1 18 (p).toNat)) (xw_if (s23.1 18 (p).toNat = 0) (j84 s23 op y wf op)
 (j84 s23 op y wf (op + 10)))))
def k_e36 (fu : Nat) (q p : Int) (s14 : xw_S) (op y : Int) : Option xw_S := xw_grd ((0 ≤ p ∧ p < ((121 : Nat) : Int))) (xw_jn (fun (s23 : xw_S) (i3_64 : Int) (i4_64 : Int) (t0_64 : Int) => k_e64 fu q p s23 i3_64 i4_64 t0_64)
 (fun (j64 : xw_S → Int → Int → Int → Option xw_S) => xw_jn (fun (s22 : xw_S) (i3_59 : Int) (i4_59 : Int) => j64 s22 i3_59 i4_59 1)
 (fun (j59 : xw_S → Int → Int → Option xw_S) => xw_grd (xw_r (s14.1 18 (p).toNat)) (xw_if (s14.1 18 (p).toNat = 0) (xw_jn (fun (s21 : xw_S) (i3_63 : Int) (i4_63 : Int) => j64 s21 i3_63 i4_63 0)
 (fun (j63 : xw_S → Int → Int → Option xw_S) => xw_grd (xw_r op) (xw_if (op < 20) (j63 s14 op y)
 (xw_if (22 < op) (j63 s14 op y)
 (j59 s14 op y)))))
 (j59 s14 op y)))))
theorem k_emitOne (fu : Nat) (s0 : xw_S) (q p : Int) : f_MD_emitOne fu s0 q p = xw_bn2 (f_MD_op fu s0 q p) (fun s1 r3 => xw_bn2 (f_MD_branches fu s1 r3) (fun s4 r6 => xw_jn (fun (s14 : xw_S) (i3_36 : Int) (t0_36 : Int) => k_e36 fu q p s14 i3_36 t0_36)
 (fun (j36 : xw_S → Int → Int → Option xw_S) => xw_grd (xw_r r6) (xw_if (r6 = 0) (j36 s4 r3 0)
 (xw_bn2 (f_MD_target fu s4 q p) (fun s9 r11 => xw_grd ((0 ≤ r11 ∧ r11 < ((121 : Nat) : Int))) (xw_grd ((0 ≤ p ∧ p < ((121 : Nat) : Int))) (j36 s9 r3 ((s9.1 19 (r11).toNat) - (s9.1 20 (p).toNat)))))))))) := rfl
theorem r_C_em {M : m_M} {q : Nat} {s s' : xw_S} (h : r_C M q s) (hf : frm S_em s s') : r_C M q s' := r_C_f h (rfm_frm hf) (fun i k y => by unfold S_em at y; omega)
theorem r_e124 (fu : Nat) {M : m_M} {q p : Nat} {o : Int} (hp : (p : Int) + q_sz (Mc M p) ≤ (ML M : Int)) (hz : 0 < q_sz (Mc M p)) (hnb : ¬ q_br (Mc M p)) (ho : 0 ≤ o) (ho2 : o + q_sz (Mc M p) ≤ 120) : ∀ (dd i N : Nat) (s : xw_S), (i : Int) + dd = q_sz (Mc M p) → dd < N → 1 ≤ i → r_C M q s → r_m s (o + i) → ∃ s', (∀ K : xw_S → Option xw_S, lp_MD_emitOne_124 fu (q : Int) (p : Int) (Mc M p) K N s (i : Int) = K s') ∧ frm S_em s s' ∧ r_m s' (o + q_sz (Mc M p)) ∧ (∀ j : Nat, (j : Int) < o + i → s'.1 21 j = s.1 21 j) ∧ ∀ j : Nat, i ≤ j → (j : Int) < q_sz (Mc M p) → s'.1 21 (o.toNat + j) = Mc M (p + j) := by
  have hzr := q_sz_r (Mc M p)
  intro dd
  induction dd with
  | zero =>
    intro i N s hi hN h1 hC hm
    obtain ⟨N, rfl⟩ : ∃ n', N = n' + 1 := ⟨N - 1, by omega⟩
    have hcp := hC.1.1.2.2.2.2 p (by omega)
    refine ⟨s, fun K => ?_, frm_rf _ _, by rw [show o + q_sz (Mc M p) = o + (i : Int) by omega]; exact hm, fun j _ => rfl, fun j j1 j2 => by omega⟩
    rw [lp_MD_emitOne_124, xw_bn2_e (q_MDsz fu s ⟨by omega, by omega⟩), xw_grd_t ⟨⟨by omega, by omega⟩, ⟨by omega, by omega⟩⟩, xw_if_t (by omega)]
  | succ dd ih =>
    intro i N s hi hN h1 hC hm
    obtain ⟨N, rfl⟩ : ∃ n', N = n' + 1 := ⟨N - 1, by omega⟩
    have hcp := hC.1.1.2.2.2.2 p (by omega)
    have hcpi := hC.1.1.2.2.2.2 (p + i) (by omega)
    obtain ⟨s1, a1, a2, a3, a4, a5⟩ := q_emit fu hm (by omega) (Mc M (p + i))
    have a3' : r_m s1 (o + ((i + 1 : Nat) : Int)) := by
      rw [show o + ((i + 1 : Nat) : Int) = o + (i : Int) + 1 by omega]; exact a3
    obtain ⟨s', g1, g2, g3, g4, g5⟩ := ih (i + 1) N s1 (by omega) (by omega) (by omega) (r_C_em hC a2) a3'
    refine ⟨s', fun K => ?_, frm_tr a2 g2, g3, fun j hj => ?_, fun j j1 j2 => ?_⟩
    · rw [lp_MD_emitOne_124, xw_bn2_e (q_MDsz fu s ⟨by omega, by omega⟩), xw_grd_t ⟨⟨by omega, by omega⟩, ⟨by omega, by omega⟩⟩, xw_if_f (by omega), xw_bn2_e (q_MDbr fu s ⟨by omega, by omega⟩), if_neg hnb, xw_grd_t (by decide), xw_if_t rfl, show (p : Int) + (i : Int) = ((p + i : Nat) : Int) by omega, xw_bn2_e (q_MDop' fu hC.1.1 (by omega)), xw_bnd_e a1, xw_let_e]
      exact g1 K
    · rw [g4 j (by omega), a5 j (by omega)]
    · by_cases hji : j = i
      · subst hji
        rw [g4 _ (by omega), show o.toNat + j = (o + (j : Int)).toNat by omega, a4, z_e1' (by omega) (by omega)]
        omega
      · exact g5 j (by omega) j2
theorem q_emit1 (fu : Nat) (hfu : 1000 ≤ fu) {M : m_M} {X : n_X} {me : Int} (hW : m_W M me) (h : n_ok M X) {q : Nat} {s : xw_S} (hC : r_C M q s) (hP : r_P M X s) (h18 : ∀ p, p < ML M → s.1 18 p = Xw X p) (hLd : n_ld M X (ML M) ≤ 120) {p : Nat} (hp : p < ML M) (hb : m_bg (Mc M) p) (hm : r_m s (n_ow M X p)) : ∃ s', f_MD_emitOne fu s (q : Int) (p : Int) = some s' ∧ frm S_em s s' ∧ r_m s' (n_ld M X (p + 1)) ∧ (∀ j : Nat, (j : Int) < n_ow M X p → s'.1 21 j = s.1 21 j) ∧ n_c2 M X (s'.1 21) p := by
  have hL := hW.1
  have hB := hC.1.1
  have hcp := hB.2.2.2.2 p hp
  have hin := m_in hW.2.2.1 hp hb
  have hwp := hW.2.2.2.1 p hp hb
  have hzr := q_sz_r (Mc M p)
  have hl1 : n_ld M X (p + 1) = n_ow M X p + q_sz (Mc M p) + Xw X p := by rw [n_ld, if_pos hb]; rfl
  have hle := n_ld_le h (p := p + 1) (q := ML M) (by omega)
  have h0 := n_ld_0 h p
  have hpp := h.2.2.1 p
  have how : n_ow M X p = n_ld M X p + 2 * Xp X p := rfl
  have h18p := h18 p hp
  obtain hox := n_opx h p
  have hsz := n_op_sz h p
  by_cases hbr : q_br (Mc M p)
  · -- a branch
    have hpl := hwp.1 hbr
    have hpl1 := hpl.1
    have hpl2 := hpl.2.1
    have t1 := n_ld_le h (p := ((p : Int) + m_way (Mc M) (ML M) p).toNat) (q := ML M) (by omega)
    have t0 := n_ld_0 h ((p : Int) + m_way (Mc M) (ML M) p).toNat
    have ey : n_ld M X ((p : Int) + m_way (Mc M) (ML M) p).toNat - n_ow M X p = n_y M X p := rfl
    have hyr : -120 ≤ n_y M X p ∧ n_y M X p ≤ 120 := by rw [← ey]; omega
    have hw01 : (Xw X p = 0 ∨ Xw X p = 1) := by rcases hox with z | z; exact Or.inl z.2; exact Or.inr z.2.2
    have hop : n_op M X p = Mc M p + 10 * Xw X p := rfl
    have hk : Mc M p = 10 ∨ Mc M p = 11 ∨ Mc M p = 12 ∨ Mc M p = 20 ∨ Mc M p = 21 ∨ Mc M p = 22 := by unfold q_br q_sb q_wb at hbr; omega
    have hsz2 : q_sz (Mc M p) = if Mc M p < 20 then 2 else 3 := by rcases hk with e | e | e | e | e | e <;> rw [e] <;> decide
    obtain ⟨s1, a1, a2, a3, a4, a5⟩ := q_emit fu hm (by omega) (n_op M X p)
    rw [z_e1' (by omega) (by omega)] at a4
    have a4' : s1.1 21 (n_ow M X p).toNat = n_op M X p := by rw [a4]; omega
    -- what comes behind the ways
    have tail : ∀ z : xw_S, k_e121 fu (q : Int) (p : Int) z (Mc M p) = some z := by
      intro z
      unfold k_e121
      obtain ⟨f', ef⟩ : ∃ f', fu = f' + 1 := ⟨fu - 1, by omega⟩
      rw [xw_jn_e]
      have : ∀ (N : Nat) (K : xw_S → Option xw_S), lp_MD_emitOne_124 fu (q : Int) (p : Int) (Mc M p) K (N + 1) z 1 = K z := by
        intro N K
        rw [lp_MD_emitOne_124, xw_bn2_e (q_MDsz fu z ⟨by omega, by omega⟩), xw_grd_t ⟨by decide, ⟨by omega, by omega⟩⟩, xw_if_f (by omega), xw_bn2_e (q_MDbr fu z ⟨by omega, by omega⟩), if_pos hbr, xw_grd_t (by decide), xw_if_f (by decide)]
      have := this f' (fun s70 => some s70)
      rw [← ef] at this
      exact this
    have t108 : ∀ z z', f_MD_emit fu z (n_y M X p) = some z' → k_e108 fu (q : Int) (p : Int) z (Mc M p) (n_y M X p) = some z' := by
      intro z z' hz
      unfold k_e108
      rw [xw_bn2_e (q_MDbr fu z ⟨by omega, by omega⟩), xw_jn_e, if_pos hbr, xw_grd_t (by decide), xw_if_f (by decide), xw_bnd_e hz]
      exact tail z'
    -- to the pieces
    have main : ∀ wf : Int, wf = (if q_wb (n_op M X p) then 1 else 0) → f_MD_emitOne fu s (q : Int) (p : Int) = k_e84 fu (q : Int) (p : Int) s (Mc M p) (n_y M X p) wf (n_op M X p) := by
      intro wf hwf
      have e64 : k_e64 fu (q : Int) (p : Int) s (Mc M p) (n_y M X p) wf = k_e84 fu (q : Int) (p : Int) s (Mc M p) (n_y M X p) wf (n_op M X p) := by
        unfold k_e64
        rw [xw_grd_t (by omega), xw_jn_e, Int.toNat_natCast, h18p]
        rcases hw01 with z | z
        · rw [z, xw_grd_t (by decide), xw_if_t rfl, hop, z]
          rw [show Mc M p + 10 * 0 = Mc M p by omega]
        · rw [z, xw_grd_t (by decide), xw_if_f (by decide), hop, z]
          rw [show Mc M p + 10 * 1 = Mc M p + 10 by omega]
      rw [k_emitOne, xw_bn2_e (q_MDop' fu hB hp), xw_bn2_e (q_MDbr fu s ⟨by omega, by omega⟩), xw_jn_e, if_pos hbr, xw_grd_t (by decide), xw_if_f (by decide), xw_bn2_e (q_target fu hB hbr hin.2), xw_grd_t (by omega), xw_grd_t (by omega), Int.toNat_natCast, (hP _ (by omega) hpl.2.2).1, (hP p hp hb).2, ey]
      dsimp only
      unfold k_e36
      rw [xw_grd_t (by omega), xw_jn_e, xw_jn_e, Int.toNat_natCast, h18p]
      rcases hw01 with z | z
      · rw [z, xw_grd_t (by decide), xw_if_t rfl, xw_jn_e, xw_grd_t ⟨by omega, by omega⟩]
        have e : n_op M X p = Mc M p := by rw [hop, z]; omega
        by_cases c20 : Mc M p < 20
        · rw [xw_if_t c20]
          rw [if_neg (by rw [e]; unfold q_wb; omega)] at hwf
          rw [← e64, hwf]
        · rw [xw_if_f c20, xw_if_f (by omega)]
          rw [if_pos (by rw [e]; unfold q_wb; omega)] at hwf
          rw [← e64, hwf]
      · rw [z, xw_grd_t (by decide), xw_if_f (by decide)]
        rw [if_pos (by rw [hop, z]; unfold q_wb; rcases hox with y | y; omega; omega)] at hwf
        rw [← e64, hwf]
    by_cases hwb : q_wb (n_op M X p)
    · obtain ⟨s2, b1, b2, b3, b4, b5⟩ := q_emit fu a3 (by unfold q_wb at hwb; omega) (xw_hr (n_y M X p) 8)
      obtain ⟨s3, d1, d2, d3, d4, d5⟩ := q_emit fu b3 (by unfold q_wb at hwb; omega) (n_y M X p)
      refine ⟨s3, ?_, frm_tr (frm_tr a2 b2) d2, ?_, fun j hj => ?_, ⟨?_, fun _ => ⟨fun _ => ⟨?_, ?_⟩, fun z => absurd hwb z⟩, fun z => absurd hbr z⟩⟩
      · rw [main 1 (by rw [if_pos hwb])]
        unfold k_e84
        rw [xw_bnd_e a1, xw_bn2_e (q_MDbr fu s1 ⟨by omega, by omega⟩), xw_jn_e, if_pos hbr, xw_grd_t (by decide), xw_if_f (by decide), xw_grd_t (by decide), xw_if_f (by decide), xw_bnd_e b1]
        exact t108 s2 s3 d1
      · rw [hl1, show n_ow M X p + q_sz (Mc M p) + Xw X p = n_ow M X p + 1 + 1 + 1 by unfold q_wb at hwb; omega]
        exact d3
      · rw [d5 j (by omega), b5 j (by omega), a5 j (by omega)]
      · rw [d5 _ (by omega), b5 _ (by omega)]; exact a4'
      · rw [d5 _ (by omega), show (n_ow M X p).toNat + 1 = (n_ow M X p + 1).toNat by omega, b4, z_e2' (by omega) (by omega)]
      · rw [show (n_ow M X p).toNat + 2 = (n_ow M X p + 1 + 1).toNat by omega, d4, z_e1' (by omega) (by omega)]
    · obtain ⟨s3, d1, d2, d3, d4, d5⟩ := q_emit fu a3 (by omega) (n_y M X p)
      refine ⟨s3, ?_, frm_tr a2 d2, ?_, fun j hj => ?_, ⟨?_, fun _ => ⟨fun z => absurd z hwb, fun _ => ?_⟩, fun z => absurd hbr z⟩⟩
      · rw [main 0 (by rw [if_neg hwb])]
        unfold k_e84
        rw [xw_bnd_e a1, xw_bn2_e (q_MDbr fu s1 ⟨by omega, by omega⟩), xw_jn_e, if_pos hbr, xw_grd_t (by decide), xw_if_f (by decide), xw_grd_t (by decide), xw_if_t rfl]
        exact t108 s1 s3 d1
      · rw [hl1, show n_ow M X p + q_sz (Mc M p) + Xw X p = n_ow M X p + 1 + 1 by unfold q_wb at hwb; omega]
        exact d3
      · rw [d5 j (by omega), a5 j (by omega)]
      · rw [d5 _ (by omega)]; exact a4'
      · rw [show (n_ow M X p).toNat + 1 = (n_ow M X p + 1).toNat by omega, d4, z_e1' (by omega) (by omega)]
  · -- no branch
    have hw0 : Xw X p = 0 := by
      rcases hox with z | z
      · exact z.2
      · exact absurd (by unfold q_br q_sb; omega) hbr
    have eop : n_op M X p = Mc M p := by rcases hox with z | z; exact z.1; (have := z.2.2; omega)
    obtain ⟨s1, a1, a2, a3, a4, a5⟩ := q_emit fu hm (by omega) (Mc M p)
    rw [z_e1' (by omega) (by omega)] at a4
    obtain ⟨s2, b1, b2, b3, b4, b5⟩ := r_e124 fu (M := M) (q := q) (p := p) (o := n_ow M X p) hin.2 hin.1 hbr (by omega) (by omega) ((q_sz (Mc M p)).toNat - 1) 1 fu s1 (by omega) (by omega) (by omega) (r_C_em hC a2) (by rw [show n_ow M X p + ((1 : Nat) : Int) = n_ow M X p + 1 by omega]; exact a3)
    have b1' : ∀ K : xw_S → Option xw_S, lp_MD_emitOne_124 fu (q : Int) (p : Int) (Mc M p) K fu s1 1 = K s2 := b1
    refine ⟨s2, ?_, frm_tr a2 b2, ?_, fun j hj => ?_, ⟨?_, fun z => absurd z hbr, fun _ i i1 i2 => b5 i i1 i2⟩⟩
    · have e121 : k_e121 fu (q : Int) (p : Int) s1 (Mc M p) = some s2 := by
        unfold k_e121
        rw [xw_jn_e, b1']
      have e108 : k_e108 fu (q : Int) (p : Int) s1 (Mc M p) 0 = some s2 := by
        unfold k_e108
        rw [xw_bn2_e (q_MDbr fu s1 ⟨by omega, by omega⟩), xw_jn_e, if_neg hbr, xw_grd_t (by decide), xw_if_t rfl]
        exact e121
      have e84 : ∀ wf : Int, k_e84 fu (q : Int) (p : Int) s (Mc M p) 0 wf (Mc M p) = some s2 := by
        intro wf
        unfold k_e84
        rw [xw_bnd_e a1, xw_bn2_e (q_MDbr fu s1 ⟨by omega, by omega⟩), xw_jn_e, if_neg hbr, xw_grd_t (by decide), xw_if_t rfl]
        exact e108
      have e64 : ∀ wf : Int, k_e64 fu (q : Int) (p : Int) s (Mc M p) 0 wf = some s2 := by
        intro wf
        unfold k_e64
        rw [xw_grd_t (by omega), xw_jn_e, Int.toNat_natCast, h18p, hw0, xw_grd_t (by decide), xw_if_t rfl]
        exact e84 wf
      rw [k_emitOne, xw_bn2_e (q_MDop' fu hB hp), xw_bn2_e (q_MDbr fu s ⟨by omega, by omega⟩), xw_jn_e, if_neg hbr, xw_grd_t (by decide), xw_if_t rfl]
      dsimp only
      unfold k_e36
      rw [xw_grd_t (by omega), xw_jn_e, xw_jn_e, Int.toNat_natCast, h18p, hw0, xw_grd_t (by decide), xw_if_t rfl, xw_jn_e, xw_grd_t ⟨by omega, by omega⟩]
      by_cases c20 : Mc M p < 20
      · rw [xw_if_t c20]; exact e64 0
      · rw [xw_if_f c20]
        by_cases c22 : 22 < Mc M p
        · rw [xw_if_t c22]; exact e64 0
        · rw [xw_if_f c22]; exact e64 1
    · rw [hl1, hw0, show n_ow M X p + q_sz (Mc M p) + 0 = n_ow M X p + q_sz (Mc M p) by omega]
      exact b3
    · rw [b4 j (by omega), a5 j (by omega)]
    · rw [b4 _ (by omega), a4, eop]; omega
