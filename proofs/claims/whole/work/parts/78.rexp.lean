/-! 78: the reference's follow and explore -/
theorem r_rc_new (fu : Nat) {M : m_M} {A : Nat → Int} {me : Int} {q : Nat} {s : xw_S} (hK : r_K M A me q s) (hD : r_D M s) (hMs : 1 ≤ Ms M ∧ Ms M ≤ 8) {t e : Int} {Q : Int64} (hpl : m_pl (Mc M) (ML M) t) (he : 0 ≤ e ∧ e ≤ Ms M) (hd : s.1 15 t.toNat < 0) : f_MD_reach fu s (q : Int) t e Q = some (xw_sL (xw_st (xw_st s 0 24 1) 15 t.toNat e) t.toNat (s.2 t.toNat ||| Q)) := by
  obtain ⟨⟨hq, hL, hlen, hcode, hc⟩, hH, h3, h5, hm, hA⟩ := hK
  have hdt := hD.1 t.toNat (by omega)
  rw [k_reach, xw_grd_t (by omega), xw_jn_e, Int.toNat_natCast, hlen, h5, xw_grd_t ⟨⟨by omega, by omega⟩, ⟨by omega, by omega⟩⟩, xw_if_f (by omega), xw_grd_t ⟨⟨by omega, by omega⟩, ⟨by omega, by omega⟩⟩, xw_if_f (by omega), xw_grd_t (by omega), xw_jn_e, xw_grd_t ⟨by omega, by omega⟩, xw_if_t hd]
  dsimp only
  rw [r_r45 (t := t) (by omega) hD.2.2 ⟨by omega, by omega⟩, if_neg (by omega)]
theorem z_dv4 : ∀ q : Nat, q < 12 → xw_dv (q : Int) 4 = ((q / 4 : Nat) : Int) := by decide +kernel
theorem r_tk (fu : Nat) {M : m_M} {A : Nat → Int} {me : Int} {q : Nat} {s : xw_S} (hK : r_K M A me q s) (hW : m_W M me) {p : Nat} (hp : p < ML M) (hbg : m_bg (Mc M) p) : f_MD_takes fu s (q : Int) (p : Int) = some (s, m_tk M A p) := by
  obtain ⟨hB, hH, h3, h5, hm, hA⟩ := hK
  have hq := hB.1
  have hc := hB.2.2.2.2
  have hcp := hc p hp
  have hin := m_in hW.2.2.1 hp hbg
  have hwp := hW.2.2.2.1 p hp hbg
  unfold f_MD_takes m_tk
  rw [xw_bn2_e (q_MDop' fu hB hp), xw_grd_t ⟨by omega, by omega⟩]
  by_cases h13 : Mc M p = 13
  · have hn := hwp.2.2 h13
    have hz : q_sz (Mc M p) = 2 := by rw [h13]; rfl
    have hp1 : p + 1 < ML M := by omega
    have enu : m_nu M p = Mc M (p + 1) := by
      unfold m_nu
      rw [show (p : Int) + 1 = ((p + 1 : Nat) : Int) by omega, m_at_in hp1]
    have hr := hc (p + 1) hp1
    have hAm := hA (Mc M (p + 1)).toNat (by omega)
    rw [xw_if_t h13, if_pos h13, show (p : Int) + 1 = ((p + 1 : Nat) : Int) by omega, xw_bn2_e (q_MDop' fu hB hp1), z_dv4 q hq, xw_grd_t (by omega), enu, show ((((q / 4 : Nat) : Int)) * 4 + Mc M (p + 1)).toNat = q / 4 * 4 + (Mc M (p + 1)).toNat by omega, hAm.1]
  · rw [xw_if_f h13, if_neg h13]
    have hr : xw_r (Mc M p) := ⟨by omega, by omega⟩
    generalize Mc M p = op at *
    by_cases c0 : 4 ≤ op ∧ op ≤ 7
    · rw [xw_jn_e, xw_if_f (by omega), xw_if_f (by omega)]
      unfold q_tk
      rw [if_pos c0]
    · by_cases c1 : op = 3 ∨ op = 8 ∨ op = 9 ∨ op = 11 ∨ op = 12 ∨ op = 14 ∨ op = 15 ∨ op = 21 ∨ op = 22 ∨ op = 32
      · rcases c1 with e | e | e | e | e | e | e | e | e | e <;> rw [e] <;> rfl
      · have eq0 : q_tk op = 0 := by unfold q_tk; rw [if_neg c0, if_neg c1]
        have tl : (fun (s8 : xw_S) (i3_48 : Int) => xw_jn (fun (s20 : xw_S) => some (s20, (1 : Int)))
 (fun (j107 : xw_S → Option (xw_S × Int)) => xw_grd (xw_r i3_48) (xw_if (i3_48 = 3) (j107 s8)
 (xw_if (i3_48 = 8) (j107 s8)
 (xw_if (i3_48 = 9) (j107 s8)
 (xw_if (i3_48 = 11) (j107 s8)
 (xw_if (i3_48 = 12) (j107 s8)
 (xw_if (i3_48 = 14) (j107 s8)
 (xw_if (i3_48 = 15) (j107 s8)
 (xw_if (i3_48 = 21) (j107 s8)
 (xw_if (i3_48 = 22) (j107 s8)
 (xw_if (i3_48 = 32) (j107 s8)
 (some (s8, 0)))))))))))))) s op = some (s, 0) := by
          dsimp only
          rw [xw_jn_e, xw_grd_t hr, xw_if_f (by omega), xw_if_f (by omega), xw_if_f (by omega), xw_if_f (by omega), xw_if_f (by omega), xw_if_f (by omega), xw_if_f (by omega), xw_if_f (by omega), xw_if_f (by omega), xw_if_f (by omega)]
        rw [eq0, xw_jn_e]
        by_cases c2 : op < 4
        · rw [xw_if_t c2]; exact tl
        · rw [xw_if_f c2, xw_if_t (by omega)]; exact tl
def k_f204 (fu : Nat) (q p : Int) (s78 : xw_S) (op : Int) (Q : Int64) (e : Int) : Option xw_S := xw_grd (xw_r (s78.1 0 23)) (xw_if (s78.1 0 23 = 0) (some s78)
 (xw_bn2 (f_MD_ends fu s78 op) (fun s81 r83 => xw_grd (xw_r r83) (xw_if (r83 = 0) (xw_bn2 (f_MD_sizeOf fu s81 op) (fun s86 r88 => xw_bnd (f_MD_reach fu s86 q (p + r88) e Q) (fun s89 => some s89)))
 (some s81)))))
def k_f159 (fu : Nat) (q p : Int) (s56 : xw_S) (op dp : Int) (Q : Int64) : Option xw_S := xw_bn2 (f_MD_takes fu s56 q p) (fun s57 r59 => xw_bn2 (f_MD_puts fu s57 op) (fun s60 r62 => xw_let ((dp - r59) + r62) (fun v63 => xw_jn (fun (s78 : xw_S) (i3_204 : Int) (w5_204 : Int64) (i7_204 : Int) => k_f204 fu q p s78 i3_204 w5_204 i7_204)
 (fun (j204 : xw_S → Int → Int64 → Int → Option xw_S) => xw_grd (xw_r (s60.1 0 23)) (xw_if (s60.1 0 23 = 0) (j204 s60 op Q v63)
 (xw_bn2 (f_MD_branches fu s60 op) (fun s67 r69 => xw_grd (xw_r r69) (xw_if (r69 = 0) (j204 s67 op Q v63)
 (xw_bn2 (f_MD_target fu s67 q p) (fun s72 r74 => xw_bnd (f_MD_reach fu s72 q r74 v63 Q) (fun s75 => j204 s75 op Q v63)))))))))))
def k_f137 (fu : Nat) (q p : Int) (s47 : xw_S) (op dp : Int) (P : Int64) : Option xw_S := xw_jn (fun (s56 : xw_S) (i3_159 : Int) (i4_159 : Int) (w5_159 : Int64) => k_f159 fu q p s56 i3_159 i4_159 w5_159)
 (fun (j159 : xw_S → Int → Int → Int64 → Option xw_S) => xw_grd (xw_r op) (xw_if (op = 3) (xw_bn2 (f_MD_op fu s47 q (p + 1)) (fun s50 r52 => xw_bn2 (f_MD_with fu s50 P r52 0) (fun s53 r55 => j159 s53 op dp r55)))
 (j159 s47 op dp P)))
def k_f110 (fu : Nat) (q p : Int) (s36 : xw_S) (op dp : Int) (P : Int64) : Option xw_S := xw_jn (fun (s47 : xw_S) (i3_137 : Int) (i4_137 : Int) (w5_137 : Int64) => k_f137 fu q p s47 i3_137 i4_137 w5_137)
 (fun (j137 : xw_S → Int → Int → Int64 → Option xw_S) => xw_jn (fun (s40 : xw_S) (i3_121 : Int) (i4_121 : Int) (w5_121 : Int64) => xw_bn2 (f_MD_op fu s40 q (p + 1)) (fun s41 r43 => xw_bn2 (f_MD_with fu s41 w5_121 r43 1) (fun s44 r46 => j137 s44 i3_121 i4_121 w5_121)))
 (fun (j121 : xw_S → Int → Int → Int64 → Option xw_S) => xw_grd (xw_r op) (xw_if (op = 2) (j121 s36 op dp P)
 (xw_if (op = 16) (j121 s36 op dp P)
 (j137 s36 op dp P)))))
def k_f94 (fu : Nat) (q p : Int) (s28 : xw_S) (op dp : Int) (P : Int64) : Option xw_S := xw_bn2 (f_MD_takes fu s28 q p) (fun s29 r31 => xw_jn (fun (s36 : xw_S) (i3_110 : Int) (i4_110 : Int) (w5_110 : Int64) => k_f110 fu q p s36 i3_110 i4_110 w5_110)
 (fun (j110 : xw_S → Int → Int → Int64 → Option xw_S) => xw_grd (xw_r dp ∧ xw_r r31) (xw_if (r31 ≤ dp) (j110 s29 op dp P)
 (xw_let (xw_st s29 0 23 0) (fun s34 => j110 s34 op dp P)))))
theorem k_follow (fu : Nat) (s0 : xw_S) (q p : Int) : f_MD_follow fu s0 q p = xw_bn2 (f_MD_op fu s0 q p) (fun s1 r3 => xw_grd ((0 ≤ p ∧ p < ((121 : Nat) : Int))) (xw_let (s1.1 15 (p).toNat) (fun v5 => xw_let (s1.2 (p).toNat) (fun v7 => xw_let (20 * q) (fun v9 => xw_jn (fun (s28 : xw_S) (i3_94 : Int) (i4_94 : Int) (w5_94 : Int64) => k_f94 fu q p s28 i3_94 i4_94 w5_94)
 (fun (k94 : xw_S → Int → Int → Int64 → Option xw_S) => lp_MD_follow_29 fu q p r3 v5 v7 k94 fu s1 v9)))))) := rfl
theorem r_R_c {M : m_M} {s s1 : xw_S} {e : Option xw_S} {X Y : (Nat → Int) → (Nat → Nat → Prop) → Prop} (h : rfm S_rx s s1 ∧ r_D M s1 ∧ m_O (ML M) (r_v M s) (r_v M s1) X) (hf : r_R M s1 e Y) : r_R M s e (fun d S => X d S ∧ Y d S) := by
  obtain ⟨h2, h3, h4⟩ := h
  obtain ⟨s2, g1, g2, g3, g4⟩ := hf
  exact ⟨s2, g1, rfm_tr h2 g2, g3, m_O_comp h4 g4⟩
theorem m_next {M : m_M} {me : Int} (hW : m_W M me) {p : Nat} (hp : p < ML M) (hbg : m_bg (Mc M) p) : (p : Int) + q_sz (Mc M p) < (ML M : Int) → m_pl (Mc M) (ML M) ((p : Int) + q_sz (Mc M p)) := by
  intro h
  have hin := m_in hW.2.2.1 hp hbg
  have hx := m_nx_in (Mc M) hbg ((q_sz (Mc M p)).toNat - 1) (Or.inl (by omega))
  refine ⟨by omega, h, ?_⟩
  unfold m_bg
  rw [show ((p : Int) + q_sz (Mc M p)).toNat = p + ((q_sz (Mc M p)).toNat - 1) + 1 by omega, hx]
  omega
section
variable {M : m_M} {A : Nat → Int} {me : Int} {q : Nat}
theorem r_f204 (fu : Nat) {s : xw_S} (hK : r_K M A me q s) (hD : r_D M s) (hW : m_W M me) {p : Nat} (hp : p < ML M) (hbg : m_bg (Mc M) p) {Q : Int64} {e : Int} (he : s.1 0 23 ≠ 0 → 0 ≤ e ∧ e ≤ 100) : r_R M s (k_f204 fu (q : Int) (p : Int) s (Mc M p) Q e) (fun d S => ¬ q_en (Mc M p) → (m_ar (Mc M) (ML M) d S ((p : Int) + q_sz (Mc M p)) e (r_S Q) ∧ e ≤ Ms M)) := by
  have hL := hK.1.2.1
  have hc := hK.1.2.2.2.2
  have hcp := hc p hp
  have hsz := q_sz_r (Mc M p)
  have hs := hD.2.1
  have hW2 := hW.2.1
  unfold k_f204
  rw [xw_grd_t ⟨by omega, by omega⟩]
  by_cases h0 : s.1 0 23 = 0
  · rw [xw_if_t h0]
    exact ⟨s, rfl, rfm_rf _ _, hD, m_O_id (Or.inl h0)⟩
  · rw [xw_if_f h0, xw_bn2_e (q_MDen fu s ⟨by omega, by omega⟩)]
    by_cases h1 : q_en (Mc M p)
    · rw [if_pos h1, xw_grd_t (by decide), xw_if_f (by decide)]
      exact ⟨s, rfl, rfm_rf _ _, hD, m_O_id (Or.inr (fun z => absurd h1 z))⟩
    · rw [if_neg h1, xw_grd_t (by decide), xw_if_t rfl, xw_bn2_e (q_MDsz fu s ⟨by omega, by omega⟩)]
      refine r_R_wk (r_R_b (Y := fun _ _ => True) (r_rc fu hK hD (by omega) (t := (p : Int) + q_sz (Mc M p)) (by omega) (m_next hW hp hbg) (he h0)) (fun s' h1 h2 _ => ⟨s', rfl, rfm_rf _ _, h2, m_O_id (Or.inr trivial)⟩)) ?_ ?_
      · intro d S _ hy
        exact ⟨hy h1, trivial⟩
      · intro hx _
        exact hx.1
theorem r_f159 (fu : Nat) {s : xw_S} (hK : r_K M A me q s) (hD : r_D M s) (hW : m_W M me) {p : Nat} (hp : p < ML M) (hbg : m_bg (Mc M) p) {Q : Int64} {dp : Int} (he : s.1 0 23 ≠ 0 → 0 ≤ dp - m_tk M A p + q_pt (Mc M p) ∧ dp - m_tk M A p + q_pt (Mc M p) ≤ 100) : r_R M s (k_f159 fu (q : Int) (p : Int) s (Mc M p) dp Q) (fun d S => (q_br (Mc M p) → (m_ar (Mc M) (ML M) d S ((p : Int) + m_way (Mc M) (ML M) p) (dp - m_tk M A p + q_pt (Mc M p)) (r_S Q) ∧ dp - m_tk M A p + q_pt (Mc M p) ≤ Ms M)) ∧ (¬ q_en (Mc M p) → (m_ar (Mc M) (ML M) d S ((p : Int) + q_sz (Mc M p)) (dp - m_tk M A p + q_pt (Mc M p)) (r_S Q) ∧ dp - m_tk M A p + q_pt (Mc M p) ≤ Ms M))) := by
  have hB := hK.1
  have hL := hK.1.2.1
  have hc := hK.1.2.2.2.2
  have hcp := hc p hp
  have hs := hD.2.1
  have hW2 := hW.2.1
  have hwp := hW.2.2.2.1 p hp hbg
  have hin := m_in hW.2.2.1 hp hbg
  unfold k_f159
  rw [xw_bn2_e (r_tk fu hK hW hp hbg), xw_bn2_e (q_MDpt fu s ⟨by omega, by omega⟩), xw_let_e, xw_jn_e, xw_grd_t ⟨by omega, by omega⟩]
  generalize dp - m_tk M A p + q_pt (Mc M p) = e at *
  by_cases h0 : s.1 0 23 = 0
  · rw [xw_if_t h0]
    obtain ⟨s1, g1, g2, g3, g4⟩ := r_f204 fu hK hD hW hp hbg (Q := Q) (e := e) he
    refine ⟨s1, g1, g2, g3, m_O_wk (m_O_comp (m_O_id (v := r_v M s) (X := fun d S => q_br (Mc M p) → (m_ar (Mc M) (ML M) d S ((p : Int) + m_way (Mc M) (ML M) p) e (r_S Q) ∧ e ≤ Ms M)) (Or.inl h0)) g4) (fun d S _ hy => hy) (fun hx => hx)⟩
  · rw [xw_if_f h0, xw_bn2_e (q_MDbr fu s ⟨by omega, by omega⟩)]
    by_cases h1 : q_br (Mc M p)
    · have hpl := hwp.1 h1
      rw [if_pos h1, xw_grd_t (by decide), xw_if_f (by decide), xw_bn2_e (q_target fu hB h1 hin.2)]
      refine r_R_wk (r_R_b (Y := fun d S => ¬ q_en (Mc M p) → (m_ar (Mc M) (ML M) d S ((p : Int) + q_sz (Mc M p)) e (r_S Q) ∧ e ≤ Ms M)) (r_rc fu hK hD (by omega) (t := (p : Int) + m_way (Mc M) (ML M) p) (by omega) (fun _ => hpl) (he h0)) ?_) ?_ ?_
      · intro s' k1 k2 k3
        exact r_f204 fu (r_K_e hK k1) k2 hW hp hbg (fun _ => he h0)
      · intro d S _ hy
        exact ⟨hy.1 h1, hy.2⟩
      · intro hx
        exact ⟨fun _ => hx.1, hx.2⟩
    · rw [if_neg h1, xw_grd_t (by decide), xw_if_t rfl]
      refine r_R_wk (r_f204 fu hK hD hW hp hbg (Q := Q) (e := e) he) ?_ ?_
      · intro d S _ hy
        exact hy.2
      · intro hx
        exact ⟨fun z => absurd z h1, hx⟩
theorem r_num {s : xw_S} (fu : Nat) (hK : r_K M A me q s) (hW : m_W M me) {p : Nat} (hp : p < ML M) (hbg : m_bg (Mc M) p) (hop : Mc M p = 2 ∨ Mc M p = 3 ∨ Mc M p = 16) : f_MD_op fu s (q : Int) ((p : Int) + 1) = some (s, (((m_nu M p).toNat : Nat) : Int)) ∧ (m_nu M p).toNat < 6 ∧ 0 ≤ m_nu M p := by
  have hB := hK.1
  have hc := hB.2.2.2.2
  have hin := m_in hW.2.2.1 hp hbg
  have hwp := hW.2.2.2.1 p hp hbg
  have hW2 := hW.2.1
  have hz : 2 ≤ q_sz (Mc M p) := by
    rcases hop with h | h | h <;> rw [h] <;> decide
  have hp1 : p + 1 < ML M := by omega
  have hr := hc (p + 1) hp1
  have enu : m_nu M p = Mc M (p + 1) := by
    unfold m_nu
    rw [show (p : Int) + 1 = ((p + 1 : Nat) : Int) by omega, m_at_in hp1]
  have hn := hwp.2.1 hop
  refine ⟨?_, by omega, by omega⟩
  rw [show (p : Int) + 1 = ((p + 1 : Nat) : Int) by omega, q_MDop' fu hB hp1, enu, show (((Mc M (p + 1)).toNat : Nat) : Int) = Mc M (p + 1) by omega]
/-- what the places behind p get of p's sets -/
def r_T (M : m_M) (p : Nat) (P : Int64) (n : Nat) : Prop := r_S P n ∨ (Mc M p = 3 ∧ (n : Int) = m_nu M p)
def r_Y (M : m_M) (A : Nat → Int) (p : Nat) (dp : Int) (P : Int64) (d : Nat → Int) (S : Nat → Nat → Prop) : Prop := (q_br (Mc M p) → (m_ar (Mc M) (ML M) d S ((p : Int) + m_way (Mc M) (ML M) p) (dp - m_tk M A p + q_pt (Mc M p)) (r_T M p P) ∧ dp - m_tk M A p + q_pt (Mc M p) ≤ Ms M)) ∧ (¬ q_en (Mc M p) → (m_ar (Mc M) (ML M) d S ((p : Int) + q_sz (Mc M p)) (dp - m_tk M A p + q_pt (Mc M p)) (r_T M p P) ∧ dp - m_tk M A p + q_pt (Mc M p) ≤ Ms M))
theorem r_f137 (fu : Nat) (hfu : 1000 ≤ fu) {s : xw_S} (hK : r_K M A me q s) (hD : r_D M s) (hW : m_W M me) {p : Nat} (hp : p < ML M) (hbg : m_bg (Mc M) p) {P : Int64} {dp : Int} (he : s.1 0 23 ≠ 0 → 0 ≤ dp - m_tk M A p + q_pt (Mc M p) ∧ dp - m_tk M A p + q_pt (Mc M p) ≤ 100) : r_R M s (k_f137 fu (q : Int) (p : Int) s (Mc M p) dp P) (r_Y M A p dp P) := by
  have hc := hK.1.2.2.2.2
  have hcp := hc p hp
  unfold k_f137
  rw [xw_jn_e, xw_grd_t ⟨by omega, by omega⟩]
  by_cases h3 : Mc M p = 3
  · obtain ⟨n1, n2, n3⟩ := r_num fu hK hW hp hbg (Or.inr (Or.inl h3))
    obtain ⟨s', w, g1, g2, g3, g4, g5⟩ := r_with fu hfu P n2 (fl := 0) (Or.inl rfl) hD.2.1
    have hT : ∀ n, r_S w n ↔ r_T M p P n := fun n => by
      rw [g5]
      unfold r_T
      constructor
      · exact fun z => z.imp id (fun y => ⟨h3, by omega⟩)
      · exact fun z => z.imp id (fun y => by omega)
    have ck := r_chk hD g2 g3 g4
    rw [xw_if_t h3, xw_bn2_e n1, xw_bn2_e g1]
    refine r_R_wk (r_R_c ck (r_f159 fu (r_K_e hK ck.1) ck.2.1 hW hp hbg (Q := w) (dp := dp) (fun z => he (by rw [← g4 (Or.inl rfl)]; exact z)))) ?_ ?_
    · intro d S _ hy
      exact ⟨Or.inl rfl, fun z => ⟨m_ar_mono (hy.1 z).1 (fun n y => (hT n).2 y), (hy.1 z).2⟩, fun z => ⟨m_ar_mono (hy.2 z).1 (fun n y => (hT n).2 y), (hy.2 z).2⟩⟩
    · intro hx
      exact ⟨fun z => ⟨m_ar_mono (hx.2.1 z).1 (fun n y => (hT n).1 y), (hx.2.1 z).2⟩, fun z => ⟨m_ar_mono (hx.2.2 z).1 (fun n y => (hT n).1 y), (hx.2.2 z).2⟩⟩
  · have hT : ∀ n, r_S P n ↔ r_T M p P n := fun n => ⟨Or.inl, fun z => z.elim id (fun y => absurd y.1 h3)⟩
    rw [xw_if_f h3]
    refine r_R_wk (r_f159 fu hK hD hW hp hbg (Q := P) (dp := dp) he) ?_ ?_
    · intro d S _ hy
      exact ⟨fun z => ⟨m_ar_mono (hy.1 z).1 (fun n y => (hT n).2 y), (hy.1 z).2⟩, fun z => ⟨m_ar_mono (hy.2 z).1 (fun n y => (hT n).2 y), (hy.2 z).2⟩⟩
    · intro hx
      exact ⟨fun z => ⟨m_ar_mono (hx.1 z).1 (fun n y => (hT n).1 y), (hx.1 z).2⟩, fun z => ⟨m_ar_mono (hx.2 z).1 (fun n y => (hT n).1 y), (hx.2 z).2⟩⟩
theorem r_f110 (fu : Nat) (hfu : 1000 ≤ fu) {s : xw_S} (hK : r_K M A me q s) (hD : r_D M s) (hW : m_W M me) {p : Nat} (hp : p < ML M) (hbg : m_bg (Mc M) p) {P : Int64} {dp : Int} (he : s.1 0 23 ≠ 0 → 0 ≤ dp - m_tk M A p + q_pt (Mc M p) ∧ dp - m_tk M A p + q_pt (Mc M p) ≤ 100) : r_R M s (k_f110 fu (q : Int) (p : Int) s (Mc M p) dp P) (fun d S => ((Mc M p = 2 ∨ Mc M p = 16) → r_S P (m_nu M p).toNat) ∧ r_Y M A p dp P d S) := by
  have hc := hK.1.2.2.2.2
  have hcp := hc p hp
  have br : (Mc M p = 2 ∨ Mc M p = 16) → r_R M s (xw_bn2 (f_MD_op fu s (q : Int) ((p : Int) + 1)) (fun s41 r43 => xw_bn2 (f_MD_with fu s41 P r43 1) (fun s44 r46 => (fun (s47 : xw_S) (i3_137 : Int) (i4_137 : Int) (w5_137 : Int64) => k_f137 fu (q : Int) (p : Int) s47 i3_137 i4_137 w5_137) s44 (Mc M p) dp P))) (fun d S => ((Mc M p = 2 ∨ Mc M p = 16) → r_S P (m_nu M p).toNat) ∧ r_Y M A p dp P d S) := by
    intro h2
    obtain ⟨n1, n2, n3⟩ := r_num fu hK hW hp hbg (by omega)
    obtain ⟨s', w, g1, g2, g3, g4, g5⟩ := r_with fu hfu P n2 (fl := 1) (Or.inr rfl) hD.2.1
    have ck := r_chk hD g2 g3 g4
    rw [xw_bn2_e n1, xw_bn2_e g1]
    refine r_R_wk (r_R_c ck (r_f137 fu hfu (r_K_e hK ck.1) ck.2.1 hW hp hbg (P := P) (dp := dp) (fun z => he (by
      rcases g3 with y | y
      · exact absurd y z
      · rw [← y.2]; exact z)))) ?_ ?_
    · intro d S _ hy
      exact ⟨Or.inr (hy.1 h2), hy.2⟩
    · intro hx
      exact ⟨fun _ => hx.1.elim (fun z => absurd z (by decide)) id, hx.2⟩
  unfold k_f110
  rw [xw_jn_e, xw_jn_e, xw_grd_t ⟨by omega, by omega⟩]
  by_cases h2 : Mc M p = 2
  · rw [xw_if_t h2]
    exact br (Or.inl h2)
  · rw [xw_if_f h2]
    by_cases h3 : Mc M p = 16
    · rw [xw_if_t h3]
      exact br (Or.inr h3)
    · rw [xw_if_f h3]
      refine r_R_wk (r_f137 fu hfu hK hD hW hp hbg (P := P) (dp := dp) he) ?_ ?_
      · intro d S _ hy
        exact hy.2
      · intro hx
        exact ⟨fun z => z.elim (fun y => absurd y h2) (fun y => absurd y h3), hx⟩
theorem r_tk_r {s : xw_S} (hK : r_K M A me q s) (hW : m_W M me) {p : Nat} (hp : p < ML M) (hbg : m_bg (Mc M) p) : (0 ≤ m_tk M A p ∧ m_tk M A p ≤ 2) ∧ 0 ≤ q_pt (Mc M p) ∧ q_pt (Mc M p) ≤ 2 := by
  have hwp := hW.2.2.2.1 p hp hbg
  have hnu : 0 ≤ m_nu M p ∧ m_nu M p ≤ 255 := m_at_r hK.1.2.2.2.2 _
  constructor
  · unfold m_tk
    by_cases h13 : Mc M p = 13
    · rw [if_pos h13]
      exact (hK.2.2.2.2.2 (m_nu M p).toNat (by have := hwp.2.2 h13; omega)).2
    · rw [if_neg h13]
      unfold q_tk
      repeat' split
      all_goals omega
  · unfold q_pt
    repeat' split
    all_goals omega
theorem r_f94 (fu : Nat) (hfu : 1000 ≤ fu) {s : xw_S} (hK : r_K M A me q s) (hD : r_D M s) (hW : m_W M me) {p : Nat} (hp : p < ML M) (hbg : m_bg (Mc M) p) {P : Int64} {dp : Int} (hdp : 0 ≤ dp ∧ dp ≤ 8) : r_R M s (k_f94 fu (q : Int) (p : Int) s (Mc M p) dp P) (fun d S => m_tk M A p ≤ dp ∧ ((Mc M p = 2 ∨ Mc M p = 16) → r_S P (m_nu M p).toNat) ∧ r_Y M A p dp P d S) := by
  have rr := r_tk_r hK hW hp hbg
  unfold k_f94
  rw [xw_bn2_e (r_tk fu hK hW hp hbg), xw_jn_e, xw_grd_t ⟨⟨by omega, by omega⟩, ⟨by omega, by omega⟩⟩]
  by_cases h1 : m_tk M A p ≤ dp
  · rw [xw_if_t h1]
    refine r_R_wk (r_f110 fu hfu hK hD hW hp hbg (P := P) (dp := dp) (fun _ => by omega)) (fun d S _ hy => hy.2) (fun hx => ⟨h1, hx⟩)
  · have ck := r_chk (C := m_tk M A p ≤ dp) hD (s' := xw_st s 0 23 0) (frm_st ⟨rfl, rfl⟩) (Or.inl (st_s _ _ _ _)) (fun z => absurd z h1)
    rw [xw_if_f h1, xw_let_e]
    exact r_R_c ck (r_f110 fu hfu (r_K_e hK ck.1) ck.2.1 hW hp hbg (P := P) (dp := dp) (fun z => absurd (st_s _ _ _ _) z))
theorem r_f29 (fu : Nat) (hW : m_W M me) {p : Nat} (hp : p < 120) (op dp : Int) (P : Int64) (K : xw_S → Int → Int → Int64 → Option xw_S) : ∀ (dd k n : Nat) (s : xw_S), k + dd = MN M → dd < n → r_K M A me q s → r_D M s → ∃ s', lp_MD_follow_29 fu (q : Int) (p : Int) op dp P K n s ((20 * q + 4 * k : Nat) : Int) = K s' op dp P ∧ rfm S_rx s s' ∧ r_D M s' ∧ m_O (ML M) (r_v M s) (r_v M s') (m_hX M p (r_S P) k) := by
  have hN := hW.1.2.2
  have hW2 := hW.2.1
  intro dd
  induction dd with
  | zero =>
    intro k n s hk hn hK hD
    obtain ⟨n, rfl⟩ : ∃ n', n = n' + 1 := ⟨n - 1, by omega⟩
    have hH := hK.2.1
    have hq := hH.1
    rw [lp_MD_follow_29, xw_grd_t (by omega), Int.toNat_natCast, hH.2.2.1, xw_grd_t ⟨⟨by omega, by omega⟩, ⟨by omega, by omega⟩⟩, xw_if_t (by omega)]
    exact ⟨s, rfl, rfm_rf _ _, hD, m_O_id (Or.inr (fun i h1 h2 => by omega))⟩
  | succ dd ih =>
    intro k n s hk hn hK hD
    obtain ⟨n, rfl⟩ : ∃ n', n = n' + 1 := ⟨n - 1, by omega⟩
    have hH := hK.2.1
    have hq := hH.1
    have r0 := hH.2.2.2.2 (4 * k) (by omega)
    have r1 := hH.2.2.2.2 (4 * k + 1) (by omega)
    have r2 := hH.2.2.2.2 (4 * k + 2) (by omega)
    have v0 := hH.2.2.2.1 (4 * k) (by omega)
    have v1 := hH.2.2.2.1 (4 * k + 1) (by omega)
    have v2 := hH.2.2.2.1 (4 * k + 2) (by omega)
    have hh := hW.2.2.2.2 k (by omega)
    rw [lp_MD_follow_29, xw_grd_t (by omega), Int.toNat_natCast, hH.2.2.1, xw_grd_t ⟨⟨by omega, by omega⟩, ⟨by omega, by omega⟩⟩, xw_if_f (by omega), xw_grd_t (by omega), xw_jn_e, Int.toNat_natCast, v0, xw_grd_t ⟨⟨by omega, by omega⟩, ⟨by omega, by omega⟩⟩]
    have e1 : (((20 * q + 4 * k : Nat) : Int) + 1).toNat = 20 * q + (4 * k + 1) := by omega
    have e2 : (((20 * q + 4 * k : Nat) : Int) + 2).toNat = 20 * q + (4 * k + 2) := by omega
    have e4 : ((20 * q + 4 * k : Nat) : Int) + 4 = ((20 * q + 4 * (k + 1) : Nat) : Int) := by omega
    by_cases hc : m_cov M k p
    · obtain ⟨s1, h1, h2, h3, h4⟩ := r_rc fu hK hD (by omega) (t := Mh M (4 * k + 2)) (e := 1) (Q := P) (by omega) (fun _ => hh.2.2) (by omega)
      obtain ⟨s2, g1, g2, g3, g4⟩ := ih (k + 1) n s1 (by omega) (by omega) (r_K_e hK h2) h3
      have hc0 := hc.1
      have hc1 := hc.2
      refine ⟨s2, ?_, rfm_tr h2 g2, g3, m_O_wk (m_O_comp h4 g4) ?_ ?_⟩
      · rw [xw_if_f (by omega), xw_grd_t (by omega), e1, v1, xw_grd_t ⟨by omega, by omega⟩, xw_if_f (by omega), xw_grd_t (by omega), e2, v2, xw_bnd_e h1]
        show lp_MD_follow_29 fu (q : Int) (p : Int) op dp P K n s1 (((20 * q + 4 * k : Nat) : Int) + 4) = _
        rw [e4]
        exact g1
      · intro d S _ hy
        exact ⟨⟨hy k (Nat.le_refl _) (by omega) hc, by omega⟩, fun i z1 z2 z3 => hy i (by omega) z2 z3⟩
      · intro hx
        exact m_hX_s (fun _ => hx.1.1) hx.2
    · obtain ⟨s2, g1, g2, g3, g4⟩ := ih (k + 1) n s (by omega) (by omega) hK hD
      refine ⟨s2, ?_, g2, g3, m_O_wk g4 ?_ ?_⟩
      · by_cases h0 : (p : Int) < Mh M (4 * k)
        · rw [xw_if_t h0]
          show lp_MD_follow_29 fu (q : Int) (p : Int) op dp P K n s (((20 * q + 4 * k : Nat) : Int) + 4) = _
          rw [e4]
          exact g1
        · rw [xw_if_f h0, xw_grd_t (by omega), e1, v1, xw_grd_t ⟨by omega, by omega⟩, xw_if_t (by unfold m_cov at hc; omega)]
          show lp_MD_follow_29 fu (q : Int) (p : Int) op dp P K n s (((20 * q + 4 * k : Nat) : Int) + 4) = _
          rw [e4]
          exact g1
      · intro d S _ hy i z1 z2 z3
        exact hy i (by omega) z2 z3
      · intro hx
        exact m_hX_s (fun z => absurd z hc) hx
theorem r_fo (fu : Nat) (hfu : 1000 ≤ fu) {s : xw_S} (hK : r_K M A me q s) (hD : r_D M s) (hW : m_W M me) {p : Nat} (hp : p < ML M) (hbg : m_bg (Mc M) p) (hd0 : 0 ≤ s.1 15 p) : r_R M s (f_MD_follow fu s (q : Int) (p : Int)) (fun d S => m_ok M A d S p) := by
  have hL := hK.1.2.1
  have hN := hW.1.2.2
  have hW2 := hW.2.1
  have hdp := hD.1 p hp
  have rr := r_tk_r hK hW hp hbg
  obtain ⟨s1, g1, g2, g3, g4⟩ := r_f29 fu hW (p := p) (by omega) (Mc M p) (s.1 15 p) (s.2 p) (fun (s28 : xw_S) (i3_94 : Int) (i4_94 : Int) (w5_94 : Int64) => k_f94 fu (q : Int) (p : Int) s28 i3_94 i4_94 w5_94) (MN M) 0 fu s (by omega) (by omega) hK hD
  have e : f_MD_follow fu s (q : Int) (p : Int) = k_f94 fu (q : Int) (p : Int) s1 (Mc M p) (s.1 15 p) (s.2 p) := by
    rw [k_follow, xw_bn2_e (q_MDop' fu hK.1 hp), xw_grd_t (by omega), xw_let_e, xw_let_e, xw_let_e, xw_jn_e, Int.toNat_natCast]
    have e0 : (20 : Int) * (q : Int) = ((20 * q + 4 * 0 : Nat) : Int) := by omega
    rw [e0]
    exact g1
  rw [e]
  refine r_R_wk (r_R_c ⟨g2, g3, g4⟩ (r_f94 fu hfu (r_K_e hK g2) g3 hW hp hbg (P := s.2 p) (dp := s.1 15 p) (by omega))) ?_ ?_
  · intro d S hl hy
    obtain ⟨x1, x2⟩ := hl p hp hd0
    have x1' : d p = s.1 15 p := x1
    have x2' : ∀ n, S p n → r_S (s.2 p) n := x2
    obtain ⟨⟨y0, y1, y2, y3⟩, y4, y5, y6⟩ := hy
    have ea : m_af M A d p = s.1 15 p - m_tk M A p + q_pt (Mc M p) := by unfold m_af; rw [x1']
    rw [ea] at y2 y4 y5
    have hT : ∀ n, m_T M S p n → r_T M p (s.2 p) n := fun n z => z.imp (fun w => x2' n w) id
    exact ⟨fun i _ z1 z2 => m_ar_mono (y6 i z1 z2) x2', by omega, fun z => x2' _ (y3 z), fun z => ⟨m_ar_mono (y5 z) hT, y2⟩, fun z => ⟨m_ar_mono (y4 z) hT, y2⟩⟩
  · rintro ⟨x1, x2, x3, x4, x5⟩
    have ea : m_af M A (r_v M s).1 p = s.1 15 p - m_tk M A p + q_pt (Mc M p) := rfl
    have hT : ∀ n, r_T M p (s.2 p) n → m_T M (r_v M s).2.1 p n := fun n z => z
    refine ⟨⟨hdp.2.1, x2, ?_, x3⟩, fun z => ?_, fun z => ?_, fun i z1 z2 => x1 i (Nat.zero_le _) z1 z2⟩
    · rw [ea]
      by_cases h1 : q_br (Mc M p)
      · exact (x4 h1).2
      · by_cases h2 : q_en (Mc M p)
        · have h3 : Mc M p = 14 ∨ Mc M p = 15 ∨ Mc M p = 32 := by
            unfold q_br q_sb q_wb at h1
            unfold q_en at h2
            omega
          have h4 : m_tk M A p = 1 ∧ q_pt (Mc M p) = 0 := by
            unfold m_tk
            rcases h3 with h | h | h <;> rw [h, if_neg (by decide)] <;> decide
          omega
        · exact (x5 h2).2
    · rw [ea]; exact m_ar_mono (x5 z).1 hT
    · rw [ea]; exact m_ar_mono (x4 z).1 hT
theorem r_round (fu : Nat) (hfu : 1000 ≤ fu) (hW : m_W M me) (K : xw_S → Option (xw_S × Int)) : ∀ (dd k n : Nat) (s : xw_S), k + dd = ML M → dd < n → r_K M A me q s → r_D M s → ∃ s', lp_MD_explore_84 fu (q : Int) K n s (k : Int) = K s' ∧ rfm S_rx s s' ∧ r_D M s' ∧ m_O (ML M) (r_v M s) (r_v M s') (m_rX M A k) := by
  have hL := hW.1
  intro dd
  induction dd with
  | zero =>
    intro k n s hk hn hK hD
    obtain ⟨n, rfl⟩ : ∃ n', n = n' + 1 := ⟨n - 1, by omega⟩
    have hB := hK.1
    have hq := hB.1
    rw [lp_MD_explore_84, xw_grd_t (by omega), Int.toNat_natCast, hB.2.2.1, xw_grd_t ⟨⟨by omega, by omega⟩, ⟨by omega, by omega⟩⟩, xw_if_t (by omega)]
    exact ⟨s, rfl, rfm_rf _ _, hD, m_O_id (Or.inr (fun p h1 h2 => by omega))⟩
  | succ dd ih =>
    intro k n s hk hn hK hD
    obtain ⟨n, rfl⟩ : ∃ n', n = n' + 1 := ⟨n - 1, by omega⟩
    have hB := hK.1
    have hq := hB.1
    have hsn := hD.2.1
    have hdk := hD.1 k (by omega)
    have hW2 := hW.2.1
    rw [lp_MD_explore_84, xw_grd_t (by omega), Int.toNat_natCast, hB.2.2.1, xw_grd_t ⟨⟨by omega, by omega⟩, ⟨by omega, by omega⟩⟩, xw_if_f (by omega), xw_grd_t ⟨by omega, by omega⟩]
    by_cases hs : s.1 0 23 = 0
    · rw [xw_if_t hs]
      exact ⟨s, rfl, rfm_rf _ _, hD, m_O_id (Or.inl hs)⟩
    · rw [xw_if_f hs, xw_grd_t (by omega), xw_jn_e, Int.toNat_natCast, xw_grd_t ⟨by omega, by omega⟩]
      by_cases hr : 0 ≤ s.1 15 k
      · obtain ⟨s1, h1, h2, h3, h4⟩ := r_fo fu hfu hK hD hW (p := k) (by omega) (hdk.2.2.2 hr) hr
        obtain ⟨s2, g1, g2, g3, g4⟩ := ih (k + 1) n s1 (by omega) (by omega) (r_K_e hK h2) h3
        rw [xw_if_f (by omega), xw_bnd_e h1]
        refine ⟨s2, g1, rfm_tr h2 g2, g3, m_O_wk (m_O_comp h4 g4) ?_ ?_⟩
        · intro d S hl hy
          refine ⟨hy k (Nat.le_refl _) (by omega) ?_, fun p q1 q2 q3 => hy p (by omega) q2 q3⟩
          rw [(hl k (by omega) hr).1]
          exact hr
        · intro hx
          exact m_rX_s ⟨fun _ => hx.1, hx.2⟩
      · obtain ⟨s2, g1, g2, g3, g4⟩ := ih (k + 1) n s (by omega) (by omega) hK hD
        rw [xw_if_t (by omega)]
        refine ⟨s2, g1, g2, g3, m_O_wk g4 ?_ ?_⟩
        · intro d S hl hy p q1 q2 q3
          exact hy p (by omega) q2 q3
        · intro hx
          exact m_rX_s ⟨fun z => absurd z hr, hx⟩
theorem r_outer (fu : Nat) (hfu : 1000 ≤ fu) (hW : m_W M me) (K : xw_S → Option (xw_S × Int)) : ∀ (n : Nat) (s : xw_S), 1 ≤ n → r_K M A me q s → r_D M s → m_Q M A (r_v M s) → (s.1 0 24 = 1 → (r_v M s).2.2.2.2 + 1 < n) → ∃ s', lp_MD_explore_63 fu (q : Int) K n s = K s' ∧ rfm S_rx s s' ∧ r_D M s' ∧ m_EX M A (r_v M s').1 (r_v M s').2.1 (s'.1 0 23) := by
  have hL := hW.1
  intro n
  induction n with
  | zero => intro s h; omega
  | succ n ih =>
    intro s _ hK hD hQ hm
    have hsn := hD.2.1
    have hch := hD.2.2
    rw [lp_MD_explore_63, xw_grd_t ⟨by omega, by omega⟩]
    by_cases h1 : s.1 0 24 = 0
    · rw [xw_if_t h1]
      exact ⟨s, rfl, rfm_rf _ _, hD, m_Q_end hQ (Or.inr h1)⟩
    · rw [xw_if_f h1, xw_grd_t ⟨by omega, by omega⟩]
      by_cases h2 : s.1 0 23 = 0
      · rw [xw_if_t h2]
        exact ⟨s, rfl, rfm_rf _ _, hD, m_Q_end hQ (Or.inl h2)⟩
      · have e1 : (xw_st s 0 24 0).1 15 = s.1 15 := funext (fun k => st_i (by omega))
        have e3 : (xw_st s 0 24 0).1 0 24 = 0 := st_s _ _ _ _
        have e4 : (xw_st s 0 24 0).1 0 23 = s.1 0 23 := st_k (by omega)
        have f0 : rfm S_rx s (xw_st s 0 24 0) := rfm_frm (frm_st (Or.inr ⟨rfl, Or.inr rfl⟩))
        have hD0 : r_D M (xw_st s 0 24 0) := by
          refine ⟨?_, ?_, ?_⟩
          · rw [e1]; exact hD.1
          · rw [e4]; exact hsn
          · rw [e3]; exact Or.inl rfl
        obtain ⟨s1, g1, g2, g3, g4⟩ := r_round fu hfu hW (fun (s45 : xw_S) => lp_MD_explore_63 fu (q : Int) K n s45) (ML M) 0 fu (xw_st s 0 24 0) (by omega) (by omega) (r_K_e hK f0) hD0
        have st := m_Q_step hQ (show (r_v M s).2.2.1 = 1 from by show s.1 0 23 = 1; omega) (v0 := r_v M (xw_st s 0 24 0)) e1 rfl e4 e3 (by unfold r_v; dsimp only; rw [e1]; rfl) g4 g3.2.1 g3.2.2
        have hm1 := hm (by omega)
        obtain ⟨s2, k1, k2, k3, k4⟩ := ih s1 (by omega) (r_K_e hK (rfm_tr f0 g2)) g3 st.1 (fun z => by
          rcases st.2 with w | w
          · have : s1.1 0 24 = 0 := w
            omega
          · omega)
        refine ⟨s2, ?_, rfm_tr (rfm_tr f0 g2) k2, k3, k4⟩
        rw [xw_if_f h2, xw_let_e, xw_jn_e]
        exact g1.trans k1
theorem r_i8 (fu : Nat) (q : Int) (K : xw_S → Option (xw_S × Int)) : ∀ (dd k n : Nat) (s : xw_S), k + dd = 121 → dd < n → (∀ p, p < k → s.1 15 p = -1 ∧ s.2 p = 0) → ∃ s', lp_MD_explore_8 fu q K n s (k : Int) = K s' ∧ rfm (fun i _ => i = 15) s s' ∧ ∀ p, p < 121 → s'.1 15 p = -1 ∧ s'.2 p = 0 := by
  intro dd
  induction dd with
  | zero =>
    intro k n s hk hn h
    obtain ⟨n, rfl⟩ : ∃ n', n = n' + 1 := ⟨n - 1, by omega⟩
    rw [lp_MD_explore_8, xw_grd_t ⟨by omega, by omega⟩, xw_if_t (by omega)]
    exact ⟨s, rfl, rfm_rf _ _, fun p hp => h p (by omega)⟩
  | succ dd ih =>
    intro k n s hk hn h
    obtain ⟨n, rfl⟩ : ∃ n', n = n' + 1 := ⟨n - 1, by omega⟩
    obtain ⟨s', g1, g2, g3⟩ := ih (k + 1) n (xw_sL (xw_st s 15 k (-1)) k 0) (by omega) (by omega) (fun p hp => by
      show (xw_st s 15 k (-1)).1 15 p = -1 ∧ (if p = k then (0 : Int64) else s.2 p) = 0
      by_cases hpk : p = k
      · subst hpk
        rw [st_s, if_pos rfl]
        exact ⟨rfl, rfl⟩
      · rw [st_k hpk, if_neg hpk]
        exact h p (by omega))
    rw [lp_MD_explore_8, xw_grd_t ⟨by omega, by omega⟩, xw_if_f (by omega), xw_grd_t (by omega), xw_let_e, xw_let_e, xw_let_e, Int.toNat_natCast]
    refine ⟨s', g1, ?_, g3⟩
    intro i j hi
    rw [g2 i j hi]
    show (xw_st s 15 k (-1)).1 i j = _
    exact st_i hi
theorem z_hl3 : ∀ n : Nat, n < 3 → xw_hl 1 (n : Int) - 1 = ((2 ^ n - 1 : Nat) : Int) ∧ 2 ^ n - 1 < 64 := by decide +kernel
theorem q_MDex (fu : Nat) (hfu : 10000 ≤ fu) {s : xw_S} (hW : m_W M me) (hK : r_K M A me q s) : ∃ s' r S, f_MD_explore fu s (q : Int) = some (s', r) ∧ rfm (fun i k => S_rx i k ∨ i = 14) s s' ∧ m_EX M A (s'.1 15) S r ∧ (∀ p, p < ML M → -1 ≤ s'.1 15 p ∧ s'.1 15 p ≤ 8) ∧ ∀ p, p < ML M → s'.1 14 p = if m_bg (Mc M) p then 1 else 0 := by
  have hK' := hK
  obtain ⟨⟨hq, hL, hlen, hcode, hc⟩, hH, h3, h5, hm, hA⟩ := hK'
  have hW2 := hW.2.1
  have hW1 := hW.1
  obtain ⟨s1, a1, a2, a3, a4⟩ := q_dv fu q (by omega) hq (Mc M) (ML M) hL hc s hlen hcode
  obtain ⟨s2, b1, b2, b3⟩ := r_i8 fu (q : Int) (fun (s14 : xw_S) => xw_let (xw_st s14 0 23 1) (fun s15 => xw_let (xw_st s15 0 24 1) (fun s17 => xw_grd ((0 ≤ (q : Int) ∧ (q : Int) < ((12 : Nat) : Int))) (xw_bnd (f_MD_reach fu s17 (q : Int) 0 0 (xw_Lhl (1 : Int64) ((xw_hl 1 (s17.1 3 ((q : Int)).toNat)) - 1))) (fun s20 => xw_jn (fun (s46 : xw_S) => xw_grd ((s46.1 0 23 = 0 ∨ s46.1 0 23 = 1)) (some (s46, s46.1 0 23)))
 (fun (k125 : xw_S → Option (xw_S × Int)) => lp_MD_explore_63 fu (q : Int) k125 fu s20)))))) 121 0 fu s1 (by omega) (by omega) (fun p hp => by omega)
  have f1 : rfm (fun i k => S_rx i k ∨ i = 14) s (xw_st (xw_st s2 0 23 1) 0 24 1) := by
    intro i k h
    have h' : ¬ (S_rx i k) := fun z => h (Or.inl z)
    unfold S_rx at h'
    rw [st_e, if_neg (by omega), st_e, if_neg (by omega), b2 i k (by omega), a2.2 i k (by unfold S_14; exact fun z => h (Or.inr z))]
  have e1 : ∀ p, p < 121 → (xw_st (xw_st s2 0 23 1) 0 24 1).1 15 p = -1 ∧ (xw_st (xw_st s2 0 23 1) 0 24 1).2 p = 0 := fun p hp => by
    rw [st_i (by omega), st_i (by omega)]
    exact b3 p hp
  have e2 : (xw_st (xw_st s2 0 23 1) 0 24 1).1 0 23 = 1 := by rw [st_k (by omega), st_s]
  have e3 : (xw_st (xw_st s2 0 23 1) 0 24 1).1 0 24 = 1 := st_s _ _ _ _
  have hK6 := r_K_f hK f1
  have e14 : ∀ p, p < ML M → (xw_st (xw_st s2 0 23 1) 0 24 1).1 14 p = if m_bg (Mc M) p then 1 else 0 := fun p hp => by
    rw [st_i (by decide), st_i (by decide), b2 14 p (by show ¬ (14 = 15); decide)]
    exact (a4 hW.2.2.1).1 p hp
  have hD6 : r_D M (xw_st (xw_st s2 0 23 1) 0 24 1) := by
    refine ⟨fun p hp => ?_, by rw [e2]; exact Or.inr rfl, by rw [e3]; exact Or.inr rfl⟩
    have z := e1 p (by omega)
    rw [z.1, z.2]
    exact ⟨by omega, by omega, fun _ => rfl, fun y => by omega⟩
  have eA : f_MD_explore fu s (q : Int) = (xw_let (xw_st s2 0 23 1) (fun s15 => xw_let (xw_st s15 0 24 1) (fun s17 => xw_grd ((0 ≤ (q : Int) ∧ (q : Int) < ((12 : Nat) : Int))) (xw_bnd (f_MD_reach fu s17 (q : Int) 0 0 (xw_Lhl (1 : Int64) ((xw_hl 1 (s17.1 3 ((q : Int)).toNat)) - 1))) (fun s20 => xw_jn (fun (s46 : xw_S) => xw_grd ((s46.1 0 23 = 0 ∨ s46.1 0 23 = 1)) (some (s46, s46.1 0 23)))
 (fun (k125 : xw_S → Option (xw_S × Int)) => lp_MD_explore_63 fu (q : Int) k125 fu s20)))))) := by
    unfold f_MD_explore
    rw [xw_bn2_e a1, xw_jn_e]
    exact b1
  rw [eA, xw_let_e, xw_let_e, xw_grd_t (by omega), Int.toNat_natCast]
  generalize xw_st (xw_st s2 0 23 1) 0 24 1 = s6 at *
  have eP := z_hl3 (Ma M).toNat (by omega)
  rw [show (((Ma M).toNat : Nat) : Int) = Ma M by omega] at eP
  rw [hK6.2.2.1, eP.1]
  have hpl : m_pl (Mc M) (ML M) 0 := ⟨by omega, by omega, rfl⟩
  have hneg : s6.1 15 (0 : Int).toNat < 0 := by
    have := (e1 (0 : Int).toNat (by decide)).1
    omega
  obtain ⟨s8, h1, h2, h3, h4⟩ := r_rc fu hK6 hD6 (by omega) (t := 0) (e := 0) (Q := xw_Lhl (1 : Int64) ((2 ^ (Ma M).toNat - 1 : Nat) : Int)) (by omega) (fun _ => hpl) (by omega)
  have e8 := Option.some.inj (h1.symm.trans (r_rc_new fu hK6 hD6 (by omega) hpl (by omega) hneg))
  have x1 : s8.1 15 (0 : Int).toNat = 0 := by
    rw [e8]
    show (xw_st (xw_st s6 0 24 1) 15 (0 : Int).toNat 0).1 15 (0 : Int).toNat = 0
    exact st_s _ _ _ _
  have x2 : s8.2 (0 : Int).toNat = (s6.2 (0 : Int).toNat ||| xw_Lhl (1 : Int64) ((2 ^ (Ma M).toNat - 1 : Nat) : Int)) := by
    rw [e8]
    show (if (0 : Int).toNat = (0 : Int).toNat then (s6.2 (0 : Int).toNat ||| xw_Lhl (1 : Int64) ((2 ^ (Ma M).toNat - 1 : Nat) : Int)) else s6.2 (0 : Int).toNat) = _
    exact if_pos rfl
  have x3 : s8.1 0 24 = 1 := by
    rw [e8]
    show (xw_st (xw_st s6 0 24 1) 15 (0 : Int).toNat 0).1 0 24 = 1
    rw [st_i (by omega), st_s]
  have x4 : s8.1 0 23 = 1 := by
    rw [e8]
    show (xw_st (xw_st s6 0 24 1) 15 (0 : Int).toNat 0).1 0 23 = 1
    rw [st_i (by omega), st_k (by omega)]
    exact e2
  have hQ : m_Q M A (r_v M s8) := by
    refine m_EX0 (v0 := r_v M s6) (fun p hp => ?_) e2 (r_S (xw_Lhl (1 : Int64) ((2 ^ (Ma M).toNat - 1 : Nat) : Int))) ?_ (m_O_wk h4 (fun d S _ hy => ⟨hy, by omega⟩) (fun hx => hx.1)) hpl x1 ?_ x4 x3
    · have := (e1 p (by omega)).1
      show s6.1 15 p < 0
      omega
    · intro n
      have tb : (2 ^ (Ma M).toNat - 1).testBit n = true ↔ (n : Int) < Ma M := by
        rw [Nat.testBit_two_pow_sub_one, decide_eq_true_eq]
        omega
      rw [← tb]
      constructor
      · intro z
        exact z _ eP.2 (by rw [lb_hl _ eP.2 _ eP.2]; exact decide_eq_true rfl)
      · intro z i hi hx
        rw [lb_hl _ eP.2 i hi, decide_eq_true_eq] at hx
        rw [hx]
        exact z
    · intro n hn
      have hn' : r_S (s8.2 (0 : Int).toNat) n := hn
      rw [x2, r_S_or] at hn'
      exact hn'.2
  have hmu : (r_v M s8).2.2.2.2 + 1 < fu := by
    have y := m_sum_le (f := fun p => if 0 ≤ s8.1 15 p then m_zc (s8.2 p) else 65) (a := 65) (ML M) (fun p _ => by
      have := m_zc_le (s8.2 p)
      split <;> omega)
    have y2 : (r_v M s8).2.2.2.2 = m_sum (fun p => if 0 ≤ s8.1 15 p then m_zc (s8.2 p) else 65) (ML M) := rfl
    omega
  rw [xw_bnd_e h1, xw_jn_e]
  obtain ⟨s9, k1, k2, k3, k4⟩ := r_outer fu (by omega) hW (fun (s46 : xw_S) => xw_grd ((s46.1 0 23 = 0 ∨ s46.1 0 23 = 1)) (some (s46, s46.1 0 23))) fu s8 (by omega) (r_K_e hK6 h2) h3 hQ (fun _ => hmu)
  refine ⟨s9, s9.1 0 23, (r_v M s9).2.1, ?_, ?_, k4, fun p hp => ?_, fun p hp => ?_⟩
  · rw [k1]
    exact xw_grd_t k3.2.1
  · exact rfm_tr f1 (rfm_mono (rfm_tr h2 k2) (fun _ _ z => Or.inl z))
  · have := k3.1 p hp
    omega
  · rw [k2 _ _ (by unfold S_rx; omega), h2 _ _ (by unfold S_rx; omega)]
    exact e14 p hp
end
