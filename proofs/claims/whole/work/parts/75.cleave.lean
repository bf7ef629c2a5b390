/-! 75: leave does what a closed solution asks of its place -/
def m_hX (M : m_M) (p : Nat) (P : Nat → Prop) (k : Nat) (d : Nat → Int) (S : Nat → Nat → Prop) : Prop := ∀ i, k ≤ i → i < MN M → m_cov M i p → m_ar (Mc M) (ML M) d S (Mh M (4 * i + 2)) 1 P
theorem m_hX_s {M : m_M} {p : Nat} {P : Nat → Prop} {k : Nat} {d : Nat → Int} {S : Nat → Nat → Prop} (h1 : m_cov M k p → m_ar (Mc M) (ML M) d S (Mh M (4 * k + 2)) 1 P) (h2 : m_hX M p P (k + 1) d S) : m_hX M p P k d S := by
  intro i hi hN hc
  by_cases hk : i = k
  · subst hk; exact h1 hc
  · exact h2 i (by omega) hN hc
theorem c_l197 (fu : Nat) {M : m_M} {A : Nat → Int} {me : Int} {b a : Nat} {p : Nat} (hp : p < 120) (hMs : 1 ≤ Ms M) {P : Int} (hP : 0 ≤ P ∧ P < 64) : ∀ (dd k n : Nat) (s : xw_S), k + dd = MN M → MN M ≤ 5 → dd < n → c_K M A me b a s → c_D M b s → c_R M b s (lp_FL_leave_197 fu b a (p : Int) P (fun s83 => some s83) n s (k : Int)) (m_hX M p (fun n => P.toNat.testBit n = true) k) := by
  intro dd
  induction dd with
  | zero =>
    intro k n s hk hN hn hK hD
    obtain ⟨n, rfl⟩ : ∃ n', n = n' + 1 := ⟨n - 1, by omega⟩
    have hH := hK.2.2.1
    rw [lp_FL_leave_197, hH.2.2.1, xw_grd_t ⟨⟨by omega, by omega⟩, ⟨by omega, by omega⟩⟩, xw_if_t (by omega)]
    exact ⟨s, rfl, frm_rf _ _, hD, m_O_id (Or.inr (fun i h1 h2 => by omega))⟩
  | succ dd ih =>
    intro k n s hk hN hn hK hD
    obtain ⟨n, rfl⟩ : ∃ n', n = n' + 1 := ⟨n - 1, by omega⟩
    have hH := hK.2.2.1
    have hr := hH.2.2.2.2 (4 * k + 2) (by omega)
    rw [lp_FL_leave_197, hH.2.2.1, xw_grd_t ⟨⟨by omega, by omega⟩, ⟨by omega, by omega⟩⟩, xw_if_f (by omega), xw_bn2_e (q_covers fu hH (by omega) ⟨by omega, by omega⟩), xw_jn_e]
    by_cases hc : m_cov M k p
    · have p2 : f_B_part fu s b (k : Int) 2 = some (s, Mh M (4 * k + 2)) := q_part fu hH (by omega) (w := 2) (by omega)
      rw [if_pos (show Mh M (4 * k) ≤ (p : Int) ∧ (p : Int) < Mh M (4 * k + 1) from hc), xw_grd_t (by decide), xw_if_f (by decide), xw_bn2_e p2]
      refine c_R_wk (c_R_b (Y := m_hX M p (fun n => P.toNat.testBit n = true) (k + 1)) (c_ar fu hK hD ⟨by omega, by omega⟩ (by omega) hP) ?_) ?_ ?_
      · intro s' hf hD'
        exact ih (k + 1) n s' (by omega) hN (by omega) (c_K_f hK hf) hD'
      · intro d S _ hy
        exact ⟨hy k (Nat.le_refl _) (by omega) hc, fun i h1 h2 h3 => hy i (by omega) h2 h3⟩
      · intro hx
        exact m_hX_s (fun _ => hx.1) hx.2
    · rw [if_neg (show ¬ (Mh M (4 * k) ≤ (p : Int) ∧ (p : Int) < Mh M (4 * k + 1)) from hc), xw_grd_t (by decide), xw_if_t rfl]
      refine c_R_wk (ih (k + 1) n s (by omega) hN (by omega) hK hD) ?_ ?_
      · intro d S _ hy i h1 h2 h3
        exact hy i (by omega) h2 h3
      · intro hx
        exact m_hX_s (fun z => absurd z hc) hx
theorem c_l194 (fu : Nat) (hfu : 1000 ≤ fu) {M : m_M} {A : Nat → Int} {me : Int} {b a : Nat} {s : xw_S} (hK : c_K M A me b a s) (hD : c_D M b s) {p : Nat} (hp : p < 120) (hMs : 1 ≤ Ms M) (hN : MN M ≤ 5) {P : Int} (hP : 0 ≤ P ∧ P < 64) : c_R M b s (k_l194 fu b a (p : Int) s P) (m_hX M p (fun n => P.toNat.testBit n = true) 0) :=
  c_l197 fu hp hMs hP (MN M) 0 fu s (by omega) hN (by omega) hK hD
theorem c_l170 (fu : Nat) (hfu : 1000 ≤ fu) {M : m_M} {A : Nat → Int} {me : Int} {b a : Nat} {s : xw_S} (hK : c_K M A me b a s) (hD : c_D M b s) {p : Nat} (hp : p < ML M) (hMs : 1 ≤ Ms M) (hN : MN M ≤ 5) {P e Q : Int} (hP : 0 ≤ P ∧ P < 64) (hQ : 0 ≤ Q ∧ Q < 64) (he : 0 ≤ e ∧ e ≤ 8 ∧ e ≤ Ms M) : c_R M b s (k_l170 fu b a (p : Int) s (Mc M p) P e Q) (fun d S => (q_br (Mc M p) → m_ar (Mc M) (ML M) d S ((p : Int) + m_way (Mc M) (ML M) p) e (fun n => Q.toNat.testBit n = true)) ∧ m_hX M p (fun n => P.toNat.testBit n = true) 0 d S) := by
  have hB := hK.2.1
  have hL := hB.2.1
  have hcap := xb_cap_le b
  have hc := hB.2.2.2.2
  have hcp := hc p hp
  have hw := m_way_r hc (p : Int)
  unfold k_l170
  rw [xw_bn2_e (q_OPbr fu s ⟨by omega, by omega⟩), xw_jn_e]
  by_cases hb : q_br (Mc M p)
  · rw [if_pos hb, xw_grd_t (by decide), xw_if_f (by decide), xw_bn2_e (q_wayAt fu hB ⟨by omega, by omega⟩)]
    refine c_R_wk (c_R_b (Y := m_hX M p (fun n => P.toNat.testBit n = true) 0) (c_ar fu hK hD (t := (p : Int) + m_way (Mc M) (ML M) p) ⟨by omega, by omega⟩ he hQ) ?_) ?_ ?_
    · intro s' hf hD'
      exact c_l194 fu hfu (c_K_f hK hf) hD' (by omega) hMs hN hP
    · intro d S _ hy
      exact ⟨hy.1 hb, hy.2⟩
    · intro hx
      exact ⟨fun _ => hx.1, hx.2⟩
  · rw [if_neg hb, xw_grd_t (by decide), xw_if_t rfl]
    refine c_R_wk (c_l194 fu hfu hK hD (p := p) (by omega) hMs hN hP) ?_ ?_
    · intro d S _ hy
      exact hy.2
    · intro hx
      exact ⟨fun z => absurd z hb, hx⟩
theorem c_l144 (fu : Nat) (hfu : 1000 ≤ fu) {M : m_M} {A : Nat → Int} {me : Int} {b a : Nat} {s : xw_S} (hK : c_K M A me b a s) (hD : c_D M b s) {p : Nat} (hp : p < ML M) (hMs : 1 ≤ Ms M) (hN : MN M ≤ 5) {P e Q : Int} (hP : 0 ≤ P ∧ P < 64) (hQ : 0 ≤ Q ∧ Q < 64) (he : 0 ≤ e ∧ e ≤ 8 ∧ e ≤ Ms M) : c_R M b s (k_l144 fu b a (p : Int) s (Mc M p) P e Q) (fun d S => (¬ q_en (Mc M p) → m_ar (Mc M) (ML M) d S ((p : Int) + q_sz (Mc M p)) e (fun n => Q.toNat.testBit n = true)) ∧ (q_br (Mc M p) → m_ar (Mc M) (ML M) d S ((p : Int) + m_way (Mc M) (ML M) p) e (fun n => Q.toNat.testBit n = true)) ∧ m_hX M p (fun n => P.toNat.testBit n = true) 0 d S) := by
  have hB := hK.2.1
  have hL := hB.2.1
  have hcap := xb_cap_le b
  have hc := hB.2.2.2.2
  have hcp := hc p hp
  have hsz := q_sz_r (Mc M p)
  unfold k_l144
  rw [xw_bn2_e (q_OPgo fu s ⟨by omega, by omega⟩), xw_jn_e]
  by_cases hb : q_en (Mc M p)
  · rw [if_pos hb, xw_grd_t (by decide), xw_if_t rfl]
    refine c_R_wk (c_l170 fu hfu hK hD hp hMs hN hP hQ he) ?_ ?_
    · intro d S _ hy
      exact hy.2
    · intro hx
      exact ⟨fun z => absurd hb z, hx⟩
  · rw [if_neg hb, xw_grd_t (by decide), xw_if_f (by decide), xw_bn2_e (q_OPsize fu s ⟨by omega, by omega⟩)]
    refine c_R_wk (c_R_b (Y := fun d S => (q_br (Mc M p) → m_ar (Mc M) (ML M) d S ((p : Int) + m_way (Mc M) (ML M) p) e (fun n => Q.toNat.testBit n = true)) ∧ m_hX M p (fun n => P.toNat.testBit n = true) 0 d S) (c_ar fu hK hD (t := (p : Int) + q_sz (Mc M p)) ⟨by omega, by omega⟩ he hQ) ?_) ?_ ?_
    · intro s' hf hD'
      exact c_l170 fu hfu (c_K_f hK hf) hD' hp hMs hN hP hQ he
    · intro d S _ hy
      exact ⟨hy.1 hb, hy.2⟩
    · intro hx
      exact ⟨fun _ => hx.1, hx.2⟩
theorem m_ar_mono {c : Nat → Int} {L : Nat} {d : Nat → Int} {S : Nat → Nat → Prop} {t e : Int} {T T' : Nat → Prop} (h : m_ar c L d S t e T) (hT : ∀ n, T n → T' n) : m_ar c L d S t e T' := ⟨h.1, h.2.1, fun n z => hT n (h.2.2 n z)⟩
theorem c_l97 (fu : Nat) (hfu : 1000 ≤ fu) {M : m_M} {A : Nat → Int} {me : Int} {b a : Nat} {s : xw_S} (hK : c_K M A me b a s) (hD : c_D M b s) (hW : m_W M me) {p : Nat} (hp : p < ML M) (hbg : m_bg (Mc M) p) (hd0 : 0 ≤ s.1 (50 + 4 * b) p) (htk : 0 ≤ m_tk M A p ∧ m_tk M A p ≤ 2) {t : Int} (ht : t = if (Mc M p = 2 ∨ Mc M p = 16) ∧ ¬ (s.1 9 p).toNat.testBit (m_nu M p).toNat = true then 1 else 0) : c_R M b s (k_l97 fu b a (p : Int) s (Mc M p) (m_nu M p) (s.1 9 p) (m_tk M A p) (s.1 (50 + 4 * b) p) (s.1 (50 + 4 * b) p - m_tk M A p + q_pt (Mc M p)) t) (fun d S => m_ok M A d S p) := by
  have hB := hK.2.1
  have hL := hB.2.1
  have hcap := xb_cap_le b
  have hc := hB.2.2.2.2
  have hcp := hc p hp
  have h7 := hK.2.2.2.2.1
  have hW2 := hW.2.1
  have hN := hW.1.2.2
  have hdp := (hD.1 p hp).1 hbg
  have hgp := hD.2.1 p (by omega)
  have hpt : 0 ≤ q_pt (Mc M p) ∧ q_pt (Mc M p) ≤ 2 := by
    unfold q_pt
    repeat' split
    all_goals omega
  have hwp := hW.2.2.2.1 p hp hbg
  have hnu : 0 ≤ m_nu M p ∧ m_nu M p ≤ 255 := m_at_r hc _
  have ev : (c_v M b s).1 p = s.1 (50 + 4 * b) p := rfl
  unfold k_l97
  rw [xw_jn_e, h7, xw_grd_t ⟨⟨by omega, by omega⟩, ⟨by omega, by omega⟩⟩]
  by_cases h1 : s.1 (50 + 4 * b) p < m_tk M A p
  · rw [xw_if_t h1]
    refine c_bad hD (fun d S hl hx => ?_)
    have x := (hl p hp hd0).1
    have y := hx.1.2.1
    omega
  · rw [xw_if_f h1, xw_grd_t ⟨⟨by omega, by omega⟩, ⟨by omega, by omega⟩⟩]
    by_cases h2 : Ms M < s.1 (50 + 4 * b) p - m_tk M A p + q_pt (Mc M p)
    · rw [xw_if_t h2]
      refine c_bad hD (fun d S hl hx => ?_)
      have x := (hl p hp hd0).1
      have y := hx.1.2.2.1
      unfold m_af at y
      omega
    · rw [xw_if_f h2]
      by_cases h3 : (Mc M p = 2 ∨ Mc M p = 16) ∧ ¬ (s.1 9 p).toNat.testBit (m_nu M p).toNat = true
      · rw [if_pos h3] at ht
        subst ht
        rw [xw_grd_t (by decide), xw_if_f (by decide)]
        refine c_bad hD (fun d S hl hx => ?_)
        exact h3.2 ((hl p hp hd0).2 _ (hx.1.2.2.2 h3.1))
      · rw [if_neg h3] at ht
        subst ht
        have eaf : ∀ d : Nat → Int, d p = s.1 (50 + 4 * b) p → m_af M A d p = s.1 (50 + 4 * b) p - m_tk M A p + q_pt (Mc M p) := fun d hd => by unfold m_af; rw [hd]
        have main : ∀ Q : Int, 0 ≤ Q ∧ Q < 64 → (∀ n, Q.toNat.testBit n = true ↔ m_T M (c_v M b s).2.1 p n) → c_R M b s (k_l144 fu b a (p : Int) s (Mc M p) (s.1 9 p) (s.1 (50 + 4 * b) p - m_tk M A p + q_pt (Mc M p)) Q) (fun d S => m_ok M A d S p) := by
          intro Q hQ hQT
          refine c_R_wk (c_l144 fu hfu hK hD hp (by omega) hN hgp hQ (by omega)) ?_ ?_
          · intro d S hl hy
            have x := hl p hp hd0
            have e := eaf d x.1
            obtain ⟨y1, y2, y3, y4⟩ := hy
            rw [e] at y2 y3
            have hT : ∀ n, m_T M S p n → Q.toNat.testBit n = true := fun n z => (hQT n).2 (z.imp (fun w => x.2 n w) id)
            exact ⟨fun z => m_ar_mono (y2 z) hT, fun z => m_ar_mono (y3 z) hT, fun i _ h2 h3 => m_ar_mono (y4 i h2 h3) (fun n z => x.2 n z)⟩
          · intro hx
            obtain ⟨x1, x2, x3⟩ := hx
            have e := eaf (c_v M b s).1 rfl
            refine ⟨⟨by omega, by omega, by omega, fun z => ?_⟩, fun z => ?_, fun z => ?_, fun i h4 h5 => x3 i (Nat.zero_le _) h4 h5⟩
            · apply Classical.byContradiction
              intro hb
              exact h3 ⟨z, hb⟩
            · rw [e]; exact m_ar_mono (x1 z) (fun n w => (hQT n).1 w)
            · rw [e]; exact m_ar_mono (x2 z) (fun n w => (hQT n).1 w)
        rw [xw_grd_t (by decide), xw_if_t rfl, xw_jn_e, xw_grd_t ⟨by omega, by omega⟩]
        by_cases h4 : Mc M p = 3
        · rw [xw_if_t h4]
          have hn6 := hwp.2.1 (by omega)
          have eo := z_or (s.1 9 p).toNat (by omega) (m_nu M p).toNat (by omega)
          have eo2 := z_or_lt (s.1 9 p).toNat (by omega) (m_nu M p).toNat (by omega)
          rw [show (((s.1 9 p).toNat : Nat) : Int) = s.1 9 p by omega, show (((m_nu M p).toNat : Nat) : Int) = m_nu M p by omega] at eo
          rw [eo]
          refine main _ (by omega) (fun n => ?_)
          rw [Int.toNat_natCast, Nat.testBit_or, Nat.testBit_two_pow, Bool.or_eq_true, decide_eq_true_eq]
          unfold m_T
          constructor
          · exact fun z => z.imp id (fun w => ⟨h4, by omega⟩)
          · exact fun z => z.imp id (fun w => by omega)
        · rw [xw_if_f h4]
          refine main _ hgp (fun n => ⟨Or.inl, fun z => z.elim id (fun w => absurd w.1 h4)⟩)
theorem c_lv (fu : Nat) (hfu : 1000 ≤ fu) {M : m_M} {A : Nat → Int} {me : Int} {b a : Nat} {s : xw_S} (hK : c_K M A me b a s) (hD : c_D M b s) (hW : m_W M me) {p : Nat} (hp : p < ML M) (hbg : m_bg (Mc M) p) (hd0 : 0 ≤ s.1 (50 + 4 * b) p) : c_R M b s (f_FL_leave fu s b (p : Int) a) (fun d S => m_ok M A d S p) := by
  have hB := hK.2.1
  have hL := hB.2.1
  have hcap := xb_cap_le b
  have hc := hB.2.2.2.2
  have hcp := hc p hp
  have hwp := hW.2.2.2.1 p hp hbg
  have hgp := hD.2.1 p (by omega)
  have hnu : 0 ≤ m_nu M p ∧ m_nu M p ≤ 255 := m_at_r hc _
  have htk : 0 ≤ m_tk M A p ∧ m_tk M A p ≤ 2 := by
    unfold m_tk
    by_cases h13 : Mc M p = 13
    · rw [if_pos h13]
      exact (hK.2.2.2.2.2.2 (m_nu M p).toNat (by have := hwp.2.2 h13; omega)).2
    · rw [if_neg h13]
      unfold q_tk
      repeat' split
      all_goals omega
  have h46 : c_R M b s (k_l46 fu b a (p : Int) s (Mc M p) (m_nu M p) (s.1 9 p) (m_tk M A p)) (fun d S => m_ok M A d S p) := by
    unfold k_l46
    rw [xw_grd_t (by omega), xw_let_e, xw_bn2_e (q_OPputs fu s ⟨by omega, by omega⟩), xw_let_e, xw_jn_e, xw_jn_e, xw_jn_e, xw_grd_t ⟨by omega, by omega⟩, Int.toNat_natCast]
    have br : (Mc M p = 2 ∨ Mc M p = 16) → c_R M b s (xw_grd (xw_r (xw_an (xw_hr (s.1 9 p) (m_nu M p)) 1)) (xw_if (xw_an (xw_hr (s.1 9 p) (m_nu M p)) 1 = 0) (k_l97 fu b a (p : Int) s (Mc M p) (m_nu M p) (s.1 9 p) (m_tk M A p) (s.1 (50 + 4 * b) p) (s.1 (50 + 4 * b) p - m_tk M A p + q_pt (Mc M p)) 1) (k_l97 fu b a (p : Int) s (Mc M p) (m_nu M p) (s.1 9 p) (m_tk M A p) (s.1 (50 + 4 * b) p) (s.1 (50 + 4 * b) p - m_tk M A p + q_pt (Mc M p)) 0))) (fun d S => m_ok M A d S p) := by
      intro h2
      have hW2 := hW.2.1
      have hn6 := hwp.2.1 (by omega)
      have eh := z_hr (s.1 9 p).toNat (by omega) (m_nu M p).toNat (by omega)
      rw [show (((s.1 9 p).toNat : Nat) : Int) = s.1 9 p by omega, show (((m_nu M p).toNat : Nat) : Int) = m_nu M p by omega] at eh
      rw [eh]
      by_cases hb : (s.1 9 p).toNat.testBit (m_nu M p).toNat = true
      · rw [if_pos hb, xw_grd_t (by decide), xw_if_f (by decide)]
        exact c_l97 fu hfu hK hD hW hp hbg hd0 htk (by rw [if_neg (fun z => z.2 hb)])
      · rw [if_neg hb, xw_grd_t (by decide), xw_if_t rfl]
        exact c_l97 fu hfu hK hD hW hp hbg hd0 htk (by rw [if_pos ⟨h2, hb⟩])
    by_cases h2 : Mc M p = 2
    · rw [xw_if_t h2]
      exact br (Or.inl h2)
    · rw [xw_if_f h2]
      by_cases h3 : Mc M p = 16
      · rw [xw_if_t h3]
        exact br (Or.inr h3)
      · rw [xw_if_f h3]
        exact c_l97 fu hfu hK hD hW hp hbg hd0 htk (by rw [if_neg (fun z => z.1.elim h2 h3)])
  rw [k_leave, xw_bn2_e (q_byteAt fu hB ⟨by omega, by omega⟩), m_at_in hp, xw_bn2_e (q_byteAt fu hB ⟨by omega, by omega⟩), xw_grd_t (by omega), xw_let_e, xw_jn_e, xw_grd_t ⟨by omega, by omega⟩]
  by_cases h13 : Mc M p = 13
  · have hn := hwp.2.2 h13
    have hme := hK.2.2.2.2.2.1
    have hA := hK.2.2.2.2.2.2 (m_nu M p).toNat (by omega)
    have etk : m_tk M A p = A (m_nu M p).toNat := by unfold m_tk; rw [if_pos h13]
    rw [etk, ← hA.1] at h46
    rw [xw_if_t h13]
    refine (congrArg (fun e => c_R M b s e (fun d S => m_ok M A d S p)) (xw_grd_t ?_)).mpr h46
    exact (by unfold m_nu at hn hnu; omega)
  · have etk : m_tk M A p = q_tk (Mc M p) := by unfold m_tk; rw [if_neg h13]
    rw [etk] at h46
    rw [xw_if_f h13, xw_bn2_e (q_OPtakes fu s ⟨by omega, by omega⟩)]
    exact h46
