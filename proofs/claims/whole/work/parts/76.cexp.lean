/-! 76: the class's explore -/
theorem c_round (fu : Nat) (hfu : 1000 ≤ fu) {M : m_M} {A : Nat → Int} {me : Int} {b a : Nat} (hW : m_W M me) (r : Int) (K : xw_S → Int → Option (xw_S × Int)) : ∀ (dd k n : Nat) (s : xw_S), k + dd = ML M → dd < n → c_K M A me b a s → c_D M b s → ∃ s', lp_FL_explore_61 fu b a r K n s (k : Int) = K s' r ∧ frm (S_ex b) s s' ∧ c_D M b s' ∧ m_O (ML M) (c_v M b s) (c_v M b s') (m_rX M A k) := by
  intro dd
  induction dd with
  | zero =>
    intro k n s hk hn hK hD
    obtain ⟨n, rfl⟩ : ∃ n', n = n' + 1 := ⟨n - 1, by omega⟩
    have hB := hK.2.1
    have hL := hB.2.1
    have hcap := xb_cap_le b
    rw [lp_FL_explore_61, hB.2.2.1, xw_grd_t ⟨⟨by omega, by omega⟩, ⟨by omega, by omega⟩⟩, xw_if_t (by omega)]
    exact ⟨s, rfl, frm_rf _ _, hD, m_O_id (Or.inr (fun p h1 h2 => by omega))⟩
  | succ dd ih =>
    intro k n s hk hn hK hD
    obtain ⟨n, rfl⟩ : ∃ n', n = n' + 1 := ⟨n - 1, by omega⟩
    have hB := hK.2.1
    have hL := hB.2.1
    have hcap := xb_cap_le b
    have hsn := hD.2.2.1
    rw [lp_FL_explore_61, hB.2.2.1, xw_grd_t ⟨⟨by omega, by omega⟩, ⟨by omega, by omega⟩⟩, xw_if_f (by omega), xw_grd_t ⟨by omega, by omega⟩]
    by_cases hs : s.1 8 2 = 0
    · rw [xw_if_t hs]
      exact ⟨s, rfl, frm_rf _ _, hD, m_O_id (Or.inl hs)⟩
    · rw [xw_if_f hs, xw_bn2_e (q_reached fu hB (c_dr hD) ⟨by omega, by omega⟩), xw_jn_e, Int.toNat_natCast]
      by_cases hr : 0 ≤ s.1 (50 + 4 * b) k
      · have hbg : m_bg (Mc M) k := by
          apply Classical.byContradiction
          intro hb
          have := (hD.1 k (by omega)).2 hb
          omega
        obtain ⟨s1, h1, h2, h3, h4⟩ := c_lv fu hfu hK hD hW (p := k) (by omega) hbg hr
        obtain ⟨s2, g1, g2, g3, g4⟩ := ih (k + 1) n s1 (by omega) (by omega) (c_K_f hK h2) h3
        rw [if_pos ⟨by omega, by omega, hr⟩, xw_grd_t (by decide), xw_if_f (by decide), xw_bnd_e h1]
        refine ⟨s2, g1, frm_tr h2 g2, g3, m_O_wk (m_O_comp h4 g4) ?_ ?_⟩
        · intro d S hl hy
          refine ⟨hy k (Nat.le_refl _) (by omega) ?_, fun p q1 q2 q3 => hy p (by omega) q2 q3⟩
          rw [(hl k (by omega) hr).1]
          exact hr
        · intro hx
          exact m_rX_s ⟨fun _ => hx.1, hx.2⟩
      · obtain ⟨s2, g1, g2, g3, g4⟩ := ih (k + 1) n s (by omega) (by omega) hK hD
        rw [if_neg (fun z => hr z.2.2), xw_grd_t (by decide), xw_if_t rfl]
        refine ⟨s2, g1, g2, g3, m_O_wk g4 ?_ ?_⟩
        · intro d S hl hy p q1 q2 q3
          exact hy p (by omega) q2 q3
        · intro hx
          exact m_rX_s ⟨fun z => absurd z hr, hx⟩
theorem c_outer (fu : Nat) (hfu : 1000 ≤ fu) {M : m_M} {A : Nat → Int} {me : Int} {b a : Nat} (hW : m_W M me) (K : xw_S → Option (xw_S × Int)) : ∀ (dd i n : Nat) (s : xw_S), i + dd = 841 → dd < n → c_K M A me b a s → c_D M b s → m_Q M A (c_v M b s) → (s.1 8 1 = 1 → (c_v M b s).2.2.2.2 + i < 840) → ∃ s', lp_FL_explore_32 fu b a K n s (i : Int) = K s' ∧ frm (S_ex b) s s' ∧ c_D M b s' ∧ m_EX M A (c_v M b s').1 (c_v M b s').2.1 (s'.1 8 2) := by
  intro dd
  induction dd with
  | zero =>
    intro i n s hk hn hK hD hQ hm
    obtain ⟨n, rfl⟩ : ∃ n', n = n' + 1 := ⟨n - 1, by omega⟩
    rw [lp_FL_explore_32, xw_grd_t ⟨by omega, by omega⟩, xw_if_t (by omega)]
    refine ⟨s, rfl, frm_rf _ _, hD, m_Q_end hQ (Or.inr ?_)⟩
    rcases hD.2.2.2 with z | z
    · exact z
    · exact absurd (hm z) (by omega)
  | succ dd ih =>
    intro i n s hk hn hK hD hQ hm
    obtain ⟨n, rfl⟩ : ∃ n', n = n' + 1 := ⟨n - 1, by omega⟩
    have hsn := hD.2.2.1
    have hch := hD.2.2.2
    have hL := hK.2.1.2.1
    have hcap := xb_cap_le b
    rw [lp_FL_explore_32, xw_grd_t ⟨by omega, by omega⟩, xw_if_f (by omega), xw_grd_t ⟨by omega, by omega⟩]
    by_cases h1 : s.1 8 1 = 0
    · rw [xw_if_t h1]
      exact ⟨s, rfl, frm_rf _ _, hD, m_Q_end hQ (Or.inr h1)⟩
    · rw [xw_if_f h1, xw_grd_t ⟨by omega, by omega⟩]
      by_cases h2 : s.1 8 2 = 0
      · rw [xw_if_t h2]
        exact ⟨s, rfl, frm_rf _ _, hD, m_Q_end hQ (Or.inl h2)⟩
      · have e1 : (xw_st s 8 1 0).1 (50 + 4 * b) = s.1 (50 + 4 * b) := funext (fun k => st_i (by omega))
        have e2 : (xw_st s 8 1 0).1 9 = s.1 9 := funext (fun k => st_i (by omega))
        have e3 : (xw_st s 8 1 0).1 8 1 = 0 := st_s _ _ _ _
        have e4 : (xw_st s 8 1 0).1 8 2 = s.1 8 2 := st_k (by omega)
        have f0 : frm (S_ex b) s (xw_st s 8 1 0) := frm_st (Or.inr (Or.inr ⟨rfl, Or.inl rfl⟩))
        have hD0 : c_D M b (xw_st s 8 1 0) := by
          refine ⟨?_, ?_, ?_, ?_⟩
          · rw [e1]; exact hD.1
          · rw [e2]; exact hD.2.1
          · rw [e4]; exact hsn
          · rw [e3]; exact Or.inl rfl
        obtain ⟨s1, g1, g2, g3, g4⟩ := c_round fu hfu hW (i : Int) (fun (s36 : xw_S) (i3_100 : Int) => xw_let (i3_100 + 1) (fun v37 => lp_FL_explore_32 fu b a K n s36 v37)) (ML M) 0 fu (xw_st s 8 1 0) (by omega) (by omega) (c_K_f hK f0) hD0
        have st := m_Q_step hQ (show (c_v M b s).2.2.1 = 1 from by show s.1 8 2 = 1; omega) (v0 := c_v M b (xw_st s 8 1 0)) e1 (by unfold c_v; rw [e2]) e4 e3 (by unfold c_v; dsimp only; rw [e1, e2]) g4 g3.2.2.1 g3.2.2.2
        obtain ⟨s2, k1, k2, k3, k4⟩ := ih (i + 1) n s1 (by omega) (by omega) (c_K_f hK (frm_tr f0 g2)) g3 st.1 (fun z => by
          have hm1 := hm (by omega)
          rcases st.2 with w | w
          · have : s1.1 8 1 = 0 := w
            omega
          · omega)
        refine ⟨s2, ?_, frm_tr (frm_tr f0 g2) k2, k3, k4⟩
        rw [xw_if_f h2, xw_let_e, xw_jn_e]
        exact g1.trans k1
def m_gr (d : Nat → Int) : Nat → Int
  | 0 => 0
  | n + 1 => if m_gr d n < d n then d n else m_gr d n
theorem m_gr_r {d : Nat → Int} : ∀ n, (∀ p, p < n → d p ≤ 8) → 0 ≤ m_gr d n ∧ m_gr d n ≤ 8
  | 0, _ => by unfold m_gr; omega
  | n + 1, h => by
    have x := m_gr_r n (fun p hp => h p (by omega))
    have y := h n (by omega)
    unfold m_gr
    split <;> omega
theorem m_gr_e {d d' : Nat → Int} : ∀ n, (∀ p, p < n → (0 ≤ d p ∨ 0 ≤ d' p) → d p = d' p) → m_gr d n = m_gr d' n
  | 0, _ => rfl
  | n + 1, h => by
    have x := m_gr_e n (fun p hp => h p (by omega))
    have y := h n (by omega)
    have z : 0 ≤ m_gr d n := by
      clear x y h
      induction n with
      | zero => unfold m_gr; omega
      | succ k ih => unfold m_gr; split <;> omega
    unfold m_gr
    rw [← x]
    by_cases h1 : 0 ≤ d n ∨ 0 ≤ d' n
    · rw [y h1]
    · rw [if_neg (by omega), if_neg (by omega)]
def S_gr (b : Nat) : Nat → Nat → Prop := fun i k => i = 48 + 4 * b ∧ k = 11
theorem c_gr (fu b a : Nat) (K : xw_S → Option (xw_S × Int)) {L : Nat} (hL : L ≤ xb_cap b) {d : Nat → Int} (hd : ∀ p, p < L → -2 ≤ d p ∧ d p ≤ 8) : ∀ (dd k n : Nat) (s : xw_S), k + dd = L → dd < n → s.1 (48 + 4 * b) 8 = (L : Int) → s.1 (50 + 4 * b) = d → s.1 (48 + 4 * b) 11 = m_gr d k → ∃ s', lp_FL_explore_113 fu b a K n s (k : Int) = K s' ∧ frm (S_gr b) s s' ∧ s'.1 (48 + 4 * b) 11 = m_gr d L := by
  have hcap := xb_cap_le b
  intro dd
  induction dd with
  | zero =>
    intro k n s hk hn hlen hdd h11
    obtain ⟨n, rfl⟩ : ∃ n', n = n' + 1 := ⟨n - 1, by omega⟩
    rw [lp_FL_explore_113, hlen, xw_grd_t ⟨⟨by omega, by omega⟩, ⟨by omega, by omega⟩⟩, xw_if_t (by omega)]
    exact ⟨s, rfl, frm_rf _ _, by rw [h11, show k = L by omega]⟩
  | succ dd ih =>
    intro k n s hk hn hlen hdd h11
    obtain ⟨n, rfl⟩ : ∃ n', n = n' + 1 := ⟨n - 1, by omega⟩
    have r1 := m_gr_r (d := d) k (fun p hp => (hd p (by omega)).2)
    have r2 := hd k (by omega)
    rw [lp_FL_explore_113, hlen, xw_grd_t ⟨⟨by omega, by omega⟩, ⟨by omega, by omega⟩⟩, xw_if_f (by omega), xw_grd_t (by omega), h11, hdd, Int.toNat_natCast, xw_grd_t ⟨⟨by omega, by omega⟩, ⟨by omega, by omega⟩⟩, xw_let_e, xw_let_e]
    obtain ⟨s2, g1, g2, g3⟩ := ih (k + 1) n (xw_st s (48 + 4 * b) 11 (if m_gr d k < d k then d k else m_gr d k)) (by omega) (by omega) (by rw [st_k (by omega), hlen]) (by rw [← hdd]; exact funext (fun j => st_i (by omega))) (by rw [st_s]; rfl)
    exact ⟨s2, g1, frm_tr (frm_st ⟨rfl, rfl⟩) g2, g3⟩
theorem z_hl1 : ∀ n : Nat, n < 3 → xw_hl 1 (n : Int) - 1 = ((2 ^ n - 1 : Nat) : Int) := by decide +kernel
theorem z_hl2 : ∀ n : Nat, n < 3 → 2 ^ n - 1 < 64 := by decide
theorem q_FLex (fu : Nat) (hfu : 1000 ≤ fu) {M : m_M} {A : Nat → Int} {me : Int} {b a : Nat} {s : xw_S} (hW : m_W M me) (hK : c_K M A me b a s) (hg : ∀ p, p < 120 → 0 ≤ s.1 9 p ∧ s.1 9 p < 64) : ∃ s' r S, f_FL_explore fu s b a = some (s', r) ∧ frm (S_xp b) s s' ∧ m_EX M A (s'.1 (50 + 4 * b)) S r ∧ (∀ p, p < ML M → (m_bg (Mc M) p → -1 ≤ s'.1 (50 + 4 * b) p ∧ s'.1 (50 + 4 * b) p ≤ 8 ∧ s'.1 (50 + 4 * b) p ≤ Ms M) ∧ (¬ m_bg (Mc M) p → s'.1 (50 + 4 * b) p = -2)) ∧ (∀ p, p < 120 → 0 ≤ s'.1 9 p ∧ s'.1 9 p < 64) ∧ s'.1 (48 + 4 * b) 11 = m_gr (s'.1 (50 + 4 * b)) (ML M) ∧ s'.1 (48 + 4 * b) 10 = m_ct (Mc M) (ML M) := by
  obtain ⟨ha, ⟨hb, hL, hlen, hcode, hc⟩, hH, h5, h7, hm, hA⟩ := hK
  have hK : c_K M A me b a s := ⟨ha, ⟨hb, hL, hlen, hcode, hc⟩, hH, h5, h7, hm, hA⟩
  have hcap := xb_cap_le b
  have hW2 := hW.2.1
  have hW1 := hW.1
  obtain ⟨s1, a1, a2, a3, a4⟩ := q_fi fu b hfu hb (Mc M) (ML M) hL s hlen hcode hc
  have f1 : frm (S_xp b) s (xw_st (xw_st s1 8 1 0) 8 2 1) := frm_tr (frm_tr (frm_mono a2 (fun i k z => by unfold S_fi at z; unfold S_xp S_ex; omega)) (frm_st (Or.inl (Or.inr (Or.inr ⟨rfl, Or.inl rfl⟩))))) (frm_st (Or.inl (Or.inr (Or.inr ⟨rfl, Or.inr rfl⟩))))
  have hK6 := c_K_x hK f1
  have e1 : ∀ p, (xw_st (xw_st s1 8 1 0) 8 2 1).1 (50 + 4 * b) p = s1.1 (50 + 4 * b) p := fun p => by rw [st_i (by omega), st_i (by omega)]
  have e2 : ∀ p, (xw_st (xw_st s1 8 1 0) 8 2 1).1 9 p = s.1 9 p := fun p => by rw [st_i (by omega), st_i (by omega), a2.2 _ _ (by unfold S_fi; omega)]
  have e3 : (xw_st (xw_st s1 8 1 0) 8 2 1).1 8 1 = 0 := by rw [st_k (by omega), st_s]
  have e4 : (xw_st (xw_st s1 8 1 0) 8 2 1).1 8 2 = 1 := st_s _ _ _ _
  have e5 : (xw_st (xw_st s1 8 1 0) 8 2 1).1 (48 + 4 * b) 5 = Ma M := hK6.2.2.2.1
  have e6 : (xw_st (xw_st s1 8 1 0) 8 2 1).1 (48 + 4 * b) 10 = m_ct (Mc M) (ML M) := by rw [st_i (by omega), st_i (by omega), a4]
  have hneg : ∀ p, p < ML M → (xw_st (xw_st s1 8 1 0) 8 2 1).1 (50 + 4 * b) p < 0 := fun p hp => by
    rw [e1, a3 p hp]
    split <;> omega
  have hD6 : c_D M b (xw_st (xw_st s1 8 1 0) 8 2 1) := by
    refine ⟨fun p hp => ?_, fun p hp => ?_, ?_, ?_⟩
    · rw [e1, a3 p hp]
      exact ⟨fun z => by rw [if_pos z]; omega, fun z => by rw [if_neg z]⟩
    · rw [e2]; exact hg p hp
    · rw [e4]; exact Or.inr rfl
    · rw [e3]; exact Or.inl rfl
  unfold f_FL_explore
  rw [xw_bn2_e a1, xw_let_e, xw_let_e]
  generalize xw_st (xw_st s1 8 1 0) 8 2 1 = s6 at *
  have hpl : m_pl (Mc M) (ML M) 0 := ⟨by omega, by omega, rfl⟩
  have eP := z_hl1 (Ma M).toNat (by omega)
  have eP2 := z_hl2 (Ma M).toNat (by omega)
  rw [show (((Ma M).toNat : Nat) : Int) = Ma M by omega] at eP
  rw [e5, eP]
  obtain ⟨s8, h1, h2, h3, h4⟩ := c_ar fu hK6 hD6 (t := 0) (e := 0) (P := ((2 ^ (Ma M).toNat - 1 : Nat) : Int)) ⟨by omega, by omega⟩ (by omega) (by omega)
  have e8 := Option.some.inj (h1.symm.trans (c_ar_new fu hK6 hD6 ⟨by omega, by omega⟩ hpl (hneg 0 (by omega))))
  have x1 : s8.1 (50 + 4 * b) (0 : Int).toNat = 0 := by rw [e8, st_i (by omega), st_i (by omega), st_s]
  have x2 : s8.1 9 (0 : Int).toNat = ((2 ^ (Ma M).toNat - 1 : Nat) : Int) := by rw [e8, st_i (by omega), st_s]
  have x3 : s8.1 8 1 = 1 := by rw [e8, st_s]
  have x4 : s8.1 8 2 = 1 := by rw [e8, st_k (by omega), st_i (by omega), st_i (by omega)]; exact e4
  have hQ : m_Q M A (c_v M b s8) := by
    refine m_EX0 (v0 := c_v M b s6) hneg e4 (fun n => (((2 ^ (Ma M).toNat - 1 : Nat) : Int)).toNat.testBit n = true) ?_ h4 hpl x1 ?_ x4 x3
    · intro n
      rw [Int.toNat_natCast, Nat.testBit_two_pow_sub_one, decide_eq_true_eq]
      omega
    · intro n hn
      have hn' : (s8.1 9 (0 : Int).toNat).toNat.testBit n = true := hn
      rw [x2] at hn'
      exact hn'
  have hmu : (c_v M b s8).2.2.2.2 + 0 < 840 := by
    rcases h4.2.2 with ⟨⟨_, _, z⟩, _⟩ | ⟨_, z, _⟩
    · have z2 : s8.1 8 1 = s6.1 8 1 := congrArg Prod.fst z
      omega
    · have y := m_sum_le (f := fun p => if 0 ≤ s6.1 (50 + 4 * b) p then m_pc (s6.1 9 p).toNat else 7) (a := 7) (ML M) (fun p _ => by
        have := m_pc_le (s6.1 9 p).toNat
        split <;> omega)
      have y2 : (c_v M b s6).2.2.2.2 = m_sum (fun p => if 0 ≤ s6.1 (50 + 4 * b) p then m_pc (s6.1 9 p).toNat else 7) (ML M) := rfl
      omega
  rw [xw_bnd_e h1, xw_jn_e]
  obtain ⟨s9, k1, k2, k3, k4⟩ := c_outer fu hfu hW (fun (s39 : xw_S) => xw_let (xw_st s39 (48 + 4 * b) 11 0) (fun s40 => xw_jn (fun (s51 : xw_S) => xw_grd ((s51.1 8 2 = 0 ∨ s51.1 8 2 = 1)) (some (s51, s51.1 8 2)))
 (fun (k144 : xw_S → Option (xw_S × Int)) => lp_FL_explore_113 fu b a k144 fu s40 0))) 841 0 fu s8 (by omega) (by omega) (c_K_f hK6 h2) h3 hQ (fun _ => hmu)
  have hK9 := c_K_f (c_K_f hK6 h2) k2
  have hdr9 : ∀ p, p < ML M → -2 ≤ s9.1 (50 + 4 * b) p ∧ s9.1 (50 + 4 * b) p ≤ 8 := fun p hp => by
    by_cases hq : m_bg (Mc M) p
    · have := (k3.1 p hp).1 hq
      omega
    · have := (k3.1 p hp).2 hq
      omega
  obtain ⟨s10, l1, l2, l3⟩ := c_gr fu b a (fun (s51 : xw_S) => xw_grd ((s51.1 8 2 = 0 ∨ s51.1 8 2 = 1)) (some (s51, s51.1 8 2))) hL hdr9 (ML M) 0 fu (xw_st s9 (48 + 4 * b) 11 0) (by omega) (by omega) (by rw [st_k (by omega)]; exact hK9.2.1.2.2.1) (funext (fun j => st_i (by omega))) (by rw [st_s]; rfl)
  have y1 : s10.1 (50 + 4 * b) = s9.1 (50 + 4 * b) := funext (fun j => by rw [l2.2 _ _ (by unfold S_gr; omega), st_i (by omega)])
  have y2 : s10.1 9 = s9.1 9 := funext (fun j => by rw [l2.2 _ _ (by unfold S_gr; omega), st_i (by omega)])
  have y3 : s10.1 8 2 = s9.1 8 2 := by rw [l2.2 _ _ (by unfold S_gr; omega), st_i (by omega)]
  have y4 : s10.1 (48 + 4 * b) 10 = m_ct (Mc M) (ML M) := by
    rw [l2.2 _ _ (by unfold S_gr; omega), st_k (by omega), k2.2 _ _ (by unfold S_ex; omega), h2.2 _ _ (by unfold S_ex; omega), e6]
  refine ⟨s10, s10.1 8 2, (c_v M b s9).2.1, ?_, ?_, ?_, ?_, ?_, ?_, y4⟩
  · refine (k1.trans l1).trans ?_
    exact xw_grd_t (by rw [y3]; exact k3.2.2.1)
  · exact frm_tr (frm_tr (frm_tr f1 (frm_mono (frm_tr h2 k2) (fun _ _ z => Or.inl z))) (frm_st (Or.inr ⟨rfl, Or.inr rfl⟩))) (frm_mono l2 (fun i k z => Or.inr ⟨z.1, Or.inr z.2⟩))
  · rw [y1, y3]; exact k4
  · rw [y1]; exact k3.1
  · rw [y2]; exact k3.2.1
  · rw [y1]; exact l3
