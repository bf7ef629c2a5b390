/-! 74: the class explores: arrive and leave -/
def m_pc (a : Nat) : Nat := m_sum (fun i => if a.testBit i then 1 else 0) 6
theorem m_pc_le (a : Nat) : m_pc a ≤ 6 := by
  have := m_sum_le (f := fun i => if a.testBit i then 1 else 0) (a := 1) 6 (fun p _ => by split <;> omega)
  unfold m_pc
  omega
theorem z_an : ∀ a : Nat, a < 64 → ∀ b : Nat, b < 64 → xw_an (a : Int) (b : Int) = ((a &&& b : Nat) : Int) := by decide +kernel
theorem z_or : ∀ a : Nat, a < 64 → ∀ n : Nat, n < 6 → xw_or (a : Int) (xw_hl 1 (n : Int)) = ((a ||| 2 ^ n : Nat) : Int) := by decide +kernel
theorem z_or_lt : ∀ a : Nat, a < 64 → ∀ n : Nat, n < 6 → (a ||| 2 ^ n) < 64 := by decide +kernel
theorem z_an_lt : ∀ a : Nat, a < 64 → ∀ b : Nat, b < 64 → (a &&& b) < 64 := by decide +kernel
theorem z_hr : ∀ a : Nat, a < 64 → ∀ n : Nat, n < 6 → xw_an (xw_hr (a : Int) (n : Int)) 1 = if a.testBit n then 1 else 0 := by decide +kernel
theorem z_pc : ∀ a : Nat, a < 64 → ∀ b : Nat, b < 64 → (a &&& b) ≠ a → m_pc (a &&& b) < m_pc a := by decide +kernel
theorem z_sub {a b : Nat} (h : (a &&& b) = a) (n : Nat) (hn : a.testBit n = true) : b.testBit n = true := by
  rw [← h, Nat.testBit_and] at hn
  simp only [Bool.and_eq_true] at hn
  exact hn.2
/-- what stands of body b (and of the bodies of array a) while it is explored -/
def c_K (M : m_M) (A : Nat → Int) (me : Int) (b a : Nat) (s : xw_S) : Prop := a < 3 ∧ cB s b (Mc M) (ML M) ∧ cH s b (Mh M) (MN M) ∧ s.1 (48 + 4 * b) 5 = Ma M ∧ s.1 (48 + 4 * b) 7 = Ms M ∧ me ≤ 4 ∧ ∀ m : Nat, (m : Int) < me → s.1 (48 + 4 * (4 * a + m)) 5 = A m ∧ 0 ≤ A m ∧ A m ≤ 2
def c_D (M : m_M) (b : Nat) (s : xw_S) : Prop := (∀ p, p < ML M → (m_bg (Mc M) p → -1 ≤ s.1 (50 + 4 * b) p ∧ s.1 (50 + 4 * b) p ≤ 8 ∧ s.1 (50 + 4 * b) p ≤ Ms M) ∧ (¬ m_bg (Mc M) p → s.1 (50 + 4 * b) p = -2)) ∧ (∀ p, p < 120 → 0 ≤ s.1 9 p ∧ s.1 9 p < 64) ∧ (s.1 8 2 = 0 ∨ s.1 8 2 = 1) ∧ (s.1 8 1 = 0 ∨ s.1 8 1 = 1)
def S_ex (b : Nat) : Nat → Nat → Prop := fun i k => i = 50 + 4 * b ∨ i = 9 ∨ (i = 8 ∧ (k = 1 ∨ k = 2))
def S_xp (b : Nat) : Nat → Nat → Prop := fun i k => S_ex b i k ∨ (i = 48 + 4 * b ∧ (k = 10 ∨ k = 11))
theorem c_K_x {M : m_M} {A : Nat → Int} {me : Int} {b a : Nat} {s s' : xw_S} (h : c_K M A me b a s) (hf : frm (S_xp b) s s') : c_K M A me b a s' := by
  obtain ⟨ha, hB, hH, h5, h7, hm, hA⟩ := h
  obtain ⟨b1, b2, b3, b4, b5⟩ := hB
  obtain ⟨c1, c2, c3, c4, c5⟩ := hH
  refine ⟨ha, ⟨b1, b2, ?_, fun p hp => ?_, b5⟩, ⟨c1, c2, ?_, fun i hi => ?_, c5⟩, ?_, ?_, hm, fun m hm' => ⟨?_, (hA m hm').2⟩⟩
  · rw [hf.2 _ _ (by unfold S_xp S_ex; omega)]; exact b3
  · rw [hf.2 _ _ (by unfold S_xp S_ex; omega)]; exact b4 p hp
  · rw [hf.2 _ _ (by unfold S_xp S_ex; omega)]; exact c3
  · rw [hf.2 _ _ (by unfold S_xp S_ex; omega)]; exact c4 i hi
  · rw [hf.2 _ _ (by unfold S_xp S_ex; omega)]; exact h5
  · rw [hf.2 _ _ (by unfold S_xp S_ex; omega)]; exact h7
  · rw [hf.2 _ _ (by unfold S_xp S_ex; omega)]; exact (hA m hm').1
theorem c_K_f {M : m_M} {A : Nat → Int} {me : Int} {b a : Nat} {s s' : xw_S} (h : c_K M A me b a s) (hf : frm (S_ex b) s s') : c_K M A me b a s' := c_K_x h (frm_mono hf (fun _ _ z => Or.inl z))
def c_v (M : m_M) (b : Nat) (s : xw_S) : m_V := (s.1 (50 + 4 * b), fun p n => (s.1 9 p).toNat.testBit n = true, s.1 8 2, s.1 8 1, m_sum (fun p => if 0 ≤ s.1 (50 + 4 * b) p then m_pc (s.1 9 p).toNat else 7) (ML M))
/-- e ends in a state that keeps what must stand, and has done X -/
def c_R (M : m_M) (b : Nat) (s : xw_S) (e : Option xw_S) (X : (Nat → Int) → (Nat → Nat → Prop) → Prop) : Prop := ∃ s', e = some s' ∧ frm (S_ex b) s s' ∧ c_D M b s' ∧ m_O (ML M) (c_v M b s) (c_v M b s') X
theorem c_R_b {M : m_M} {b : Nat} {s : xw_S} {e : Option xw_S} {f : xw_S → Option xw_S} {X Y : (Nat → Int) → (Nat → Nat → Prop) → Prop} (h : c_R M b s e X) (hf : ∀ s', frm (S_ex b) s s' → c_D M b s' → c_R M b s' (f s') Y) : c_R M b s (xw_bnd e f) (fun d S => X d S ∧ Y d S) := by
  obtain ⟨s1, h1, h2, h3, h4⟩ := h
  obtain ⟨s2, g1, g2, g3, g4⟩ := hf s1 h2 h3
  exact ⟨s2, by rw [xw_bnd_e h1]; exact g1, frm_tr h2 g2, g3, m_O_comp h4 g4⟩
theorem c_R_wk {M : m_M} {b : Nat} {s : xw_S} {e : Option xw_S} {X Y : (Nat → Int) → (Nat → Nat → Prop) → Prop} (h : c_R M b s e X) (hs : ∀ d S, m_le (ML M) d S (c_v M b s).1 (c_v M b s).2.1 → Y d S → X d S) (ho : X (c_v M b s).1 (c_v M b s).2.1 → Y (c_v M b s).1 (c_v M b s).2.1) : c_R M b s e Y := by
  obtain ⟨s1, h1, h2, h3, h4⟩ := h
  exact ⟨s1, h1, h2, h3, m_O_wk h4 hs ho⟩
theorem c_bad {M : m_M} {b : Nat} {s : xw_S} {X : (Nat → Int) → (Nat → Nat → Prop) → Prop} (hD : c_D M b s) (hn : ∀ d S, m_le (ML M) d S (c_v M b s).1 (c_v M b s).2.1 → ¬ X d S) : c_R M b s (some (xw_st s 8 2 0)) X := by
  have e1 : (xw_st s 8 2 0).1 (50 + 4 * b) = s.1 (50 + 4 * b) := funext (fun k => st_i (by omega))
  have e2 : (xw_st s 8 2 0).1 9 = s.1 9 := funext (fun k => st_i (by omega))
  have e3 : (xw_st s 8 2 0).1 8 1 = s.1 8 1 := st_k (by omega)
  have e4 : (xw_st s 8 2 0).1 8 2 = 0 := st_s _ _ _ _
  refine ⟨_, rfl, frm_st (Or.inr (Or.inr ⟨rfl, Or.inr rfl⟩)), ⟨?_, ?_, ?_, ?_⟩, m_O_bad ?_ ?_ ?_ ?_ hn⟩
  · rw [e1]; exact hD.1
  · rw [e2]; exact hD.2.1
  · rw [e4]; exact Or.inl rfl
  · rw [e3]; exact hD.2.2.2
  · exact e1
  · unfold c_v; rw [e2]
  · unfold c_v; rw [e1, e2, e3]
  · exact e4
theorem c_dr {M : m_M} {b : Nat} {s : xw_S} (hD : c_D M b s) : ∀ p : Nat, p < ML M → xw_r (s.1 (50 + 4 * b) p) := by
  intro p hp
  by_cases hq : m_bg (Mc M) p
  · have := (hD.1 p hp).1 hq
    exact ⟨by omega, by omega⟩
  · have := (hD.1 p hp).2 hq
    exact ⟨by omega, by omega⟩
theorem c_ar_new (fu : Nat) {M : m_M} {A : Nat → Int} {me : Int} {b a : Nat} {s : xw_S} (hK : c_K M A me b a s) (hD : c_D M b s) {t e P : Int} (ht : xw_r t) (hpl : m_pl (Mc M) (ML M) t) (hr : s.1 (50 + 4 * b) t.toNat < 0) : f_FL_arrive fu s b t e P = some (xw_st (xw_st (xw_st s (50 + 4 * b) t.toNat e) 9 t.toNat P) 8 1 1) := by
  obtain ⟨ha, hB, hH, h5, h7, hm, hA⟩ := hK
  have hL := hB.2.1
  have hcap := xb_cap_le b
  have hdt := (hD.1 t.toNat (by omega)).1 hpl.2.2
  unfold f_FL_arrive
  rw [xw_bn2_e (q_begins fu hB (c_dr hD) ht), if_pos ⟨hpl.1, hpl.2.1, by omega⟩, xw_grd_t (by decide), xw_if_f (by decide), xw_bn2_e (q_reached fu hB (c_dr hD) ht), if_neg (by omega), xw_grd_t (by decide), xw_if_t rfl, xw_grd_t (by omega), xw_let_e, xw_grd_t (by omega)]
  rfl
theorem c_ar (fu : Nat) {M : m_M} {A : Nat → Int} {me : Int} {b a : Nat} {s : xw_S} (hK : c_K M A me b a s) (hD : c_D M b s) {t e P : Int} (ht : xw_r t) (he : 0 ≤ e ∧ e ≤ 8 ∧ e ≤ Ms M) (hP : 0 ≤ P ∧ P < 64) : c_R M b s (f_FL_arrive fu s b t e P) (fun d S => m_ar (Mc M) (ML M) d S t e (fun n => P.toNat.testBit n = true)) := by
  have hK' := hK
  obtain ⟨ha, hB, hH, h5, h7, hm, hA⟩ := hK
  have hL := hB.2.1
  have hcap := xb_cap_le b
  by_cases hpl : m_pl (Mc M) (ML M) t
  · have hdt := (hD.1 t.toNat (by omega)).1 hpl.2.2
    have hgt := hD.2.1 t.toNat (by omega)
    by_cases hr : 0 ≤ s.1 (50 + 4 * b) t.toNat
    · unfold f_FL_arrive
      rw [xw_bn2_e (q_begins fu hB (c_dr hD) ht), if_pos ⟨hpl.1, hpl.2.1, by omega⟩, xw_grd_t (by decide), xw_if_f (by decide), xw_bn2_e (q_reached fu hB (c_dr hD) ht), if_pos ⟨hpl.1, hpl.2.1, hr⟩, xw_grd_t (by decide), xw_if_f (by decide), xw_grd_t (by omega), xw_grd_t ⟨c_dr hD _ (by omega), ⟨by omega, by omega⟩⟩]
      by_cases hq : s.1 (50 + 4 * b) t.toNat = e
      · have ean : xw_an (s.1 9 t.toNat) P = (((s.1 9 t.toNat).toNat &&& P.toNat : Nat) : Int) := by
          have := z_an (s.1 9 t.toNat).toNat (by omega) P.toNat (by omega)
          rw [show (((s.1 9 t.toNat).toNat : Nat) : Int) = s.1 9 t.toNat by omega, show ((P.toNat : Nat) : Int) = P by omega] at this
          exact this
        have hlt := z_an_lt (s.1 9 t.toNat).toNat (by omega) P.toNat (by omega)
        rw [xw_if_t hq, xw_grd_t (by omega), ean, xw_grd_t ⟨⟨by omega, by omega⟩, ⟨by omega, by omega⟩⟩]
        by_cases hz : (((s.1 9 t.toNat).toNat &&& P.toNat : Nat) : Int) = s.1 9 t.toNat
        · rw [xw_if_t hz]
          refine ⟨s, rfl, frm_rf _ _, hD, m_O_id (Or.inr ⟨hpl, hq, fun n hn => z_sub (by omega) n hn⟩)⟩
        · rw [xw_if_f hz, xw_let_e, xw_let_e]
          have e1 : (xw_st (xw_st s 9 t.toNat (((s.1 9 t.toNat).toNat &&& P.toNat : Nat) : Int)) 8 1 1).1 (50 + 4 * b) = s.1 (50 + 4 * b) := funext (fun k => by rw [st_i (by omega), st_i (by omega)])
          have e2 : ∀ p, (xw_st (xw_st s 9 t.toNat (((s.1 9 t.toNat).toNat &&& P.toNat : Nat) : Int)) 8 1 1).1 9 p = if p = t.toNat then (((s.1 9 t.toNat).toNat &&& P.toNat : Nat) : Int) else s.1 9 p := fun p => by
            rw [st_i (by omega), st_e]; simp only [true_and]
          have e3 : (xw_st (xw_st s 9 t.toNat (((s.1 9 t.toNat).toNat &&& P.toNat : Nat) : Int)) 8 1 1).1 8 1 = 1 := st_s _ _ _ _
          have e4 : (xw_st (xw_st s 9 t.toNat (((s.1 9 t.toNat).toNat &&& P.toNat : Nat) : Int)) 8 1 1).1 8 2 = s.1 8 2 := by rw [st_k (by omega), st_i (by omega)]
          refine ⟨_, rfl, frm_tr (frm_st (Or.inr (Or.inl rfl))) (frm_st (Or.inr (Or.inr ⟨rfl, Or.inl rfl⟩))), ⟨?_, ?_, ?_, ?_⟩, ?_⟩
          · rw [e1]; exact hD.1
          · intro p hp
            rw [e2]
            by_cases hpt : p = t.toNat
            · rw [if_pos hpt]; omega
            · rw [if_neg hpt]; exact hD.2.1 p hp
          · rw [e4]; exact hD.2.2.1
          · rw [e3]; exact Or.inr rfl
          · refine m_O_up (T := fun n => P.toNat.testBit n = true) (c := Mc M) (t := t) (e := e) ?_ ?_ ?_ ?_ ?_ ?_ ?_ ?_ (fun d S h => h)
            · intro p hp
              refine ⟨by unfold c_v; dsimp only; rw [e1], ?_⟩
              unfold c_v
              dsimp only
              rw [e2, if_neg hp]
            · unfold c_v; dsimp only; rw [e1]; exact hq
            · intro _; exact hq
            · intro n h1 h2
              unfold c_v at h1 ⊢
              dsimp only at h1 ⊢
              rw [e2, if_pos rfl, Int.toNat_natCast, Nat.testBit_and, h1 hr, h2]
              rfl
            · intro _ n h1
              unfold c_v at h1 ⊢
              dsimp only at h1 ⊢
              rw [e2, if_pos rfl, Int.toNat_natCast, Nat.testBit_and, Bool.and_eq_true] at h1
              exact h1.1
            · exact e4
            · exact e3
            · unfold c_v
              dsimp only
              refine m_sum_lt (k := t.toNat) (ML M) (by omega) ?_ ?_
              · intro p _ hpt
                rw [e1, e2, if_neg hpt]
              · rw [e1, e2, if_pos rfl, if_pos hr, if_pos hr, Int.toNat_natCast]
                exact z_pc _ (by omega) _ (by omega) (by omega)
      · rw [xw_if_f hq, xw_let_e]
        refine c_bad hD (fun d S hl hx => ?_)
        have := (hl t.toNat (by omega) hr).1
        have h2 := hx.2.1
        have h3 : (c_v M b s).1 t.toNat = s.1 (50 + 4 * b) t.toNat := rfl
        omega
    · rw [c_ar_new fu hK' hD ht hpl (by omega)]
      have e1 : ∀ p, (xw_st (xw_st (xw_st s (50 + 4 * b) t.toNat e) 9 t.toNat P) 8 1 1).1 (50 + 4 * b) p = if p = t.toNat then e else s.1 (50 + 4 * b) p := fun p => by
        rw [st_i (by omega), st_i (by omega), st_e]; simp only [true_and]
      have e2 : ∀ p, (xw_st (xw_st (xw_st s (50 + 4 * b) t.toNat e) 9 t.toNat P) 8 1 1).1 9 p = if p = t.toNat then P else s.1 9 p := fun p => by
        rw [st_i (by omega), st_e, st_i (by omega)]; simp only [true_and]
      have e3 : (xw_st (xw_st (xw_st s (50 + 4 * b) t.toNat e) 9 t.toNat P) 8 1 1).1 8 1 = 1 := st_s _ _ _ _
      have e4 : (xw_st (xw_st (xw_st s (50 + 4 * b) t.toNat e) 9 t.toNat P) 8 1 1).1 8 2 = s.1 8 2 := by rw [st_k (by omega), st_i (by omega), st_i (by omega)]
      refine ⟨_, rfl, frm_tr (frm_tr (frm_st (Or.inl rfl)) (frm_st (Or.inr (Or.inl rfl)))) (frm_st (Or.inr (Or.inr ⟨rfl, Or.inl rfl⟩))), ⟨?_, ?_, ?_, ?_⟩, ?_⟩
      · intro p hp
        rw [e1]
        by_cases hpt : p = t.toNat
        · rw [if_pos hpt, hpt]
          exact ⟨fun _ => by omega, fun z => absurd hpl.2.2 z⟩
        · rw [if_neg hpt]; exact hD.1 p hp
      · intro p hp
        rw [e2]
        by_cases hpt : p = t.toNat
        · rw [if_pos hpt]; exact hP
        · rw [if_neg hpt]; exact hD.2.1 p hp
      · rw [e4]; exact hD.2.2.1
      · rw [e3]; exact Or.inr rfl
      · refine m_O_up (T := fun n => P.toNat.testBit n = true) (c := Mc M) (t := t) (e := e) ?_ ?_ ?_ ?_ ?_ ?_ ?_ ?_ (fun d S h => h)
        · intro p hp
          unfold c_v
          dsimp only
          refine ⟨by rw [e1, if_neg hp], ?_⟩
          rw [e2, if_neg hp]
        · unfold c_v; dsimp only; rw [e1, if_pos rfl]
        · intro z; exact absurd z hr
        · intro n _ h2
          unfold c_v
          dsimp only
          rw [e2, if_pos rfl]
          exact h2
        · intro z; exact absurd z hr
        · exact e4
        · exact e3
        · unfold c_v
          dsimp only
          refine m_sum_lt (k := t.toNat) (ML M) (by omega) ?_ ?_
          · intro p _ hpt
            rw [e1, e2, if_neg hpt, if_neg hpt]
          · rw [e1, e2, if_pos rfl, if_pos rfl, if_pos he.1, if_neg hr]
            have := m_pc_le P.toNat
            omega
  · unfold f_FL_arrive
    rw [xw_bn2_e (q_begins fu hB (c_dr hD) ht), if_neg (fun z => hpl ⟨z.1, z.2.1, by
      apply Classical.byContradiction
      intro hb
      exact z.2.2 ((hD.1 t.toNat (by omega)).2 hb)⟩), xw_grd_t (by decide), xw_if_t rfl, xw_let_e]
    exact c_bad hD (fun d S hl hx => hpl hx.1)
/-! leave, in pieces -/
def k_l194 (fu b a : Nat) (p : Int) (s65 : xw_S) (P : Int) : Option xw_S := xw_jn (fun (s83 : xw_S) => some s83) (fun (k237 : xw_S → Option xw_S) => lp_FL_leave_197 fu b a p P k237 fu s65 0)
def k_l170 (fu b a : Nat) (p : Int) (s53 : xw_S) (op P e Q : Int) : Option xw_S := xw_bn2 (f_OP_isBranch fu s53 op) (fun s54 r56 => xw_jn (fun (s65 : xw_S) (i6 : Int) => k_l194 fu b a p s65 i6) (fun (j194 : xw_S → Int → Option xw_S) => xw_grd (xw_r r56) (xw_if (r56 = 0) (j194 s54 P) (xw_bn2 (f_B_wayAt fu s54 b p) (fun s59 r61 => xw_bnd (f_FL_arrive fu s59 b (p + r61) e Q) (fun s62 => j194 s62 P))))))
def k_l144 (fu b a : Nat) (p : Int) (s41 : xw_S) (op P e Q : Int) : Option xw_S := xw_bn2 (f_OP_goesOn fu s41 op) (fun s42 r44 => xw_jn (fun (s53 : xw_S) (i4 i6 i9 i11 : Int) => k_l170 fu b a p s53 i4 i6 i9 i11) (fun (j170 : xw_S → Int → Int → Int → Int → Option xw_S) => xw_grd (xw_r r44) (xw_if (r44 = 0) (j170 s42 op P e Q) (xw_bn2 (f_OP_size fu s42 op) (fun s47 r49 => xw_bnd (f_FL_arrive fu s47 b (p + r49) e Q) (fun s50 => j170 s50 op P e Q))))))
def k_l97 (fu b a : Nat) (p : Int) (s32 : xw_S) (op num P tk dp af t : Int) : Option xw_S := xw_jn (fun (s84 : xw_S) => xw_let (xw_st s84 8 2 0) (fun s85 => some s85)) (fun (j120 : xw_S → Option xw_S) => xw_grd (xw_r dp ∧ xw_r tk) (xw_if (dp < tk) (j120 s32) (xw_grd (xw_r af ∧ xw_r (s32.1 (48 + 4 * b) 7)) (xw_if (s32.1 (48 + 4 * b) 7 < af) (j120 s32) (xw_grd (xw_r t) (xw_if (t = 0) (xw_jn (fun (s41 : xw_S) (i4 i6 i9 t0 : Int) => k_l144 fu b a p s41 i4 i6 i9 t0) (fun (j144 : xw_S → Int → Int → Int → Int → Option xw_S) => xw_grd (xw_r op) (xw_if (op = 3) (j144 s32 op P af (xw_or P (xw_hl 1 num))) (j144 s32 op P af P)))) (j120 s32)))))))
def k_l46 (fu b a : Nat) (p : Int) (s16 : xw_S) (op num P tk : Int) : Option xw_S := xw_grd ((0 ≤ p ∧ p < ((xb_cap b : Nat) : Int))) (xw_let (s16.1 (50 + 4 * b) (p).toNat) (fun v18 => xw_bn2 (f_OP_puts fu s16 op) (fun s20 r22 => xw_let ((v18 - tk) + r22) (fun v23 => xw_jn (fun (s32 : xw_S) (i4 i5 i6 i7 i8 i9 t0 : Int) => k_l97 fu b a p s32 i4 i5 i6 i7 i8 i9 t0) (fun (j97 : xw_S → Int → Int → Int → Int → Int → Int → Int → Option xw_S) => xw_jn (fun (s31 : xw_S) (i4 i5 i6 i7 i8 i9 : Int) => j97 s31 i4 i5 i6 i7 i8 i9 0) (fun (j96 : xw_S → Int → Int → Int → Int → Int → Int → Option xw_S) => xw_jn (fun (s28 : xw_S) (i4 i5 i6 i7 i8 i9 : Int) => xw_grd (xw_r (xw_an (xw_hr i6 i5) 1)) (xw_if (xw_an (xw_hr i6 i5) 1 = 0) (j97 s28 i4 i5 i6 i7 i8 i9 1) (j96 s28 i4 i5 i6 i7 i8 i9))) (fun (j82 : xw_S → Int → Int → Int → Int → Int → Int → Option xw_S) => xw_grd (xw_r op) (xw_if (op = 2) (j82 s20 op num P tk v18 v23) (xw_if (op = 16) (j82 s20 op num P tk v18 v23) (j96 s20 op num P tk v18 v23))))))))))
theorem k_leave (fu : Nat) (s0 : xw_S) (b : Nat) (p : Int) (a : Nat) : f_FL_leave fu s0 b p a = xw_bn2 (f_B_byteAt fu s0 b p) (fun s1 r3 => xw_bn2 (f_B_byteAt fu s1 b (p + 1)) (fun s4 r6 => xw_grd ((0 ≤ p ∧ p < ((120 : Nat) : Int))) (xw_let (s4.1 9 (p).toNat) (fun v8 => xw_jn (fun (s16 : xw_S) (i4 i5 i6 t0 : Int) => k_l46 fu b a p s16 i4 i5 i6 t0) (fun (j46 : xw_S → Int → Int → Int → Int → Option xw_S) => xw_grd (xw_r r3) (xw_if (r3 = 13) (xw_grd ((0 ≤ r6 ∧ r6 < ((4 : Nat) : Int))) (j46 s4 r3 r6 v8 (s4.1 (48 + 4 * (4 * a + (r6).toNat)) 5))) (xw_bn2 (f_OP_takes fu s4 r3) (fun s12 r14 => j46 s12 r3 r6 v8 r14)))))))) := rfl
