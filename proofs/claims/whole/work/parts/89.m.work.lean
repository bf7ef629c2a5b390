/-! 89.m: one step, whatever the instruction -/
section
variable {a qb n : Nat} {Ps : Nat → m_M} {A : Nat → Int} {D : Nat → Nat → Int} {fuel us mk : Int} {σ ρ σ1 ρ1 : xw_S} {f m p h : Nat}
theorem x_tk1 {o : Int} (e : Mc (Ps m) p = o) (h13 : o ≠ 13) : m_tk (Ps m) A p = q_tk o ∧ m_af (Ps m) A (D m) p = D m p - q_tk o + q_pt o := by
  have : m_tk (Ps m) A p = q_tk o := by unfold m_tk; rw [if_neg (by rw [e]; exact h13), e]
  refine ⟨this, ?_⟩
  unfold m_af
  rw [this, e]
theorem x_num (hJ : x_J a qb n Ps A D fuel us mk f m p h σ ρ) {o : Int} (e : Mc (Ps m) p = o) (h13 : o ≠ 13) : q_tk o ≤ (h : Int) ∧ h ≤ 8 ∧ (h : Int) - q_tk o + q_pt o ≤ 8 := by
  obtain ⟨jS, jV, jf, ⟨j3, j31⟩, j5, ⟨jF, jP, jD⟩, jlo⟩ := hJ
  obtain ⟨t1, t2, t3, t4, t5, t6⟩ := x_typ jS jP
  obtain ⟨e1, e2⟩ := x_tk1 (A := A) (D := D) e h13
  rw [e1, e2, ← jD] at t3
  exact ⟨t3.2.1, by omega, t3.2.2.2⟩
theorem x_pl1 (fu : Nat) (hJ : x_J a qb n Ps A D fuel us mk f m p h σ ρ) {o : Int} (e : Mc (Ps m) p = o) (h13 : o ≠ 13) (hen : ¬ q_en o) (h30 : ¬ 30 ≤ o) {p' h' : Nat} (hp' : p' = p + (q_sz o).toNat) (hh : (h' : Int) = (h : Int) - q_tk o + q_pt o) (h1 : x_1 fu a qb σ ρ f m p (4 * a + m) (qb + m) o p' h') : x_W a qb n Ps A D fuel us mk o f p σ ρ (k_c65 fu a σ f (4 * a + m) o) (k_r69 fu ρ (f : Int) ((qb + m : Nat) : Int) o) := by
  obtain ⟨t1, t2, t3, t4, t5, t6⟩ := x_typ hJ.1 hJ.2.2.2.2.2.1.2.1
  obtain ⟨e1, e2⟩ := x_tk1 (A := A) (D := D) e h13
  obtain ⟨w1, w2⟩ := t5 (by rw [e]; exact hen)
  rw [e] at w1 w2
  subst hp'
  exact x_W1 fu hJ h1 w1 (by rw [w2, e2, ← hJ.2.2.2.2.2.1.2.2]; exact hh) (fun z => absurd z h30)
theorem x_ops {o : Int} (h : 0 < q_sz o) : (0 ≤ o ∧ o ≤ 16) ∨ (20 ≤ o ∧ o ≤ 22) ∨ (30 ≤ o ∧ o ≤ 32) := by
  unfold q_sz at h
  by_cases c1 : o = 16 ∨ (20 ≤ o ∧ o ≤ 22)
  · omega
  · rw [if_neg c1] at h
    by_cases c2 : (1 ≤ o ∧ o ≤ 3) ∨ (10 ≤ o ∧ o ≤ 13) ∨ o = 30 ∨ o = 31
    · omega
    · rw [if_neg c2] at h
      by_cases c3 : (0 ≤ o ∧ o ≤ 15) ∨ o = 32
      · omega
      · rw [if_neg c3] at h
        omega
theorem x_wk1 (fu : Nat) (hfu : 2000 ≤ fu) (hJ : x_J a qb n Ps A D fuel us mk f m p h σ ρ) {o : Int} (e : Mc (Ps m) p = o) (ho : o = 0 ∨ o = 1 ∨ o = 2 ∨ o = 3 ∨ o = 8 ∨ o = 9 ∨ o = 16) : x_W a qb n Ps A D fuel us mk o f p σ ρ (k_c65 fu a σ f (4 * a + m) o) (k_r69 fu ρ (f : Int) ((qb + m : Nat) : Int) o) := by
  have hJJ := hJ
  obtain ⟨jS, jV, jf, ⟨j3, j31⟩, j5, ⟨jF, jP, jD⟩, jlo⟩ := hJ
  obtain ⟨⟨tC, tR, tW, tE⟩, ⟨z1, z2, z3, z4⟩, t3, t4, t5, t6⟩ := x_typ jS jP
  have hp := jP.2.1
  have u := x_num hJJ e (by omega)
  rw [e] at z1 z2
  rcases ho with z | z | z | z | z | z | z <;> subst z
  · exact x_pl1 fu hJJ e (by decide) (by decide) (by decide) rfl (h' := h) (by rw [show q_tk 0 = 0 by decide, show q_pt 0 = 0 by decide]; omega) (x_o0 fu jF jf tC tR ⟨z3, z4⟩ hp)
  · rw [show q_tk 1 = 0 by decide, show q_pt 1 = 1 by decide] at u
    rw [show q_sz 1 = 2 by decide] at z2
    exact x_pl1 fu hJJ e (by decide) (by decide) (by decide) rfl (h' := h + 1) (by rw [show q_tk 1 = 0 by decide, show q_pt 1 = 1 by decide]; omega) (x_o1 fu jF jf j31 tC tR ⟨z3, z4⟩ (by omega) (by omega))
  · rw [show q_tk 2 = 0 by decide, show q_pt 2 = 1 by decide] at u
    rw [show q_sz 2 = 2 by decide] at z2
    exact x_pl1 fu hJJ e (by decide) (by decide) (by decide) rfl (h' := h + 1) (by rw [show q_tk 2 = 0 by decide, show q_pt 2 = 1 by decide]; omega) (x_o2 fu jF jf j31 tC tR ⟨z3, z4⟩ (by omega) (by omega) ⟨t4.1, t4.2.1 (Or.inl e)⟩)
  · rw [show q_tk 3 = 1 by decide, show q_pt 3 = 0 by decide] at u
    rw [show q_sz 3 = 2 by decide] at z2
    obtain ⟨h1, rfl⟩ : ∃ h1, h = h1 + 1 := ⟨h - 1, by omega⟩
    exact x_pl1 fu hJJ e (by decide) (by decide) (by decide) rfl (h' := h1) (by rw [show q_tk 3 = 1 by decide, show q_pt 3 = 0 by decide]; omega) (x_o3 fu jF jf j31 tC tR ⟨z3, z4⟩ (by omega) (by omega) ⟨t4.1, t4.2.1 (Or.inr (Or.inl e))⟩)
  · rw [show q_tk 8 = 1 by decide, show q_pt 8 = 2 by decide] at u
    obtain ⟨h1, rfl⟩ : ∃ h1, h = h1 + 1 := ⟨h - 1, by omega⟩
    exact x_pl1 fu hJJ e (by decide) (by decide) (by decide) rfl (h' := h1 + 2) (by rw [show q_tk 8 = 1 by decide, show q_pt 8 = 2 by decide]; omega) (x_o8 fu jF jf j31 tC tR ⟨z3, z4⟩ hp (by omega))
  · rw [show q_tk 9 = 1 by decide, show q_pt 9 = 0 by decide] at u
    obtain ⟨h1, rfl⟩ : ∃ h1, h = h1 + 1 := ⟨h - 1, by omega⟩
    exact x_pl1 fu hJJ e (by decide) (by decide) (by decide) rfl (h' := h1) (by rw [show q_tk 9 = 1 by decide, show q_pt 9 = 0 by decide]; omega) (x_o9 fu jF jf j31 tC tR ⟨z3, z4⟩ hp (by omega))
  · rw [show q_sz 16 = 3 by decide] at z2
    exact x_pl1 fu hJJ e (by decide) (by decide) (by decide) rfl (h' := h) (by rw [show q_tk 16 = 0 by decide, show q_pt 16 = 0 by decide]; omega) (x_o16 fu jF jf tC tR ⟨z3, z4⟩ (by omega) ⟨t4.1, t4.2.1 (Or.inr (Or.inr e))⟩)
theorem x_wk2 (fu : Nat) (hfu : 2000 ≤ fu) (hJ : x_J a qb n Ps A D fuel us mk f m p h σ ρ) {o : Int} (e : Mc (Ps m) p = o) (ho : 4 ≤ o ∧ o ≤ 7) : x_W a qb n Ps A D fuel us mk o f p σ ρ (k_c65 fu a σ f (4 * a + m) o) (k_r69 fu ρ (f : Int) ((qb + m : Nat) : Int) o) := by
  have hJJ := hJ
  obtain ⟨jS, jV, jf, ⟨j3, j31⟩, j5, ⟨jF, jP, jD⟩, jlo⟩ := hJ
  have u := x_num hJJ e (by omega)
  have k1 : q_tk o = 2 := by unfold q_tk; rw [if_pos ho]
  have k2 : q_pt o = 1 := by unfold q_pt; rw [if_neg (by omega), if_pos (Or.inr (Or.inr (Or.inl ho)))]
  have k3 : q_sz o = 1 := by unfold q_sz; rw [if_neg (by omega), if_neg (by omega), if_pos (by omega)]
  rw [k1, k2] at u
  obtain ⟨h1, rfl⟩ : ∃ h1, h = h1 + 2 := ⟨h - 2, by omega⟩
  by_cases c7 : o = 7
  · obtain ⟨t1, t2, t3, t4, t5, t6⟩ := x_typ jS jP
    obtain ⟨w1, w2⟩ := t5 (by rw [e]; omega)
    rw [e, k3] at w1 w2
    rw [(x_tk1 e (by omega)).2, k1, k2, ← jD] at w2
    subst c7
    exact x_div fu (by omega) hJJ (by omega) w1 (by
      show ((h1 + 1 : Nat) : Int) = D m (p + (1 : Int).toNat)
      rw [w2]; omega) _ _
  · exact x_pl1 fu hJJ e (by omega) (by omega) (by omega) (by rw [k3]; rfl) (h' := h1 + 1) (by rw [k1, k2]; omega) (x_calc fu (by omega) jF jf j31 (by omega))
theorem x_wk3 (fu : Nat) (hfu : 2000 ≤ fu) (hJ : x_J a qb n Ps A D fuel us mk f m p h σ ρ) (ho : q_br (Mc (Ps m) p)) : x_W a qb n Ps A D fuel us mk (Mc (Ps m) p) f p σ ρ (k_c65 fu a σ f (4 * a + m) (Mc (Ps m) p)) (k_r69 fu ρ (f : Int) ((qb + m : Nat) : Int) (Mc (Ps m) p)) := by
  have hJJ := hJ
  obtain ⟨jS, jV, jf, ⟨j3, j31⟩, j5, ⟨jF, jP, jD⟩, jlo⟩ := hJ
  obtain ⟨⟨tC, tR, tW, tE⟩, ⟨z1, z2, z3, z4⟩, t3, t4, t5, t6, t7⟩ := x_typ jS jP
  have hp := jP.2.1
  obtain ⟨b1, b2, b3⟩ := t6 ho
  have ho' := ho
  unfold q_br q_sb q_wb at ho'
  have u := x_num hJJ rfl (by omega)
  obtain ⟨e1, e2⟩ := x_tk1 (A := A) (D := D) (m := m) (p := p) rfl (show Mc (Ps m) p ≠ 13 by omega)
  have k2 : q_pt (Mc (Ps m) p) = 0 := by unfold q_pt; rw [if_neg (by omega), if_neg (by omega)]
  rw [e2, k2, ← jD] at b3
  by_cases c : Mc (Ps m) p = 10 ∨ Mc (Ps m) p = 20
  · have k1 : q_tk (Mc (Ps m) p) = 0 := by unfold q_tk; rw [if_neg (by omega), if_neg (by omega)]
    rw [k1] at b3
    exact x_W1 fu hJJ (x_goto fu jF jf tC tR z4 hp c z2 b1) b2 (by rw [b3]; omega) (fun z => by omega)
  · have k1 : q_tk (Mc (Ps m) p) = 1 := by unfold q_tk; rw [if_neg (by omega), if_pos (by omega)]
    rw [k1] at b3 u
    obtain ⟨w1, w2⟩ := t5 (by unfold q_en; omega)
    rw [e2, k2, k1, ← jD] at w2
    obtain ⟨h1, rfl⟩ : ∃ h1, h = h1 + 1 := ⟨h - 1, by omega⟩
    rcases x_cond fu (a := a) jF jf j31 (by omega) tC tR z4 hp (by omega) z2 b1 with x | x
    · exact x_W1 fu hJJ x b2 (by rw [b3]; omega) (fun z => by omega)
    · exact x_W1 fu hJJ x w1 (by rw [w2]; omega) (fun z => by omega)
theorem x_wk4 (fu : Nat) (hfu : 2000 ≤ fu) (hmk : mk < 1500000) (hJ : x_J a qb n Ps A D fuel us mk f m p h σ ρ) {o : Int} (e : Mc (Ps m) p = o) (ho : o = 30 ∨ o = 31) : x_W a qb n Ps A D fuel us mk o f p σ ρ (k_c65 fu a σ f (4 * a + m) o) (k_r69 fu ρ (f : Int) ((qb + m : Nat) : Int) o) := by
  have hJJ := hJ
  obtain ⟨jS, jV, jf, ⟨j3, j31⟩, j5, ⟨jF, jP, jD⟩, jlo⟩ := hJ
  obtain ⟨⟨tC, tR, tW, tE⟩, ⟨z1, z2, z3, z4⟩, t3, t4, t5, t6, t7⟩ := x_typ jS jP
  have hp := jP.2.1
  have hm4 : m < 4 := by have := jP.1; have := jS.2.1; omega
  have hqb : qb = 0 ∨ qb = 4 := by have := jS.1; omega
  have u := x_num hJJ e (by omega)
  have k1 : q_tk o = 0 := by rcases ho with z | z <;> rw [z] <;> decide
  have k2 : q_pt o = 0 := by rcases ho with z | z <;> rw [z] <;> decide
  have k3 : q_sz o = 2 := by rcases ho with z | z <;> rw [z] <;> decide
  obtain ⟨w1, w2⟩ := t5 (by rw [e]; unfold q_en; omega)
  rw [e, k3] at w1 w2
  rw [(x_tk1 e (by omega)).2, k1, k2, ← jD] at w2
  rw [e, k3] at z2
  have wD : (h : Int) = D m (p + 2) := by
    show (h : Int) = D m (p + (2 : Int).toNat)
    rw [w2]; omega
  have zc : ∀ i k, (X_c f i k ∨ E_c i k) → Z_c i k := fun i k z => by unfold X_c E_c at z; unfold Z_c; omega
  have zr : ∀ i k, (X_r f i k ∨ E_r i k) → Z_r i k := fun i k z => by unfold X_r E_r at z; unfold Z_r; omega
  rcases ho with z | z <;> subst z
  · obtain ⟨σ', ρ', r1, r2, r3, r4, r5, r6⟩ := x_o30 fu (a := a) jF (by omega) jf hm4 rfl hqb tC tR ⟨z3, z4⟩ (by omega) jV hmk
    exact ⟨σ', ρ', r1, r2, frm_mono r5 zc, frm_mono r6 zr, Or.inr ⟨f, m, p + 2, h, mk + 1, x_top hJJ r3 r5 r6 r4 w1 wD, by omega, fun _ => Or.inr ⟨rfl, by omega⟩⟩⟩
  · obtain ⟨σ', ρ', r1, r2, r3, r4, r5, r6⟩ := x_o31 fu (a := a) jF (by omega) jf hm4 rfl hqb tC tR ⟨z3, z4⟩ (by omega) jV ((tE p hp jP.2.2.1).1 e)
    exact ⟨σ', ρ', r1, r2, frm_mono r5 zc, frm_mono r6 zr, Or.inr ⟨f, m, p + 2, h, mk, x_top hJJ r3 r5 r6 r4 w1 wD, by omega, fun _ => Or.inr ⟨rfl, by omega⟩⟩⟩
theorem x_wk5 (fu : Nat) (hfu : 2000 ≤ fu) (hJ : x_J a qb n Ps A D fuel us mk f m p h σ ρ) {o : Int} (e : Mc (Ps m) p = o) (ho : o = 14 ∨ o = 15 ∨ o = 32) : x_W a qb n Ps A D fuel us mk o f p σ ρ (k_c65 fu a σ f (4 * a + m) o) (k_r69 fu ρ (f : Int) ((qb + m : Nat) : Int) o) := by
  have hJJ := hJ
  obtain ⟨jS, jV, jf, ⟨j3, j31⟩, j5, ⟨jF, jP, jD⟩, jlo⟩ := hJ
  obtain ⟨⟨tC, tR, tW, tE⟩, ⟨z1, z2, z3, z4⟩, t3, t4, t5, t6, t7⟩ := x_typ jS jP
  have u := x_num hJJ e (by omega)
  have k1 : q_tk o = 1 := by rcases ho with z | z | z <;> rw [z] <;> decide
  rw [k1] at u
  obtain ⟨h1, rfl⟩ : ∃ h1, h = h1 + 1 := ⟨h - 1, by omega⟩
  by_cases c14 : o = 14
  · subst c14
    exact x_ret fu hJJ u.2.1 _ _
  · exact x_thr fu (by omega) hJJ u.2.1 (by omega) (fun z => (tE p jP.2.1 jP.2.2.1).2 (by rw [e]; exact z)) _ _
theorem x_work (fu : Nat) (hfu : 2000 ≤ fu) (hmk : mk < 1500000) (hJ : x_J a qb n Ps A D fuel us mk f m p h σ ρ) : x_W a qb n Ps A D fuel us mk (Mc (Ps m) p) f p σ ρ (k_c65 fu a σ f (4 * a + m) (Mc (Ps m) p)) (k_r69 fu ρ (f : Int) ((qb + m : Nat) : Int) (Mc (Ps m) p)) := by
  have hz := x_ops (x_typ hJ.1 hJ.2.2.2.2.2.1.2.1).2.1.1
  by_cases c1 : Mc (Ps m) p = 0 ∨ Mc (Ps m) p = 1 ∨ Mc (Ps m) p = 2 ∨ Mc (Ps m) p = 3 ∨ Mc (Ps m) p = 8 ∨ Mc (Ps m) p = 9 ∨ Mc (Ps m) p = 16
  · exact x_wk1 fu hfu hJ rfl c1
  · by_cases c2 : 4 ≤ Mc (Ps m) p ∧ Mc (Ps m) p ≤ 7
    · exact x_wk2 fu hfu hJ rfl c2
    · by_cases c3 : q_br (Mc (Ps m) p)
      · exact x_wk3 fu hfu hJ c3
      · unfold q_br q_sb q_wb at c3
        by_cases c4 : Mc (Ps m) p = 30 ∨ Mc (Ps m) p = 31
        · exact x_wk4 fu hfu hmk hJ rfl c4
        · by_cases c5 : Mc (Ps m) p = 13
          · rw [c5]
            exact x_cal fu hfu hJ c5
          · exact x_wk5 fu hfu hJ rfl (by omega)
end
