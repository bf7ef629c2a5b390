/-! 88.h: the class lays out -/
def pls (o : Nat → Int) : Nat → Int
  | 0 => 0
  | j + 1 => pls o j + q_sz (o j)
theorem pls_c {o o' : Nat → Int} : ∀ n, (∀ j, j < n → o j = o' j) → pls o n = pls o' n
  | 0, _ => rfl
  | n + 1, h => by rw [pls, pls, pls_c n (fun j hj => h j (by omega)), h n (by omega)]
theorem pls_0 (o : Nat → Int) : ∀ n : Nat, 0 ≤ pls o n ∧ pls o n ≤ 3 * (n : Int)
  | 0 => by unfold pls; omega
  | n + 1 => by
    have := pls_0 o n
    have := q_sz_r (o n)
    unfold pls
    omega
theorem i_x_c {M : m_M} {X X' : n_X} (h1 : Xc X' = Xc X) (h2 : Xp X' = Xp X) : ∀ p, i_x M X' p = i_x M X p
  | 0 => by rw [i_x, i_x, h1]
  | p + 1 => by rw [i_x, i_x, i_x_c h1 h2 p, h2]
theorem i_cov {M : m_M} {X : n_X} (h : n_ok M X) : ∀ (k j : Nat), (j : Int) < i_x M X k → (Xc X = 0 ∧ j = 0) ∨ ∃ p, p < k ∧ m_bg (Mc M) p ∧ ((Xp X p = 1 ∧ (j : Int) = i_x M X p) ∨ (j : Int) = i_x M X p + Xp X p)
  | 0, j, hj => by
    rw [i_x] at hj
    by_cases h0 : Xc X = 0
    · rw [if_pos h0] at hj; exact Or.inl ⟨h0, by omega⟩
    · rw [if_neg h0] at hj; omega
  | k + 1, j, hj => by
    by_cases hb : m_bg (Mc M) k
    · rw [i_x, if_pos hb] at hj
      have hp := h.2.2.1 k
      by_cases h1 : (j : Int) < i_x M X k
      · rcases i_cov h k j h1 with z | ⟨p, z1, z2⟩
        · exact Or.inl z
        · exact Or.inr ⟨p, by omega, z2⟩
      · refine Or.inr ⟨k, by omega, hb, ?_⟩
        by_cases h2 : (j : Int) = i_x M X k + Xp X k
        · exact Or.inr h2
        · exact Or.inl ⟨by omega, by omega⟩
    · rw [i_x, if_neg hb] at hj
      rcases i_cov h k j hj with z | ⟨p, z1, z2⟩
      · exact Or.inl z
      · exact Or.inr ⟨p, by omega, z2⟩
section
variable {M : m_M} {X : n_X} {me : Int}
theorem n_pop_r (X : n_X) : n_pop X = 30 ∨ n_pop X = 31 := by
  unfold n_pop
  split
  · exact Or.inl rfl
  · exact Or.inr rfl
theorem n_op_r (h : n_ok M X) {p : Nat} (hc : 0 ≤ Mc M p ∧ Mc M p ≤ 255) : 0 ≤ n_op M X p ∧ n_op M X p ≤ 255 := by
  rcases n_opx h p with ⟨e, _⟩ | ⟨e1, e2, _⟩ <;> omega
/-- all items' instructions are in range -/
theorem c_I_r (h : n_ok M X) {s : xw_S} (hI : c_I M X s) (hc : ∀ p, p < ML M → 0 ≤ Mc M p ∧ Mc M p ≤ 255) : ∀ j : Nat, (j : Int) < i_n M X → 0 ≤ s.1 11 j ∧ s.1 11 j ≤ 255 := by
  intro j hj
  have r := i_x_r h (ML M)
  by_cases h1 : (j : Int) < i_x M X (ML M)
  · rcases i_cov h (ML M) j h1 with ⟨z, e⟩ | ⟨p, z1, z2, z3⟩
    · have := (hI.2.2.2 z).1.1
      rw [e]; omega
    · obtain ⟨a1, a2, a3, a4, a5⟩ := hI.1 p z1 z2
      rcases z3 with ⟨y1, y2⟩ | y
      · have := (a2 y1).1
        rw [show j = (i_x M X p).toNat by omega, this]
        have := n_pop_r X
        omega
      · rw [show j = (i_x M X p + Xp X p).toNat by omega, a3]
        exact n_op_r h (hc p z1)
  · have h0 : Xc X = 0 := by
      apply Classical.byContradiction
      intro z
      unfold i_n at hj
      rw [if_neg z] at hj
      omega
    obtain ⟨t1, t2, t3⟩ := hI.2.2.2 h0
    unfold i_n at hj
    rw [if_pos h0] at hj
    have hj2 : j = (i_x M X (ML M)).toNat ∨ j = (i_x M X (ML M)).toNat + 1 := by omega
    rcases hj2 with e | e
    · rw [e, t2.1]; omega
    · rw [e, t3.1]; omega
/-- the sums of the sizes are the places -/
theorem i_pl (h : n_ok M X) {s : xw_S} (hI : c_I M X s) : ∀ k, k ≤ ML M → pls (s.1 11) (i_x M X k).toNat = n_ld M X k ∧ (k < ML M → m_bg (Mc M) k → pls (s.1 11) (i_x M X k + Xp X k).toNat = n_ow M X k) := by
  have own : ∀ k, k < ML M → m_bg (Mc M) k → pls (s.1 11) (i_x M X k).toNat = n_ld M X k → pls (s.1 11) (i_x M X k + Xp X k).toNat = n_ow M X k := by
    intro k hk hb h1
    have r := i_x_r h k
    unfold n_ow
    rcases h.2.2.1 k with z | z
    · rw [z, show i_x M X k + 0 = i_x M X k by omega, h1]; omega
    · have a2 := ((hI.1 k hk hb).2.1 z).1
      rw [z, show (i_x M X k + 1).toNat = (i_x M X k).toNat + 1 by omega, pls, h1, a2]
      have : q_sz (n_pop X) = 2 := by rcases n_pop_r X with e | e <;> rw [e] <;> decide
      omega
  intro k
  induction k with
  | zero =>
    intro hk
    have e : pls (s.1 11) (i_x M X 0).toNat = n_ld M X 0 := by
      show _ = n_pre X
      unfold n_pre
      rw [i_x]
      by_cases h0 : Xc X = 0
      · rw [if_pos h0, if_pos h0]
        show pls (s.1 11) 1 = 2
        rw [pls, pls, (hI.2.2.2 h0).1.1]
        decide
      · rw [if_neg h0, if_neg h0]; rfl
    exact ⟨e, fun h1 h2 => own 0 h1 h2 e⟩
  | succ k ih =>
    intro hk
    obtain ⟨i1, i2⟩ := ih (by omega)
    have e : pls (s.1 11) (i_x M X (k + 1)).toNat = n_ld M X (k + 1) := by
      by_cases hb : m_bg (Mc M) k
      · have r := i_x_r h k
        have hp := h.2.2.1 k
        have a3 := (hI.1 k (by omega) hb).2.2.1
        rw [i_x, if_pos hb, show (i_x M X k + Xp X k + 1).toNat = (i_x M X k + Xp X k).toNat + 1 by omega, pls, i2 (by omega) hb, a3, n_op_sz h k, n_ld, if_pos hb]
        unfold n_ow
        omega
      · rw [i_x, if_neg hb, n_ld, if_neg hb]; exact i1
    exact ⟨e, fun h1 h2 => own (k + 1) h1 h2 e⟩
theorem i_pl_n (h : n_ok M X) {s : xw_S} (hI : c_I M X s) : pls (s.1 11) (i_n M X).toNat = (n_L M X : Int) := by
  have e := (i_pl h hI (ML M) (Nat.le_refl _)).1
  have r := i_x_r h (ML M)
  have l := n_ld_0 h (ML M)
  unfold i_n n_L n_pst
  by_cases h0 : Xc X = 0
  · obtain ⟨t1, t2, t3⟩ := hI.2.2.2 h0
    rw [if_pos h0, if_pos h0, show (i_x M X (ML M) + 2).toNat = (i_x M X (ML M)).toNat + 1 + 1 by omega, pls, pls, e, t2.1, t3.1]
    have e1 : q_sz 30 = 2 := by decide
    have e2 : q_sz 32 = 1 := by decide
    omega
  · rw [if_neg h0, if_neg h0, show i_x M X (ML M) + 0 = i_x M X (ML M) by omega, e]; omega
/-- the places stand -/
def c_pl (M : m_M) (X : n_X) (s : xw_S) : Prop := (∀ p, p ≤ ML M → m_bg (Mc M) p → s.1 14 (i_x M X p).toNat = n_ld M X p) ∧ (∀ p, p < ML M → m_bg (Mc M) p → s.1 14 (i_x M X p + Xp X p).toNat = n_ow M X p) ∧ s.1 14 (i_n M X).toNat = (n_L M X : Int) ∧ (Xc X = 0 → s.1 14 0 = 0 ∧ s.1 14 ((i_x M X (ML M)).toNat + 1) = n_ld M X (ML M) + 2)
theorem c_cp9 (fu : Nat) {n : Nat} (hn : n ≤ 243) : ∀ (dd k N : Nat) (s : xw_S), k + dd = n → dd < N → s.1 10 7 = (n : Int) → (∀ j, j < n → 0 ≤ s.1 11 j ∧ s.1 11 j ≤ 255) → (∀ j, j ≤ k → s.1 14 j = pls (s.1 11) j) → ∃ s', (∀ K : xw_S → Option xw_S, lp_LM_countPlaces_9 fu K N s (k : Int) = K s') ∧ frm (fun i _ => i = 14) s s' ∧ ∀ j, j ≤ n → s'.1 14 j = pls (s.1 11) j := by
  intro dd
  induction dd with
  | zero =>
    intro k N s hk hN h7 hr hp
    obtain ⟨N, rfl⟩ : ∃ n', N = n' + 1 := ⟨N - 1, by omega⟩
    exact ⟨s, fun K => by rw [lp_LM_countPlaces_9, h7, xw_grd_t ⟨⟨by omega, by omega⟩, ⟨by omega, by omega⟩⟩, xw_if_t (by omega)], frm_rf _ _, fun j hj => hp j (by omega)⟩
  | succ dd ih =>
    intro k N s hk hN h7 hr hp
    obtain ⟨N, rfl⟩ : ∃ n', N = n' + 1 := ⟨N - 1, by omega⟩
    have hk' := hr k (by omega)
    have e11 : (xw_st s 14 (k + 1) (pls (s.1 11) k + q_sz (s.1 11 k))).1 11 = s.1 11 := funext (fun j => st_i (by decide))
    obtain ⟨s', g1, g2, g3⟩ := ih (k + 1) N (xw_st s 14 (k + 1) (pls (s.1 11) k + q_sz (s.1 11 k))) (by omega) (by omega) (by rw [st_i (by decide)]; exact h7) (by rw [e11]; exact hr) (fun j hj => by
      rw [e11]
      by_cases hjk : j = k + 1
      · rw [hjk, st_s]; rfl
      · rw [st_k hjk]; exact hp j (by omega))
    rw [e11] at g3
    refine ⟨s', fun K => ?_, frm_tr (frm_st rfl) g2, g3⟩
    rw [lp_LM_countPlaces_9, h7, xw_grd_t ⟨⟨by omega, by omega⟩, ⟨by omega, by omega⟩⟩, xw_if_f (by omega), xw_grd_t (by omega), xw_grd_t (by omega), Int.toNat_natCast, xw_bn2_e (q_OPsize fu s ⟨by omega, by omega⟩), xw_grd_t (by omega), xw_let_e, xw_let_e, show ((k : Int) + 1).toNat = k + 1 by omega, hp k (Nat.le_refl _)]
    exact g1 K
def S_14' : Nat → Nat → Prop := fun i _ => i = 14
theorem q_cp (fu : Nat) (hfu : 2000 ≤ fu) (h : n_ok M X) (hL : ML M ≤ 120) {s : xw_S} (hI : c_I M X s) (hc : ∀ p, p < ML M → 0 ≤ Mc M p ∧ Mc M p ≤ 255) : ∃ s', f_LM_countPlaces fu s = some s' ∧ frm S_14' s s' ∧ c_I M X s' ∧ c_pl M X s' := by
  have r := i_x_r h (ML M)
  have rn : 0 ≤ i_n M X ∧ i_n M X ≤ 243 := by unfold i_n; split <;> omega
  have e11 : (xw_st s 14 0 0).1 11 = s.1 11 := funext (fun j => st_i (by decide))
  obtain ⟨s1, a1, a2, a3⟩ := c_cp9 fu (n := (i_n M X).toNat) (by omega) (i_n M X).toNat 0 fu (xw_st s 14 0 0) (by omega) (by omega) (by rw [st_i (by decide), hI.2.2.1]; omega) (fun j hj => by rw [e11]; exact c_I_r h hI hc j (by omega)) (fun j hj => by rw [show j = 0 by omega, st_s]; rfl)
  have a1' : ∀ K : xw_S → Option xw_S, lp_LM_countPlaces_9 fu K fu (xw_st s 14 (0 : Int).toNat 0) 0 = K s1 := a1
  have f1 : frm S_14' s s1 := frm_tr (frm_st rfl) a2
  rw [e11] at a3
  have nf : ∀ i j, i ≠ 14 → s1.1 i j = s.1 i j := fun i j hi => f1.2 i j hi
  have hI1 : c_I M X s1 := by
    obtain ⟨b1, b2, b3, b4⟩ := hI
    refine ⟨fun p hp hb => ?_, by rw [nf _ _ (by decide)]; exact b2, by rw [nf _ _ (by decide)]; exact b3, fun z => ?_⟩
    · have := b1 p hp hb
      unfold c_i1 at this ⊢
      rw [nf _ _ (by decide), nf _ _ (by decide), nf _ _ (by decide), nf _ _ (by decide), nf _ _ (by decide), nf _ _ (by decide), nf _ _ (by decide)]
      exact this
    · rw [nf _ _ (by decide), nf _ _ (by decide), nf _ _ (by decide), nf _ _ (by decide), nf _ _ (by decide), nf _ _ (by decide), nf _ _ (by decide), nf _ _ (by decide), nf _ _ (by decide)]
      exact b4 z
  refine ⟨s1, ?_, f1, hI1, fun p hp hb => ?_, fun p hp hb => ?_, ?_, fun z => ⟨?_, ?_⟩⟩
  · unfold f_LM_countPlaces
    rw [xw_let_e, xw_jn_e, a1']
  · have le := i_x_le h hp
    have r2 := i_x_r h p
    rw [a3 _ (by unfold i_n at rn ⊢; split <;> omega)]
    exact (i_pl h hI p hp).1
  · have le := i_x_le h (p := p + 1) (q := ML M) (by omega)
    have r2 := i_x_r h p
    have l1 : i_x M X (p + 1) = i_x M X p + Xp X p + 1 := by rw [i_x, if_pos hb]
    rw [a3 _ (by unfold i_n at rn ⊢; split <;> omega)]
    exact (i_pl h hI p (by omega)).2 hp hb
  · rw [a3 _ (Nat.le_refl _)]; exact i_pl_n h hI
  · rw [a3 0 (Nat.zero_le _)]; rfl
  · have en : i_n M X = i_x M X (ML M) + 2 := by unfold i_n; rw [if_pos z]
    rw [a3 _ (by omega), pls, (i_pl h hI (ML M) (Nat.le_refl _)).1, (hI.2.2.2 z).2.1.1]
    rfl
theorem q_np (fu : Nat) (h : n_ok M X) (hL : ML M ≤ 120) {s : xw_S} (h15 : ∀ p, p ≤ ML M → m_bg (Mc M) p → s.1 15 p = i_x M X p) (hp14 : ∀ p, p ≤ ML M → m_bg (Mc M) p → s.1 14 (i_x M X p).toNat = n_ld M X p) {p : Nat} (hp : p ≤ ML M) (hb : m_bg (Mc M) p) : f_LM_newPlace fu s (p : Int) = some (s, n_ld M X p) := by
  have r := i_x_r h p
  unfold f_LM_newPlace
  rw [xw_grd_t ⟨by omega, by omega⟩, xw_if_f (by omega), xw_if_f (by omega), xw_grd_t (by omega), Int.toNat_natCast, h15 p hp hb, xw_grd_t (by omega), hp14 p hp hb]
end
