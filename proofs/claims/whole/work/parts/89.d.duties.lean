/-! 89.d: the duties but run -/
theorem iv_b_f {σ ρ σ' ρ' : xw_S} (h : iv_b σ ρ) (h1 : σ'.1 1 1 = σ.1 1 1) (h2 : ∀ k, σ'.1 2 k = σ.1 2 k) (h3 : ρ'.1 0 1 = ρ.1 0 1) (h4 : ∀ k, ρ'.1 1 k = ρ.1 1 k) : iv_b σ' ρ' := by
  obtain ⟨b1, b2, b3, b4⟩ := h
  refine ⟨by rw [h1, h3]; exact b1, by rw [h1]; exact b2, by rw [h1]; exact b3, fun k hk => ?_⟩
  rw [h1] at hk
  rw [h2, h4]
  exact b4 k hk
theorem iv_f_f {σ ρ σ' ρ' : xw_S} (h : iv_f σ ρ) (h1 : ∀ k, σ'.1 7 k = σ.1 7 k) (h2 : ∀ k, ρ'.1 13 k = ρ.1 13 k) (h3 : σ'.1 0 9 = σ.1 0 9) : iv_f σ' ρ' := fun k hk => by
  rw [h1, h2, h3]; exact h k hk
theorem iv_r_f {σ ρ σ' ρ' : xw_S} (h : iv_r σ ρ) (h1 : ∀ i k, (i = 17 ∨ i = 19 ∨ i = 20) → σ'.1 i k = σ.1 i k) (h2 : ∀ k, (k = 38 ∨ k = 39 ∨ k = 40) → ρ'.1 0 k = ρ.1 0 k) (h3 : ∀ i k, (i = 27 ∨ i = 28) → ρ'.1 i k = ρ.1 i k) : iv_r σ' ρ' := by
  obtain ⟨r1, r2, r3, r4, r5, r6, r7⟩ := h
  refine ⟨?_, ?_, ?_, ?_, fun k hk hk2 => ?_, fun m p hm hp => ?_, fun m p hm hp1 hp2 => ?_⟩
  · rw [h1 17 6 (by omega), h2 38 (by omega)]; exact r1
  · rw [h1 17 7 (by omega), h2 39 (by omega)]; exact r2
  · rw [h1 17 8 (by omega), h2 40 (by omega)]; exact r3
  · rw [h1 17 8 (by omega)]; exact r4
  · rw [h1 17 8 (by omega)] at hk2
    rw [h1 19 k (by omega), h3 27 k (by omega)]; exact r5 k hk hk2
  · rw [h1 20 _ (by omega), h3 28 _ (by omega)]; exact r6 m p hm hp
  · rw [h3 28 _ (by omega)]; exact r7 m p hm hp1 hp2
theorem iv_k_f {σ ρ σ' ρ' : xw_S} (h : iv_k σ ρ) (h1 : σ'.1 0 9 = σ.1 0 9 ∧ σ'.1 0 11 = σ.1 0 11) (h2 : ρ'.1 0 10 = ρ.1 0 10 ∧ ρ'.1 0 12 = ρ.1 0 12) : iv_k σ' ρ' := by
  unfold iv_k
  rw [h1.1, h1.2, h2.1, h2.2]; exact h
/-- the bodies stay -/
theorem iv_M_f {σ ρ σ' ρ' : xw_S} {S T : Nat → Nat → Prop} (h : iv_0 σ ∧ ∃ Mz Wz : Nat → m_M, (∀ j : Nat, (j : Int) < σ.1 0 9 → w_L Mz (σ.1 0 9) j σ ρ) ∧ (σ.1 0 11 = 1 → ∀ j : Nat, (j : Int) < σ.1 0 9 → w_D Mz (σ.1 0 9) j σ ρ (Wz j))) (hf : frm S σ σ') (hg : rfm T ρ ρ') (hS : ∀ i k, S i k → i < 48 ∧ i ≠ 9 ∧ ¬ (i = 0 ∧ (k = 9 ∨ k = 11))) (hT : ∀ i k, T i k → ¬ (2 ≤ i ∧ i ≤ 9)) : iv_0 σ' ∧ ∃ Mz Wz : Nat → m_M, (∀ j : Nat, (j : Int) < σ'.1 0 9 → w_L Mz (σ'.1 0 9) j σ' ρ') ∧ (σ'.1 0 11 = 1 → ∀ j : Nat, (j : Int) < σ'.1 0 9 → w_D Mz (σ'.1 0 9) j σ' ρ' (Wz j)) := by
  obtain ⟨⟨a1, a2, a3⟩, Mz, Wz, hL, hD⟩ := h
  have e9 : σ'.1 0 9 = σ.1 0 9 := hf.2 _ _ (fun z => (hS _ _ z).2.2 ⟨rfl, Or.inl rfl⟩)
  have e11 : σ'.1 0 11 = σ.1 0 11 := hf.2 _ _ (fun z => (hS _ _ z).2.2 ⟨rfl, Or.inr rfl⟩)
  refine ⟨⟨fun p hp => ?_, fun j hj => ?_, fun j hj => ?_⟩, Mz, Wz, fun j hj => ?_, fun hz j hj => ?_⟩
  · rw [hf.2 _ _ (fun z => (hS _ _ z).2.1 rfl)]; exact a1 p hp
  · rw [hf.2 _ _ (fun z => by have := (hS _ _ z).1; omega)]; exact a2 j hj
  · rw [hf.2 _ _ (fun z => by have := (hS _ _ z).1; omega)]; exact a3 j hj
  · rw [e9] at hj ⊢
    obtain ⟨y1, y2, y3, y4, y5⟩ := hL j hj
    exact ⟨c_M_f y1 hf (fun i k z => by have := (hS _ _ z).1; omega), r_M_f y2 hg (fun i k z => by have := hT _ _ z; omega), y3, c_X_f y4 hf (fun i k z => by have := (hS _ _ z).1; omega), y5⟩
  · rw [e11] at hz
    rw [e9] at hj ⊢
    obtain ⟨y1, y2, y3, y4, y5⟩ := hD hz j hj
    exact ⟨c_M_f y1 hf (fun i k z => by have := (hS _ _ z).1; omega), r_M_f y2 hg (fun i k z => by have := hT _ _ z; omega), y3, c_X_f y4 hf (fun i k z => by have := (hS _ _ z).1; omega), y5⟩
theorem iv_put (fu : Nat) (hfu : 1000 ≤ fu) : xl_put fu iv_I := by
  intro σ ρ a0 a1 h _ h1
  obtain ⟨hb, hc, hf, hr, hk, hM⟩ := h
  obtain ⟨σ', ρ', r, q1, q2, q3, q4, q5⟩ := q_put fu hfu σ ρ a0 a1 h1 hb
  have nf : ∀ i k, ¬ ((i = 1 ∧ k = 1) ∨ i = 2) → σ'.1 i k = σ.1 i k := fun i k z => q4.2 i k (fun y => z (by unfold S_cb at y; omega))
  have ng : ∀ i k, ¬ ((i = 0 ∧ k = 1) ∨ i = 1) → ρ'.1 i k = ρ.1 i k := fun i k z => q5.2 i k (fun y => z (by unfold S_rb at y; omega))
  exact ⟨σ', ρ', r, q1, q2, q3, iv_c_f hc (fun k => nf _ _ (by omega)) (fun t k _ => nf _ _ (by omega)) (ng _ _ (by omega)) (fun t => ⟨ng _ _ (by omega), ng _ _ (by omega), ng _ _ (by omega)⟩), iv_f_f hf (fun k => nf _ _ (by omega)) (fun k => ng _ _ (by omega)) (nf _ _ (by omega)), iv_r_f hr (fun i k z => nf _ _ (by omega)) (fun k z => ng _ _ (by omega)) (fun i k z => ng _ _ (by omega)), iv_k_f hk ⟨nf _ _ (by omega), nf _ _ (by omega)⟩ ⟨ng _ _ (by omega), ng _ _ (by omega)⟩, iv_M_f hM q4 (rfm_frm q5) (fun i k z => by unfold S_cb at z; omega) (fun i k z => by unfold S_rb at z; omega)⟩
theorem iv_trans (fu : Nat) : xl_transformer fu iv_I := by
  intro σ ρ a0 a1 a2 h h0 h1 h2
  obtain ⟨hb, hc, hf, hr, hk, hM⟩ := h
  obtain ⟨σ', ρ', r, q1, q2, q3, q4, q5⟩ := q_transformer fu σ ρ a0 a1 a2 h0 h1 h2 hc
  have nf : ∀ i k, ¬ ((i = 0 ∧ k = 10) ∨ (21 ≤ i ∧ i < 24)) → σ'.1 i k = σ.1 i k := fun i k z => q4.2 i k (fun y => z (by unfold S_cc at y; omega))
  have ng : ∀ i k, ¬ ((i = 0 ∧ k = 15) ∨ i = 10 ∨ i = 11 ∨ i = 12) → ρ'.1 i k = ρ.1 i k := fun i k z => q5.2 i k (fun y => z (by unfold S_rc at y; omega))
  exact ⟨σ', ρ', r, q1, q2, iv_b_f hb (nf _ _ (by omega)) (fun k => nf _ _ (by omega)) (ng _ _ (by omega)) (fun k => ng _ _ (by omega)), q3, iv_f_f hf (fun k => nf _ _ (by omega)) (fun k => ng _ _ (by omega)) (nf _ _ (by omega)), iv_r_f hr (fun i k z => nf _ _ (by omega)) (fun k z => ng _ _ (by omega)) (fun i k z => ng _ _ (by omega)), iv_k_f hk ⟨nf _ _ (by omega), nf _ _ (by omega)⟩ ⟨ng _ _ (by omega), ng _ _ (by omega)⟩, iv_M_f hM q4 (rfm_frm q5) (fun i k z => by unfold S_cc at z; omega) (fun i k z => by unfold S_rc at z; omega)⟩
theorem iv_unchain (fu : Nat) : xl_unchain fu iv_I := by
  intro σ ρ h
  obtain ⟨hb, hc, hf, hr, hk, hM⟩ := h
  have f1 : frm (fun i k => i = 0 ∧ k = 10) σ (xw_st σ 0 10 0) := frm_st ⟨rfl, rfl⟩
  have g1 : frm (fun i k => i = 0 ∧ k = 15) ρ (xw_st ρ 0 15 0) := frm_st ⟨rfl, rfl⟩
  have nf : ∀ i k, ¬ (i = 0 ∧ k = 10) → (xw_st σ 0 10 0).1 i k = σ.1 i k := fun i k z => f1.2 i k z
  have ng : ∀ i k, ¬ (i = 0 ∧ k = 15) → (xw_st ρ 0 15 0).1 i k = ρ.1 i k := fun i k z => g1.2 i k z
  refine ⟨xw_st σ 0 10 0, xw_st ρ 0 15 0, rfl, rfl, iv_b_f hb (nf _ _ (by omega)) (fun k => nf _ _ (by omega)) (ng _ _ (by omega)) (fun k => ng _ _ (by omega)), ?_, iv_f_f hf (fun k => nf _ _ (by omega)) (fun k => ng _ _ (by omega)) (nf _ _ (by omega)), iv_r_f hr (fun i k z => nf _ _ (by omega)) (fun k z => ng _ _ (by omega)) (fun i k z => ng _ _ (by omega)), iv_k_f hk ⟨nf _ _ (by omega), nf _ _ (by omega)⟩ ⟨ng _ _ (by omega), ng _ _ (by omega)⟩, iv_M_f hM f1 (rfm_frm g1) (fun i k z => by omega) (fun i k z => by omega)⟩
  refine ⟨by rw [st_s, st_s], by rw [st_s]; omega, by rw [st_s]; omega, fun t ht => ?_⟩
  rw [st_s] at ht
  omega
theorem iv_clear (fu : Nat) : xl_clear fu iv_I := by
  intro σ ρ h
  obtain ⟨hb, hc, hf, hr, hk, hM⟩ := h
  have f1 : frm (fun i k => i = 1 ∧ k = 1) σ (xw_st σ 1 1 0) := frm_st ⟨rfl, rfl⟩
  have g1 : frm (fun i k => i = 0 ∧ k = 1) ρ (xw_st ρ 0 1 0) := frm_st ⟨rfl, rfl⟩
  have nf : ∀ i k, ¬ (i = 1 ∧ k = 1) → (xw_st σ 1 1 0).1 i k = σ.1 i k := fun i k z => f1.2 i k z
  have ng : ∀ i k, ¬ (i = 0 ∧ k = 1) → (xw_st ρ 0 1 0).1 i k = ρ.1 i k := fun i k z => g1.2 i k z
  refine ⟨xw_st σ 1 1 0, xw_st ρ 0 1 0, rfl, rfl, ?_, iv_c_f hc (fun k => nf _ _ (by omega)) (fun t k _ => nf _ _ (by omega)) (ng _ _ (by omega)) (fun t => ⟨ng _ _ (by omega), ng _ _ (by omega), ng _ _ (by omega)⟩), iv_f_f hf (fun k => nf _ _ (by omega)) (fun k => ng _ _ (by omega)) (nf _ _ (by omega)), iv_r_f hr (fun i k z => nf _ _ (by omega)) (fun k z => ng _ _ (by omega)) (fun i k z => ng _ _ (by omega)), iv_k_f hk ⟨nf _ _ (by omega), nf _ _ (by omega)⟩ ⟨ng _ _ (by omega), ng _ _ (by omega)⟩, iv_M_f hM f1 (rfm_frm g1) (fun i k z => by omega) (fun i k z => by omega)⟩
  refine ⟨by rw [st_s, st_s], by rw [st_s]; omega, by rw [st_s]; omega, fun k hk => ?_⟩
  rw [st_s] at hk
  omega
/-- which body, which method -/
theorem iv_which {σ ρ : xw_S} (fu : Nat) (h : iv_I σ ρ) {w m : Int} (hw : w = 0 ∨ w = 1) (hm : xw_r m) : (f_AW_bodyOf fu σ w m = some (σ, none) ∧ f_MD_slot fu ρ w m = some (ρ, -1)) ∨ ∃ (b q : Nat) (M : m_M) (A : Nat → Int), f_AW_bodyOf fu σ w m = some (σ, some b) ∧ f_MD_slot fu ρ w m = some (ρ, (q : Int)) ∧ iv_B σ ρ b q M A (σ.1 0 9) := by
  obtain ⟨hb, hc, hf, hr, hk, h0, Mz, Wz, hL, hD⟩ := h
  obtain ⟨b1, b2⟩ := q_bodyOf fu hk hw hm
  obtain ⟨s1, s2⟩ := q_slot fu hk hw hm
  obtain ⟨k1, k2, k3, k4, k5⟩ := hk
  by_cases hn : m_no σ w m
  · exact Or.inl ⟨b1 hn, s1 hn⟩
  · right
    have e1 := b2 hn
    have e2 := s2 hn
    have hmr : 0 ≤ m ∧ m < σ.1 0 9 ∧ (w = 1 → σ.1 0 11 = 1) := by
      unfold m_no at hn
      refine ⟨by omega, by omega, fun z => by omega⟩
    rcases hw with ew | ew
    · rw [if_neg (by omega)] at e1 e2
      obtain ⟨y1, y2, y3, y4, y5, y6⟩ := hL m.toNat (by omega)
      refine ⟨4 * 1 + m.toNat, m.toNat, Mz m.toNat, fun m => Ma (Mz m), e1, by rw [e2, show ((m.toNat : Nat) : Int) = m by omega], ?_⟩
      rw [show 4 * 1 + m.toNat = 4 + m.toNat by omega]
      refine ⟨y1, y2, y3, y4, k3, fun k hk => ?_⟩
      obtain ⟨z1, z2, z3, z4, z5, z6⟩ := hL k hk
      rw [show m.toNat / 4 * 4 + k = k by omega]
      exact ⟨z2.2.2.2.1, z6.2.1⟩
    · rw [if_pos ew] at e1 e2
      obtain ⟨y1, y2, y3, y4, y5, y6⟩ := hD (hmr.2.2 ew) m.toNat (by omega)
      refine ⟨4 * 2 + m.toNat, 4 + m.toNat, Wz m.toNat, fun m => Ma (Mz m), e1, by rw [e2, show ((4 + m.toNat : Nat) : Int) = 4 + m by omega], ?_⟩
      rw [show 4 * 2 + m.toNat = 8 + m.toNat by omega]
      refine ⟨y1, y2, y3, y4, k3, fun k hk => ?_⟩
      obtain ⟨z1, z2, z3, z4, z5, z6⟩ := hD (hmr.2.2 ew) k hk
      obtain ⟨u1, u2, u3, u4, u5, u6⟩ := hL k hk
      rw [show (4 + m.toNat) / 4 * 4 + k = 4 + k by omega]
      exact ⟨by rw [z2.2.2.2.1]; exact z6, u6.2.1⟩
theorem iv_rx {σ ρ ρ' : xw_S} (h : iv_I σ ρ) (hg : rfm (fun i k => S_rx i k ∨ i = 14) ρ ρ') : iv_I σ ρ' := by
  obtain ⟨hb, hc, hf, hr, hk, hM⟩ := h
  have ng : ∀ i k, ¬ (i = 15 ∨ (i = 0 ∧ (k = 23 ∨ k = 24)) ∨ i = 14) → ρ'.1 i k = ρ.1 i k := fun i k z => hg i k (fun y => z (by unfold S_rx at y; omega))
  exact ⟨iv_b_f hb rfl (fun _ => rfl) (ng _ _ (by omega)) (fun k => ng _ _ (by omega)), iv_c_f hc (fun _ => rfl) (fun _ _ _ => rfl) (ng _ _ (by omega)) (fun t => ⟨ng _ _ (by omega), ng _ _ (by omega), ng _ _ (by omega)⟩), iv_f_f hf (fun _ => rfl) (fun k => ng _ _ (by omega)) rfl, iv_r_f hr (fun _ _ _ => rfl) (fun k z => ng _ _ (by omega)) (fun i k z => ng _ _ (by omega)), iv_k_f hk ⟨rfl, rfl⟩ ⟨ng _ _ (by omega), ng _ _ (by omega)⟩, iv_M_f hM (frm_rf (fun _ _ => False) σ) hg (fun i k z => z.elim) (fun i k z => by unfold S_rx at z; omega)⟩
theorem iv_shape (fu : Nat) (hfu : 10000 ≤ fu) : xl_shape fu iv_I := by
  intro σ ρ a0 a1 a2 h h0 h1 h2
  rcases iv_which fu h h0 h1 with ⟨e1, e2⟩ | ⟨b, q, M, A, e1, e2, e3⟩
  · refine ⟨σ, ρ, -1, ?_, ?_, h⟩
    · unfold f_AW_shape
      rw [xw_bn2_e e1]
      rfl
    · unfold f_MD_shape
      rw [xw_bn2_e e2, xw_grd_t (by decide), xw_if_t (by decide)]
  · obtain ⟨ρ', r, q1, q2, q3⟩ := q_shape fu hfu e3 h2 e1 e2
    exact ⟨σ, ρ', r, q1, q2, iv_rx h q3⟩
theorem iv_depth (fu : Nat) (hfu : 10000 ≤ fu) : xl_depth fu iv_I := by
  intro σ ρ a0 a1 a2 h h0 h1 h2
  rcases iv_which fu h h0 h1 with ⟨e1, e2⟩ | ⟨b, q, M, A, e1, e2, e3⟩
  · refine ⟨σ, ρ, -1, ?_, ?_, h⟩
    · unfold f_AW_depth
      rw [xw_bn2_e e1]
      rfl
    · unfold f_MD_depth
      rw [xw_bn2_e e2, xw_grd_t (by decide), xw_if_t (by decide)]
  · obtain ⟨ρ', r, q1, q2, q3⟩ := q_depth fu hfu e3 h2 e1 e2
    exact ⟨σ, ρ', r, q1, q2, iv_rx h q3⟩
theorem iv_code (fu : Nat) : xl_code fu iv_I := by
  intro σ ρ a0 a1 a2 h h0 h1 h2
  rcases iv_which fu h h0 h1 with ⟨e1, e2⟩ | ⟨b, q, M, A, e1, e2, e3⟩
  · refine ⟨σ, ρ, -1, ?_, ?_, h⟩
    · unfold f_AW_code
      rw [xw_bn2_e e1]
      rfl
    · unfold f_MD_code
      rw [xw_bn2_e e2, xw_jn_e, xw_grd_t (by decide), xw_if_t (by decide)]
  · obtain ⟨r, q1, q2⟩ := q_code fu e3.1 e3.2.1 h2 e1 e2
    exact ⟨σ, ρ, r, q1, q2, h⟩
theorem iv_hand (fu : Nat) : xl_handler fu iv_I := by
  intro σ ρ a0 a1 a2 a3 h h0 h1 h2 h3
  rcases iv_which fu h h0 h1 with ⟨e1, e2⟩ | ⟨b, q, M, A, e1, e2, e3⟩
  · refine ⟨σ, ρ, -1, ?_, ?_, h⟩
    · unfold f_AW_handler
      rw [xw_bn2_e e1]
      rfl
    · unfold f_MD_handler
      rw [xw_bn2_e e2, xw_jn_e, xw_grd_t (by decide), xw_if_t (by decide)]
  · obtain ⟨r, q1, q2⟩ := q_hand fu e3.1 e3.2.1 h2 h3 e1 e2
    exact ⟨σ, ρ, r, q1, q2, h⟩
theorem iv_load (fu : Nat) (hfu : 10000 ≤ fu) : xl_load fu iv_I := by
  intro σ ρ h
  obtain ⟨hb, hc, hf, hr, hk, hM⟩ := h
  have h0 := hM.1
  rcases q_load fu hfu hb h0.2.1 h0.1 with ⟨σ', ρ', r, q1, q2, q3, q4, q5⟩ | ⟨σ', ρ', n, Mz, q1, q2, q3, q4, q5, q6, q7, q8, q9⟩
  · have nf : ∀ i k, ¬ (S_lc0 i k) → σ'.1 i k = σ.1 i k := fun i k z => q3.2 i k z
    have ng : ∀ i k, ¬ (S_lr0 i k) → ρ'.1 i k = ρ.1 i k := fun i k z => q4 i k z
    obtain ⟨Mz, Wz, hL, hD⟩ := hM.2
    have e9 : σ'.1 0 9 = σ.1 0 9 := nf _ _ (by unfold S_lc0 S_in S_tk S_ck; omega)
    have e11 : σ'.1 0 11 = σ.1 0 11 := nf _ _ (by unfold S_lc0 S_in S_tk S_ck; omega)
    refine ⟨σ', ρ', r, q1, q2, ?_, ?_, ?_, ?_, ?_, ⟨q5, fun j hj => ?_, fun j hj => ?_⟩, Mz, Wz, fun j hj => ?_, fun hz j hj => ?_⟩
    · exact iv_b_f hb (nf _ _ (by unfold S_lc0 S_in S_tk S_ck; omega)) (fun k => nf _ _ (by unfold S_lc0 S_in S_tk S_ck; omega)) (ng _ _ (by unfold S_lr0 S_iR S_nx S_rx; omega)) (fun k => ng _ _ (by unfold S_lr0 S_iR S_nx S_rx; omega))
    · refine ⟨by rw [nf _ _ (by unfold S_lc0 S_in S_tk S_ck; omega), ng _ _ (by unfold S_lr0 S_iR S_nx S_rx; omega)]; exact hc.1, by rw [nf _ _ (by unfold S_lc0 S_in S_tk S_ck; omega)]; exact hc.2.1, by rw [nf _ _ (by unfold S_lc0 S_in S_tk S_ck; omega)]; exact hc.2.2.1, fun t ht => ?_⟩
      have hch := hc.2.2.1
      rw [nf _ _ (by unfold S_lc0 S_in S_tk S_ck; omega)] at ht
      rw [nf _ _ (by unfold S_lc0 S_in S_tk S_ck; omega), nf _ _ (by unfold S_lc0 S_in S_tk S_ck; omega), nf _ _ (by unfold S_lc0 S_in S_tk S_ck; omega), ng _ _ (by unfold S_lr0 S_iR S_nx S_rx; omega), ng _ _ (by unfold S_lr0 S_iR S_nx S_rx; omega), ng _ _ (by unfold S_lr0 S_iR S_nx S_rx; omega)]
      exact hc.2.2.2 t ht
    · exact iv_f_f hf (fun k => nf _ _ (by unfold S_lc0 S_in S_tk S_ck; omega)) (fun k => ng _ _ (by unfold S_lr0 S_iR S_nx S_rx; omega)) e9
    · exact iv_r_f hr (fun i k z => nf _ _ (by unfold S_lc0 S_in S_tk S_ck; omega)) (fun k z => ng _ _ (by unfold S_lr0 S_iR S_nx S_rx; omega)) (fun i k z => ng _ _ (by unfold S_lr0 S_iR S_nx S_rx; omega))
    · exact iv_k_f hk ⟨e9, e11⟩ ⟨ng _ _ (by unfold S_lr0 S_iR S_nx S_rx; omega), ng _ _ (by unfold S_lr0 S_iR S_nx S_rx; omega)⟩
    · rw [nf _ _ (by unfold S_lc0 S_in S_tk S_ck; omega)]; exact h0.2.1 j hj
    · rw [nf _ _ (by unfold S_lc0 S_in S_tk S_ck; omega)]; exact h0.2.2 j hj
    · have hk3 := hk.2.2.1
      rw [e9] at hj ⊢
      obtain ⟨y1, y2, y3, y4, y5⟩ := hL j hj
      exact ⟨c_M_f y1 q3 (fun i k z => by unfold S_lc0 S_in S_tk S_ck at z; omega), r_M_f y2 q4 (fun i k z => by unfold S_lr0 S_iR S_nx S_rx at z; omega), y3, c_X_f y4 q3 (fun i k z => by unfold S_lc0 S_in S_tk S_ck at z; omega), y5⟩
    · have hk3 := hk.2.2.1
      rw [e11] at hz
      rw [e9] at hj ⊢
      obtain ⟨y1, y2, y3, y4, y5⟩ := hD hz j hj
      exact ⟨c_M_f y1 q3 (fun i k z => by unfold S_lc0 S_in S_tk S_ck at z; omega), r_M_f y2 q4 (fun i k z => by unfold S_lr0 S_iR S_nx S_rx at z; omega), y3, c_X_f y4 q3 (fun i k z => by unfold S_lc0 S_in S_tk S_ck at z; omega), y5⟩
  · have nf : ∀ i k, ¬ (S_lc1 i k) → σ'.1 i k = σ.1 i k := fun i k z => q3.2 i k z
    have ng : ∀ i k, ¬ (S_lr1 i k) → ρ'.1 i k = ρ.1 i k := fun i k z => q4 i k z
    obtain ⟨n1, n2, n3, n4⟩ := q7
    refine ⟨σ', ρ', (n : Int), q1, q2, ?_, ?_, ?_, ?_, ?_, ⟨q5, fun j hj => ?_, fun j hj => ?_⟩, Mz, Mz, fun j hj => ?_, fun hz j hj => by omega⟩
    · exact iv_b_f hb (nf _ _ (by unfold S_lc1 S_lc0 S_in S_tk S_ck S_ld; omega)) (fun k => nf _ _ (by unfold S_lc1 S_lc0 S_in S_tk S_ck S_ld; omega)) (ng _ _ (by unfold S_lr1 S_lr0 S_iR S_nx S_rx S_lR; omega)) (fun k => ng _ _ (by unfold S_lr1 S_lr0 S_iR S_nx S_rx S_lR; omega))
    · refine ⟨by rw [nf _ _ (by unfold S_lc1 S_lc0 S_in S_tk S_ck S_ld; omega), ng _ _ (by unfold S_lr1 S_lr0 S_iR S_nx S_rx S_lR; omega)]; exact hc.1, by rw [nf _ _ (by unfold S_lc1 S_lc0 S_in S_tk S_ck S_ld; omega)]; exact hc.2.1, by rw [nf _ _ (by unfold S_lc1 S_lc0 S_in S_tk S_ck S_ld; omega)]; exact hc.2.2.1, fun t ht => ?_⟩
      have hch := hc.2.2.1
      rw [nf _ _ (by unfold S_lc1 S_lc0 S_in S_tk S_ck S_ld; omega)] at ht
      rw [nf _ _ (by unfold S_lc1 S_lc0 S_in S_tk S_ck S_ld; omega), nf _ _ (by unfold S_lc1 S_lc0 S_in S_tk S_ck S_ld; omega), nf _ _ (by unfold S_lc1 S_lc0 S_in S_tk S_ck S_ld; omega), ng _ _ (by unfold S_lr1 S_lr0 S_iR S_nx S_rx S_lR; omega), ng _ _ (by unfold S_lr1 S_lr0 S_iR S_nx S_rx S_lR; omega), ng _ _ (by unfold S_lr1 S_lr0 S_iR S_nx S_rx S_lR; omega)]
      exact hc.2.2.2 t ht
    · intro k hk
      rw [(q8 k hk).1, (q8 k hk).2]
      exact ⟨rfl, Or.inl rfl, fun _ => rfl⟩
    · exact iv_r_f hr (fun i k z => nf _ _ (by unfold S_lc1 S_lc0 S_in S_tk S_ck S_ld; omega)) (fun k z => ng _ _ (by unfold S_lr1 S_lr0 S_iR S_nx S_rx S_lR; omega)) (fun i k z => ng _ _ (by unfold S_lr1 S_lr0 S_iR S_nx S_rx S_lR; omega))
    · exact ⟨by rw [n1, n2], by rw [n1]; omega, by rw [n1]; omega, by rw [n3, n4], Or.inl n3⟩
    · rw [nf _ _ (by unfold S_lc1 S_lc0 S_in S_tk S_ck S_ld; omega)]; exact h0.2.1 j hj
    · rw [nf _ _ (by unfold S_lc1 S_lc0 S_in S_tk S_ck S_ld; omega)]; exact h0.2.2 j hj
    · rw [n1] at hj ⊢
      obtain ⟨y1, y2, y3, y4, y5⟩ := q9 j (by omega)
      refine ⟨y1, y2, m_W_of y3 y4.1, y5, fun p hp hb => ?_, y3⟩
      have := (y4.1.2.1 p (Nat.zero_le _) hp hb).2.2.2
      exact ⟨fun z => by omega, fun z => by omega⟩
theorem iv_start : iv_I xw_s0 xw_z0 := by
  have z0 : ∀ i k, i < 48 → xw_s0.1 i k = 0 := fun i k hi => by
    show (if 48 ≤ i ∧ i % 4 = 0 ∧ k = 3 then (if i < 80 then (3 : Int) else 5) else 0) = 0
    rw [if_neg (by omega)]
  have y0 : ∀ i k, xw_z0.1 i k = 0 := fun i k => rfl
  refine ⟨⟨by rw [z0 _ _ (by decide), y0], by rw [z0 _ _ (by decide)]; omega, by rw [z0 _ _ (by decide)]; omega, fun k hk => ?_⟩, ⟨by rw [z0 _ _ (by decide), y0], by rw [z0 _ _ (by decide)]; omega, by rw [z0 _ _ (by decide)]; omega, fun t ht => ?_⟩, fun k hk => ?_, ⟨?_, ?_, ?_, ?_, fun k hk hk2 => ?_, fun m p hm hp => ?_, fun m p hm hp1 hp2 => y0 _ _⟩, ⟨?_, ?_, ?_, ?_, ?_⟩, ⟨fun p hp => ?_, fun j hj => ?_, fun j hj => ?_⟩, fun _ => (fun _ => 0, 0, fun _ => 0, 0, 0, 0, 0, 0), fun _ => (fun _ => 0, 0, fun _ => 0, 0, 0, 0, 0, 0), fun j hj => ?_, fun hz => ?_⟩
  · rw [z0 _ _ (by decide)] at hk; omega
  · rw [z0 _ _ (by decide)] at ht; omega
  · rw [z0 _ _ (by decide), y0]; exact ⟨rfl, Or.inl rfl, fun _ => rfl⟩
  · rw [z0 _ _ (by decide), y0]
  · rw [z0 _ _ (by decide), y0]
  · rw [z0 _ _ (by decide), y0]
  · rw [z0 _ _ (by decide)]; decide
  · rw [z0 _ _ (by decide), y0]
  · rw [z0 _ _ (by decide), y0]
  · rw [z0 _ _ (by decide), y0]
  · rw [z0 _ _ (by decide)]; omega
  · rw [z0 _ _ (by decide)]; omega
  · rw [z0 _ _ (by decide), y0]
  · rw [z0 _ _ (by decide)]; exact Or.inl rfl
  · rw [z0 _ _ (by decide)]; omega
  · show (if 48 ≤ 48 + 4 * j ∧ (48 + 4 * j) % 4 = 0 ∧ 3 = 3 then (if 48 + 4 * j < 80 then (3 : Int) else 5) else 0) = _
    rw [if_pos (by omega), if_pos (by omega)]; rfl
  · show (if 48 ≤ 48 + 4 * (8 + j) ∧ (48 + 4 * (8 + j)) % 4 = 0 ∧ 3 = 3 then (if 48 + 4 * (8 + j) < 80 then (3 : Int) else 5) else 0) = _
    rw [if_pos (by omega), if_neg (by omega)]; rfl
  · rw [z0 _ _ (by decide)] at hj; omega
  · rw [z0 _ _ (by decide)] at hz; omega
