/-! 89.p: run keeps the invariant -/
theorem x_rno (fu : Nat) {ρ : xw_S} {w m a b v : Int} (hm : xw_r m) (hv : xw_r v) (hw : w = 0 ∨ w = 1) (h10 : 0 ≤ ρ.1 0 10 ∧ ρ.1 0 10 ≤ 4) (h12 : ρ.1 0 12 = 0 ∨ ρ.1 0 12 = 1) : (((m < 0 ∨ ρ.1 0 10 ≤ m) ∨ (v < 1 ∨ 1000 < v) ∨ (w = 1 ∧ ρ.1 0 12 = 0)) → f_MD_run fu ρ w m a b v = some (ρ, -1)) ∧ (¬ ((m < 0 ∨ ρ.1 0 10 ≤ m) ∨ (v < 1 ∨ 1000 < v) ∨ (w = 1 ∧ ρ.1 0 12 = 0)) → f_MD_run fu ρ w m a b v = k_rs fu w m a b v ρ) := by
  have wr : xw_r w := by rcases hw with z | z <;> rw [z] <;> decide
  have r12 : xw_r (ρ.1 0 12) := by rcases h12 with z | z <;> rw [z] <;> decide
  rw [k_run, xw_bn2_e (q_outside fu ρ hm (by decide) ⟨by omega, by omega⟩)]
  by_cases c1 : m < 0 ∨ ρ.1 0 10 - 1 < m
  · rw [if_pos c1, xw_grd_t (by decide), xw_if_f (by decide)]
    exact ⟨fun _ => rfl, fun z => absurd (Or.inl (by omega)) z⟩
  · rw [if_neg c1, xw_grd_t (by decide), xw_if_t rfl, xw_bn2_e (q_outside fu ρ hv (by decide) (by decide))]
    by_cases c2 : v < 1 ∨ 1000 < v
    · rw [if_pos c2, xw_grd_t (by decide), xw_if_f (by decide)]
      exact ⟨fun _ => rfl, fun z => absurd (Or.inr (Or.inl c2)) z⟩
    · rw [if_neg c2, xw_grd_t (by decide), xw_if_t rfl, xw_jn_e, xw_grd_t wr]
      by_cases c3 : w = 0
      · rw [xw_if_t c3]
        exact ⟨fun z => by omega, fun _ => rfl⟩
      · rw [xw_if_f c3, xw_grd_t r12]
        by_cases c4 : ρ.1 0 12 = 0
        · rw [xw_if_t c4]
          exact ⟨fun _ => rfl, fun z => absurd (Or.inr (Or.inr ⟨by omega, c4⟩)) z⟩
        · rw [xw_if_f c4]
          exact ⟨fun z => by omega, fun _ => rfl⟩
theorem iv_after {σ ρ σ' ρ' : xw_S} {fuel : Int} (h : iv_I σ ρ) (hf : frm Z_c σ σ') (hg : frm Z_r ρ ρ') (hZ : x_Z fuel σ' ρ') : iv_I σ' ρ' := by
  obtain ⟨hb, hc, hf', hr, hk, hM⟩ := h
  have nf : ∀ i k, ¬ (i = 17 ∨ i = 19 ∨ i = 20 ∨ (24 ≤ i ∧ i < 48)) → σ'.1 i k = σ.1 i k := fun i k z => hf.2 i k (fun y => z y)
  have ng : ∀ i k, ¬ ((i = 0 ∧ (k = 31 ∨ (37 ≤ k ∧ k ≤ 40))) ∨ (22 ≤ i ∧ i ≤ 28)) → ρ'.1 i k = ρ.1 i k := fun i k z => hg.2 i k (fun y => z y)
  refine ⟨iv_b_f hb (nf _ _ (by omega)) (fun k => nf _ _ (by omega)) (ng _ _ (by omega)) (fun k => ng _ _ (by omega)), iv_c_f hc (fun k => nf _ _ (by omega)) (fun t k _ => nf _ _ (by omega)) (ng _ _ (by omega)) (fun t => ⟨ng _ _ (by omega), ng _ _ (by omega), ng _ _ (by omega)⟩), iv_f_f hf' (fun k => nf _ _ (by omega)) (fun k => ng _ _ (by omega)) (nf _ _ (by omega)), ?_, iv_k_f hk ⟨nf _ _ (by omega), nf _ _ (by omega)⟩ ⟨ng _ _ (by omega), ng _ _ (by omega)⟩, iv_M_f hM hf (rfm_frm hg) (fun i k z => by unfold Z_c at z; omega) (fun i k z => by unfold Z_r at z; omega)⟩
  obtain ⟨us, mk, o, o1, o2, o3, o4, o5, v1, ⟨v2, v3⟩, v4, ⟨v7, v8, v9, v10⟩, v11, v12, v13⟩ := hZ
  exact ⟨o5, by rw [v2, v3], by rw [v7, v8], by rw [v7]; exact ⟨by omega, by omega⟩, fun k y1 y2 => v11 k y1 (by rw [v7] at y2; exact y2), v12, v13⟩
theorem iv_run (fu : Nat) (hfu : 1000000 ≤ fu) : xl_run fu iv_I := by
  intro σ ρ w m va vb v hI hw hm rva rvb hv
  have hII := hI
  obtain ⟨hb, hc, hf, hr, hk, h0, Mz, Wz, hL, hD⟩ := hI
  obtain ⟨b1, b2⟩ := q_bodyOf fu hk hw hm
  obtain ⟨k1, k2, k3, k4, k5⟩ := hk
  obtain ⟨n1, n2⟩ := x_rno fu (ρ := ρ) (a := va) (b := vb) hm hv hw (by omega) (by omega)
  by_cases hn : m_no σ w m
  · refine ⟨σ, ρ, -1, ?_, n1 ?_, hII⟩
    · unfold f_AW_run
      rw [xw_bn2_e (b1 hn)]
      rfl
    · unfold m_no at hn
      omega
  · have e1 := b2 hn
    have hmr : 0 ≤ m ∧ m < σ.1 0 9 ∧ (w = 1 → σ.1 0 11 = 1) := by
      unfold m_no at hn
      exact ⟨by omega, by omega, fun z => by omega⟩
    have hb13 : (if w = 1 then 4 * 2 + m.toNat else 4 * 1 + m.toNat) < 13 := by
      split
      all_goals omega
    have wr : xw_r w := by rcases hw with z | z <;> rw [z] <;> decide
    have ec : f_AW_run fu σ w m va vb v = xw_if (v < 1) (some (σ, -1)) (xw_if (v ≤ 1000) (xw_if (w = 0) (xw_bn2 (f_MC_execute fu σ 1 m va vb v) (fun s12 r14 => some (s12, r14))) (xw_bn2 (f_MC_execute fu σ 2 m va vb v) (fun s12 r14 => some (s12, r14)))) (some (σ, -1))) := by
      unfold f_AW_run
      rw [xw_bn2_e e1]
      show xw_grd ((if w = 1 then 4 * 2 + m.toNat else 4 * 1 + m.toNat) < 13) _ = _
      rw [xw_grd_t hb13, xw_grd_t hv, xw_jn_e, xw_grd_t wr]
    rw [ec]
    by_cases c1 : v < 1
    · rw [xw_if_t c1]
      exact ⟨σ, ρ, -1, rfl, n1 (Or.inr (Or.inl (Or.inl c1))), hII⟩
    · rw [xw_if_f c1]
      by_cases c2 : v ≤ 1000
      · rw [xw_if_t c2, n2 (by omega)]
        obtain ⟨k, rfl⟩ : ∃ k : Nat, m = (k : Int) := ⟨m.toNat, by omega⟩
        obtain ⟨n, hn9⟩ : ∃ n : Nat, σ.1 0 9 = (n : Int) := ⟨(σ.1 0 9).toNat, by omega⟩
        rw [hn9] at hL hD k3 hmr
        have hkn : k < n := by omega
        have h3k : ρ.1 3 k = Ma (Mz k) := (hL k (by omega)).2.1.2.2.2.1
        rcases hw with z | z
        · rw [xw_if_t z]
          have hS : x_S 1 0 n Mz (fun j => Ma (Mz j)) (fun j => σ.1 (50 + 4 * (4 + j))) σ ρ := by
            refine ⟨Or.inl ⟨rfl, rfl⟩, by omega, fun j hj => ?_⟩
            obtain ⟨y1, y2, y3, y4, y5, y6⟩ := hL j (by omega)
            obtain ⟨⟨S, x1⟩, _⟩ := y4
            exact ⟨y1, by rw [Nat.zero_add]; exact y2, y3, y5, ⟨S, x1.2.1 rfl⟩, rfl, y3.2.1.1, y3.2.1.2.1⟩
          obtain ⟨σ', ρ', r, q1, q2, q3, q4, q5⟩ := x_run fu hfu hS hkn (Or.inl ⟨z, rfl⟩) h3k rva rvb (fuel := v) ⟨by omega, c2⟩
          exact ⟨σ', ρ', r, by rw [xw_bn2_e q1], q2, iv_after hII q3 q4 q5⟩
        · rw [xw_if_f (by omega)]
          have hS : x_S 2 4 n Wz (fun j => Ma (Mz j)) (fun j => σ.1 (50 + 4 * (8 + j))) σ ρ := by
            refine ⟨Or.inr ⟨rfl, rfl⟩, by omega, fun j hj => ?_⟩
            obtain ⟨y1, y2, y3, y4, y5, y6⟩ := hD (hmr.2.2 z) j (by omega)
            obtain ⟨⟨S, x1⟩, _⟩ := y4
            have hW := (hL j (by omega)).2.2.1
            exact ⟨y1, y2, y3, y5, ⟨S, x1.2.1 rfl⟩, y6, hW.2.1.1, hW.2.1.2.1⟩
          obtain ⟨σ', ρ', r, q1, q2, q3, q4, q5⟩ := x_run fu hfu hS hkn (Or.inr ⟨z, rfl⟩) h3k rva rvb (fuel := v) ⟨by omega, c2⟩
          exact ⟨σ', ρ', r, by rw [xw_bn2_e q1], q2, iv_after hII q3 q4 q5⟩
      · rw [xw_if_f c2]
        exact ⟨σ, ρ, -1, rfl, n1 (Or.inr (Or.inl (Or.inr (by omega)))), hII⟩
