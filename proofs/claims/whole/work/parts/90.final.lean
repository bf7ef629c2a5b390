theorem xl_final : ∃ (fu : Nat) (Inv : xw_S → xw_S → Prop), xl_ok fu Inv := by
  refine ⟨2000000, iv_I, iv_start, iv_put 2000000 (by decide), iv_clear 2000000, iv_load 2000000 (by decide), iv_trans 2000000, iv_unchain 2000000, fun σ ρ h => iv_weave 2000000 (by decide) h, ?_, iv_run 2000000 (by decide), ?_, ?_, ?_, ?_, ?_, iv_shape 2000000 (by decide), iv_code 2000000, iv_hand 2000000, iv_depth 2000000 (by decide)⟩
  · intro σ ρ a0 a1 h h0 h1
    obtain ⟨r, q1, q2⟩ := q_failed 2000000 σ ρ a0 a1 h0 h1 h.2.2.1
    exact ⟨σ, ρ, r, q1, q2, h⟩
  · intro σ ρ h
    exact ⟨σ, ρ, σ.1 17 6, rfl, by rw [h.2.2.2.1.1]; rfl, h⟩
  · intro σ ρ h
    exact ⟨σ, ρ, σ.1 17 7, rfl, by rw [h.2.2.2.1.2.1]; rfl, h⟩
  · intro σ ρ h
    exact ⟨σ, ρ, σ.1 17 8, rfl, by rw [h.2.2.2.1.2.2.1]; rfl, h⟩
  · intro σ ρ a0 h h0
    obtain ⟨r, q1, q2⟩ := q_mark 2000000 σ ρ a0 h0 h.2.2.2.1
    exact ⟨σ, ρ, r, q1, q2, h⟩
  · intro σ ρ a0 a1 h h0 h1
    obtain ⟨r, q1, q2⟩ := q_probe 2000000 σ ρ a0 a1 h0 h1 h.2.2.2.1
    exact ⟨σ, ρ, r, q1, q2, h⟩
