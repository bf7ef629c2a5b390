theorem xl_final : ∃ (fu : Nat) (Inv : xw_S → xw_S → Prop), xl_ok fu Inv := by
  sorry
