/-! 66: handlers' parts; what WELL FORMED asks of one instruction -/
/-- body b of the class holds N handlers, hd (4 h + w) being their parts -/
def cH (s : xw_S) (b : Nat) (hd : Nat → Int) (N : Nat) : Prop := b < 13 ∧ 4 * N ≤ xb_hc b ∧ s.1 (48 + 4 * b) 9 = (N : Int) ∧ (∀ i : Nat, i < 4 * N → s.1 (51 + 4 * b) i = hd i) ∧ ∀ i : Nat, i < 4 * N → 0 ≤ hd i ∧ hd i ≤ 255
def rH (s : xw_S) (q : Nat) (hd : Nat → Int) (N : Nat) : Prop := q < 12 ∧ N ≤ 5 ∧ s.1 8 q = (N : Int) ∧ (∀ i : Nat, i < 4 * N → s.1 9 (20 * q + i) = hd i) ∧ ∀ i : Nat, i < 4 * N → 0 ≤ hd i ∧ hd i ≤ 255
theorem q_part (fu : Nat) {s : xw_S} {b : Nat} {hd : Nat → Int} {N : Nat} (h : cH s b hd N) {i w : Nat} (hi : i < N) (hw : w < 4) : f_B_part fu s b (i : Int) (w : Int) = some (s, hd (4 * i + w)) := by
  obtain ⟨hb, hN, hn, hp, hr⟩ := h
  unfold f_B_part
  rw [xw_grd_t (by constructor <;> omega), show ((i : Int) * 4 + (w : Int)).toNat = 4 * i + w by omega, hp _ (by omega)]
theorem q_covers (fu : Nat) {s : xw_S} {b : Nat} {hd : Nat → Int} {N : Nat} (h : cH s b hd N) {i : Nat} (hi : i < N) {p : Int} (hp : xw_r p) : f_B_covers fu s b (i : Int) p = some (s, if hd (4 * i) ≤ p ∧ p < hd (4 * i + 1) then 1 else 0) := by
  obtain ⟨hb, hN, hn, hpp, hr⟩ := h
  have r0 := hr (4 * i) (by omega)
  have r1 := hr (4 * i + 1) (by omega)
  unfold f_B_covers
  rw [xw_let_e, xw_grd_t (by constructor <;> omega), show ((i : Int) * 4 + 0).toNat = 4 * i by omega, hpp _ (by omega), xw_grd_t ⟨⟨by omega, by omega⟩, hp⟩]
  by_cases h1 : p < hd (4 * i)
  · rw [xw_if_t h1, if_neg (by omega)]
  · rw [xw_if_f h1, xw_grd_t (by constructor <;> omega), show ((i : Int) * 4 + 1).toNat = 4 * i + 1 by omega, hpp _ (by omega), xw_grd_t ⟨by omega, by omega⟩]
    by_cases h2 : hd (4 * i + 1) ≤ p
    · rw [xw_if_t h2, if_neg (by omega)]
    · rw [xw_if_f h2, if_pos (by omega)]
/-- a place where an instruction begins -/
abbrev m_pl (c : Nat → Int) (L : Nat) (t : Int) : Prop := 0 ≤ t ∧ t < (L : Int) ∧ m_bg c t.toNat
abbrev m_nh (c : Nat → Int) (L : Nat) (lo me : Int) (p : Nat) : Prop :=
  (q_br (c p) → (m_pl c L ((p : Int) + m_way c L p) ∧ (q_wb (c p) ∨ (-24 ≤ m_way c L p ∧ m_way c L p ≤ 24)))) ∧ ((c p = 2 ∨ c p = 3 ∨ c p = 16) → m_at c L ((p : Int) + 1) < lo) ∧ (c p = 13 → m_at c L ((p : Int) + 1) < me) ∧ c p < 30
/-- the depths as findInstructions leaves them -/
def cD0 (s : xw_S) (b : Nat) (c : Nat → Int) (L : Nat) : Prop := ∀ p : Nat, p < L → s.1 (50 + 4 * b) p = if m_bg c p then -1 else -2
theorem cD0_r {s : xw_S} {b : Nat} {c : Nat → Int} {L : Nat} (h : cD0 s b c L) : ∀ p : Nat, p < L → xw_r (s.1 (50 + 4 * b) p) := by
  intro p hp
  rw [h p hp]
  split <;> exact ⟨by omega, by omega⟩
theorem q_begins0 (fu : Nat) {s : xw_S} {b : Nat} {c : Nat → Int} {L : Nat} (h : cB s b c L) (hd : cD0 s b c L) {p : Int} (hp : xw_r p) : f_B_begins fu s b p = some (s, if m_pl c L p then 1 else 0) := by
  rw [q_begins fu h (cD0_r hd) hp]
  by_cases h1 : 0 ≤ p ∧ p < (L : Int)
  · rw [hd p.toNat (by omega)]
    by_cases h2 : m_bg c p.toNat
    · rw [if_pos h2, if_pos ⟨h1.1, h1.2, by decide⟩, if_pos ⟨h1.1, h1.2, h2⟩]
    · rw [if_neg h2, if_neg (by simp), if_neg (fun z => h2 z.2.2)]
  · rw [if_neg (fun z => h1 ⟨z.1, z.2.1⟩), if_neg (fun z => h1 ⟨z.1, z.2.1⟩)]
theorem q_numbers (fu : Nat) {s : xw_S} {b : Nat} {c : Nat → Int} {L : Nat} (h : cB s b c L) (hd : cD0 s b c L) {lo me : Int} (hlo : s.1 (48 + 4 * b) 6 = lo) (hlr : xw_r lo) (hme : xw_r me) {p : Nat} (hp : p < L) (hop : c p ≤ 32) : f_B_numbersHold fu s b (p : Int) me = some (s, if m_nh c L lo me p then 1 else 0) := by
  have hL := h.2.1
  have hcap := xb_cap_le b
  have hc := h.2.2.2.2
  have hcp := hc p hp
  have h1 := m_at_r hc ((p : Int) + 1)
  have hw := m_way_r hc (p : Int)
  unfold f_B_numbersHold
  rw [xw_bn2_e (q_byteAt fu h ⟨by omega, by omega⟩), m_at_in hp, xw_bn2_e (q_OPbr fu s ⟨by omega, by omega⟩)]
  by_cases hbr : q_br (c p)
  · rw [if_pos hbr, xw_grd_t (by decide), xw_if_f (by decide), xw_bn2_e (q_wayAt fu h ⟨by omega, by omega⟩), xw_bn2_e (q_begins0 fu h hd ⟨by omega, by omega⟩)]
    by_cases hpl : m_pl c L ((p : Int) + m_way c L p)
    · rw [if_pos hpl, xw_grd_t (by decide), xw_if_f (by decide), xw_bn2_e (q_OPwb fu s ⟨by omega, by omega⟩), xw_jn_e]
      by_cases hwb : q_wb (c p)
      · rw [if_pos hwb, xw_grd_t (by decide), xw_if_f (by decide), if_pos ⟨fun _ => ⟨hpl, Or.inl hwb⟩, by omega, by omega, by omega⟩]
      · rw [if_neg hwb, xw_grd_t (by decide), xw_if_t rfl, xw_bn2_e (q_OPsw fu s ⟨by omega, by omega⟩)]
        by_cases hsw : -24 ≤ m_way c L p ∧ m_way c L p ≤ 24
        · rw [if_pos hsw, xw_grd_t (by decide), xw_if_f (by decide), if_pos ⟨fun _ => ⟨hpl, Or.inr hsw⟩, by omega, by omega, by omega⟩]
        · rw [if_neg hsw, xw_grd_t (by decide), xw_if_t rfl, if_neg (fun z => (z.1 hbr).2.elim hwb hsw)]
    · rw [if_neg hpl, xw_grd_t (by decide), xw_if_t rfl, if_neg (fun z => hpl (z.1 hbr).1)]
  · rw [if_neg hbr, xw_grd_t (by decide), xw_if_t rfl, xw_jn_e, xw_grd_t ⟨by omega, by omega⟩]
    have tail : (c p = 2 ∨ c p = 3 ∨ c p = 16) → (xw_bn2 (f_B_byteAt fu s b ((p : Int) + 1)) (fun s25 r27 => xw_grd (xw_r r27 ∧ xw_r (s25.1 (48 + 4 * b) 6)) (xw_if (s25.1 (48 + 4 * b) 6 ≤ r27) (some (s25, (0 : Int))) (some (s25, 1))))) = some (s, if m_nh c L lo me p then 1 else 0) := by
      intro h3
      rw [xw_bn2_e (q_byteAt fu h ⟨by omega, by omega⟩), hlo, xw_grd_t ⟨⟨by omega, by omega⟩, hlr⟩]
      by_cases h4 : lo ≤ m_at c L ((p : Int) + 1)
      · rw [xw_if_t h4, if_neg (fun z => by have := z.2.1 h3; omega)]
      · rw [xw_if_f h4, if_pos ⟨fun z => absurd z hbr, fun _ => by omega, fun z => by omega, by omega⟩]
    by_cases h2 : c p = 2
    · rw [xw_if_t h2]; dsimp only; rw [tail (by omega)]
    · rw [xw_if_f h2]
      by_cases h3 : c p = 3
      · rw [xw_if_t h3]; dsimp only; rw [tail (by omega)]
      · rw [xw_if_f h3]
        by_cases h4 : c p = 16
        · rw [xw_if_t h4]; dsimp only; rw [tail (by omega)]
        · rw [xw_if_f h4]
          by_cases h5 : c p = 13
          · rw [xw_if_t h5, xw_bn2_e (q_byteAt fu h ⟨by omega, by omega⟩), xw_grd_t ⟨⟨by omega, by omega⟩, hme⟩]
            by_cases h6 : me ≤ m_at c L ((p : Int) + 1)
            · rw [xw_if_t h6, if_neg (fun z => by have := z.2.2.1 h5; omega)]
            · rw [xw_if_f h6, if_pos ⟨fun z => absurd z hbr, fun z => by omega, fun _ => by omega, by omega⟩]
          · rw [xw_if_f h5, xw_bn2_e (q_OPwo fu s ⟨by omega, by omega⟩)]
            by_cases h6 : 30 ≤ c p ∧ c p ≤ 32
            · rw [if_pos h6, xw_grd_t (by decide), xw_if_f (by decide), if_neg (fun z => by have := z.2.2.2; omega)]
            · rw [if_neg h6, xw_grd_t (by decide), xw_if_t rfl, if_pos ⟨fun z => absurd z hbr, fun z => by omega, fun z => by omega, by omega⟩]
