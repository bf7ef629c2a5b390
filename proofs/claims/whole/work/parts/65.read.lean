/-! 65: what is read of a body's code and handlers, on both sides -/
def m_at (c : Nat → Int) (L : Nat) (p : Int) : Int := if 0 ≤ p ∧ p < (L : Int) then c p.toNat else 0
def m_way (c : Nat → Int) (L : Nat) (p : Int) : Int := if q_wb (m_at c L p) then q_sg (m_at c L (p + 1)) * 256 + m_at c L (p + 2) else q_sg (m_at c L (p + 1))
def m_cr (c : Nat → Int) (L : Nat) : Prop := ∀ p, p < L → 0 ≤ c p ∧ c p ≤ 255
/-- body b of the class holds code c of length L -/
def cB (s : xw_S) (b : Nat) (c : Nat → Int) (L : Nat) : Prop := b < 13 ∧ L ≤ xb_cap b ∧ s.1 (48 + 4 * b) 8 = (L : Int) ∧ (∀ p : Nat, p < L → s.1 (49 + 4 * b) p = c p) ∧ m_cr c L
/-- method q of the reference holds code c of length L -/
def rB (s : xw_S) (q : Nat) (c : Nat → Int) (L : Nat) : Prop := q < 12 ∧ L ≤ 120 ∧ s.1 6 q = (L : Int) ∧ (∀ p : Nat, p < L → s.1 7 (120 * q + p) = c p) ∧ m_cr c L
theorem xb_cap_le (b : Nat) : xb_cap b ≤ 120 := by unfold xb_cap; split <;> omega
theorem m_at_r {c : Nat → Int} {L : Nat} (h : m_cr c L) (p : Int) : 0 ≤ m_at c L p ∧ m_at c L p ≤ 255 := by
  unfold m_at
  split
  · exact h _ (by omega)
  · omega
theorem m_at_in {c : Nat → Int} {L p : Nat} (h : p < L) : m_at c L (p : Int) = c p := by
  unfold m_at
  rw [if_pos ⟨by omega, by omega⟩, Int.toNat_natCast]
theorem q_sg_r {b : Int} (h0 : 0 ≤ b) (h1 : b ≤ 255) : -128 ≤ q_sg b ∧ q_sg b ≤ 127 := by
  unfold q_sg
  split <;> omega
theorem m_way_r {c : Nat → Int} {L : Nat} (h : m_cr c L) (p : Int) : -32768 ≤ m_way c L p ∧ m_way c L p ≤ 32767 := by
  have h1 := m_at_r h (p + 1)
  have h2 := m_at_r h (p + 2)
  have h3 := q_sg_r h1.1 h1.2
  unfold m_way
  split <;> omega
theorem q_byteAt (fu : Nat) {s : xw_S} {b : Nat} {c : Nat → Int} {L : Nat} (h : cB s b c L) {p : Int} (hp : xw_r p) : f_B_byteAt fu s b p = some (s, m_at c L p) := by
  obtain ⟨hb, hL, hlen, hcode, hc⟩ := h
  have := xb_cap_le b
  unfold f_B_byteAt m_at
  rw [xw_grd_t hp]
  by_cases h1 : p < 0
  · rw [xw_if_t h1, if_neg (by omega)]
  · rw [xw_if_f h1, hlen, xw_grd_t ⟨by omega, by omega⟩]
    by_cases h2 : (L : Int) ≤ p
    · rw [xw_if_t h2, if_neg (by omega)]
    · rw [xw_if_f h2, xw_grd_t (by constructor <;> omega), if_pos (by omega), hcode _ (by omega)]
theorem q_wayAt (fu : Nat) {s : xw_S} {b : Nat} {c : Nat → Int} {L : Nat} (h : cB s b c L) {p : Int} (hp : -1000 ≤ p ∧ p ≤ 1000) : f_B_wayAt fu s b p = some (s, m_way c L p) := by
  have hc := h.2.2.2.2
  have h0 := m_at_r hc p
  have h1 := m_at_r hc (p + 1)
  unfold f_B_wayAt m_way
  rw [xw_bn2_e (q_byteAt fu h ⟨by omega, by omega⟩), xw_bn2_e (q_OPsg fu s ⟨by omega, by omega⟩), xw_bn2_e (q_byteAt fu h ⟨by omega, by omega⟩), xw_bn2_e (q_OPwb fu s ⟨by omega, by omega⟩)]
  by_cases hw : q_wb (m_at c L p)
  · rw [if_pos hw, if_pos hw, xw_grd_t (by decide), xw_if_f (by decide), xw_bn2_e (q_byteAt fu h ⟨by omega, by omega⟩)]
  · rw [if_neg hw, if_neg hw, xw_grd_t (by decide), xw_if_t rfl]
theorem q_MDop' (fu : Nat) {s : xw_S} {q : Nat} {c : Nat → Int} {L : Nat} (h : rB s q c L) {p : Nat} (hp : p < L) : f_MD_op fu s (q : Int) (p : Int) = some (s, c p) := by
  obtain ⟨hq, hL, hlen, hcode, hc⟩ := h
  rw [q_MDop fu s hq (by omega), hcode p hp]
theorem q_MDsg (fu : Nat) {s : xw_S} {q : Nat} {c : Nat → Int} {L : Nat} (h : rB s q c L) {p : Nat} (hp : p < L) : f_MD_signed fu s (q : Int) (p : Int) = some (s, q_sg (c p)) := by
  obtain ⟨hq, hL, hlen, hcode, hc⟩ := h
  unfold f_MD_signed
  rw [xw_grd_t (by constructor <;> omega), show (120 * (q : Int) + (p : Int)).toNat = 120 * q + p by omega, hcode p hp, q_b8 (hc p hp).1 (hc p hp).2]
theorem q_target (fu : Nat) {s : xw_S} {q : Nat} {c : Nat → Int} {L : Nat} (h : rB s q c L) {p : Nat} (hbr : q_br (c p)) (hp : (p : Int) + q_sz (c p) ≤ L) : f_MD_target fu s (q : Int) (p : Int) = some (s, (p : Int) + m_way c L p) := by
  have hs : q_sz (c p) = if q_wb (c p) then 3 else 2 := by
    unfold q_sz
    by_cases hw : q_wb (c p)
    · rw [if_pos (by omega), if_pos hw]
    · rw [if_neg (by omega), if_pos (by omega), if_neg hw]
  have hpL : p + 1 < L := by
    by_cases hw : q_wb (c p)
    · rw [if_pos hw] at hs; omega
    · rw [if_neg hw] at hs; omega
  have hc := h.2.2.2.2
  have hcp := hc p (by omega)
  unfold f_MD_target m_way
  rw [xw_bn2_e (q_MDop' fu h (by omega)), xw_grd_t ⟨by omega, by omega⟩, m_at_in (by omega), show (p : Int) + 1 = ((p + 1 : Nat) : Int) by omega, m_at_in hpL]
  by_cases hw : q_wb (c p)
  · have hpL2 : p + 2 < L := by rw [if_pos hw] at hs; omega
    rw [xw_if_t (by omega), if_pos hw, xw_bn2_e (q_MDsg fu h hpL), show (p : Int) + 2 = ((p + 2 : Nat) : Int) by omega, xw_bn2_e (q_MDop' fu h hpL2), m_at_in hpL2]
    congr 2
    omega
  · rw [xw_if_f (by omega), if_neg hw, xw_bn2_e (q_MDsg fu h hpL)]
theorem q_begins (fu : Nat) {s : xw_S} {b : Nat} {c : Nat → Int} {L : Nat} (h : cB s b c L) (hd : ∀ p : Nat, p < L → xw_r (s.1 (50 + 4 * b) p)) {p : Int} (hp : xw_r p) : f_B_begins fu s b p = some (s, if 0 ≤ p ∧ p < (L : Int) ∧ s.1 (50 + 4 * b) p.toNat ≠ -2 then 1 else 0) := by
  obtain ⟨hb, hL, hlen, hcode, hc⟩ := h
  have := xb_cap_le b
  unfold f_B_begins
  rw [xw_grd_t hp]
  by_cases h1 : p < 0
  · rw [xw_if_t h1, if_neg (by omega)]
  · rw [xw_if_f h1, hlen, xw_grd_t ⟨by omega, by omega⟩]
    by_cases h2 : (L : Int) ≤ p
    · rw [xw_if_t h2, if_neg (by omega)]
    · rw [xw_if_f h2, xw_grd_t (by constructor <;> omega), xw_grd_t (hd _ (by omega))]
      by_cases h3 : s.1 (50 + 4 * b) p.toNat = -2
      · rw [xw_if_t h3, if_neg (by omega)]
      · rw [xw_if_f h3, if_pos (by omega)]
theorem q_reached (fu : Nat) {s : xw_S} {b : Nat} {c : Nat → Int} {L : Nat} (h : cB s b c L) (hd : ∀ p : Nat, p < L → xw_r (s.1 (50 + 4 * b) p)) {p : Int} (hp : xw_r p) : f_B_isReached fu s b p = some (s, if 0 ≤ p ∧ p < (L : Int) ∧ 0 ≤ s.1 (50 + 4 * b) p.toNat then 1 else 0) := by
  obtain ⟨hb, hL, hlen, hcode, hc⟩ := h
  have := xb_cap_le b
  unfold f_B_isReached
  rw [xw_grd_t hp]
  by_cases h1 : p < 0
  · rw [xw_if_t h1, if_neg (by omega)]
  · rw [xw_if_f h1, hlen, xw_grd_t ⟨by omega, by omega⟩]
    by_cases h2 : (L : Int) ≤ p
    · rw [xw_if_t h2, if_neg (by omega)]
    · rw [xw_if_f h2, xw_grd_t (by constructor <;> omega), xw_grd_t (hd _ (by omega))]
      by_cases h3 : s.1 (50 + 4 * b) p.toNat < 0
      · rw [xw_if_t h3, if_neg (by omega)]
      · rw [xw_if_f h3, if_pos (by omega)]
theorem q_isPlace (fu : Nat) {s : xw_S} {q : Nat} {c : Nat → Int} {L : Nat} (h : rB s q c L) (hd : ∀ p : Nat, p < 121 → s.1 14 p = 0 ∨ s.1 14 p = 1) {p : Int} (hp : xw_r p) : f_MD_isPlace fu s (q : Int) p = some (s, if 0 ≤ p ∧ p < (L : Int) ∧ s.1 14 p.toNat = 1 then 1 else 0) := by
  obtain ⟨hq, hL, hlen, hcode, hc⟩ := h
  unfold f_MD_isPlace
  rw [xw_grd_t hp]
  by_cases h1 : p < 0
  · rw [xw_if_t h1, if_neg (by omega)]
  · rw [xw_if_f h1, xw_grd_t (by constructor <;> omega), Int.toNat_natCast, hlen, xw_grd_t ⟨by omega, by omega⟩]
    by_cases h2 : (L : Int) ≤ p
    · rw [xw_if_t h2, if_neg (by omega)]
    · have h4 := hd p.toNat (by omega)
      rw [xw_if_f h2, xw_grd_t (by constructor <;> omega), xw_grd_t ⟨by omega, by omega⟩]
      by_cases h3 : s.1 14 p.toNat = 0
      · rw [xw_if_t h3, if_neg (by omega)]
      · rw [xw_if_f h3, if_pos (by omega)]
