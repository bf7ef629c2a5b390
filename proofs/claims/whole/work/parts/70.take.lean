/-! 70: one byte read: the class's take, the reference's next -/
abbrev m_tg (s : xw_S) (lo hi : Int) : Prop := s.1 1 3 = 0 ∧ s.1 1 2 < s.1 1 1 ∧ lo ≤ s.1 2 (s.1 1 2).toNat ∧ s.1 2 (s.1 1 2).toNat ≤ hi
def cR (s : xw_S) : Prop := (s.1 1 3 = 0 ∨ s.1 1 3 = 1) ∧ 0 ≤ s.1 1 2 ∧ s.1 1 2 ≤ 240 ∧ 0 ≤ s.1 1 1 ∧ s.1 1 1 ≤ 240 ∧ ∀ k : Nat, (k : Int) < s.1 1 1 → 0 ≤ s.1 2 k ∧ s.1 2 k ≤ 255
theorem q_take (fu : Nat) {s : xw_S} (h : cR s) {lo hi : Int} (hl : xw_r lo) (hh : xw_r hi) : (m_tg s lo hi → f_CF_take fu s lo hi = some (xw_st s 1 2 (s.1 1 2 + 1), s.1 2 (s.1 1 2).toNat)) ∧ (¬ m_tg s lo hi → f_CF_take fu s lo hi = some (xw_st s 1 3 1, lo)) := by
  obtain ⟨h1, h2, h3, h4, h5, h6⟩ := h
  unfold f_CF_take
  rw [xw_jn_e, xw_grd_t ⟨by omega, by omega⟩]
  by_cases w : s.1 1 3 = 0
  · rw [xw_if_t w, xw_grd_t ⟨⟨by omega, by omega⟩, ⟨by omega, by omega⟩⟩]
    by_cases a : s.1 1 1 ≤ s.1 1 2
    · rw [xw_if_t a]
      exact ⟨fun z => absurd z.2.1 (by omega), fun _ => rfl⟩
    · have hb := h6 (s.1 1 2).toNat (by omega)
      rw [xw_if_f a, xw_grd_t (by constructor <;> omega), xw_grd_t ⟨⟨by omega, by omega⟩, hl⟩]
      by_cases l : s.1 2 (s.1 1 2).toNat < lo
      · rw [xw_if_t l]
        exact ⟨fun z => absurd z.2.2.1 (by omega), fun _ => rfl⟩
      · rw [xw_if_f l, xw_grd_t hh]
        by_cases u : s.1 2 (s.1 1 2).toNat ≤ hi
        · rw [xw_if_t u, xw_let_e, st_s, xw_grd_t (by constructor <;> omega), st_i (by decide), show s.1 1 2 + 1 - 1 = s.1 1 2 by omega]
          exact ⟨fun _ => rfl, fun z => absurd ⟨w, by omega, by omega, u⟩ z⟩
        · rw [xw_if_f u]
          exact ⟨fun z => absurd z.2.2.2 u, fun _ => rfl⟩
  · rw [xw_if_f w]
    exact ⟨fun z => absurd z.1 w, fun _ => rfl⟩
def m_nv (s : xw_S) : Int := if s.1 0 13 < s.1 0 1 then s.1 1 (s.1 0 13).toNat else -1
def rR (s : xw_S) : Prop := xw_r (s.1 0 14) ∧ 0 ≤ s.1 0 13 ∧ s.1 0 13 ≤ 100000 ∧ 0 ≤ s.1 0 1 ∧ s.1 0 1 ≤ 240 ∧ ∀ k : Nat, (k : Int) < s.1 0 1 → 0 ≤ s.1 1 k ∧ s.1 1 k ≤ 255
theorem q_next (fu : Nat) {s : xw_S} (h : rR s) {lo hi : Int} (hl : xw_r lo) (hh : xw_r hi) : f_MD_next fu s lo hi = some (if s.1 0 14 < 0 ∧ (m_nv s < lo ∨ hi < m_nv s) then xw_st (xw_st s 0 14 (s.1 0 13)) 0 13 (s.1 0 13 + 1) else xw_st s 0 13 (s.1 0 13 + 1), m_nv s) := by
  obtain ⟨h1, h3, h4, h5, h6, h7⟩ := h
  have hv : -1 ≤ m_nv s ∧ m_nv s ≤ 255 := by
    unfold m_nv
    split
    · have := h7 (s.1 0 13).toNat (by omega); omega
    · omega
  have tl : (xw_jn (fun (s14 : xw_S) (i3_49 : Int) => xw_let (xw_st s14 0 13 ((s14.1 0 13) + 1)) (fun s15 => some (s15, i3_49)))
     (fun (j49 : xw_S → Int → Option (xw_S × Int)) => xw_grd (xw_r (s.1 0 14)) (xw_if (0 ≤ s.1 0 14) (j49 s (m_nv s))
     (xw_bn2 (f_MD_outside fu s (m_nv s) lo hi) (fun s7 r9 => xw_grd (xw_r r9) (xw_if (r9 = 0) (j49 s7 (m_nv s))
     (xw_let (xw_st s7 0 14 (s7.1 0 13)) (fun s12 => j49 s12 (m_nv s))))))))) = some (if s.1 0 14 < 0 ∧ (m_nv s < lo ∨ hi < m_nv s) then xw_st (xw_st s 0 14 (s.1 0 13)) 0 13 (s.1 0 13 + 1) else xw_st s 0 13 (s.1 0 13 + 1), m_nv s) := by
    rw [xw_jn_e, xw_grd_t h1]
    by_cases w : 0 ≤ s.1 0 14
    · rw [xw_if_t w, if_neg (by omega)]
      rfl
    · rw [xw_if_f w, xw_bn2_e (q_outside fu s ⟨by omega, by omega⟩ hl hh)]
      by_cases o : m_nv s < lo ∨ hi < m_nv s
      · rw [if_pos o, xw_grd_t (by decide), xw_if_f (by decide), if_pos ⟨by omega, o⟩, xw_let_e]
        dsimp only
        rw [xw_let_e, st_k (by decide)]
      · rw [if_neg o, xw_grd_t (by decide), xw_if_t rfl, if_neg (fun z => o z.2)]
        rfl
  unfold f_MD_next
  rw [xw_jn_e, xw_grd_t ⟨⟨by omega, by omega⟩, ⟨by omega, by omega⟩⟩]
  by_cases a : s.1 0 1 ≤ s.1 0 13
  · have e : m_nv s = -1 := by unfold m_nv; rw [if_neg (by omega)]
    rw [xw_if_t a]
    rw [e] at tl ⊢
    exact tl
  · have e : m_nv s = s.1 1 (s.1 0 13).toNat := by unfold m_nv; rw [if_pos (by omega)]
    rw [xw_if_f a, xw_grd_t (by constructor <;> omega)]
    rw [e] at tl ⊢
    exact tl
