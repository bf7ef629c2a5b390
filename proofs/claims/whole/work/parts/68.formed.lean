/-! 68: the reference's formed -/
def q_f145 (fu : Nat) (q : Int) (J : xw_S → Int → Int → Option (xw_S × Int)) (s58 : xw_S) (i3 i4 : Int) : Option (xw_S × Int) := xw_grd (xw_r i4) (xw_if (i4 = 13) (xw_bn2 (f_MD_op fu s58 q (i3 + 1)) (fun s61 r63 => xw_grd (xw_r r63 ∧ xw_r (s61.1 0 11)) (xw_if (s61.1 0 11 ≤ r63) (J s61 0 i3) (J s61 1 i3)))) (J s58 1 i3))
def q_f128 (fu : Nat) (q : Int) (J : xw_S → Int → Int → Option (xw_S × Int)) (s51 : xw_S) (i3 i4 : Int) : Option (xw_S × Int) := xw_bn2 (f_MD_op fu s51 q (i3 + 1)) (fun s52 r54 => xw_grd ((0 ≤ q ∧ q < ((12 : Nat) : Int))) (xw_grd (xw_r r54 ∧ xw_r (s52.1 4 (q).toNat)) (xw_if (s52.1 4 (q).toNat ≤ r54) (J s52 0 i3) (q_f145 fu q J s52 i3 i4))))
def q_f104 (fu : Nat) (q : Int) (J : xw_S → Int → Int → Option (xw_S × Int)) (s44 : xw_S) (i3 i4 t : Int) : Option (xw_S × Int) := xw_grd (xw_r t) (xw_if (t = 0) (J s44 0 i3) (xw_grd (xw_r i4) (xw_if (i4 = 2) (q_f128 fu q J s44 i3 i4) (xw_if (i4 = 3) (q_f128 fu q J s44 i3 i4) (xw_if (i4 = 16) (q_f128 fu q J s44 i3 i4) (q_f145 fu q J s44 i3 i4))))))
theorem q_f14 (fu : Nat) (q : Int) (K : xw_S → Int → Option (xw_S × Int)) (n : Nat) (s6 : xw_S) (g p : Int) : lp_MD_formed_14 fu q K (n + 1) s6 g p =
    xw_grd ((0 ≤ q ∧ q < ((12 : Nat) : Int))) (xw_grd (xw_r p ∧ xw_r (s6.1 6 (q).toNat)) (xw_if (s6.1 6 (q).toNat ≤ p) (K s6 g)
     (xw_bn2 (f_MD_op fu s6 q p) (fun s10 r12 => xw_grd ((0 ≤ p ∧ p < ((121 : Nat) : Int))) (xw_grd (xw_r (s10.1 14 (p).toNat)) (xw_if (s10.1 14 (p).toNat = 0) (lp_MD_formed_14 fu q K n s10 g (p + 1))
     (xw_grd (xw_r g) (xw_if (g = 0) (q_f104 fu q (fun s g p => lp_MD_formed_14 fu q K n s g (p + 1)) s10 p r12 0)
     (xw_grd (xw_r r12) (xw_if (30 ≤ r12) (q_f104 fu q (fun s g p => lp_MD_formed_14 fu q K n s g (p + 1)) s10 p r12 0)
     (xw_bn2 (f_MD_branches fu s10 r12) (fun s20 r22 => xw_grd (xw_r r22) (xw_if (r22 = 0) (q_f104 fu q (fun s g p => lp_MD_formed_14 fu q K n s g (p + 1)) s20 p r12 1)
     (xw_bn2 (f_MD_target fu s20 q p) (fun s25 r27 => xw_bn2 (f_MD_isPlace fu s25 q r27) (fun s28 r30 => xw_grd (xw_r r30) (xw_if (r30 = 0) (q_f104 fu q (fun s g p => lp_MD_formed_14 fu q K n s g (p + 1)) s28 p r12 0)
     (xw_if (12 < r12) (q_f104 fu q (fun s g p => lp_MD_formed_14 fu q K n s g (p + 1)) s28 p r12 1)
     (xw_bn2 (f_MD_signed fu s28 q (p + 1)) (fun s34 r36 => xw_bn2 (f_MD_outside fu s34 r36 (-24) 24) (fun s37 r39 => xw_grd (xw_r r39) (xw_if (r39 = 0) (q_f104 fu q (fun s g p => lp_MD_formed_14 fu q K n s g (p + 1)) s37 p r12 1)
     (q_f104 fu q (fun s g p => lp_MD_formed_14 fu q K n s g (p + 1)) s37 p r12 0))))))))))))))))))))))) := rfl
theorem q_f145e (fu : Nat) {s : xw_S} {q : Nat} {c : Nat → Int} {L : Nat} (h : rB s q c L) (J : xw_S → Int → Int → Option (xw_S × Int)) {me : Int} (hme : s.1 0 11 = me) (hmr : xw_r me) {p : Nat} (hp : p < L) (h13 : c p = 13 → p + 1 < L) : q_f145 fu (q : Int) J s (p : Int) (c p) = J s (if c p = 13 → m_at c L ((p : Int) + 1) < me then 1 else 0) (p : Int) := by
  have hc := h.2.2.2.2
  have hcp := hc p hp
  unfold q_f145
  rw [xw_grd_t ⟨by omega, by omega⟩]
  by_cases h1 : c p = 13
  · have hq := q_MDop' fu h (h13 h1)
    have hr := hc (p + 1) (h13 h1)
    have e1 : (p : Int) + 1 = ((p + 1 : Nat) : Int) := by omega
    rw [xw_if_t h1, e1, xw_bn2_e hq, hme, xw_grd_t ⟨⟨by omega, by omega⟩, hmr⟩, m_at_in (h13 h1)]
    by_cases h2 : me ≤ c (p + 1)
    · rw [xw_if_t h2, if_neg (fun z => by have := z h1; omega)]
    · rw [xw_if_f h2, if_pos (fun _ => by omega)]
  · rw [xw_if_f h1, if_pos (fun z => absurd z h1)]
theorem q_f104e (fu : Nat) {s : xw_S} {q : Nat} {c : Nat → Int} {L : Nat} (h : rB s q c L) (J : xw_S → Int → Int → Option (xw_S × Int)) {lo me : Int} (hlo : s.1 4 q = lo) (hlr : xw_r lo) (hme : s.1 0 11 = me) (hmr : xw_r me) {p : Nat} (hp : p < L) (hop : (c p = 2 ∨ c p = 3 ∨ c p = 16 ∨ c p = 13) → p + 1 < L) {t : Int} (ht : t = 0 ∨ t = 1) : q_f104 fu (q : Int) J s (p : Int) (c p) t = J s (if t = 1 ∧ ((c p = 2 ∨ c p = 3 ∨ c p = 16) → m_at c L ((p : Int) + 1) < lo) ∧ (c p = 13 → m_at c L ((p : Int) + 1) < me) then 1 else 0) (p : Int) := by
  have hc := h.2.2.2.2
  have hcp := hc p hp
  have hq := h.1
  have e45 := q_f145e fu h J hme hmr hp (fun z => hop (by omega))
  have e28 : (c p = 2 ∨ c p = 3 ∨ c p = 16) → q_f128 fu (q : Int) J s (p : Int) (c p) = J s (if (1 : Int) = 1 ∧ ((c p = 2 ∨ c p = 3 ∨ c p = 16) → m_at c L ((p : Int) + 1) < lo) ∧ (c p = 13 → m_at c L ((p : Int) + 1) < me) then 1 else 0) (p : Int) := by
    intro h1
    have hp1 : p + 1 < L := hop (by omega)
    have hr := hc (p + 1) hp1
    have e1 : (p : Int) + 1 = ((p + 1 : Nat) : Int) := by omega
    have em : m_at c L ((p : Int) + 1) = c (p + 1) := by rw [e1, m_at_in hp1]
    unfold q_f128
    rw [em, e1, xw_bn2_e (q_MDop' fu h hp1), xw_grd_t (by constructor <;> omega), Int.toNat_natCast, hlo, xw_grd_t ⟨⟨by omega, by omega⟩, hlr⟩]
    by_cases h2 : lo ≤ c (p + 1)
    · rw [xw_if_t h2, if_neg (fun z => by have := z.2.1 h1; omega)]
    · rw [xw_if_f h2, e45, if_pos (fun z => by omega), if_pos ⟨rfl, fun _ => by omega, fun z => by omega⟩]
  unfold q_f104
  rcases ht with rfl | rfl
  · rw [xw_grd_t (by decide), xw_if_t rfl, if_neg (fun z => by have := z.1; omega)]
  · rw [xw_grd_t (by decide), xw_if_f (by decide), xw_grd_t ⟨by omega, by omega⟩]
    by_cases h2 : c p = 2
    · rw [xw_if_t h2, e28 (by omega)]
    · rw [xw_if_f h2]
      by_cases h3 : c p = 3
      · rw [xw_if_t h3, e28 (by omega)]
      · rw [xw_if_f h3]
        by_cases h4 : c p = 16
        · rw [xw_if_t h4, e28 (by omega)]
        · rw [xw_if_f h4, e45]
          by_cases h5 : c p = 13 → m_at c L ((p : Int) + 1) < me
          · rw [if_pos h5, if_pos ⟨rfl, fun z => by omega, h5⟩]
          · rw [if_neg h5, if_neg (fun z => h5 z.2.2)]
