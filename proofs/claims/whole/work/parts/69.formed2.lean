/-! 69: formed, the handlers -/
def q_g239 (fu : Nat) (q : Int) (K : xw_S → Int → Option (xw_S × Int)) (n : Nat) (s88 : xw_S) (g i t : Int) : Option (xw_S × Int) :=
  xw_grd (xw_r g) (xw_if (g = 0) (lp_MD_formed_184 fu q K n s88 0 (i + 4))
     (xw_grd ((0 ≤ i ∧ i < ((240 : Nat) : Int))) (xw_bn2 (f_MD_isPlace fu s88 q (s88.1 9 (i).toNat)) (fun s92 r94 => xw_grd (xw_r r94) (xw_if (r94 = 0) (lp_MD_formed_184 fu q K n s92 0 (i + 4))
     (xw_grd ((0 ≤ i + 2 ∧ i + 2 < ((240 : Nat) : Int))) (xw_bn2 (f_MD_isPlace fu s92 q (s92.1 9 (i + 2).toNat)) (fun s98 r100 => xw_grd (xw_r r100) (xw_if (r100 = 0) (lp_MD_formed_184 fu q K n s98 0 (i + 4))
     (xw_grd (xw_r t) (xw_if (t = 0) (lp_MD_formed_184 fu q K n s98 0 (i + 4))
     (xw_grd ((0 ≤ i + 1 ∧ i + 1 < ((240 : Nat) : Int))) (xw_grd (xw_r (s98.1 9 (i + 1).toNat) ∧ xw_r (s98.1 9 (i).toNat)) (xw_if (s98.1 9 (i + 1).toNat ≤ s98.1 9 (i).toNat) (lp_MD_formed_184 fu q K n s98 0 (i + 4))
     (lp_MD_formed_184 fu q K n s98 1 (i + 4))))))))))))))))
theorem q_g184 (fu : Nat) (q : Int) (K : xw_S → Int → Option (xw_S × Int)) (n : Nat) (s75 : xw_S) (g i : Int) : lp_MD_formed_184 fu q K (n + 1) s75 g i =
    xw_grd ((0 ≤ q ∧ q < ((12 : Nat) : Int))) (xw_grd (xw_r i ∧ xw_r ((20 * q) + (4 * (s75.1 8 (q).toNat)))) (xw_if ((20 * q) + (4 * (s75.1 8 (q).toNat)) ≤ i) (K s75 g)
     (xw_grd ((0 ≤ i + 1 ∧ i + 1 < ((240 : Nat) : Int))) (xw_grd (xw_r (s75.1 9 (i + 1).toNat) ∧ xw_r (s75.1 6 (q).toNat)) (xw_if (s75.1 9 (i + 1).toNat = s75.1 6 (q).toNat) (q_g239 fu q K n s75 g i 1)
     (xw_bn2 (f_MD_isPlace fu s75 q (s75.1 9 (i + 1).toNat)) (fun s82 r84 => xw_grd (xw_r r84) (xw_if (r84 = 0) (q_g239 fu q K n s82 g i 0)
     (q_g239 fu q K n s82 g i 1))))))))) := rfl
theorem q_g239e (fu : Nat) {s : xw_S} {q : Nat} {c : Nat → Int} {L : Nat} (h : rB s q c L) (hd0 : rD0 s c L) {hd : Nat → Int} {N : Nat} (hh : rH s q hd N) (K : xw_S → Int → Option (xw_S × Int)) (n : Nat) {k : Nat} (hk : k < N) {g t : Int} (hg : g = 0 ∨ g = 1) (ht : t = 0 ∨ t = 1) : q_g239 fu (q : Int) K n s g ((20 * q + 4 * k : Nat) : Int) t = lp_MD_formed_184 fu (q : Int) K n s (if g = 1 ∧ (m_pl c L (hd (4 * k)) ∧ m_pl c L (hd (4 * k + 2))) ∧ t = 1 ∧ hd (4 * k) < hd (4 * k + 1) then 1 else 0) (((20 * q + 4 * k : Nat) : Int) + 4) := by
  obtain ⟨hq, hN, hn, hp, hr⟩ := hh
  have r0 := hr (4 * k) (by omega)
  have r1 := hr (4 * k + 1) (by omega)
  have r2 := hr (4 * k + 2) (by omega)
  have e0 : s.1 9 (((20 * q + 4 * k : Nat) : Int)).toNat = hd (4 * k) := by rw [Int.toNat_natCast, hp _ (by omega)]
  have e1 : s.1 9 (((20 * q + 4 * k : Nat) : Int) + 1).toNat = hd (4 * k + 1) := by rw [show (((20 * q + 4 * k : Nat) : Int) + 1).toNat = 20 * q + (4 * k + 1) by omega, hp _ (by omega)]
  have e2 : s.1 9 (((20 * q + 4 * k : Nat) : Int) + 2).toNat = hd (4 * k + 2) := by rw [show (((20 * q + 4 * k : Nat) : Int) + 2).toNat = 20 * q + (4 * k + 2) by omega, hp _ (by omega)]
  unfold q_g239
  rcases hg with rfl | rfl
  · rw [xw_grd_t (by decide), xw_if_t rfl, if_neg (fun z => by have := z.1; omega)]
  · rw [xw_grd_t (by decide), xw_if_f (by decide), xw_grd_t (by constructor <;> omega), e0, xw_bn2_e (q_isPlace0 fu h hd0 ⟨by omega, by omega⟩)]
    by_cases h1 : m_pl c L (hd (4 * k))
    · rw [if_pos h1, xw_grd_t (by decide), xw_if_f (by decide), xw_grd_t (by constructor <;> omega), e2, xw_bn2_e (q_isPlace0 fu h hd0 ⟨by omega, by omega⟩)]
      by_cases h2 : m_pl c L (hd (4 * k + 2))
      · rw [if_pos h2, xw_grd_t (by decide), xw_if_f (by decide)]
        rcases ht with rfl | rfl
        · rw [xw_grd_t (by decide), xw_if_t rfl, if_neg (fun z => by have := z.2.2.1; omega)]
        · rw [xw_grd_t (by decide), xw_if_f (by decide), xw_grd_t (by constructor <;> omega), e0, e1, xw_grd_t ⟨⟨by omega, by omega⟩, ⟨by omega, by omega⟩⟩]
          by_cases h3 : hd (4 * k + 1) ≤ hd (4 * k)
          · rw [xw_if_t h3, if_neg (fun z => by have := z.2.2.2; omega)]
          · rw [xw_if_f h3, if_pos ⟨rfl, ⟨h1, h2⟩, rfl, by omega⟩]
      · rw [if_neg h2, xw_grd_t (by decide), xw_if_t rfl, if_neg (fun z => h2 z.2.1.2)]
    · rw [if_neg h1, xw_grd_t (by decide), xw_if_t rfl, if_neg (fun z => h1 z.2.1.1)]
