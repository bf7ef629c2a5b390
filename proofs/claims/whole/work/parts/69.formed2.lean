/-! 69: formed, the handlers -/
def q_g239 (fu : Nat) (q : Int) (K : xw_S → Int → Option (xw_S × Int)) (n : Nat) (s88 : xw_S) (g i t : Int) : Option (xw_S × Int) :=
  xw_grd (xw_r g) (xw_if (g = 0) (lp_MD_formed_184 fu q K n s88 0 (i + 4))
     (xw_grd ((0 ≤ i ∧ i < ((240 : Nat) : Int))) (xw_bn2 (f_MD_isPlace fu s88 q (s88.1 9 (i).toNat)) (fun s92 r94 => xw_grd (xw_r r94) (xw_if (r94 = 0) (lp_MD_formed_184 fu q K n s92 0 (i + 4))
     (xw_grd ((0 ≤ i + 2 ∧ i + 2 < ((240 : Nat) : Int))) (xw_bn2 (f_MD_isPlace fu s92 q (s92.1 9 (i + 2).toNat)) (fun s98 r100 => xw_grd (xw_r r100) (xw_if (r100 = 0) (lp_MD_formed_184 fu q K n s98 0 (i + 4))
     (xw_grd (xw_r t) (xw_if (t = 0) (lp_MD_formed_184 fu q K n s98 0 (i + 4))
     (xw_grd ((0 ≤ i + 1 ∧ i + 1 < ((240 : Nat) : Int))) (xw_grd (xw_r (s98.1 9 (i + 1).toNat) ∧ xw_r (s98.1 9 (i).toNat)) (xw_if (s98.1 9 (i + 1).toNat ≤ s98.1 9 (i).toNat) (lp_MD_formed_184 fu q K n s98 0 (i + 4))
     (lp_MD_formed_184 fu q K n s98 1 (i + 4))))))))))))))))
theorem q_g184 (fu : Nat) (q : Int) (K : xw_S → Int → Option (xw_S × Int)) (n : Nat) (s75 : xw_S) (g i : Int) : lp_MD_formed_184 fu q K (n + 1) s75 g i =
    xw_grd ((0 ≤ q ∧ q < ((12 : Nat) : Int))) (xw_grd (xw_r i ∧ xw_r ((20 * q) + (4 * (s75.1 8 (q).toNat)))) (xw_if ((20 * q) + (4 * (s75.1 8 (q).toNat)) ≤ i) (K s75 g)
     (xw_grd ((0 ≤ i + 1 ∧ i + 1 < ((240 : Nat) : Int))) (xw_grd (xw_r (s75.1 9 (i + 1).toNat) ∧ xw_r (s75.1 6 (q).toNat)) (xw_if (s75.1 9 (i + 1).toNat = s75.1 6 (q).toNat) (q_g239 fu q K n s75 g i 1)
     (xw_bn2 (f_MD_isPlace fu s75 q (s75.1 9 (i + 1).toNat)) (fun s82 r84 => xw_grd (xw_r r84) (xw_if (r84 = 0) (q_g239 fu q K n s82 g i 0)
     (q_g239 fu q K n s82 g i 1))))))))) := rfl
theorem q_g239e (fu : Nat) {s : xw_S} {q : Nat} {c : Nat → Int} {L : Nat} (h : rB s q c L) (hd0 : rD0 s c L) {hd : Nat → Int} {N : Nat} (hh : rH s q hd N) (K : xw_S → Int → Option (xw_S × Int)) (n : Nat) {k : Nat} (hk : k < N) {g t : Int} (hg : g = 0 ∨ g = 1) (ht : t = 0 ∨ t = 1) : q_g239 fu (q : Int) K n s g ((20 * q + 4 * k : Nat) : Int) t = lp_MD_formed_184 fu (q : Int) K n s (if g = 1 ∧ (m_pl c L (hd (4 * k)) ∧ m_pl c L (hd (4 * k + 2))) ∧ t = 1 ∧ hd (4 * k) < hd (4 * k + 1) then 1 else 0) (((20 * q + 4 * k : Nat) : Int) + 4) := by
  obtain ⟨hq, hN, hn, hp, hr⟩ := hh
  have r0 := hr (4 * k) (by omega)
  have r1 := hr (4 * k + 1) (by omega)
  have r2 := hr (4 * k + 2) (by omega)
  have e0 : s.1 9 (((20 * q + 4 * k : Nat) : Int)).toNat = hd (4 * k) := by rw [Int.toNat_natCast, hp _ (by omega)]
  have e1 : s.1 9 (((20 * q + 4 * k : Nat) : Int) + 1).toNat = hd (4 * k + 1) := by rw [show (((20 * q + 4 * k : Nat) : Int) + 1).toNat = 20 * q + (4 * k + 1) by omega, hp _ (by omega)]
  have e2 : s.1 9 (((20 * q + 4 * k : Nat) : Int) + 2).toNat = hd (4 * k + 2) := by rw [show (((20 * q + 4 * k : Nat) : Int) + 2).toNat = 20 * q + (4 * k + 2) by omega, hp _ (by omega)]
  unfold q_g239
  rcases hg with rfl | rfl
  · rw [xw_grd_t (by decide), xw_if_t rfl, if_neg (fun z => by have := z.1; omega)]
  · rw [xw_grd_t (by decide), xw_if_f (by decide), xw_grd_t (by constructor <;> omega), e0, xw_bn2_e (q_isPlace0 fu h hd0 ⟨by omega, by omega⟩)]
    by_cases h1 : m_pl c L (hd (4 * k))
    · rw [if_pos h1, xw_grd_t (by decide), xw_if_f (by decide), xw_grd_t (by constructor <;> omega), e2, xw_bn2_e (q_isPlace0 fu h hd0 ⟨by omega, by omega⟩)]
      by_cases h2 : m_pl c L (hd (4 * k + 2))
      · rw [if_pos h2, xw_grd_t (by decide), xw_if_f (by decide)]
        rcases ht with rfl | rfl
        · rw [xw_grd_t (by decide), xw_if_t rfl, if_neg (fun z => by have := z.2.2.1; omega)]
        · rw [xw_grd_t (by decide), xw_if_f (by decide), xw_grd_t (by constructor <;> omega), e0, e1, xw_grd_t ⟨⟨by omega, by omega⟩, ⟨by omega, by omega⟩⟩]
          by_cases h3 : hd (4 * k + 1) ≤ hd (4 * k)
          · rw [xw_if_t h3, if_neg (fun z => by have := z.2.2.2; omega)]
          · rw [xw_if_f h3, if_pos ⟨rfl, ⟨h1, h2⟩, rfl, by omega⟩]
      · rw [if_neg h2, xw_grd_t (by decide), xw_if_t rfl, if_neg (fun z => h2 z.2.1.2)]
    · rw [if_neg h1, xw_grd_t (by decide), xw_if_t rfl, if_neg (fun z => h1 z.2.1.1)]
theorem q_gm_step (fu : Nat) {s : xw_S} {q : Nat} {c : Nat → Int} {L : Nat} (h : rB s q c L) (hd0 : rD0 s c L) {hd : Nat → Int} {N : Nat} (hh : rH s q hd N) (K : xw_S → Int → Option (xw_S × Int)) (n : Nat) {k : Nat} (hk : k < N) {g : Int} (hg : g = 0 ∨ g = 1) : lp_MD_formed_184 fu (q : Int) K (n + 1) s g ((20 * q + 4 * k : Nat) : Int) = lp_MD_formed_184 fu (q : Int) K n s (if g = 1 ∧ m_hh c L hd k then 1 else 0) ((20 * q + 4 * (k + 1) : Nat) : Int) := by
  have hL := h.2.1
  have hlen := h.2.2.1
  have hh' := hh
  obtain ⟨hq, hN, hn, hp, hr⟩ := hh
  have r1 := hr (4 * k + 1) (by omega)
  have e1 : s.1 9 (((20 * q + 4 * k : Nat) : Int) + 1).toNat = hd (4 * k + 1) := by rw [show (((20 * q + 4 * k : Nat) : Int) + 1).toNat = 20 * q + (4 * k + 1) by omega, hp _ (by omega)]
  have e4 : ((20 * q + 4 * k : Nat) : Int) + 4 = ((20 * q + 4 * (k + 1) : Nat) : Int) := by omega
  have fin : ∀ t : Int, (t = 0 ∨ t = 1) → (t = 1 ↔ (hd (4 * k + 1) = (L : Int) ∨ m_pl c L (hd (4 * k + 1)))) → q_g239 fu (q : Int) K n s g ((20 * q + 4 * k : Nat) : Int) t = lp_MD_formed_184 fu (q : Int) K n s (if g = 1 ∧ m_hh c L hd k then 1 else 0) ((20 * q + 4 * (k + 1) : Nat) : Int) := by
    intro t ht hiff
    rw [q_g239e fu h hd0 hh' K n hk hg ht, e4]
    by_cases h1 : g = 1 ∧ m_hh c L hd k
    · rw [if_pos h1, if_pos ⟨h1.1, h1.2.2, hiff.mpr h1.2.1.2, h1.2.1.1⟩]
    · rw [if_neg h1, if_neg (fun z => h1 ⟨z.1, ⟨z.2.2.2, hiff.mp z.2.2.1⟩, z.2.1⟩)]
  rw [q_g184, xw_grd_t (by constructor <;> omega), Int.toNat_natCast, hn, xw_grd_t ⟨⟨by omega, by omega⟩, ⟨by omega, by omega⟩⟩, xw_if_f (by omega), xw_grd_t (by constructor <;> omega), e1, hlen, xw_grd_t ⟨⟨by omega, by omega⟩, ⟨by omega, by omega⟩⟩]
  by_cases h2 : hd (4 * k + 1) = (L : Int)
  · rw [xw_if_t h2, fin 1 (Or.inr rfl) ⟨fun _ => Or.inl h2, fun _ => rfl⟩]
  · rw [xw_if_f h2, xw_bn2_e (q_isPlace0 fu h hd0 ⟨by omega, by omega⟩)]
    by_cases h3 : m_pl c L (hd (4 * k + 1))
    · rw [if_pos h3, xw_grd_t (by decide), xw_if_f (by decide), fin 1 (Or.inr rfl) ⟨fun _ => Or.inr h3, fun _ => rfl⟩]
    · rw [if_neg h3, xw_grd_t (by decide), xw_if_t rfl, fin 0 (Or.inl rfl) ⟨fun z => by omega, fun z => z.elim (fun y => absurd y h2) (fun y => absurd y h3)⟩]
theorem q_fm2 (fu : Nat) {s : xw_S} {q : Nat} {c : Nat → Int} {L : Nat} (h : rB s q c L) (hd0 : rD0 s c L) {hd : Nat → Int} {N : Nat} (hh : rH s q hd N) (K : xw_S → Int → Option (xw_S × Int)) : ∀ (d k n : Nat) (g : Int), k + d = N → d < n → (g = 0 ∨ g = 1) → (g = 1 ∧ m_W2 c L hd N k → lp_MD_formed_184 fu (q : Int) K n s g ((20 * q + 4 * k : Nat) : Int) = K s 1) ∧ (¬ (g = 1 ∧ m_W2 c L hd N k) → lp_MD_formed_184 fu (q : Int) K n s g ((20 * q + 4 * k : Nat) : Int) = K s 0) := by
  have hn := hh.2.2.1
  have hq := hh.1
  have hN := hh.2.1
  intro d
  induction d with
  | zero =>
    intro k n g hk hnn hg
    obtain ⟨n, rfl⟩ : ∃ n', n = n' + 1 := ⟨n - 1, by omega⟩
    have e : lp_MD_formed_184 fu (q : Int) K (n + 1) s g ((20 * q + 4 * k : Nat) : Int) = K s g := by
      rw [q_g184, xw_grd_t (by constructor <;> omega), Int.toNat_natCast, hn, xw_grd_t ⟨⟨by omega, by omega⟩, ⟨by omega, by omega⟩⟩, xw_if_t (by omega)]
    rw [e]
    refine ⟨fun z => by rw [z.1], fun z => ?_⟩
    rcases hg with rfl | rfl
    · rfl
    · exact absurd ⟨rfl, fun p h1 h2 => by omega⟩ z
  | succ d ih =>
    intro k n g hk hnn hg
    obtain ⟨n, rfl⟩ : ∃ n', n = n' + 1 := ⟨n - 1, by omega⟩
    rw [q_gm_step fu h hd0 hh K n (by omega) hg]
    obtain ⟨i1, i2⟩ := ih (k + 1) n (if g = 1 ∧ m_hh c L hd k then 1 else 0) (by omega) (by omega) (by split <;> simp)
    have hiff : (g = 1 ∧ m_W2 c L hd N k) ↔ ((if g = 1 ∧ m_hh c L hd k then (1 : Int) else 0) = 1 ∧ m_W2 c L hd N (k + 1)) := by
      constructor
      · rintro ⟨z1, z2⟩
        exact ⟨by rw [if_pos ⟨z1, z2 k (Nat.le_refl _) (by omega)⟩], fun p h1 h2 => z2 p (by omega) h2⟩
      · rintro ⟨z1, z2⟩
        by_cases h4 : g = 1 ∧ m_hh c L hd k
        · refine ⟨h4.1, fun p h1 h2 => ?_⟩
          by_cases hpk : p = k
          · subst hpk; exact h4.2
          · exact z2 p (by omega) h2
        · rw [if_neg h4] at z1; omega
    exact ⟨fun z => i1 (hiff.mp z), fun z => i2 (fun y => z (hiff.mpr y))⟩
theorem q_fm (fu q : Nat) (hfu : 1000 ≤ fu) {s : xw_S} {c : Nat → Int} {L : Nat} (h : rB s q c L) {hd : Nat → Int} {N : Nat} (hh : rH s q hd N) {lo me : Int} (hlo : s.1 4 q = lo) (hlr : xw_r lo) (hme : s.1 0 11 = me) (hmr : xw_r me) :
    ∃ s', frm S_14 s s' ∧ (∀ k : Nat, k < 121 → s'.1 14 k = 0 ∨ s'.1 14 k = 1) ∧ (m_WF c L hd N lo me → f_MD_formed fu s (q : Int) = some (s', 1)) ∧ (¬ m_WF c L hd N lo me → f_MD_formed fu s (q : Int) = some (s', 0)) := by
  obtain ⟨hq, hL, hlen, hcode, hc⟩ := h
  obtain ⟨s', a1, a2, a3, a4⟩ := q_dv fu q hfu hq c L hL hc s hlen hcode
  have hB' : rB s' q c L := ⟨hq, hL, by rw [a2.2 _ _ (by unfold S_14; omega), hlen], fun p hp => by rw [a2.2 _ _ (by unfold S_14; omega), hcode p hp], hc⟩
  have hH' : rH s' q hd N := ⟨hq, hh.2.1, by rw [a2.2 _ _ (by unfold S_14; omega), hh.2.2.1], fun i hi => by rw [a2.2 _ _ (by unfold S_14; omega), hh.2.2.2.1 i hi], hh.2.2.2.2⟩
  have hN := hh.2.1
  have main : m_nx c L = (L : Int) → ((m_W1 c L lo me 0 ∧ m_W2 c L hd N 0 → f_MD_formed fu s (q : Int) = some (s', 1)) ∧ (¬ (m_W1 c L lo me 0 ∧ m_W2 c L hd N 0) → f_MD_formed fu s (q : Int) = some (s', 0))) := by
    intro hx
    have hD : rD0 s' c L := ⟨a3, (a4 hx).1⟩
    have e : f_MD_formed fu s (q : Int) = lp_MD_formed_14 fu (q : Int) (fun (s72 : xw_S) (i2_179 : Int) => lp_MD_formed_184 fu (q : Int) (fun (s112 : xw_S) (i2_309 : Int) => xw_grd ((i2_309 = 0 ∨ i2_309 = 1)) (some (s112, i2_309))) fu s72 i2_179 (20 * (q : Int))) fu s' 1 ((0 : Nat) : Int) := by
      unfold f_MD_formed
      rw [xw_bn2_e a1, if_pos hx, xw_grd_t (by decide), xw_if_f (by decide), xw_jn_e]
      rfl
    have f1 := q_fm1 fu hB' hD hx (lo := lo) (me := me) (by rw [a2.2 _ _ (by unfold S_14; omega), hlo]) hlr (by rw [a2.2 _ _ (by unfold S_14; omega), hme]) hmr (fun (s72 : xw_S) (i2_179 : Int) => lp_MD_formed_184 fu (q : Int) (fun (s112 : xw_S) (i2_309 : Int) => xw_grd ((i2_309 = 0 ∨ i2_309 = 1)) (some (s112, i2_309))) fu s72 i2_179 (20 * (q : Int))) L 0 fu 1 (by omega) (by omega) (Or.inr rfl)
    have f2 := fun (g : Int) (hg : g = 0 ∨ g = 1) => q_fm2 fu hB' hD hH' (fun (s112 : xw_S) (i2_309 : Int) => xw_grd ((i2_309 = 0 ∨ i2_309 = 1)) (some (s112, i2_309))) N 0 fu g (by omega) (by omega) hg
    have e20 : ((20 * q + 4 * 0 : Nat) : Int) = 20 * (q : Int) := by omega
    rw [e20] at f2
    rw [e]
    constructor
    · intro z
      rw [f1.1 ⟨rfl, z.1⟩]
      exact (f2 1 (Or.inr rfl)).1 ⟨rfl, z.2⟩
    · intro z
      by_cases h1 : m_W1 c L lo me 0
      · rw [f1.1 ⟨rfl, h1⟩]
        exact (f2 1 (Or.inr rfl)).2 (fun y => z ⟨h1, y.2⟩)
      · rw [f1.2 (fun y => h1 y.2)]
        exact (f2 0 (Or.inl rfl)).2 (fun y => by have := y.1; omega)
  refine ⟨s', a2, a3, fun hw => (main hw.1).1 hw.2, fun hw => ?_⟩
  by_cases hx : m_nx c L = (L : Int)
  · exact (main hx).2 (fun z => hw ⟨hx, z⟩)
  · unfold f_MD_formed
    rw [xw_bn2_e a1, if_neg hx, xw_grd_t (by decide), xw_if_t rfl]
