/-! 68: the reference's formed -/
def q_f145 (fu : Nat) (q : Int) (J : xw_S → Int → Int → Option (xw_S × Int)) (s58 : xw_S) (i3 i4 : Int) : Option (xw_S × Int) := xw_grd (xw_r i4) (xw_if (i4 = 13) (xw_bn2 (f_MD_op fu s58 q (i3 + 1)) (fun s61 r63 => xw_grd (xw_r r63 ∧ xw_r (s61.1 0 11)) (xw_if (s61.1 0 11 ≤ r63) (J s61 0 i3) (J s61 1 i3)))) (J s58 1 i3))
def q_f128 (fu : Nat) (q : Int) (J : xw_S → Int → Int → Option (xw_S × Int)) (s51 : xw_S) (i3 i4 : Int) : Option (xw_S × Int) := xw_bn2 (f_MD_op fu s51 q (i3 + 1)) (fun s52 r54 => xw_grd ((0 ≤ q ∧ q < ((12 : Nat) : Int))) (xw_grd (xw_r r54 ∧ xw_r (s52.1 4 (q).toNat)) (xw_if (s52.1 4 (q).toNat ≤ r54) (J s52 0 i3) (q_f145 fu q J s52 i3 i4))))
def q_f104 (fu : Nat) (q : Int) (J : xw_S → Int → Int → Option (xw_S × Int)) (s44 : xw_S) (i3 i4 t : Int) : Option (xw_S × Int) := xw_grd (xw_r t) (xw_if (t = 0) (J s44 0 i3) (xw_grd (xw_r i4) (xw_if (i4 = 2) (q_f128 fu q J s44 i3 i4) (xw_if (i4 = 3) (q_f128 fu q J s44 i3 i4) (xw_if (i4 = 16) (q_f128 fu q J s44 i3 i4) (q_f145 fu q J s44 i3 i4))))))
theorem q_f14 (fu : Nat) (q : Int) (K : xw_S → Int → Option (xw_S × Int)) (n : Nat) (s6 : xw_S) (g p : Int) : lp_MD_formed_14 fu q K (n + 1) s6 g p =
    xw_grd ((0 ≤ q ∧ q < ((12 : Nat) : Int))) (xw_grd (xw_r p ∧ xw_r (s6.1 6 (q).toNat)) (xw_if (s6.1 6 (q).toNat ≤ p) (K s6 g)
     (xw_bn2 (f_MD_op fu s6 q p) (fun s10 r12 => xw_grd ((0 ≤ p ∧ p < ((121 : Nat) : Int))) (xw_grd (xw_r (s10.1 14 (p).toNat)) (xw_if (s10.1 14 (p).toNat = 0) (lp_MD_formed_14 fu q K n s10 g (p + 1))
     (xw_grd (xw_r g) (xw_if (g = 0) (q_f104 fu q (fun s g p => lp_MD_formed_14 fu q K n s g (p + 1)) s10 p r12 0)
     (xw_grd (xw_r r12) (xw_if (30 ≤ r12) (q_f104 fu q (fun s g p => lp_MD_formed_14 fu q K n s g (p + 1)) s10 p r12 0)
     (xw_bn2 (f_MD_branches fu s10 r12) (fun s20 r22 => xw_grd (xw_r r22) (xw_if (r22 = 0) (q_f104 fu q (fun s g p => lp_MD_formed_14 fu q K n s g (p + 1)) s20 p r12 1)
     (xw_bn2 (f_MD_target fu s20 q p) (fun s25 r27 => xw_bn2 (f_MD_isPlace fu s25 q r27) (fun s28 r30 => xw_grd (xw_r r30) (xw_if (r30 = 0) (q_f104 fu q (fun s g p => lp_MD_formed_14 fu q K n s g (p + 1)) s28 p r12 0)
     (xw_if (12 < r12) (q_f104 fu q (fun s g p => lp_MD_formed_14 fu q K n s g (p + 1)) s28 p r12 1)
     (xw_bn2 (f_MD_signed fu s28 q (p + 1)) (fun s34 r36 => xw_bn2 (f_MD_outside fu s34 r36 (-24) 24) (fun s37 r39 => xw_grd (xw_r r39) (xw_if (r39 = 0) (q_f104 fu q (fun s g p => lp_MD_formed_14 fu q K n s g (p + 1)) s37 p r12 1)
     (q_f104 fu q (fun s g p => lp_MD_formed_14 fu q K n s g (p + 1)) s37 p r12 0))))))))))))))))))))))) := rfl
theorem q_f145e (fu : Nat) {s : xw_S} {q : Nat} {c : Nat → Int} {L : Nat} (h : rB s q c L) (J : xw_S → Int → Int → Option (xw_S × Int)) {me : Int} (hme : s.1 0 11 = me) (hmr : xw_r me) {p : Nat} (hp : p < L) (h13 : c p = 13 → p + 1 < L) : q_f145 fu (q : Int) J s (p : Int) (c p) = J s (if c p = 13 → m_at c L ((p : Int) + 1) < me then 1 else 0) (p : Int) := by
  have hc := h.2.2.2.2
  have hcp := hc p hp
  unfold q_f145
  rw [xw_grd_t ⟨by omega, by omega⟩]
  by_cases h1 : c p = 13
  · have hq := q_MDop' fu h (h13 h1)
    have hr := hc (p + 1) (h13 h1)
    have e1 : (p : Int) + 1 = ((p + 1 : Nat) : Int) := by omega
    rw [xw_if_t h1, e1, xw_bn2_e hq, hme, xw_grd_t ⟨⟨by omega, by omega⟩, hmr⟩, m_at_in (h13 h1)]
    by_cases h2 : me ≤ c (p + 1)
    · rw [xw_if_t h2, if_neg (fun z => by have := z h1; omega)]
    · rw [xw_if_f h2, if_pos (fun _ => by omega)]
  · rw [xw_if_f h1, if_pos (fun z => absurd z h1)]
theorem q_f104e (fu : Nat) {s : xw_S} {q : Nat} {c : Nat → Int} {L : Nat} (h : rB s q c L) (J : xw_S → Int → Int → Option (xw_S × Int)) {lo me : Int} (hlo : s.1 4 q = lo) (hlr : xw_r lo) (hme : s.1 0 11 = me) (hmr : xw_r me) {p : Nat} (hp : p < L) (hop : (c p = 2 ∨ c p = 3 ∨ c p = 16 ∨ c p = 13) → p + 1 < L) {t : Int} (ht : t = 0 ∨ t = 1) : q_f104 fu (q : Int) J s (p : Int) (c p) t = J s (if t = 1 ∧ ((c p = 2 ∨ c p = 3 ∨ c p = 16) → m_at c L ((p : Int) + 1) < lo) ∧ (c p = 13 → m_at c L ((p : Int) + 1) < me) then 1 else 0) (p : Int) := by
  have hc := h.2.2.2.2
  have hcp := hc p hp
  have hq := h.1
  have e45 := q_f145e fu h J hme hmr hp (fun z => hop (by omega))
  have e28 : (c p = 2 ∨ c p = 3 ∨ c p = 16) → q_f128 fu (q : Int) J s (p : Int) (c p) = J s (if (1 : Int) = 1 ∧ ((c p = 2 ∨ c p = 3 ∨ c p = 16) → m_at c L ((p : Int) + 1) < lo) ∧ (c p = 13 → m_at c L ((p : Int) + 1) < me) then 1 else 0) (p : Int) := by
    intro h1
    have hp1 : p + 1 < L := hop (by omega)
    have hr := hc (p + 1) hp1
    have e1 : (p : Int) + 1 = ((p + 1 : Nat) : Int) := by omega
    have em : m_at c L ((p : Int) + 1) = c (p + 1) := by rw [e1, m_at_in hp1]
    unfold q_f128
    rw [em, e1, xw_bn2_e (q_MDop' fu h hp1), xw_grd_t (by constructor <;> omega), Int.toNat_natCast, hlo, xw_grd_t ⟨⟨by omega, by omega⟩, hlr⟩]
    by_cases h2 : lo ≤ c (p + 1)
    · rw [xw_if_t h2, if_neg (fun z => by have := z.2.1 h1; omega)]
    · rw [xw_if_f h2, e45, if_pos (fun z => by omega), if_pos ⟨rfl, fun _ => by omega, fun z => by omega⟩]
  unfold q_f104
  rcases ht with rfl | rfl
  · rw [xw_grd_t (by decide), xw_if_t rfl, if_neg (fun z => by have := z.1; omega)]
  · rw [xw_grd_t (by decide), xw_if_f (by decide), xw_grd_t ⟨by omega, by omega⟩]
    by_cases h2 : c p = 2
    · rw [xw_if_t h2, e28 (by omega)]
    · rw [xw_if_f h2]
      by_cases h3 : c p = 3
      · rw [xw_if_t h3, e28 (by omega)]
      · rw [xw_if_f h3]
        by_cases h4 : c p = 16
        · rw [xw_if_t h4, e28 (by omega)]
        · rw [xw_if_f h4, e45]
          by_cases h5 : c p = 13 → m_at c L ((p : Int) + 1) < me
          · rw [if_pos h5, if_pos ⟨rfl, fun z => by omega, h5⟩]
          · rw [if_neg h5, if_neg (fun z => h5 z.2.2)]
/-- the reference's begins after divide -/
def rD0 (s : xw_S) (c : Nat → Int) (L : Nat) : Prop := (∀ k : Nat, k < 121 → s.1 14 k = 0 ∨ s.1 14 k = 1) ∧ ∀ k : Nat, k < L → s.1 14 k = if m_bg c k then 1 else 0
theorem q_isPlace0 (fu : Nat) {s : xw_S} {q : Nat} {c : Nat → Int} {L : Nat} (h : rB s q c L) (hd : rD0 s c L) {p : Int} (hp : xw_r p) : f_MD_isPlace fu s (q : Int) p = some (s, if m_pl c L p then 1 else 0) := by
  rw [q_isPlace fu h hd.1 hp]
  by_cases h1 : 0 ≤ p ∧ p < (L : Int)
  · rw [hd.2 p.toNat (by omega)]
    by_cases h2 : m_bg c p.toNat
    · rw [if_pos h2, if_pos ⟨h1.1, h1.2, rfl⟩, if_pos ⟨h1.1, h1.2, h2⟩]
    · rw [if_neg h2, if_neg (by simp), if_neg (fun z => h2 z.2.2)]
  · rw [if_neg (fun z => h1 ⟨z.1, z.2.1⟩), if_neg (fun z => h1 ⟨z.1, z.2.1⟩)]
theorem q_fm_step (fu : Nat) {s : xw_S} {q : Nat} {c : Nat → Int} {L : Nat} (h : rB s q c L) (hd : rD0 s c L) (hd1 : m_nx c L = (L : Int)) {lo me : Int} (hlo : s.1 4 q = lo) (hlr : xw_r lo) (hme : s.1 0 11 = me) (hmr : xw_r me) (K : xw_S → Int → Option (xw_S × Int)) (n p : Nat) (hp : p < L) {g : Int} (hg : g = 0 ∨ g = 1) : lp_MD_formed_14 fu (q : Int) K (n + 1) s g (p : Int) = lp_MD_formed_14 fu (q : Int) K n s (if m_bg c p then (if g = 1 ∧ m_nh c L lo me p then 1 else 0) else g) ((p : Int) + 1) := by
  have hq := h.1
  have hL := h.2.1
  have hlen := h.2.2.1
  have hc := h.2.2.2.2
  have hcp := hc p hp
  have hw := m_way_r hc (p : Int)
  rw [q_f14, xw_grd_t (by constructor <;> omega), Int.toNat_natCast, hlen, xw_grd_t ⟨⟨by omega, by omega⟩, ⟨by omega, by omega⟩⟩, xw_if_f (by omega), xw_bn2_e (q_MDop' fu h hp), xw_grd_t (by constructor <;> omega), Int.toNat_natCast, hd.2 p hp]
  by_cases hb : m_bg c p
  · have hin := m_in hd1 hp hb
    have h32 := q_sz_32 hin.1
    have hsz : ∀ z : Nat, (z : Int) ≤ q_sz (c p) → p + z ≤ L := fun z hz => by omega
    have hop : (c p = 2 ∨ c p = 3 ∨ c p = 16 ∨ c p = 13) → p + 1 < L := by
      intro z
      have : 2 ≤ q_sz (c p) := by
        unfold q_sz
        repeat' split
        all_goals omega
      omega
    have e104 := fun (t : Int) (ht : t = 0 ∨ t = 1) => q_f104e fu h (fun s g p => lp_MD_formed_14 fu (q : Int) K n s g (p + 1)) hlo hlr hme hmr hp hop ht
    rw [if_pos hb, if_pos hb, xw_grd_t (by decide), xw_if_f (by decide)]
    rcases hg with rfl | rfl
    · rw [xw_grd_t (by decide), xw_if_t rfl, e104 0 (Or.inl rfl), if_neg (fun z => by have := z.1; omega), if_neg (fun z => by have := z.1; omega)]
    · rw [xw_grd_t (by decide), xw_if_f (by decide), xw_grd_t ⟨by omega, by omega⟩]
      by_cases h30 : 30 ≤ c p
      · rw [xw_if_t h30, e104 0 (Or.inl rfl), if_neg (fun z => by have := z.1; omega), if_neg (fun z => by have := z.2.2.2.2; omega)]
      · rw [xw_if_f h30, xw_bn2_e (q_MDbr fu s ⟨by omega, by omega⟩)]
        by_cases hbr : q_br (c p)
        · rw [if_pos hbr, xw_grd_t (by decide), xw_if_f (by decide), xw_bn2_e (q_target fu h hbr hin.2), xw_bn2_e (q_isPlace0 fu h hd ⟨by omega, by omega⟩)]
          by_cases hpl : m_pl c L ((p : Int) + m_way c L p)
          · rw [if_pos hpl, xw_grd_t (by decide), xw_if_f (by decide)]
            by_cases h12 : 12 < c p
            · rw [xw_if_t h12, e104 1 (Or.inr rfl), if_pos ⟨rfl, fun z => by omega, fun z => by omega⟩, if_pos ⟨rfl, fun _ => ⟨hpl, Or.inl (by omega)⟩, fun z => by omega, fun z => by omega, by omega⟩]
            · have hp1 : p + 1 < L := by
                have : 2 ≤ q_sz (c p) := by
                  unfold q_sz
                  repeat' split
                  all_goals omega
                omega
              have hr1 := hc (p + 1) hp1
              have hsg := q_sg_r hr1.1 hr1.2
              have ew : m_way c L (p : Int) = q_sg (c (p + 1)) := by
                unfold m_way
                rw [m_at_in hp, if_neg (by omega), show (p : Int) + 1 = ((p + 1 : Nat) : Int) by omega, m_at_in hp1]
              have esg : f_MD_signed fu s (q : Int) ((p : Int) + 1) = some (s, m_way c L (p : Int)) := by
                rw [ew, show (p : Int) + 1 = ((p + 1 : Nat) : Int) by omega, q_MDsg fu h hp1]
              rw [xw_if_f h12, xw_bn2_e esg, xw_bn2_e (q_outside fu s ⟨by omega, by omega⟩ (by decide) (by decide))]
              by_cases ho : m_way c L (p : Int) < -24 ∨ 24 < m_way c L (p : Int)
              · rw [if_pos ho, xw_grd_t (by decide), xw_if_f (by decide), e104 0 (Or.inl rfl), if_neg (fun z => by have := z.1; omega), if_neg (fun z => by have := (z.2.1 hbr).2; omega)]
              · rw [if_neg ho, xw_grd_t (by decide), xw_if_t rfl, e104 1 (Or.inr rfl), if_pos ⟨rfl, fun z => by omega, fun z => by omega⟩, if_pos ⟨rfl, fun _ => ⟨hpl, Or.inr (by omega)⟩, fun z => by omega, fun z => by omega, by omega⟩]
          · rw [if_neg hpl, xw_grd_t (by decide), xw_if_t rfl, e104 0 (Or.inl rfl), if_neg (fun z => by have := z.1; omega), if_neg (fun z => hpl (z.2.1 hbr).1)]
        · rw [if_neg hbr, xw_grd_t (by decide), xw_if_t rfl, e104 1 (Or.inr rfl)]
          by_cases h2 : ((c p = 2 ∨ c p = 3 ∨ c p = 16) → m_at c L ((p : Int) + 1) < lo) ∧ (c p = 13 → m_at c L ((p : Int) + 1) < me)
          · rw [if_pos ⟨rfl, h2⟩, if_pos ⟨rfl, fun z => absurd z hbr, h2.1, h2.2, by omega⟩]
          · rw [if_neg (fun z => h2 z.2), if_neg (fun z => h2 ⟨z.2.2.1, z.2.2.2.1⟩)]
  · rw [if_neg hb, if_neg hb, xw_grd_t (by decide), xw_if_t rfl]
theorem q_fm1 (fu : Nat) {s : xw_S} {q : Nat} {c : Nat → Int} {L : Nat} (h : rB s q c L) (hd : rD0 s c L) (hd1 : m_nx c L = (L : Int)) {lo me : Int} (hlo : s.1 4 q = lo) (hlr : xw_r lo) (hme : s.1 0 11 = me) (hmr : xw_r me) (K : xw_S → Int → Option (xw_S × Int)) : ∀ (d k n : Nat) (g : Int), k + d = L → d < n → (g = 0 ∨ g = 1) → (g = 1 ∧ m_W1 c L lo me k → lp_MD_formed_14 fu (q : Int) K n s g (k : Int) = K s 1) ∧ (¬ (g = 1 ∧ m_W1 c L lo me k) → lp_MD_formed_14 fu (q : Int) K n s g (k : Int) = K s 0) := by
  have hq := h.1
  have hL := h.2.1
  have hlen := h.2.2.1
  intro d
  induction d with
  | zero =>
    intro k n g hk hn hg
    obtain ⟨n, rfl⟩ : ∃ n', n = n' + 1 := ⟨n - 1, by omega⟩
    have e : lp_MD_formed_14 fu (q : Int) K (n + 1) s g (k : Int) = K s g := by
      rw [q_f14, xw_grd_t (by constructor <;> omega), Int.toNat_natCast, hlen, xw_grd_t ⟨⟨by omega, by omega⟩, ⟨by omega, by omega⟩⟩, xw_if_t (by omega)]
    rw [e]
    refine ⟨fun z => by rw [z.1], fun z => ?_⟩
    rcases hg with rfl | rfl
    · rfl
    · exact absurd ⟨rfl, fun p h1 h2 => by omega⟩ z
  | succ d ih =>
    intro k n g hk hn hg
    obtain ⟨n, rfl⟩ : ∃ n', n = n' + 1 := ⟨n - 1, by omega⟩
    rw [q_fm_step fu h hd hd1 hlo hlr hme hmr K n k (by omega) hg]
    have hg' : (if m_bg c k then (if g = 1 ∧ m_nh c L lo me k then (1 : Int) else 0) else g) = 0 ∨ (if m_bg c k then (if g = 1 ∧ m_nh c L lo me k then (1 : Int) else 0) else g) = 1 := by
      split
      · split <;> simp
      · exact hg
    obtain ⟨i1, i2⟩ := ih (k + 1) n _ (by omega) (by omega) hg'
    rw [show ((k + 1 : Nat) : Int) = (k : Int) + 1 by omega] at i1 i2
    have hiff : (g = 1 ∧ m_W1 c L lo me k) ↔ ((if m_bg c k then (if g = 1 ∧ m_nh c L lo me k then (1 : Int) else 0) else g) = 1 ∧ m_W1 c L lo me (k + 1)) := by
      constructor
      · rintro ⟨z1, z2⟩
        refine ⟨?_, fun p h1 h2 => z2 p (by omega) h2⟩
        by_cases hb : m_bg c k
        · rw [if_pos hb, if_pos ⟨z1, z2 k (Nat.le_refl _) (by omega) hb⟩]
        · rw [if_neg hb]; exact z1
      · rintro ⟨z1, z2⟩
        by_cases hb : m_bg c k
        · rw [if_pos hb] at z1
          by_cases h4 : g = 1 ∧ m_nh c L lo me k
          · refine ⟨h4.1, fun p h1 h2 h3 => ?_⟩
            by_cases hpk : p = k
            · subst hpk; exact h4.2
            · exact z2 p (by omega) h2 h3
          · rw [if_neg h4] at z1; omega
        · rw [if_neg hb] at z1
          refine ⟨z1, fun p h1 h2 h3 => ?_⟩
          by_cases hpk : p = k
          · subst hpk; exact absurd h3 hb
          · exact z2 p (by omega) h2 h3
    exact ⟨fun z => i1 (hiff.mp z), fun z => i2 (fun y => z (hiff.mpr y))⟩
