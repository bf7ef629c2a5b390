/-! 87: a transformed method is as right as the old one -/
def n_N (M : m_M) (X : n_X) : Nat := MN M + (if Xc X = 0 then 1 else 0)
def n_h (M : m_M) (X : n_X) (i : Nat) : Int := if i < 4 * MN M then (if i % 4 = 3 then Mh M i else n_ld M X (Mh M i).toNat) else if i = 4 * MN M + 1 ∨ i = 4 * MN M + 2 then n_ld M X (ML M) else 0
def n_M (M : m_M) (X : n_X) (c : Nat → Int) : m_M := (c, n_L M X, n_h M X, n_N M X, Mm M, Ma M, Mo M, Ms M)
theorem n_pl {M : m_M} {X : n_X} {me : Int} {c : Nat → Int} (hW : m_W M me) (h : n_ok M X) (hC : n_C M X c) {t : Int} (ht : m_pl (Mc M) (ML M) t) : m_pl c (n_L M X) (n_ld M X t.toNat) ∧ n_ld M X t.toNat < n_ld M X (ML M) := by
  have h0 := n_ld_0 h t.toNat
  have hb : m_bg (Mc M) t.toNat := ht.2.2
  have hp : t.toNat < ML M := by have := ht.1; have := ht.2.1; omega
  have hin := m_in hW.2.2.1 hp hb
  have h1 := n_ld_n (X := X) hb hin.1
  have h2 := n_ld_le h (p := t.toNat + (q_sz (Mc M t.toNat)).toNat) (q := ML M) (by omega)
  have h3 := h.2.2.1 t.toNat
  have h4 := h.2.2.2.1 t.toNat
  have how : n_ow M X t.toNat = n_ld M X t.toNat + 2 * Xp X t.toNat := rfl
  have hlt : n_ld M X t.toNat < n_ld M X (ML M) := by omega
  refine ⟨⟨h0.2, ?_, n_bg1 hW h hC (by omega) hb⟩, hlt⟩
  unfold n_L
  have := (n_ld_0 h (ML M)).2
  omega
theorem n_y_r {M : m_M} {X : n_X} {me : Int} {c : Nat → Int} (hW : m_W M me) (h : n_ok M X) (hC : n_C M X c) (hL : n_L M X ≤ 120) {p : Nat} (hp : p < ML M) (hb : m_bg (Mc M) p) (hbr : q_br (Mc M p)) : -120 ≤ n_y M X p ∧ n_y M X p ≤ 120 := by
  have ht := (hW.2.2.2.1 p hp hb).1 hbr
  have a := n_pl hW h hC ht
  have h0 := n_ld_0 h p
  have h3 := h.2.2.1 p
  have hin := m_in hW.2.2.1 hp hb
  have h1 := n_ld_n (X := X) hb hin.1
  have h2 := n_ld_le h (p := p + (q_sz (Mc M p)).toNat) (q := ML M) (by omega)
  have h4 := h.2.2.2.1 p
  have how : n_ow M X p = n_ld M X p + 2 * Xp X p := rfl
  have hL2 : (n_ld M X (ML M)).toNat ≤ 120 := by unfold n_L at hL; omega
  have := a.1.1
  have := a.2
  unfold n_y
  omega
theorem n_way {M : m_M} {X : n_X} {me : Int} {c : Nat → Int} (hW : m_W M me) (h : n_ok M X) (hC : n_C M X c) (hL : n_L M X ≤ 120) {p : Nat} (hp : p < ML M) (hb : m_bg (Mc M) p) (hbr : q_br (Mc M p)) : m_way c (n_L M X) (((n_ow M X p).toNat : Nat) : Int) = n_y M X p ∧ q_br (n_op M X p) := by
  have hy := n_y_r hW h hC hL hp hb hbr
  obtain ⟨c1, c2, c3, c4⟩ := hC.2.1 p hp hb
  have h0 := n_ld_0 h p
  have h3 := h.2.2.1 p
  have hw := h.2.2.2.1 p
  have hin := m_in hW.2.2.1 hp hb
  have h1 := n_ld_n (X := X) hb hin.1
  have h2 := n_ld_le h (p := p + (q_sz (Mc M p)).toNat) (q := ML M) (by omega)
  have hz := n_op_sz h p
  have how : n_ow M X p = n_ld M X p + 2 * Xp X p := rfl
  have hop : n_op M X p = Mc M p + 10 * Xw X p := rfl
  have hnb : q_br (n_op M X p) := by
    unfold q_br q_sb q_wb at hbr ⊢
    unfold q_sb at hw
    omega
  refine ⟨?_, hnb⟩
  have hl : n_ld M X (ML M) ≤ (n_L M X : Int) := by unfold n_L; omega
  have z2 : 2 ≤ q_sz (n_op M X p) := by
    have hn : n_op M X p = 10 ∨ n_op M X p = 11 ∨ n_op M X p = 12 ∨ n_op M X p = 20 ∨ n_op M X p = 21 ∨ n_op M X p = 22 := by
      unfold q_br q_sb q_wb at hnb
      omega
    rcases hn with e | e | e | e | e | e <;> rw [e] <;> decide
  have hol : (n_ow M X p).toNat < n_L M X := by omega
  have e1 : (((n_ow M X p).toNat : Nat) : Int) + 1 = (((n_ow M X p).toNat + 1 : Nat) : Int) := by omega
  have e2 : (((n_ow M X p).toNat : Nat) : Int) + 2 = (((n_ow M X p).toNat + 2 : Nat) : Int) := by omega
  unfold m_way
  rw [m_at_in hol, c2, e1, m_at_in (by omega)]
  by_cases hwb : q_wb (n_op M X p)
  · have z3 : q_sz (n_op M X p) = 3 := by
      have hn : n_op M X p = 20 ∨ n_op M X p = 21 ∨ n_op M X p = 22 := by
        unfold q_wb at hwb
        omega
      rcases hn with e | e | e <;> rw [e] <;> decide
    rw [if_pos hwb, e2, m_at_in (by omega), ((c3 hbr).1 hwb).1, ((c3 hbr).1 hwb).2]
    unfold q_sg
    split <;> omega
  · rw [if_neg hwb, (c3 hbr).2 hwb]
    unfold q_sg
    split <;> omega
theorem n_nu {M : m_M} {X : n_X} {me : Int} {c : Nat → Int} (hW : m_W M me) (h : n_ok M X) (hC : n_C M X c) {p : Nat} (hp : p < ML M) (hb : m_bg (Mc M) p) (hop : Mc M p = 2 ∨ Mc M p = 3 ∨ Mc M p = 16 ∨ Mc M p = 13) : m_at c (n_L M X) ((((n_ow M X p).toNat : Nat) : Int) + 1) = m_nu M p := by
  obtain ⟨c1, c2, c3, c4⟩ := hC.2.1 p hp hb
  have h0 := n_ld_0 h p
  have h3 := h.2.2.1 p
  have hw := h.2.2.2.1 p
  have hin := m_in hW.2.2.1 hp hb
  have h1 := n_ld_n (X := X) hb hin.1
  have h2 := n_ld_le h (p := p + (q_sz (Mc M p)).toNat) (q := ML M) (by omega)
  have how : n_ow M X p = n_ld M X p + 2 * Xp X p := rfl
  have hz : 2 ≤ q_sz (Mc M p) := by
    rcases hop with e | e | e | e <;> rw [e] <;> decide
  have hnb : ¬ q_br (Mc M p) := by
    unfold q_br q_sb q_wb
    omega
  have hl : n_ld M X (ML M) ≤ (n_L M X : Int) := by unfold n_L; omega
  unfold m_nu
  rw [show (((n_ow M X p).toNat : Nat) : Int) + 1 = (((n_ow M X p).toNat + 1 : Nat) : Int) by omega, m_at_in (by omega), show (p : Int) + 1 = ((p + 1 : Nat) : Int) by omega, m_at_in (by omega)]
  exact c4 hnb 1 (by omega) (by omega)
theorem n_W {M : m_M} {X : n_X} {me : Int} {c : Nat → Int} (hW : m_W M me) (h : n_ok M X) (hC : n_C M X c) (hL : n_L M X ≤ 120) (hN : n_N M X ≤ 5) : m_W (n_M M X c) me := by
  have hl0 := n_ld_0 h (ML M)
  have h00 := n_pl hW h hC (t := 0) ⟨by omega, by have := hW.1.1; omega, rfl⟩
  have hl : n_ld M X (ML M) ≤ (n_L M X : Int) := by unfold n_L; omega
  refine ⟨⟨?_, hL, hN⟩, hW.2.1, n_end hW h hC, fun q hq hb => ?_, fun i hi => ?_⟩
  · show 1 ≤ n_L M X
    have := h00.1.2.1
    have := h00.1.1
    omega
  · have vac : (c q = 30 ∨ c q = 31 ∨ c q = 32) → m_wp (n_M M X c) me q := by
      intro z
      have e : Mc (n_M M X c) q = c q := rfl
      unfold m_wp
      rw [e]
      unfold q_br q_sb q_wb
      refine ⟨fun y => ?_, fun y => ?_, fun y => ?_⟩ <;> omega
    rcases n_cov hW h hC hq hb with ⟨k0, k1⟩ | ⟨p, hp, hbp, k⟩ | ⟨k0, k1⟩
    · rw [k1] at vac ⊢
      exact vac (Or.inl (hC.1 k0).1)
    · rcases k with ⟨k2, k3⟩ | k3
      · refine vac ?_
        rw [k3, ((hC.2.1 p hp hbp).1 k2).1]
        unfold n_pop
        split
        · exact Or.inl rfl
        · exact Or.inr (Or.inl rfl)
      · have c2 := (hC.2.1 p hp hbp).2.1
        have hop : n_op M X p = Mc M p + 10 * Xw X p := rfl
        have hw := h.2.2.2.1 p
        have hwp := hW.2.2.2.1 p hp hbp
        have e : Mc (n_M M X c) q = n_op M X p := by show c q = _; rw [k3]; exact c2
        unfold m_wp
        rw [e]
        refine ⟨fun y => ?_, fun y => ?_, fun y => ?_⟩
        · have hbr : q_br (Mc M p) := by
            unfold q_br q_sb q_wb at y ⊢
            unfold q_sb at hw
            omega
          have := (n_way hW h hC hL hp hbp hbr).1
          show m_pl c (n_L M X) ((q : Int) + m_way c (n_L M X) q)
          rw [k3, this]
          have hpl := (n_pl hW h hC (hwp.1 hbr)).1
          have ho : 0 ≤ n_ow M X p := by
            have := n_ld_0 h p
            have := h.2.2.1 p
            unfold n_ow
            omega
          rw [show (((n_ow M X p).toNat : Nat) : Int) + n_y M X p = n_ld M X ((p : Int) + m_way (Mc M) (ML M) p).toNat by unfold n_y; omega]
          exact hpl
        · have hc : Mc M p = 2 ∨ Mc M p = 3 ∨ Mc M p = 16 := by
            unfold q_sb at hw
            omega
          show m_at c (n_L M X) ((q : Int) + 1) < Mo M
          rw [k3, n_nu hW h hC hp hbp (by omega)]
          exact hwp.2.1 hc
        · have hc : Mc M p = 13 := by
            unfold q_sb at hw
            omega
          show m_at c (n_L M X) ((q : Int) + 1) < me
          rw [k3, n_nu hW h hC hp hbp (by omega)]
          exact hwp.2.2 hc
    · rcases k1 with k1 | k1
      · rw [k1] at vac ⊢
        exact vac (Or.inl (hC.2.2 k0).1)
      · rw [k1] at vac ⊢
        exact vac (Or.inr (Or.inr (hC.2.2 k0).2.2))
  · show m_hh c (n_L M X) (n_h M X) i
    by_cases ho : i < MN M
    · have e0 : n_h M X (4 * i) = n_ld M X (Mh M (4 * i)).toNat := by unfold n_h; rw [if_pos (by omega), if_neg (by omega)]
      have e1 : n_h M X (4 * i + 1) = n_ld M X (Mh M (4 * i + 1)).toNat := by unfold n_h; rw [if_pos (by omega), if_neg (by omega)]
      have e2 : n_h M X (4 * i + 2) = n_ld M X (Mh M (4 * i + 2)).toNat := by unfold n_h; rw [if_pos (by omega), if_neg (by omega)]
      obtain ⟨⟨x1, x2⟩, x3, x4⟩ := hW.2.2.2.2 i ho
      unfold m_hh
      rw [e0, e1, e2]
      have hb : m_bg (Mc M) (Mh M (4 * i)).toNat := x3.2.2
      have x3a := x3.1
      have x3b := x3.2.1
      have hp : (Mh M (4 * i)).toNat < ML M := by omega
      have hin := m_in hW.2.2.1 hp hb
      have n1 := n_ld_n (X := X) hb hin.1
      have how : n_ow M X (Mh M (4 * i)).toNat = n_ld M X (Mh M (4 * i)).toNat + 2 * Xp X (Mh M (4 * i)).toNat := rfl
      have h3 := h.2.2.1 (Mh M (4 * i)).toNat
      have h4 := h.2.2.2.1 (Mh M (4 * i)).toNat
      have hend : (Mh M (4 * i)).toNat + (q_sz (Mc M (Mh M (4 * i)).toNat)).toNat ≤ (Mh M (4 * i + 1)).toNat := by
        apply Nat.le_of_not_lt
        intro hlt
        rcases x2 with y | y
        · rw [y, Int.toNat_natCast] at hlt
          omega
        · exact m_bg_no hb (by omega) (by omega) y.2.2
      have n2 := n_ld_le h hend
      refine ⟨⟨by omega, ?_⟩, (n_pl hW h hC x3).1, (n_pl hW h hC x4).1⟩
      rcases x2 with y | y
      · rw [y, Int.toNat_natCast]
        by_cases h0 : Xc X = 0
        · right
          refine ⟨hl0.2, ?_, n_bg1 hW h hC (Nat.le_refl _) (show m_bg (Mc M) (ML M) from hW.2.2.1)⟩
          unfold n_L n_pst
          rw [if_pos h0]
          omega
        · left
          unfold n_L n_pst
          rw [if_neg h0]
          omega
      · exact Or.inr (n_pl hW h hC y).1
    · have hi' : i < MN M + (if Xc X = 0 then 1 else 0) := hi
      have h0 : Xc X = 0 := by
        apply Classical.byContradiction
        intro z
        rw [if_neg z] at hi'
        omega
      rw [if_pos h0] at hi'
      have hiN : i = MN M := by omega
      have e0 : n_h M X (4 * i) = 0 := by unfold n_h; rw [if_neg (by omega), if_neg (by omega)]
      have e1 : n_h M X (4 * i + 1) = n_ld M X (ML M) := by unfold n_h; rw [if_neg (by omega), if_pos (by omega)]
      have e2 : n_h M X (4 * i + 2) = n_ld M X (ML M) := by unfold n_h; rw [if_neg (by omega), if_pos (by omega)]
      have hpre : n_pre X = 2 := by unfold n_pre; rw [if_pos h0]
      have hlb : m_pl c (n_L M X) (n_ld M X (ML M)) := by
        refine ⟨hl0.2, ?_, n_bg1 hW h hC (Nat.le_refl _) (show m_bg (Mc M) (ML M) from hW.2.2.1)⟩
        unfold n_L n_pst
        rw [if_pos h0]
        omega
      unfold m_hh
      rw [e0, e1, e2]
      exact ⟨⟨by omega, Or.inr hlb⟩, ⟨by omega, by omega, rfl⟩, hlb⟩
/-! the closed solution of the new code -/
def n_dk (M : m_M) (X : n_X) (d : Nat → Int) : Nat → Nat → Int
  | 0, q => if Xc X = 0 ∧ q = 0 then 0 else if Xc X = 0 ∧ ((q : Int) = n_ld M X (ML M) ∨ (q : Int) = n_ld M X (ML M) + 2) then 1 else -1
  | p + 1, q => if m_bg (Mc M) p ∧ ((q : Int) = n_ow M X p ∨ (q : Int) = n_ld M X p) then d p else n_dk M X d p q
def n_d (M : m_M) (X : n_X) (d : Nat → Int) (q : Nat) : Int := n_dk M X d (ML M) q
/-- q is where p went -/
def n_at (M : m_M) (X : n_X) (p q : Nat) : Prop := p < ML M ∧ m_bg (Mc M) p ∧ ((q : Int) = n_ow M X p ∨ (q : Int) = n_ld M X p)
def n_S (M : m_M) (X : n_X) (S : Nat → Nat → Prop) (q n : Nat) : Prop := (∃ p, n_at M X p q ∧ S p n) ∨ (Xc X = 0 ∧ q = 0 ∧ (n : Int) < Ma M)
theorem n_lt {M : m_M} {X : n_X} {me : Int} (hW : m_W M me) (h : n_ok M X) {p p' : Nat} (hpp : p < p') (hb : m_bg (Mc M) p) (hb' : m_bg (Mc M) p' ) (hp' : p' ≤ ML M) : n_ow M X p < n_ld M X p' := by
  have hin := m_in hW.2.2.1 (show p < ML M by omega) hb
  have n1 := n_ld_n (X := X) hb hin.1
  have h4 := h.2.2.2.1 p
  have hle : p + (q_sz (Mc M p)).toNat ≤ p' := by
    apply Nat.le_of_not_lt
    intro hlt
    exact m_bg_no hb hpp (by omega) hb'
  have n2 := n_ld_le h hle
  omega
theorem n_at_u {M : m_M} {X : n_X} {me : Int} (hW : m_W M me) (h : n_ok M X) {p p' q : Nat} (h1 : n_at M X p q) (h2 : n_at M X p' q) : p = p' := by
  have a := h.2.2.1 p
  have b := h.2.2.1 p'
  have e1 : n_ow M X p = n_ld M X p + 2 * Xp X p := rfl
  have e2 : n_ow M X p' = n_ld M X p' + 2 * Xp X p' := rfl
  obtain ⟨x1, x2, x3⟩ := h1
  obtain ⟨y1, y2, y3⟩ := h2
  rcases Nat.lt_trichotomy p p' with z | z | z
  · have := n_lt hW h z x2 y2 (by omega)
    omega
  · exact z
  · have := n_lt hW h z y2 x2 (by omega)
    omega
theorem n_dk_at {M : m_M} {X : n_X} {me : Int} {d : Nat → Int} (hW : m_W M me) (h : n_ok M X) {p q : Nat} (h1 : n_at M X p q) : ∀ k, p < k → k ≤ ML M → n_dk M X d k q = d p := by
  intro k
  induction k with
  | zero => intro z; omega
  | succ k ih =>
    intro hk hL
    rw [n_dk]
    by_cases hc : m_bg (Mc M) k ∧ ((q : Int) = n_ow M X k ∨ (q : Int) = n_ld M X k)
    · rw [if_pos hc, n_at_u hW h h1 (show n_at M X k q from ⟨by omega, hc.1, hc.2⟩)]
    · rw [if_neg hc]
      by_cases hkp : p = k
      · subst hkp
        exact absurd ⟨h1.2.1, h1.2.2⟩ hc
      · exact ih (by omega) (by omega)
theorem n_dk_no {M : m_M} {X : n_X} {d : Nat → Int} {q : Nat} (hn : ∀ p, ¬ n_at M X p q) : ∀ k, k ≤ ML M → n_dk M X d k q = n_dk M X d 0 q := by
  intro k
  induction k with
  | zero => intro _; rfl
  | succ k ih =>
    intro hL
    have e : n_dk M X d (k + 1) q = if m_bg (Mc M) k ∧ ((q : Int) = n_ow M X k ∨ (q : Int) = n_ld M X k) then d k else n_dk M X d k q := rfl
    rw [e, if_neg (fun z => hn k ⟨by omega, z.1, z.2⟩)]
    exact ih (by omega)
theorem n_at_no {M : m_M} {X : n_X} {me : Int} (hW : m_W M me) (h : n_ok M X) {q : Nat} (hq : (Xc X = 0 ∧ q = 0) ∨ n_ld M X (ML M) ≤ (q : Int)) : ∀ p, ¬ n_at M X p q := by
  intro p ⟨h1, h2, h3⟩
  have a := h.2.2.1 p
  have e1 : n_ow M X p = n_ld M X p + 2 * Xp X p := rfl
  rcases hq with ⟨z1, z2⟩ | z
  · have := (n_ld_0 h p).1
    have hpre : n_pre X = 2 := by unfold n_pre; rw [if_pos z1]
    omega
  · have := n_lt hW h h1 h2 (show m_bg (Mc M) (ML M) from hW.2.2.1) (Nat.le_refl _)
    omega
theorem n_arr {M : m_M} {X : n_X} {me : Int} {c : Nat → Int} {d : Nat → Int} {S : Nat → Nat → Prop} (hW : m_W M me) (h : n_ok M X) (hC : n_C M X c) {t e : Int} {T T' : Nat → Prop} (ha : m_ar (Mc M) (ML M) d S t e T) (hT : ∀ n, T n → T' n) : m_ar c (n_L M X) (n_d M X d) (n_S M X S) (n_ld M X t.toNat) e T' := by
  obtain ⟨a1, a2, a3⟩ := ha
  have hp : t.toNat < ML M := by have := a1.1; have := a1.2.1; omega
  have h0 := n_ld_0 h t.toNat
  have hat : n_at M X t.toNat (n_ld M X t.toNat).toNat := ⟨hp, a1.2.2, Or.inr (by omega)⟩
  refine ⟨(n_pl hW h hC a1).1, ?_, fun n hn => ?_⟩
  · unfold n_d
    rw [n_dk_at hW h hat _ hp (Nat.le_refl _)]
    exact a2
  · rcases hn with ⟨p, y1, y2⟩ | ⟨y1, y2, y3⟩
    · rw [n_at_u hW h y1 hat] at y2
      exact hT n (a3 n y2)
    · exact absurd hat (n_at_no hW h (Or.inl ⟨y1, y2⟩) t.toNat)
theorem n_opx {M : m_M} {X : n_X} (h : n_ok M X) (p : Nat) : (n_op M X p = Mc M p ∧ Xw X p = 0) ∨ ((Mc M p = 10 ∨ Mc M p = 11 ∨ Mc M p = 12) ∧ n_op M X p = Mc M p + 10 ∧ Xw X p = 1) := by
  unfold n_op
  rcases h.2.2.2.1 p with z | ⟨z, y⟩
  · left; rw [z]; omega
  · right; rw [z]; unfold q_sb at y; omega
theorem n_op_f {M : m_M} {X : n_X} (h : n_ok M X) (p : Nat) : ((n_op M X p = 13 ↔ Mc M p = 13) ∧ (n_op M X p = 3 ↔ Mc M p = 3) ∧ (n_op M X p = 2 ↔ Mc M p = 2) ∧ (n_op M X p = 16 ↔ Mc M p = 16)) ∧ (q_en (n_op M X p) ↔ q_en (Mc M p)) ∧ (q_br (n_op M X p) ↔ q_br (Mc M p)) ∧ q_tk (n_op M X p) = q_tk (Mc M p) ∧ q_pt (n_op M X p) = q_pt (Mc M p) := by
  rcases n_opx h p with ⟨e, _⟩ | ⟨e1, e2, _⟩
  · rw [e]
    exact ⟨⟨Iff.rfl, Iff.rfl, Iff.rfl, Iff.rfl⟩, Iff.rfl, Iff.rfl, rfl, rfl⟩
  · rcases e1 with e | e | e <;> rw [e2, e] <;> decide
theorem n_own {M : m_M} {X : n_X} {me : Int} {c : Nat → Int} {A d : Nat → Int} {S : Nat → Nat → Prop} (hW : m_W M me) (h : n_ok M X) (hC : n_C M X c) (hL : n_L M X ≤ 120) {p q : Nat} (hat : n_at M X p q) (hown : (q : Int) = n_ow M X p) (hok : m_ok M A d S p) (hh : ∀ i, i < n_N M X → m_cov (n_M M X c) i q → m_ar c (n_L M X) (n_d M X d) (n_S M X S) (n_h M X (4 * i + 2)) 1 (n_S M X S q)) : m_ok (n_M M X c) A (n_d M X d) (n_S M X S) q := by
  have edp : n_d M X d q = d p := n_dk_at hW h hat _ hat.1 (Nat.le_refl _)
  have hin := m_in hW.2.2.1 hat.1 hat.2.1
  have hSq : ∀ n, S p n → n_S M X S q n := fun n z => Or.inl ⟨p, hat, z⟩
  have eq' : q = (n_ow M X p).toNat := by omega
  have ec : Mc (n_M M X c) q = n_op M X p := by show c q = _; rw [eq']; exact (hC.2.1 p hat.1 hat.2.1).2.1
  obtain ⟨⟨f13, f3, f2, f16⟩, fen, fbr, ftk, fpt⟩ := n_op_f h p
  have enu : (Mc M p = 2 ∨ Mc M p = 3 ∨ Mc M p = 16 ∨ Mc M p = 13) → m_nu (n_M M X c) q = m_nu M p := fun z => by
    show m_at c (n_L M X) ((q : Int) + 1) = _
    rw [eq']
    exact n_nu hW h hC hat.1 hat.2.1 z
  have etk : m_tk (n_M M X c) A q = m_tk M A p := by
    unfold m_tk
    rw [ec]
    by_cases z : Mc M p = 13
    · rw [if_pos (f13.2 z), if_pos z, enu (Or.inr (Or.inr (Or.inr z)))]
    · rw [if_neg (fun y => z (f13.1 y)), if_neg z, ftk]
  have eaf : m_af (n_M M X c) A (n_d M X d) q = m_af M A d p := by
    unfold m_af
    rw [etk, ec, fpt, edp]
  have hT : ∀ n, m_T M S p n → m_T (n_M M X c) (n_S M X S) q n := fun n z => by
    rcases z with z | ⟨z1, z2⟩
    · exact Or.inl (hSq n z)
    · exact Or.inr ⟨by rw [ec]; exact f3.2 z1, by rw [enu (Or.inr (Or.inl z1))]; exact z2⟩
  refine ⟨⟨by rw [edp]; exact hok.1.1, by rw [etk, edp]; exact hok.1.2.1, by rw [eaf]; exact hok.1.2.2.1, fun z => ?_⟩, fun z => ?_, fun z => ?_, hh⟩
  · rw [ec] at z
    have z' : Mc M p = 2 ∨ Mc M p = 16 := z.imp f2.1 f16.1
    rw [enu (z'.elim Or.inl (fun y => Or.inr (Or.inr (Or.inl y))))]
    exact hSq _ (hok.1.2.2.2 z')
  · rw [ec] at z
    have a := n_arr hW h hC (hok.2.1 (fun y => z (fen.2 y))) hT
    rw [ec, eaf, n_op_sz h p]
    rw [show ((p : Int) + q_sz (Mc M p)).toNat = p + (q_sz (Mc M p)).toNat by omega, n_ld_n hat.2.1 hin.1] at a
    rw [show (q : Int) + (q_sz (Mc M p) + Xw X p) = n_ow M X p + q_sz (Mc M p) + Xw X p by omega]
    exact a
  · rw [ec] at z
    have z' := fbr.1 z
    have a := n_arr hW h hC (hok.2.2.1 z') hT
    have ewy := (n_way hW h hC hL hat.1 hat.2.1 z').1
    have hp0 := n_ld_0 h p
    have hpp := h.2.2.1 p
    have ew : n_ow M X p = n_ld M X p + 2 * Xp X p := rfl
    have ey : n_y M X p = n_ld M X ((p : Int) + m_way (Mc M) (ML M) p).toNat - n_ow M X p := rfl
    have e3 : (q : Int) + m_way c (n_L M X) (q : Int) = n_ld M X ((p : Int) + m_way (Mc M) (ML M) p).toNat := by
      rw [← eq'] at ewy
      omega
    rw [eaf]
    show m_ar c (n_L M X) (n_d M X d) (n_S M X S) ((q : Int) + m_way c (n_L M X) q) _ _
    rw [e3]
    exact a
theorem n_CL {M : m_M} {X : n_X} {me : Int} {c : Nat → Int} {A d : Nat → Int} {S : Nat → Nat → Prop} (hW : m_W M me) (h : n_ok M X) (hC : n_C M X c) (hL : n_L M X ≤ 120) (hCL : m_CL M A d S) : m_CL (n_M M X c) A (n_d M X d) (n_S M X S) := by
  have hMs := hW.2.1
  have hl0 := n_ld_0 h (ML M)
  have hl : n_ld M X (ML M) ≤ (n_L M X : Int) := by unfold n_L; omega
  have h00 := n_ld_0 h 0
  have e00 : n_ld M X 0 = n_pre X := rfl
  -- the tail of a TRACE
  have tail : Xc X = 0 → ∀ T : Nat → Prop, m_ar c (n_L M X) (n_d M X d) (n_S M X S) (n_ld M X (ML M)) 1 T := by
    intro h0 T
    have hno := n_at_no hW h (q := (n_ld M X (ML M)).toNat) (Or.inr (by omega))
    have hpre : n_pre X = 2 := by unfold n_pre; rw [if_pos h0]
    refine ⟨⟨hl0.2, ?_, n_bg1 hW h hC (Nat.le_refl _) (show m_bg (Mc M) (ML M) from hW.2.2.1)⟩, ?_, fun n hn => ?_⟩
    · unfold n_L n_pst
      rw [if_pos h0]
      omega
    · unfold n_d
      rw [n_dk_no hno _ (Nat.le_refl _), n_dk, if_neg (by omega), if_pos ⟨h0, Or.inl (by omega)⟩]
    · rcases hn with ⟨p, y1, y2⟩ | ⟨y1, y2, y3⟩
      · exact absurd y1 (hno p)
      · omega
  -- the handlers that cover a new place
  have hands : ∀ (p q : Nat), n_at M X p q → m_ok M A d S p → ∀ i, i < n_N M X → m_cov (n_M M X c) i q → m_ar c (n_L M X) (n_d M X d) (n_S M X S) (n_h M X (4 * i + 2)) 1 (n_S M X S q) := by
    intro p q hat hok i hi hcv
    by_cases ho : i < MN M
    · have e0 : n_h M X (4 * i) = n_ld M X (Mh M (4 * i)).toNat := by unfold n_h; rw [if_pos (by omega), if_neg (by omega)]
      have e1 : n_h M X (4 * i + 1) = n_ld M X (Mh M (4 * i + 1)).toNat := by unfold n_h; rw [if_pos (by omega), if_neg (by omega)]
      have e2 : n_h M X (4 * i + 2) = n_ld M X (Mh M (4 * i + 2)).toNat := by unfold n_h; rw [if_pos (by omega), if_neg (by omega)]
      obtain ⟨⟨x1, x2⟩, x3, x4⟩ := hW.2.2.2.2 i ho
      have hcv' : n_h M X (4 * i) ≤ (q : Int) ∧ (q : Int) < n_h M X (4 * i + 1) := hcv
      rw [e0, e1] at hcv'
      have a := h.2.2.1 p
      have ew : n_ow M X p = n_ld M X p + 2 * Xp X p := rfl
      have hcov : m_cov M i p := by
        have x3a := x3.1
        have x3b := x3.2.1
        constructor
        · apply Int.not_lt.mp
          intro hlt
          have := n_lt hW h (p := p) (p' := (Mh M (4 * i)).toNat) (by omega) hat.2.1 x3.2.2 (by omega)
          have := hat.2.2
          omega
        · apply Int.lt_of_not_ge
          intro hge
          have := n_ld_le h (p := (Mh M (4 * i + 1)).toNat) (q := p) (by omega)
          have := hat.2.2
          omega
      rw [e2]
      exact n_arr hW h hC (hok.2.2.2 i ho hcov) (fun n hn => Or.inl ⟨p, hat, hn⟩)
    · have hi' : i < MN M + (if Xc X = 0 then 1 else 0) := hi
      have h0 : Xc X = 0 := by
        apply Classical.byContradiction
        intro z
        rw [if_neg z] at hi'
        omega
      rw [if_pos h0] at hi'
      have e2 : n_h M X (4 * i + 2) = n_ld M X (ML M) := by unfold n_h; rw [if_neg (by omega), if_pos (by omega)]
      rw [e2]
      exact tail h0 _
  -- a MARK, a PROBE: nothing changes
  have plain : ∀ (q : Nat) (e : Int), q < n_L M X → (c q = 30 ∨ c q = 31) → n_d M X d q = e → 0 ≤ e → e ≤ Ms M → m_ar c (n_L M X) (n_d M X d) (n_S M X S) ((q : Int) + 2) e (n_S M X S q) → (∀ i, i < n_N M X → m_cov (n_M M X c) i q → m_ar c (n_L M X) (n_d M X d) (n_S M X S) (n_h M X (4 * i + 2)) 1 (n_S M X S q)) → m_ok (n_M M X c) A (n_d M X d) (n_S M X S) q := by
    intro q e hq hc hd he hes hnx hh
    have ec : Mc (n_M M X c) q = c q := rfl
    have etk : m_tk (n_M M X c) A q = 0 := by
      unfold m_tk
      rw [ec]
      rcases hc with z | z <;> rw [z] <;> rfl
    have ept : q_pt (c q) = 0 := by rcases hc with z | z <;> rw [z] <;> decide
    have esz : q_sz (c q) = 2 := by rcases hc with z | z <;> rw [z] <;> decide
    have eaf : m_af (n_M M X c) A (n_d M X d) q = e := by
      unfold m_af
      rw [etk, ec, ept, hd]
      omega
    refine ⟨⟨by rw [hd]; exact hes, by rw [etk, hd]; exact he, by rw [eaf]; exact hes, fun z => ?_⟩, fun _ => ?_, fun z => ?_, hh⟩
    · rw [ec] at z; omega
    · rw [ec, esz, eaf]
      exact m_ar_mono hnx (fun n z => Or.inl z)
    · rw [ec] at z
      unfold q_br q_sb q_wb at z
      omega
  refine ⟨?_, fun q hq hd => ?_⟩
  · show m_ar c (n_L M X) (n_d M X d) (n_S M X S) 0 0 (fun n => (n : Int) < Ma M)
    by_cases h0 : Xc X = 0
    · have hno := n_at_no hW h (q := 0) (Or.inl ⟨h0, rfl⟩)
      have hpre : n_pre X = 2 := by unfold n_pre; rw [if_pos h0]
      have := (n_ld_0 h (ML M)).1
      refine ⟨⟨by omega, by omega, rfl⟩, ?_, fun n hn => ?_⟩
      · show n_dk M X d (ML M) 0 = 0
        rw [n_dk_no hno _ (Nat.le_refl _), n_dk, if_pos ⟨h0, rfl⟩]
      · rcases hn with ⟨p, y1, y2⟩ | ⟨y1, y2, y3⟩
        · exact absurd y1 (hno p)
        · exact y3
    · have hpre : n_pre X = 0 := by unfold n_pre; rw [if_neg h0]
      have := n_arr hW h hC hCL.1 (T' := fun n => (n : Int) < Ma M) (fun n z => z)
      rw [show n_ld M X (0 : Int).toNat = 0 by show n_ld M X 0 = 0; omega] at this
      exact this
  · have hq' : q < n_L M X := hq
    have hd' : 0 ≤ n_dk M X d (ML M) q := hd
    by_cases hat : ∃ p, n_at M X p q
    · obtain ⟨p, hat⟩ := hat
      have edp : n_dk M X d (ML M) q = d p := n_dk_at hW h hat _ hat.1 (Nat.le_refl _)
      rw [edp] at hd'
      have hok := hCL.2 p hat.1 hd'
      have hin := m_in hW.2.2.1 hat.1 hat.2.1
      have hpp := h.2.2.1 p
      have hp0 := n_ld_0 h p
      have ew : n_ow M X p = n_ld M X p + 2 * Xp X p := rfl
      have c1 := (hC.2.1 p hat.1 hat.2.1).1
      have hSq : ∀ n, S p n → n_S M X S q n := fun n z => Or.inl ⟨p, hat, z⟩
      by_cases hown : (q : Int) = n_ow M X p
      · exact n_own hW h hC hL hat hown hok (hands p q hat hok)
      · have hld : (q : Int) = n_ld M X p := hat.2.2.resolve_left hown
        have hp1 : Xp X p = 1 := by omega
        have eq' : q = (n_ld M X p).toNat := by omega
        have hc : c q = 30 ∨ c q = 31 := by
          rw [eq', (c1 hp1).1]
          unfold n_pop
          split
          · exact Or.inl rfl
          · exact Or.inr rfl
        refine plain q (d p) hq' hc edp hd' hok.1.1 ?_ (hands p q hat hok)
        have hw0 : 0 ≤ Xw X p := by
          rcases h.2.2.2.1 p with z | z
          · omega
          · have := z.1
            omega
        have hat2 : n_at M X p (n_ow M X p).toNat := ⟨hat.1, hat.2.1, Or.inl (by omega)⟩
        have n1 := n_ld_n (X := X) hat.2.1 hin.1
        have n2 := n_ld_le h (p := p + (q_sz (Mc M p)).toNat) (q := ML M) (by omega)
        rw [show (q : Int) + 2 = n_ow M X p by omega]
        refine ⟨⟨by omega, by omega, n_bg2 hW h hC hat.1 hat.2.1⟩, n_dk_at hW h hat2 _ hat.1 (Nat.le_refl _), fun n hn => ?_⟩
        rcases hn with ⟨p', y1, y2⟩ | ⟨y1, y2, y3⟩
        · rw [n_at_u hW h y1 hat2] at y2
          exact hSq n y2
        · exact absurd hat2 (n_at_no hW h (Or.inl ⟨y1, y2⟩) p)
    · have hno : ∀ p, ¬ n_at M X p q := fun p z => hat ⟨p, z⟩
      rw [n_dk_no hno _ (Nat.le_refl _), n_dk] at hd'
      have ed0 : n_d M X d q = n_dk M X d 0 q := n_dk_no hno _ (Nat.le_refl _)
      by_cases h0 : Xc X = 0 ∧ q = 0
      · have hpre : n_pre X = 2 := by unfold n_pre; rw [if_pos h0.1]
        refine plain q 0 hq' (Or.inl (by rw [h0.2]; exact (hC.1 h0.1).1)) (by rw [ed0, n_dk, if_pos h0]) (by omega) (by omega) ?_ ?_
        · have := n_arr hW h hC hCL.1 (T' := n_S M X S q) (fun n z => Or.inr ⟨h0.1, h0.2, z⟩)
          rw [show n_ld M X (0 : Int).toNat = (q : Int) + 2 by show n_ld M X 0 = _; omega] at this
          exact this
        · intro i hi hcv
          by_cases ho : i < MN M
          · exfalso
            have e0 : n_h M X (4 * i) = n_ld M X (Mh M (4 * i)).toNat := by unfold n_h; rw [if_pos (by omega), if_neg (by omega)]
            have hcv' : n_h M X (4 * i) ≤ (q : Int) := hcv.1
            have := (n_ld_0 h (Mh M (4 * i)).toNat).1
            omega
          · have hi' : i < MN M + (if Xc X = 0 then 1 else 0) := hi
            rw [if_pos h0.1] at hi'
            have e2 : n_h M X (4 * i + 2) = n_ld M X (ML M) := by unfold n_h; rw [if_neg (by omega), if_pos (by omega)]
            rw [e2]
            exact tail h0.1 _
      · rw [if_neg h0] at hd'
        by_cases h1 : Xc X = 0 ∧ ((q : Int) = n_ld M X (ML M) ∨ (q : Int) = n_ld M X (ML M) + 2)
        · obtain ⟨t1, t2, t3⟩ := hC.2.2 h1.1
          have hpst : n_L M X = (n_ld M X (ML M)).toNat + 3 := by unfold n_L n_pst; rw [if_pos h1.1]
          have nocov : ∀ i, i < n_N M X → m_cov (n_M M X c) i q → False := by
            intro i hi hcv
            have hcv' : (q : Int) < n_h M X (4 * i + 1) := hcv.2
            by_cases ho : i < MN M
            · have e1 : n_h M X (4 * i + 1) = n_ld M X (Mh M (4 * i + 1)).toNat := by unfold n_h; rw [if_pos (by omega), if_neg (by omega)]
              obtain ⟨⟨x1, x2⟩, x3, x4⟩ := hW.2.2.2.2 i ho
              have := n_ld_le h (p := (Mh M (4 * i + 1)).toNat) (q := ML M) (by
                rcases x2 with y | y
                · omega
                · have := y.2.1
                  omega)
              omega
            · have hi' : i < MN M + (if Xc X = 0 then 1 else 0) := hi
              rw [if_pos h1.1] at hi'
              have e1 : n_h M X (4 * i + 1) = n_ld M X (ML M) := by unfold n_h; rw [if_neg (by omega), if_pos (by omega)]
              omega
          rcases h1.2 with z | z
          · have eq' : q = (n_ld M X (ML M)).toNat := by omega
            have hno2 := n_at_no hW h (q := q + 2) (Or.inr (by omega))
            have b2 := m_bg_nx (n_bg1 hW h hC (Nat.le_refl _) (show m_bg (Mc M) (ML M) from hW.2.2.1)) (by rw [t1]; decide)
            rw [t1] at b2
            refine plain q 1 hq' (Or.inl (by rw [eq']; exact t1)) (by rw [ed0, n_dk, if_neg h0, if_pos h1]) (by omega) (by omega) ?_ (fun i hi hcv => (nocov i hi hcv).elim)
            have e2 : ((q : Int) + 2).toNat = q + 2 := by omega
            refine ⟨⟨by omega, by omega, ?_⟩, ?_, fun n hn => ?_⟩
            · rw [e2, eq']; exact b2
            · show n_dk M X d (ML M) ((q : Int) + 2).toNat = 1
              rw [e2, n_dk_no hno2 _ (Nat.le_refl _), n_dk, if_neg (by omega), if_pos ⟨h1.1, Or.inr (by omega)⟩]
            · rw [e2] at hn
              rcases hn with ⟨p, y1, y2⟩ | ⟨y1, y2, y3⟩
              · exact absurd y1 (hno2 p)
              · omega
          · have eq' : q = (n_ld M X (ML M)).toNat + 2 := by omega
            have ec : Mc (n_M M X c) q = 32 := by show c q = 32; rw [eq']; exact t3
            have ed : n_d M X d q = 1 := by rw [ed0, n_dk, if_neg h0, if_pos h1]
            have etk : m_tk (n_M M X c) A q = 1 := by unfold m_tk; rw [ec]; rfl
            have eaf : m_af (n_M M X c) A (n_d M X d) q = 0 := by unfold m_af; rw [etk, ec, ed]; rfl
            have eMs : Ms (n_M M X c) = Ms M := rfl
            refine ⟨⟨by rw [ed, eMs]; omega, by rw [etk, ed]; omega, by rw [eaf, eMs]; omega, fun y => ?_⟩, fun y => ?_, fun y => ?_, fun i hi hcv => (nocov i hi hcv).elim⟩
            · rw [ec] at y; omega
            · rw [ec] at y; exact absurd (show q_en 32 by decide) y
            · rw [ec] at y; exact absurd y (by decide)
        · rw [if_neg h1] at hd'
          omega
