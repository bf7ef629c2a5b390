/-! 79: reading, as a pure thing: a state is (at, wrong) -/
abbrev t_S : Type := Int × Int
abbrev t_ok (B : Nat → Int) (n : Int) (σ : t_S) (lo hi : Int) : Prop := σ.2 = 0 ∧ σ.1 < n ∧ lo ≤ B σ.1.toNat ∧ B σ.1.toNat ≤ hi
def t_s (B : Nat → Int) (n : Int) (σ : t_S) (lo hi : Int) : t_S := if t_ok B n σ lo hi then (σ.1 + 1, 0) else (σ.1, 1)
def t_x (B : Nat → Int) (n : Int) (σ : t_S) (lo hi : Int) : Int := if t_ok B n σ lo hi then B σ.1.toNat else lo
theorem t_x_r {B : Nat → Int} {n : Int} {σ : t_S} {lo hi : Int} (h : lo ≤ hi) : lo ≤ t_x B n σ lo hi ∧ t_x B n σ lo hi ≤ hi := by
  unfold t_x
  by_cases hk : t_ok B n σ lo hi
  · rw [if_pos hk]; exact hk.2.2
  · rw [if_neg hk]; omega
theorem t_s_0 {B : Nat → Int} {n : Int} {σ : t_S} {lo hi : Int} (h : (t_s B n σ lo hi).2 = 0) : t_ok B n σ lo hi := by
  apply Classical.byContradiction
  intro hk
  unfold t_s at h
  rw [if_neg hk] at h
  exact absurd h (show ¬ ((1 : Int) = 0) by decide)
/-- in range -/
def t_in (σ : t_S) : Prop := 0 ≤ σ.1 ∧ σ.1 ≤ 240 ∧ (σ.2 = 0 ∨ σ.2 = 1)
theorem t_in_s {B : Nat → Int} {n : Int} {σ : t_S} {lo hi : Int} (hn : n ≤ 240) (h : t_in σ) : t_in (t_s B n σ lo hi) := by
  obtain ⟨h1, h2, h3⟩ := h
  unfold t_s
  by_cases hk : t_ok B n σ lo hi
  · rw [if_pos hk]
    have := hk.2.1
    exact ⟨by show 0 ≤ σ.1 + 1; omega, by show σ.1 + 1 ≤ 240; omega, Or.inl rfl⟩
  · rw [if_neg hk]; exact ⟨h1, h2, Or.inr rfl⟩
def S_tk : Nat → Nat → Prop := fun i k => i = 1 ∧ (k = 2 ∨ k = 3)
def t_C (B : Nat → Int) (n : Int) (s : xw_S) (σ : t_S) : Prop := (s.1 1 1 = n ∧ 0 ≤ n ∧ n ≤ 240 ∧ ∀ k : Nat, (k : Int) < n → s.1 2 k = B k ∧ 0 ≤ B k ∧ B k ≤ 255) ∧ s.1 1 2 = σ.1 ∧ s.1 1 3 = σ.2 ∧ t_in σ
theorem t_C_st {B : Nat → Int} {n : Int} {s : xw_S} {σ : t_S} (h : t_C B n s σ) {i k : Nat} {v : Int} (hi : 2 < i) : t_C B n (xw_st s i k v) σ := by
  obtain ⟨⟨a1, a2, a3, a4⟩, b, c, d⟩ := h
  refine ⟨⟨?_, a2, a3, fun k hk => ⟨?_, (a4 k hk).2⟩⟩, ?_, ?_, d⟩
  · rw [st_i (by omega), a1]
  · rw [st_i (by omega), (a4 k hk).1]
  · rw [st_i (by omega), b]
  · rw [st_i (by omega), c]
theorem t_C_f {B : Nat → Int} {n : Int} {s s' : xw_S} {σ : t_S} {S : Nat → Nat → Prop} (h : t_C B n s σ) (hf : frm S s s') (hS : ∀ i k, S i k → 2 < i) : t_C B n s' σ := by
  obtain ⟨⟨a1, a2, a3, a4⟩, b, c, d⟩ := h
  have e : ∀ i k, i ≤ 2 → s'.1 i k = s.1 i k := fun i k hi => hf.2 i k (fun z => by have := hS i k z; omega)
  refine ⟨⟨?_, a2, a3, fun k hk => ⟨?_, (a4 k hk).2⟩⟩, ?_, ?_, d⟩
  · rw [e _ _ (by omega), a1]
  · rw [e _ _ (by omega), (a4 k hk).1]
  · rw [e _ _ (by omega), b]
  · rw [e _ _ (by omega), c]
theorem t_c (fu : Nat) {B : Nat → Int} {n : Int} {s : xw_S} {σ : t_S} (h : t_C B n s σ) {lo hi : Int} (hl : xw_r lo) (hh : xw_r hi) : ∃ s', f_CF_take fu s lo hi = some (s', t_x B n σ lo hi) ∧ frm S_tk s s' ∧ t_C B n s' (t_s B n σ lo hi) := by
  obtain ⟨⟨a1, a2, a3, a4⟩, b, c, d1, d2, d3⟩ := h
  have hcR : cR s := ⟨by omega, by omega, by omega, by omega, by omega, fun k hk => by
    have := a4 k (by omega)
    omega⟩
  have q := q_take fu hcR hl hh
  have hB : σ.1 < n → s.1 2 (s.1 1 2).toNat = B σ.1.toNat := fun z => by rw [b]; exact (a4 _ (by omega)).1
  by_cases hk : t_ok B n σ lo hi
  · have hg : m_tg s lo hi := by
      refine ⟨by rw [c]; exact hk.1, by rw [b, a1]; exact hk.2.1, ?_, ?_⟩
      · rw [hB hk.2.1]; exact hk.2.2.1
      · rw [hB hk.2.1]; exact hk.2.2.2
    refine ⟨_, by rw [q.1 hg, hB hk.2.1]; unfold t_x; rw [if_pos hk], frm_st ⟨rfl, Or.inl rfl⟩, ?_⟩
    unfold t_s
    rw [if_pos hk]
    have := hk.2.1
    refine ⟨⟨by rw [st_k (by decide), a1], a2, a3, fun k hk' => ⟨by rw [st_i (by decide), (a4 k hk').1], (a4 k hk').2⟩⟩, by rw [st_s, b], by rw [st_k (by decide), c]; exact hk.1, by show 0 ≤ σ.1 + 1; omega, by show σ.1 + 1 ≤ 240; omega, Or.inl rfl⟩
  · have hg : ¬ m_tg s lo hi := by
      intro z
      obtain ⟨z1, z2, z3, z4⟩ := z
      have zn : σ.1 < n := by omega
      rw [hB zn] at z3 z4
      exact hk ⟨by omega, zn, z3, z4⟩
    refine ⟨_, by rw [q.2 hg]; unfold t_x; rw [if_neg hk], frm_st ⟨rfl, Or.inr rfl⟩, ?_⟩
    unfold t_s
    rw [if_neg hk]
    exact ⟨⟨by rw [st_k (by decide), a1], a2, a3, fun k hk' => ⟨by rw [st_i (by decide), (a4 k hk').1], (a4 k hk').2⟩⟩, by rw [st_k (by decide), b], by rw [st_s], d1, d2, Or.inr rfl⟩
/-- take, and put what came into field j of body b -/
theorem t_cf (fu : Nat) {B : Nat → Int} {n : Int} {s : xw_S} {σ : t_S} (h : t_C B n s σ) {lo hi : Int} (hl : xw_r lo) (hh : xw_r hi) (i j : Nat) (hi2 : 2 < i) : ∃ s', (∀ K : xw_S → Option xw_S, xw_bn2 (f_CF_take fu s lo hi) (fun s1 x => xw_let (xw_st s1 i j x) K) = K s') ∧ frm (fun i' k => S_tk i' k ∨ (i' = i ∧ k = j)) s s' ∧ t_C B n s' (t_s B n σ lo hi) ∧ s'.1 i j = t_x B n σ lo hi := by
  obtain ⟨s1, h1, h2, h3⟩ := t_c fu h hl hh
  exact ⟨xw_st s1 i j (t_x B n σ lo hi), fun K => by rw [xw_bn2_e h1]; rfl, frm_tr (frm_mono h2 (fun _ _ z => Or.inl z)) (frm_st (Or.inr ⟨rfl, rfl⟩)), t_C_st h3 hi2, st_s _ _ _ _⟩
def t_R (B : Nat → Int) (n : Int) (m : Int) (s : xw_S) (σ : t_S) : Prop := (s.1 0 1 = n ∧ 0 ≤ n ∧ n ≤ 240 ∧ ∀ k : Nat, (k : Int) < n → s.1 1 k = B k ∧ 0 ≤ B k ∧ B k ≤ 255) ∧ (σ.2 = 0 → s.1 0 14 = -1 ∧ s.1 0 13 = σ.1) ∧ (σ.2 = 1 → s.1 0 14 = σ.1) ∧ (0 ≤ s.1 0 13 ∧ s.1 0 13 ≤ m ∧ 240 ≤ m ∧ m ≤ 90000) ∧ t_in σ
def S_nx : Nat → Nat → Prop := fun i k => i = 0 ∧ (k = 13 ∨ k = 14)
theorem t_R_st {B : Nat → Int} {n m : Int} {s : xw_S} {σ : t_S} (h : t_R B n m s σ) {i k : Nat} {v : Int} (hi : 1 < i) : t_R B n m (xw_st s i k v) σ := by
  obtain ⟨⟨a1, a2, a3, a4⟩, b, c, d, e⟩ := h
  refine ⟨⟨?_, a2, a3, fun k hk => ⟨?_, (a4 k hk).2⟩⟩, ?_, ?_, ?_, e⟩
  · rw [st_i (by omega), a1]
  · rw [st_i (by omega), (a4 k hk).1]
  · rw [st_i (by omega), st_i (by omega)]; exact b
  · rw [st_i (by omega)]; exact c
  · rw [st_i (by omega)]; exact d
theorem t_R_m {B : Nat → Int} {n m m' : Int} {s : xw_S} {σ : t_S} (h : t_R B n m s σ) (h1 : m ≤ m') (h2 : m' ≤ 90000) : t_R B n m' s σ := by
  obtain ⟨a, b, c, d, e⟩ := h
  exact ⟨a, b, c, ⟨d.1, by omega, by omega, h2⟩, e⟩
theorem t_r (fu : Nat) {B : Nat → Int} {n m : Int} {s : xw_S} {σ : t_S} (h : t_R B n m s σ) (hm : m < 90000) {lo hi : Int} (hl : xw_r lo) (hl0 : 0 ≤ lo) (hh : xw_r hi) : ∃ s' y, f_MD_next fu s lo hi = some (s', y) ∧ frm S_nx s s' ∧ t_R B n (m + 1) s' (t_s B n σ lo hi) ∧ ((t_s B n σ lo hi).2 = 0 → y = t_x B n σ lo hi) ∧ -1 ≤ y ∧ y ≤ 255 ∧ (σ.2 = 0 → s'.1 0 13 ≤ 241) := by
  obtain ⟨⟨a1, a2, a3, a4⟩, b, c, ⟨d1, d2, d3, d4⟩, e1, e2, e3⟩ := h
  have hrR : rR s := ⟨by rcases e3 with z | z; (have := b z; exact ⟨by omega, by omega⟩); (have := c z; exact ⟨by omega, by omega⟩), d1, by omega, by omega, by omega, fun k hk => by
    have := a4 k (by omega)
    omega⟩
  have hv : -1 ≤ m_nv s ∧ m_nv s ≤ 255 := by
    unfold m_nv
    split
    · have := a4 (s.1 0 13).toNat (by omega)
      omega
    · omega
  have q := q_next fu hrR hl hh
  have k1 : ∀ s' : xw_S, (∀ i k, ¬ S_nx i k → s'.1 i k = s.1 i k) → (s'.1 0 1 = n ∧ 0 ≤ n ∧ n ≤ 240 ∧ ∀ k : Nat, (k : Int) < n → s'.1 1 k = B k ∧ 0 ≤ B k ∧ B k ≤ 255) := fun s' z => ⟨by rw [z _ _ (by unfold S_nx; omega), a1], a2, a3, fun k hk => ⟨by rw [z _ _ (by unfold S_nx; omega), (a4 k hk).1], (a4 k hk).2⟩⟩
  have fA : frm S_nx s (xw_st s 0 13 (s.1 0 13 + 1)) := frm_st ⟨rfl, Or.inl rfl⟩
  have fB : frm S_nx s (xw_st (xw_st s 0 14 (s.1 0 13)) 0 13 (s.1 0 13 + 1)) := frm_tr (frm_st ⟨rfl, Or.inr rfl⟩) (frm_st ⟨rfl, Or.inl rfl⟩)
  rcases e3 with z | z
  · obtain ⟨b1, b2⟩ := b z
    by_cases hk : t_ok B n σ lo hi
    · have hnv : m_nv s = B σ.1.toNat := by
        unfold m_nv
        rw [if_pos (by rw [b2, a1]; exact hk.2.1), b2]
        exact (a4 _ (by have := hk.2.1; omega)).1
      have hk2 := hk.2.1
      rw [if_neg (by have := hk.2.2; omega)] at q
      refine ⟨_, _, q, fA, ⟨k1 _ fA.2, ?_, ?_, ?_, t_in_s a3 ⟨e1, e2, Or.inl z⟩⟩, fun _ => by rw [hnv]; unfold t_x; rw [if_pos hk], hv.1, hv.2, fun _ => ?_⟩
      · intro _
        unfold t_s
        rw [if_pos hk, st_k (by decide), st_s, b2]
        exact ⟨b1, rfl⟩
      · intro y
        unfold t_s at y
        rw [if_pos hk] at y
        exact absurd y (show ¬ ((0 : Int) = 1) by decide)
      · rw [st_s]; omega
      · rw [st_s]; omega
    · have ho : m_nv s < lo ∨ hi < m_nv s := by
        unfold m_nv
        by_cases hn : s.1 0 13 < s.1 0 1
        · rw [if_pos hn, b2, (a4 σ.1.toNat (by omega)).1]
          apply Classical.byContradiction
          intro y
          exact hk ⟨z, by omega, by omega, by omega⟩
        · rw [if_neg hn]; omega
      rw [if_pos ⟨by omega, ho⟩] at q
      refine ⟨_, _, q, fB, ⟨k1 _ fB.2, ?_, ?_, ?_, t_in_s a3 ⟨e1, e2, Or.inl z⟩⟩, fun y => absurd (t_s_0 y) hk, hv.1, hv.2, fun _ => ?_⟩
      · intro y
        exact absurd (t_s_0 y) hk
      · intro _
        unfold t_s
        rw [if_neg hk, st_k (by decide), st_s, b2]
      · rw [st_s]; omega
      · rw [st_s]; omega
  · have c1 := c z
    have hk : ¬ t_ok B n σ lo hi := fun y => by have := y.1; omega
    rw [if_neg (by omega)] at q
    refine ⟨_, _, q, fA, ⟨k1 _ fA.2, ?_, ?_, ?_, t_in_s a3 ⟨e1, e2, Or.inr z⟩⟩, fun y => absurd (t_s_0 y) hk, hv.1, hv.2, fun y => by omega⟩
    · intro y
      exact absurd (t_s_0 y) hk
    · intro _
      unfold t_s
      rw [if_neg hk, st_k (by decide)]
      exact c1
    · rw [st_s]; omega
/-! the names that stand before, and a row of bytes -/
def t_d (nm : Nat → Int) (x : Int) (σ : t_S) : Nat → t_S
  | 0 => σ
  | k + 1 => if (t_d nm x σ k).2 = 0 ∧ nm k = x then ((t_d nm x σ k).1 - 1, 1) else t_d nm x σ k
theorem t_d_1 {nm : Nat → Int} {x : Int} {σ : t_S} {k : Nat} (h : (t_d nm x σ k).2 ≠ 0) : ∀ m, t_d nm x σ (k + m) = t_d nm x σ k
  | 0 => rfl
  | m + 1 => by
    rw [← Nat.add_assoc, t_d, t_d_1 h m, if_neg (fun z => h z.1)]
theorem t_d_in {nm : Nat → Int} {x : Int} {σ : t_S} (h : t_in σ) (h1 : σ.2 = 0 → 1 ≤ σ.1) : ∀ k, t_in (t_d nm x σ k) ∧ ((t_d nm x σ k).2 = 0 → t_d nm x σ k = σ)
  | 0 => ⟨h, fun _ => rfl⟩
  | k + 1 => by
    obtain ⟨i1, i2⟩ := t_d_in h h1 k
    rw [t_d]
    by_cases hc : (t_d nm x σ k).2 = 0 ∧ nm k = x
    · rw [if_pos hc]
      have e := i2 hc.1
      rw [e] at hc
      have := h1 hc.1
      rw [e]
      have h2 := h.2.1
      exact ⟨⟨by show 0 ≤ σ.1 - 1; omega, by show σ.1 - 1 ≤ 240; omega, Or.inr rfl⟩, fun z => absurd z (show ¬ ((1 : Int) = 0) by decide)⟩
    · rw [if_neg hc]; exact ⟨i1, i2⟩
def t_cs (B : Nat → Int) (n : Int) (hi : Nat → Int) (σ : t_S) : Nat → t_S
  | 0 => σ
  | k + 1 => t_s B n (t_cs B n hi σ k) 0 (hi k)
def t_cx (B : Nat → Int) (n : Int) (hi : Nat → Int) (σ : t_S) (k : Nat) : Int := t_x B n (t_cs B n hi σ k) 0 (hi k)
theorem t_cs_1 {B : Nat → Int} {n : Int} {hi : Nat → Int} {σ : t_S} {k : Nat} (h : (t_cs B n hi σ k).2 = 1) : ∀ m, t_cs B n hi σ (k + m) = t_cs B n hi σ k
  | 0 => rfl
  | m + 1 => by
    rw [← Nat.add_assoc, t_cs, t_cs_1 h m]
    unfold t_s
    rw [if_neg (fun z => by have := z.1; omega)]
    exact Prod.ext rfl h.symm
def c_M (s : xw_S) (b : Nat) (M : m_M) : Prop := cB s b (Mc M) (ML M) ∧ cH s b (Mh M) (MN M) ∧ s.1 (48 + 4 * b) 4 = Mm M ∧ s.1 (48 + 4 * b) 5 = Ma M ∧ s.1 (48 + 4 * b) 6 = Mo M ∧ s.1 (48 + 4 * b) 7 = Ms M
def r_M (s : xw_S) (q : Nat) (M : m_M) : Prop := rB s q (Mc M) (ML M) ∧ rH s q (Mh M) (MN M) ∧ s.1 2 q = Mm M ∧ s.1 3 q = Ma M ∧ s.1 4 q = Mo M ∧ s.1 5 q = Ms M
/-- the head of a method that was read -/
def m_hd (M : m_M) : Prop := (97 ≤ Mm M ∧ Mm M ≤ 122) ∧ (0 ≤ Ma M ∧ Ma M ≤ 2) ∧ (Ma M ≤ Mo M ∧ Mo M ≤ 6) ∧ (1 ≤ Ms M ∧ Ms M ≤ 8) ∧ (1 ≤ ML M ∧ ML M ≤ 40) ∧ MN M ≤ 3
def t_hh (k : Nat) : Int := if k % 4 = 3 then 9 else 255
/-- a method read: its end state and the method -/
def t_M (B : Nat → Int) (n : Int) (nm : Nat → Int) (i : Nat) (σ : t_S) : t_S × m_M :=
  let σ1 := t_d nm (t_x B n σ 97 122) (t_s B n σ 97 122) i
  let xa := t_x B n σ1 0 2
  let σ2 := t_s B n σ1 0 2
  let σ3 := t_s B n σ2 xa 6
  let σ4 := t_s B n σ3 1 8
  let xL := t_x B n σ4 1 40
  let σ5 := t_s B n σ4 1 40
  let σ6 := t_cs B n (fun _ => 255) σ5 xL.toNat
  let xN := t_x B n σ6 0 3
  let σ7 := t_s B n σ6 0 3
  (t_cs B n t_hh σ7 (4 * xN.toNat), t_cx B n (fun _ => 255) σ5, xL.toNat, t_cx B n t_hh σ7, xN.toNat, t_x B n σ 97 122, xa, t_x B n σ2 xa 6, t_x B n σ3 1 8)
