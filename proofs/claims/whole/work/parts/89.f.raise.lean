/-! 89.f: what a run stands on; raising -/
def x_S (a qb n : Nat) (Ps : Nat → m_M) (A : Nat → Int) (D : Nat → Nat → Int) (σ ρ : xw_S) : Prop := ((a = 1 ∧ qb = 0) ∨ (a = 2 ∧ qb = 4)) ∧ n ≤ 4 ∧ ∀ j, j < n → c_M σ (4 * a + j) (Ps j) ∧ r_M ρ (qb + j) (Ps j) ∧ m_W (Ps j) (n : Int) ∧ m_E (Ps j) ∧ (∃ S, m_CL (Ps j) A (D j) S) ∧ Ma (Ps j) = A j ∧ 0 ≤ A j ∧ A j ≤ 2
theorem x_S_f {a qb n : Nat} {Ps : Nat → m_M} {A : Nat → Int} {D : Nat → Nat → Int} {σ ρ σ' ρ' : xw_S} {S T : Nat → Nat → Prop} (h : x_S a qb n Ps A D σ ρ) (hf : frm S σ σ') (hg : frm T ρ ρ') (hS : ∀ i k, S i k → i < 48) (hT : ∀ i k, T i k → ¬ (2 ≤ i ∧ i ≤ 9)) : x_S a qb n Ps A D σ' ρ' := by
  obtain ⟨h1, h2, h3⟩ := h
  refine ⟨h1, h2, fun j hj => ?_⟩
  obtain ⟨y1, y2, y3⟩ := h3 j hj
  exact ⟨c_M_f y1 hf (fun i k z => by have := hS i k z; omega), r_M_f y2 (rfm_frm hg) (fun i k z => by have := hT i k z; omega), y3⟩
/-- handler i takes v at p -/
def m_cat (M : m_M) (p : Nat) (v : Int) (i : Nat) : Prop := m_cov M i p ∧ (Mh M (4 * i + 3) = 0 ∨ Mh M (4 * i + 3) = v)
theorem x_cat (fu : Nat) (hfu : 1000 ≤ fu) {s : xw_S} {b : Nat} {M : m_M} (hM : c_M s b M) (hN5 : MN M ≤ 5) {p : Nat} (hp : p < 1000) {v : Int} (hv : xw_r v) : ((∀ i, i < MN M → ¬ m_cat M p v i) → f_B_catcherOf fu s b (p : Int) v = some (s, -1)) ∧ ∀ i, i < MN M → m_cat M p v i → (∀ i', i' < i → ¬ m_cat M p v i') → f_B_catcherOf fu s b (p : Int) v = some (s, Mh M (4 * i + 2)) := by
  have hH := hM.2.1
  have hn := hH.2.2.1
  have st : ∀ (k N : Nat) (K38 : xw_S → Int → Option (xw_S × Int)) (K51 : xw_S → Option (xw_S × Int)), k < MN M → lp_B_catcherOf_2 fu b (p : Int) v K38 K51 (N + 1) s (k : Int) = (if (Mh M (4 * k) ≤ (p : Int) ∧ (p : Int) < Mh M (4 * k + 1)) ∧ (Mh M (4 * k + 3) = 0 ∨ Mh M (4 * k + 3) = v) then K38 s (k : Int) else lp_B_catcherOf_2 fu b (p : Int) v K38 K51 N s ((k + 1 : Nat) : Int)) := by
    intro k N K38 K51 hk
    have r3 := hH.2.2.2.2 (4 * k + 3) (by omega)
    have p3 : f_B_part fu s b (k : Int) 3 = some (s, Mh M (4 * k + 3)) := q_part fu hH hk (w := 3) (by omega)
    rw [lp_B_catcherOf_2, hn, xw_grd_t ⟨⟨by omega, by omega⟩, ⟨by omega, by omega⟩⟩, xw_if_f (by omega), xw_bn2_e p3, xw_bn2_e (q_covers fu hH hk ⟨by omega, by omega⟩), xw_jn_e]
    by_cases hc : Mh M (4 * k) ≤ (p : Int) ∧ (p : Int) < Mh M (4 * k + 1)
    · rw [if_pos hc, xw_grd_t (by decide), xw_if_f (by decide), xw_grd_t ⟨by omega, by omega⟩]
      by_cases h0 : Mh M (4 * k + 3) = 0
      · rw [xw_if_t h0, if_pos ⟨hc, Or.inl h0⟩]
      · rw [xw_if_f h0, xw_grd_t hv]
        by_cases h1 : Mh M (4 * k + 3) = v
        · rw [xw_if_t h1, if_pos ⟨hc, Or.inr h1⟩]
        · rw [xw_if_f h1, if_neg (fun z => z.2.elim h0 h1)]
          rfl
    · rw [if_neg hc, xw_grd_t (by decide), xw_if_t rfl, if_neg (fun z => hc z.1)]
      rfl
  have lp : ∀ (dd k N : Nat) (K38 : xw_S → Int → Option (xw_S × Int)) (K51 : xw_S → Option (xw_S × Int)), k + dd = MN M → dd < N → ((∀ i, k ≤ i → i < MN M → ¬ m_cat M p v i) → lp_B_catcherOf_2 fu b (p : Int) v K38 K51 N s (k : Int) = K51 s) ∧ ∀ i, k ≤ i → i < MN M → m_cat M p v i → (∀ i', k ≤ i' → i' < i → ¬ m_cat M p v i') → lp_B_catcherOf_2 fu b (p : Int) v K38 K51 N s (k : Int) = K38 s (i : Int) := by
    intro dd
    induction dd with
    | zero =>
      intro k N K38 K51 hk hN
      obtain ⟨N, rfl⟩ : ∃ n', N = n' + 1 := ⟨N - 1, by omega⟩
      refine ⟨fun _ => ?_, fun i i1 i2 => by omega⟩
      rw [lp_B_catcherOf_2, hn, xw_grd_t ⟨⟨by omega, by omega⟩, ⟨by omega, by omega⟩⟩, xw_if_t (by omega)]
    | succ dd ih =>
      intro k N K38 K51 hk hN
      obtain ⟨N, rfl⟩ : ∃ n', N = n' + 1 := ⟨N - 1, by omega⟩
      obtain ⟨i1, i2⟩ := ih (k + 1) N K38 K51 (by omega) (by omega)
      rw [st k N K38 K51 (by omega)]
      refine ⟨fun h => ?_, fun i h1 h2 h3 h4 => ?_⟩
      · exact (if_neg (fun z => h k (Nat.le_refl _) (by omega) z)).trans (i1 (fun i j1 j2 => h i (by omega) j2))
      · by_cases hik : i = k
        · subst hik; exact if_pos h3
        · exact (if_neg (fun z => h4 k (Nat.le_refl _) (by omega) z)).trans (i2 i (by omega) h2 h3 (fun i' j1 j2 => h4 i' (by omega) j2))
  have L := lp (MN M) 0 fu (fun (s19 : xw_S) (i3_38 : Int) => xw_bn2 (f_B_part fu s19 b i3_38 2) (fun s20 r22 => some (s20, r22))) (fun (s23 : xw_S) => some (s23, -1)) (by omega) (by omega)
  refine ⟨fun h => L.1 (fun i _ hi => h i hi), fun i h1 h2 h3 => (L.2 i (Nat.zero_le _) h1 h2 (fun i' _ hi => h3 i' hi)).trans ?_⟩
  have p2 : f_B_part fu s b (i : Int) 2 = some (s, Mh M (4 * i + 2)) := q_part fu hH h1 (w := 2) (by omega)
  show xw_bn2 (f_B_part fu s b (i : Int) 2) (fun s20 r22 => some (s20, r22)) = _
  rw [xw_bn2_e p2]
theorem x_r27 (fu : Nat) (hfu : 1000 ≤ fu) {s : xw_S} {q f : Nat} {M : m_M} (hM : r_M s q M) {p : Nat} (hp : p < 1000) (hf : f < 8) (h23 : s.1 23 f = (p : Int)) {v : Int} (hv : xw_r v) (K104 : xw_S → Int → Int → Option xw_S) (K138 : xw_S → Option xw_S) : ((∀ i, i < MN M → ¬ m_cat M p v i) → lp_MD_raise_27 fu v (f : Int) (q : Int) K104 K138 fu s (20 * (q : Int)) = K138 s) ∧ ∀ i, i < MN M → m_cat M p v i → (∀ i', i' < i → ¬ m_cat M p v i') → lp_MD_raise_27 fu v (f : Int) (q : Int) K104 K138 fu s (20 * (q : Int)) = K104 s (f : Int) ((20 * q + 4 * i : Nat) : Int) := by
  have hH := hM.2.1
  have hq := hH.1
  have hN5 := hH.2.1
  have hn := hH.2.2.1
  have st : ∀ (k N : Nat), k < MN M → lp_MD_raise_27 fu v (f : Int) (q : Int) K104 K138 (N + 1) s ((20 * q + 4 * k : Nat) : Int) = (if (Mh M (4 * k) ≤ (p : Int) ∧ (p : Int) < Mh M (4 * k + 1)) ∧ (Mh M (4 * k + 3) = 0 ∨ Mh M (4 * k + 3) = v) then K104 s (f : Int) ((20 * q + 4 * k : Nat) : Int) else lp_MD_raise_27 fu v (f : Int) (q : Int) K104 K138 N s ((20 * q + 4 * (k + 1) : Nat) : Int)) := by
    intro k N hk
    have r0 := hH.2.2.2.2 (4 * k) (by omega)
    have r1 := hH.2.2.2.2 (4 * k + 1) (by omega)
    have r3 := hH.2.2.2.2 (4 * k + 3) (by omega)
    have v0 := hH.2.2.2.1 (4 * k) (by omega)
    have v1 := hH.2.2.2.1 (4 * k + 1) (by omega)
    have v3 := hH.2.2.2.1 (4 * k + 3) (by omega)
    have e1 : (((20 * q + 4 * k : Nat) : Int) + 1).toNat = 20 * q + (4 * k + 1) := by omega
    have e3 : (((20 * q + 4 * k : Nat) : Int) + 3).toNat = 20 * q + (4 * k + 3) := by omega
    have e4 : ((20 * q + 4 * k : Nat) : Int) + 4 = ((20 * q + 4 * (k + 1) : Nat) : Int) := by omega
    have no : (fun (s27 : xw_S) (i4_132 : Int) => xw_let (i4_132 + 4) (fun v28 => lp_MD_raise_27 fu v (f : Int) (q : Int) K104 K138 N s27 v28)) s ((20 * q + 4 * k : Nat) : Int) = lp_MD_raise_27 fu v (f : Int) (q : Int) K104 K138 N s ((20 * q + 4 * (k + 1) : Nat) : Int) := by
      show lp_MD_raise_27 fu v (f : Int) (q : Int) K104 K138 N s (((20 * q + 4 * k : Nat) : Int) + 4) = _
      rw [e4]
    rw [lp_MD_raise_27, xw_grd_t (by omega), Int.toNat_natCast q, hn, xw_grd_t ⟨⟨by omega, by omega⟩, ⟨by omega, by omega⟩⟩, xw_if_f (by omega), xw_grd_t (by omega), xw_grd_t (by omega), xw_jn_e, Int.toNat_natCast (20 * q + 4 * k), Int.toNat_natCast f, v0, h23, xw_grd_t ⟨⟨by omega, by omega⟩, ⟨by omega, by omega⟩⟩]
    by_cases c0 : (p : Int) < Mh M (4 * k)
    · rw [xw_if_t c0, if_neg (fun z => by have := z.1.1; omega)]
      exact no
    · rw [xw_if_f c0, xw_grd_t (by omega), e1, v1, xw_grd_t ⟨by omega, by omega⟩]
      by_cases c1 : Mh M (4 * k + 1) ≤ (p : Int)
      · rw [xw_if_t c1, if_neg (fun z => by have := z.1.2; omega)]
        exact no
      · rw [xw_if_f c1, xw_grd_t (by omega), e3, v3, xw_grd_t ⟨by omega, by omega⟩]
        by_cases h0 : Mh M (4 * k + 3) = 0
        · rw [xw_if_t h0, if_pos ⟨⟨by omega, by omega⟩, Or.inl h0⟩]
        · rw [xw_if_f h0, xw_grd_t hv]
          by_cases h1 : Mh M (4 * k + 3) = v
          · rw [xw_if_t h1, if_pos ⟨⟨by omega, by omega⟩, Or.inr h1⟩]
          · rw [xw_if_f h1, if_neg (fun z => z.2.elim h0 h1)]
            exact no
  have lp : ∀ (dd k N : Nat), k + dd = MN M → dd < N → ((∀ i, k ≤ i → i < MN M → ¬ m_cat M p v i) → lp_MD_raise_27 fu v (f : Int) (q : Int) K104 K138 N s ((20 * q + 4 * k : Nat) : Int) = K138 s) ∧ ∀ i, k ≤ i → i < MN M → m_cat M p v i → (∀ i', k ≤ i' → i' < i → ¬ m_cat M p v i') → lp_MD_raise_27 fu v (f : Int) (q : Int) K104 K138 N s ((20 * q + 4 * k : Nat) : Int) = K104 s (f : Int) ((20 * q + 4 * i : Nat) : Int) := by
    intro dd
    induction dd with
    | zero =>
      intro k N hk hN
      obtain ⟨N, rfl⟩ : ∃ n', N = n' + 1 := ⟨N - 1, by omega⟩
      refine ⟨fun _ => ?_, fun i i1 i2 => by omega⟩
      rw [lp_MD_raise_27, xw_grd_t (by omega), Int.toNat_natCast q, hn, xw_grd_t ⟨⟨by omega, by omega⟩, ⟨by omega, by omega⟩⟩, xw_if_t (by omega)]
    | succ dd ih =>
      intro k N hk hN
      obtain ⟨N, rfl⟩ : ∃ n', N = n' + 1 := ⟨N - 1, by omega⟩
      obtain ⟨i1, i2⟩ := ih (k + 1) N (by omega) (by omega)
      rw [st k N (by omega)]
      refine ⟨fun h => ?_, fun i h1 h2 h3 h4 => ?_⟩
      · exact (if_neg (fun z => h k (Nat.le_refl _) (by omega) z)).trans (i1 (fun i j1 j2 => h i (by omega) j2))
      · by_cases hik : i = k
        · subst hik; exact if_pos h3
        · exact (if_neg (fun z => h4 k (Nat.le_refl _) (by omega) z)).trans (i2 i (by omega) h2 h3 (fun i' j1 j2 => h4 i' (by omega) j2))
  have L := lp (MN M) 0 fu (by omega) (by omega)
  rw [show ((20 * q + 4 * 0 : Nat) : Int) = 20 * (q : Int) by omega] at L
  exact ⟨fun h => L.1 (fun i _ hi => h i hi), fun i h1 h2 h3 => L.2 i (Nat.zero_le _) h1 h2 (fun i' _ hi => h3 i' hi)⟩
theorem m_cat_dec (M : m_M) (p : Nat) (v : Int) : (∀ i, i < MN M → ¬ m_cat M p v i) ∨ ∃ i, i < MN M ∧ m_cat M p v i ∧ ∀ i', i' < i → ¬ m_cat M p v i' := by
  have : ∀ n, (∀ i, i < n → ¬ m_cat M p v i) ∨ ∃ i, i < n ∧ m_cat M p v i ∧ ∀ i', i' < i → ¬ m_cat M p v i' := by
    intro n
    induction n with
    | zero => exact Or.inl (fun i hi => by omega)
    | succ n ih =>
      rcases ih with h | ⟨i, h1, h2, h3⟩
      · by_cases hn : m_cat M p v n
        · exact Or.inr ⟨n, by omega, hn, h⟩
        · refine Or.inl (fun i hi => ?_)
          by_cases hin : i = n
          · subst hin; exact hn
          · exact h i (by omega)
      · exact Or.inr ⟨i, by omega, h2, h3⟩
  exact this (MN M)
/-- what raising may change -/
def Y_c : Nat → Nat → Prop := fun i k => (24 ≤ i ∧ i < 48) ∨ (i = 17 ∧ (k = 3 ∨ k = 5 ∨ k = 6))
def Y_r : Nat → Nat → Prop := fun i k => (22 ≤ i ∧ i ≤ 26) ∨ (i = 0 ∧ (k = 31 ∨ k = 37 ∨ k = 38))
/-- raising: either nobody takes it, or frame g does, at i's place -/
theorem x_raise (fu : Nat) (hfu : 1000 ≤ fu) {a qb n : Nat} {Ps : Nat → m_M} {A : Nat → Int} {D : Nat → Nat → Int} {v : Int} (hv : xw_r v) {fm fp fh : Nat → Nat} : ∀ (u N1 N2 : Nat) (σ ρ : xw_S), u ≤ 8 → u < N1 → u < N2 → x_S a qb n Ps A D σ ρ → σ.1 17 3 = (u : Int) → ρ.1 0 31 = (u : Int) → (∀ f, f < u → x_F qb σ ρ f (fm f) (fp f) (fh f) ∧ fh f ≤ 8 ∧ fm f < n ∧ fp f < 1000) →
    (∃ σ' ρ', (∀ K41 K62, lp_MC_raise_0 fu a v K41 K62 N1 σ = K62 σ') ∧ (∀ K104 K151, lp_MD_raise_0 fu v K104 K151 N2 ρ = K151 ρ') ∧ frm (fun i k => i = 17 ∧ k = 3) σ σ' ∧ frm (fun i k => i = 0 ∧ k = 31) ρ ρ') ∨
    (∃ σ' ρ' g i, g < u ∧ i < MN (Ps (fm g)) ∧ m_cat (Ps (fm g)) (fp g) v i ∧ (∀ K41 K62, lp_MC_raise_0 fu a v K41 K62 N1 σ = K41 σ' g (Mh (Ps (fm g)) (4 * i + 2))) ∧ (∀ K104 K151, lp_MD_raise_0 fu v K104 K151 N2 ρ = K104 ρ' (g : Int) ((20 * (qb + fm g) + 4 * i : Nat) : Int)) ∧ frm (fun i k => i = 17 ∧ k = 3) σ σ' ∧ frm (fun i k => i = 0 ∧ k = 31) ρ ρ' ∧ σ'.1 17 3 = ((g + 1 : Nat) : Int) ∧ ρ'.1 0 31 = ((g + 1 : Nat) : Int)) := by
  intro u
  induction u with
  | zero =>
    intro N1 N2 σ ρ hu8 h1 h2 hS h3 h31 hF
    obtain ⟨N1, rfl⟩ : ∃ n', N1 = n' + 1 := ⟨N1 - 1, by omega⟩
    obtain ⟨N2, rfl⟩ : ∃ n', N2 = n' + 1 := ⟨N2 - 1, by omega⟩
    left
    refine ⟨σ, ρ, fun K41 K62 => ?_, fun K104 K151 => ?_, frm_rf _ _, frm_rf _ _⟩
    · rw [lp_MC_raise_0, h3, xw_grd_t (by decide), xw_if_t (by decide)]
    · rw [lp_MD_raise_0, h31, xw_grd_t (by decide), xw_if_t (by decide)]
  | succ u ih =>
    intro N1 N2 σ ρ hu8 h1 h2 hS h3 h31 hF
    obtain ⟨N1, rfl⟩ : ∃ n', N1 = n' + 1 := ⟨N1 - 1, by omega⟩
    obtain ⟨N2, rfl⟩ : ∃ n', N2 = n' + 1 := ⟨N2 - 1, by omega⟩
    obtain ⟨⟨⟨c1, c2, c3⟩, ⟨d1, d2, d3⟩, _, _⟩, g1, g2, g3⟩ := hF u (by omega)
    obtain ⟨y1, y2, y3, _⟩ := hS.2.2 (fm u) g2
    have hn4 := hS.2.1
    have hab := hS.1
    have hN5 := y3.1.2.2
    have xc := x_cat fu hfu y1 hN5 (p := fp u) g3 hv
    have xr := fun K104 K138 => x_r27 fu hfu (f := u) y2 (p := fp u) g3 (by omega) d2 hv K104 K138
    have preC : ∀ (K41 : xw_S → Nat → Int → Option xw_S) (K62 : xw_S → Option xw_S) (r : Int), f_B_catcherOf fu σ (4 * a + fm u) (fp u : Int) v = some (σ, r) → lp_MC_raise_0 fu a v K41 K62 (N1 + 1) σ = xw_grd (xw_r r) (xw_if (r = -1) (lp_MC_raise_0 fu a v K41 K62 N1 (xw_st σ 17 3 (u : Int))) (K41 σ u r)) := by
      intro K41 K62 r hr
      rw [lp_MC_raise_0, h3, xw_grd_t ⟨by omega, by omega⟩, xw_if_f (by omega), show ((u + 1 : Nat) : Int) - 1 = (u : Int) by omega, xw_grd_t (by omega), Int.toNat_natCast u, c1, xw_grd_t (by omega), Int.toNat_natCast (fm u), c2, xw_bn2_e hr, h3, show ((u + 1 : Nat) : Int) - 1 = (u : Int) by omega]
      rfl
    have preR : ∀ (K104 : xw_S → Int → Int → Option xw_S) (K151 : xw_S → Option xw_S), lp_MD_raise_0 fu v K104 K151 (N2 + 1) ρ = lp_MD_raise_27 fu v (u : Int) ((qb + fm u : Nat) : Int) K104 (fun (s30 : xw_S) => xw_let (xw_st s30 0 31 ((s30.1 0 31) - 1)) (fun s31 => lp_MD_raise_0 fu v K104 K151 N2 s31)) fu ρ (20 * ((qb + fm u : Nat) : Int)) := by
      intro K104 K151
      rw [lp_MD_raise_0, h31, xw_grd_t ⟨by omega, by omega⟩, xw_if_f (by omega), xw_let_e, show ((u + 1 : Nat) : Int) - 1 = (u : Int) by omega, xw_grd_t (by omega), xw_let_e, Int.toNat_natCast u, d1, xw_let_e, xw_jn_e]
    rcases m_cat_dec (Ps (fm u)) (fp u) v with hno | ⟨i, i1, i2, i3⟩
    · have f1 : frm (fun i k => i = 17 ∧ k = 3) σ (xw_st σ 17 3 (u : Int)) := frm_st ⟨rfl, rfl⟩
      have g1' : frm (fun i k => i = 0 ∧ k = 31) ρ (xw_st ρ 0 31 (u : Int)) := frm_st ⟨rfl, rfl⟩
      have eR : ∀ K104 K151, lp_MD_raise_0 fu v K104 K151 (N2 + 1) ρ = lp_MD_raise_0 fu v K104 K151 N2 (xw_st ρ 0 31 (u : Int)) := fun K104 K151 => by
        rw [preR, (xr K104 _).1 hno, xw_let_e, h31, show ((u + 1 : Nat) : Int) - 1 = (u : Int) by omega]
      have eC : ∀ K41 K62, lp_MC_raise_0 fu a v K41 K62 (N1 + 1) σ = lp_MC_raise_0 fu a v K41 K62 N1 (xw_st σ 17 3 (u : Int)) := fun K41 K62 => by
        rw [preC K41 K62 (-1) (xc.1 hno), xw_grd_t (by decide), xw_if_t rfl]
      rcases ih N1 N2 (xw_st σ 17 3 (u : Int)) (xw_st ρ 0 31 (u : Int)) (by omega) (by omega) (by omega) (x_S_f hS f1 g1' (fun i k z => by omega) (fun i k z => by omega)) (st_s _ _ _ _) (st_s _ _ _ _) (fun f hf => by
        obtain ⟨k1, k2, k3, k4⟩ := hF f (by omega)
        exact ⟨x_F_f k1 (by omega) f1 g1' (fun i k z => by omega) (fun i k z => by omega), k2, k3, k4⟩) with ⟨σ', ρ', p1, p2, p3, p4⟩ | ⟨σ', ρ', g, i, p0, p0', p0'', p1, p2, p3, p4, p5, p6⟩
      · exact Or.inl ⟨σ', ρ', fun K41 K62 => by rw [eC]; exact p1 K41 K62, fun K104 K151 => by rw [eR]; exact p2 K104 K151, frm_tr f1 p3, frm_tr g1' p4⟩
      · exact Or.inr ⟨σ', ρ', g, i, by omega, p0', p0'', fun K41 K62 => by rw [eC]; exact p1 K41 K62, fun K104 K151 => by rw [eR]; exact p2 K104 K151, frm_tr f1 p3, frm_tr g1' p4, p5, p6⟩
    · right
      have r2 := y1.2.1.2.2.2.2 (4 * i + 2) (by omega)
      refine ⟨σ, ρ, u, i, by omega, i1, i2, fun K41 K62 => ?_, fun K104 K151 => ?_, frm_rf _ _, frm_rf _ _, h3, h31⟩
      · rw [preC K41 K62 _ (xc.2 i i1 i2 i3), xw_grd_t ⟨by omega, by omega⟩, xw_if_f (by omega)]
      · rw [preR, (xr K104 _).2 i i1 i2 i3]
