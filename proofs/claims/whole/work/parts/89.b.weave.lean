/-! 89.b: weave -/
def k_w164 (fu : Nat) (c2 : Int) (K : xw_S → Int → Int → Option (xw_S × Int)) (n : Nat) (s52 : xw_S) (i3 t0 : Int) : Option (xw_S × Int) := xw_let (i3 + 1) (fun v53 => lp_MD_weave_36 fu c2 K n s52 t0 v53)
def k_w151 (fu : Nat) (c2 : Int) (K : xw_S → Int → Int → Option (xw_S × Int)) (n : Nat) (s46 : xw_S) (i1 i3 i5 t0 t1 : Int) : Option (xw_S × Int) := xw_grd ((0 ≤ t1 ∧ t1 < ((12 : Nat) : Int)) ∧ (t0 = 0 ∨ t0 = 1)) (xw_let (xw_st s46 13 (t1).toNat t0) (fun s48 => xw_jn (fun (s52 : xw_S) (i3_164 : Int) (t0_164 : Int) => k_w164 fu c2 K n s52 i3_164 t0_164)
     (fun (j164 : xw_S → Int → Int → Option (xw_S × Int)) => xw_grd (xw_r i5) (xw_if (i5 = 0) (j164 s48 i3 i1)
     (j164 s48 i3 (i1 + 1))))))
def k_w125 (fu : Nat) (c2 : Int) (K : xw_S → Int → Int → Option (xw_S × Int)) (n : Nat) (s40 : xw_S) (i1 i3 i4 t0 : Int) : Option (xw_S × Int) := xw_jn (fun (s46 : xw_S) (i1_151 : Int) (i3_151 : Int) (i5_151 : Int) (t0_151 : Int) (t1_151 : Int) => k_w151 fu c2 K n s46 i1_151 i3_151 i5_151 t0_151 t1_151)
     (fun (j151 : xw_S → Int → Int → Int → Int → Int → Option (xw_S × Int)) => xw_jn (fun (s45 : xw_S) (i1_150 : Int) (i3_150 : Int) (i5_150 : Int) (t0_150 : Int) => j151 s45 i1_150 i3_150 i5_150 0 t0_150)
     (fun (j150 : xw_S → Int → Int → Int → Int → Option (xw_S × Int)) => xw_grd (xw_r i4) (xw_if (i4 = 0) (j150 s40 i1 i3 t0 ((3 * c2) + i3))
     (xw_grd (xw_r t0) (xw_if (t0 = 0) (j151 s40 i1 i3 t0 1 ((3 * c2) + i3))
     (j150 s40 i1 i3 t0 ((3 * c2) + i3)))))))
def k_w102 (fu : Nat) (c2 : Int) (K : xw_S → Int → Int → Option (xw_S × Int)) (n : Nat) (s31 : xw_S) (i1 i3 t0 : Int) : Option (xw_S × Int) := xw_jn (fun (s40 : xw_S) (i1_125 : Int) (i3_125 : Int) (i4_125 : Int) (t0_125 : Int) => k_w125 fu c2 K n s40 i1_125 i3_125 i4_125 t0_125)
     (fun (j125 : xw_S → Int → Int → Int → Int → Option (xw_S × Int)) => xw_jn (fun (s39 : xw_S) (i1_124 : Int) (i3_124 : Int) (i4_124 : Int) => j125 s39 i1_124 i3_124 i4_124 0)
     (fun (j124 : xw_S → Int → Int → Int → Option (xw_S × Int)) => xw_grd (xw_r t0) (xw_if (t0 = 0) (j124 s31 i1 i3 t0)
     (xw_bn2 (f_MD_transform fu s31 (4 + c2) i3) (fun s34 r36 => xw_grd (xw_r r36) (xw_if (r36 = 0) (j124 s34 i1 i3 t0)
     (j125 s34 i1 i3 t0 1)))))))
theorem k_weave36 (fu : Nat) (c2 : Int) (K : xw_S → Int → Int → Option (xw_S × Int)) (n : Nat) (s11 : xw_S) (i1 i3 : Int) : lp_MD_weave_36 fu c2 K (n + 1) s11 i1 i3 = xw_grd (xw_r i3) (xw_if (3 ≤ i3) (K s11 i1 c2)
     (xw_jn (fun (s31 : xw_S) (i1_102 : Int) (i3_102 : Int) (t0_102 : Int) => k_w102 fu c2 K n s31 i1_102 i3_102 t0_102)
     (fun (j102 : xw_S → Int → Int → Int → Option (xw_S × Int)) => xw_jn (fun (s30 : xw_S) (i1_101 : Int) (i3_101 : Int) => j102 s30 i1_101 i3_101 0)
     (fun (j101 : xw_S → Int → Int → Option (xw_S × Int)) => xw_grd (xw_r (s11.1 0 15)) (xw_if (s11.1 0 15 ≤ i3) (j101 s11 i1 i3)
     (xw_grd ((0 ≤ i3 ∧ i3 < ((3 : Nat) : Int))) (xw_jn (fun (s22 : xw_S) (i1_73 : Int) (i3_73 : Int) => xw_grd ((0 ≤ i3_73 ∧ i3_73 < ((3 : Nat) : Int))) (xw_jn (fun (s29 : xw_S) (i1_97 : Int) (i3_97 : Int) => j102 s29 i1_97 i3_97 1)
     (fun (j97 : xw_S → Int → Int → Option (xw_S × Int)) => xw_grd (xw_r (s22.1 12 (i3_73).toNat)) (xw_if (s22.1 12 (i3_73).toNat < 0) (j97 s22 i1_73 i3_73)
     (xw_grd ((0 ≤ c2 ∧ c2 < ((12 : Nat) : Int))) (xw_grd (xw_r (s22.1 3 (c2).toNat)) (xw_if (s22.1 12 (i3_73).toNat = s22.1 3 (c2).toNat) (j97 s22 i1_73 i3_73)
     (j101 s22 i1_73 i3_73))))))))
     (fun (j73 : xw_S → Int → Int → Option (xw_S × Int)) => xw_grd (xw_r (s11.1 11 (i3).toNat)) (xw_if (s11.1 11 (i3).toNat = 0) (j73 s11 i1 i3)
     (xw_grd ((0 ≤ c2 ∧ c2 < ((12 : Nat) : Int))) (xw_grd (xw_r (s11.1 2 (c2).toNat)) (xw_if (s11.1 11 (i3).toNat = s11.1 2 (c2).toNat) (j73 s11 i1 i3)
     (j101 s11 i1 i3))))))))))))) := rfl
/-- the transformer t fits -/
def w_fit (M : m_M) (l w : Int) : Prop := (l = 0 ∨ l = Mm M) ∧ (w = -1 ∨ w = Ma M)
theorem r_w102 (fu : Nat) {m : Nat} (hm : m < 4) (K : xw_S → Int → Int → Option (xw_S × Int)) (n : Nat) (s : xw_S) (i1 : Int) {t : Nat} (ht : t < 3) : (k_w102 fu (m : Int) K n s i1 (t : Int) 0 = lp_MD_weave_36 fu (m : Int) K n (xw_st s 13 (3 * m + t) 0) i1 ((t + 1 : Nat) : Int)) ∧ ∀ s' r, f_MD_transform fu s ((4 + m : Nat) : Int) (t : Int) = some (s', r) → (r = 0 ∨ r = 1) → k_w102 fu (m : Int) K n s i1 (t : Int) 1 = lp_MD_weave_36 fu (m : Int) K n (xw_st s' 13 (3 * m + t) (1 - r)) (i1 + r) ((t + 1 : Nat) : Int) := by
  have ei : ((3 * (m : Int)) + (t : Int)).toNat = 3 * m + t := by omega
  have e151 : ∀ (z : xw_S) (i5 v : Int), (i5 = 0 ∨ i5 = 1) → (v = 0 ∨ v = 1) → k_w151 fu (m : Int) K n z i1 (t : Int) i5 v ((3 * (m : Int)) + (t : Int)) = lp_MD_weave_36 fu (m : Int) K n (xw_st z 13 (3 * m + t) v) (i1 + i5) ((t + 1 : Nat) : Int) := by
    intro z i5 v h5 hv
    unfold k_w151
    rw [xw_grd_t ⟨by omega, hv⟩, xw_let_e, ei, xw_jn_e, xw_grd_t ⟨by omega, by omega⟩]
    rcases h5 with e | e
    · rw [xw_if_t e, e, show i1 + 0 = i1 by omega]
      rfl
    · rw [xw_if_f (by omega), e]
      rfl
  constructor
  · unfold k_w102
    rw [xw_jn_e, xw_jn_e, xw_grd_t (by decide), xw_if_t rfl]
    dsimp only
    unfold k_w125
    rw [xw_jn_e, xw_jn_e, xw_grd_t (by decide), xw_if_t rfl]
    have := e151 s 0 0 (Or.inl rfl) (Or.inl rfl)
    rw [show i1 + 0 = i1 by omega] at this
    exact this
  · intro s' r hs hr
    unfold k_w102
    rw [xw_jn_e, xw_jn_e, xw_grd_t (by decide), xw_if_f (by decide), show (4 : Int) + (m : Int) = ((4 + m : Nat) : Int) by omega, xw_bn2_e hs, xw_grd_t ⟨by omega, by omega⟩]
    rcases hr with e | e
    · rw [xw_if_t e]
      dsimp only
      unfold k_w125
      rw [xw_jn_e, xw_jn_e, xw_grd_t (by decide), xw_if_f (by decide), xw_grd_t (by decide), xw_if_t rfl]
      have := e151 s' 0 1 (Or.inl rfl) (Or.inr rfl)
      rw [e]
      exact this
    · rw [xw_if_f (by omega)]
      dsimp only
      unfold k_w125
      rw [xw_jn_e, xw_jn_e, xw_grd_t (by decide), xw_if_f (by decide), xw_grd_t (by decide), xw_if_f (by decide)]
      have := e151 s' 1 0 (Or.inr rfl) (Or.inl rfl)
      rw [e]
      exact this
theorem r_w36 (fu : Nat) {M0 : m_M} {m : Nat} (hm : m < 4) (K : xw_S → Int → Int → Option (xw_S × Int)) (n : Nat) (s : xw_S) (i1 : Int) {t : Nat} (ht : t < 3) {ch : Int} (hch : s.1 0 15 = ch) (hchr : 0 ≤ ch ∧ ch ≤ 3) (h2 : s.1 2 m = Mm M0) (h3 : s.1 3 m = Ma M0) (hr2 : xw_r (Mm M0)) (hr3 : 0 ≤ Ma M0 ∧ Ma M0 ≤ 2) (hlr : (t : Int) < ch → xw_r (s.1 11 t) ∧ -1 ≤ s.1 12 t ∧ s.1 12 t ≤ 2) : (((t : Int) < ch ∧ w_fit M0 (s.1 11 t) (s.1 12 t)) → lp_MD_weave_36 fu (m : Int) K (n + 1) s i1 (t : Int) = k_w102 fu (m : Int) K n s i1 (t : Int) 1) ∧ (¬ ((t : Int) < ch ∧ w_fit M0 (s.1 11 t) (s.1 12 t)) → lp_MD_weave_36 fu (m : Int) K (n + 1) s i1 (t : Int) = k_w102 fu (m : Int) K n s i1 (t : Int) 0) := by
  rw [k_weave36, xw_grd_t ⟨by omega, by omega⟩, xw_if_f (by omega), xw_jn_e, xw_jn_e, hch, xw_grd_t ⟨by omega, by omega⟩]
  by_cases c0 : ch ≤ (t : Int)
  · rw [xw_if_t c0]
    exact ⟨fun z => by omega, fun _ => rfl⟩
  · obtain ⟨l1, l2, l3⟩ := hlr (by omega)
    rw [xw_if_f c0, xw_grd_t (by omega), xw_jn_e, Int.toNat_natCast t, xw_grd_t l1]
    have half : (xw_grd ((0 ≤ (t : Int) ∧ (t : Int) < ((3 : Nat) : Int))) (xw_jn (fun (s29 : xw_S) (i1_97 : Int) (i3_97 : Int) => k_w102 fu (m : Int) K n s29 i1_97 i3_97 1)
     (fun (j97 : xw_S → Int → Int → Option (xw_S × Int)) => xw_grd (xw_r (s.1 12 ((t : Int)).toNat)) (xw_if (s.1 12 ((t : Int)).toNat < 0) (j97 s i1 (t : Int))
     (xw_grd ((0 ≤ (m : Int) ∧ (m : Int) < ((12 : Nat) : Int))) (xw_grd (xw_r (s.1 3 ((m : Int)).toNat)) (xw_if (s.1 12 ((t : Int)).toNat = s.1 3 ((m : Int)).toNat) (j97 s i1 (t : Int))
     (k_w102 fu (m : Int) K n s i1 (t : Int) 0)))))))) = if s.1 12 t = -1 ∨ s.1 12 t = Ma M0 then k_w102 fu (m : Int) K n s i1 (t : Int) 1 else k_w102 fu (m : Int) K n s i1 (t : Int) 0 := by
      rw [xw_grd_t (by omega), xw_jn_e, Int.toNat_natCast t, xw_grd_t ⟨by omega, by omega⟩]
      by_cases d0 : s.1 12 t < 0
      · rw [xw_if_t d0, if_pos (Or.inl (by omega))]
      · rw [xw_if_f d0, xw_grd_t (by omega), Int.toNat_natCast m, h3, xw_grd_t ⟨by omega, by omega⟩]
        by_cases d1 : s.1 12 t = Ma M0
        · rw [xw_if_t d1, if_pos (Or.inr d1)]
        · rw [xw_if_f d1, if_neg (fun z => z.elim (fun y => by omega) d1)]
    by_cases e0 : s.1 11 t = 0
    · rw [xw_if_t e0]
      refine ⟨fun z => half.trans (if_pos z.2.2), fun z => half.trans (if_neg (fun y => z ⟨by omega, Or.inl e0, y⟩))⟩
    · rw [xw_if_f e0, xw_grd_t (by omega), Int.toNat_natCast m, h2, xw_grd_t hr2]
      by_cases e1 : s.1 11 t = Mm M0
      · rw [xw_if_t e1]
        rw [← Int.toNat_natCast m] at h2
        refine ⟨fun z => half.trans (if_pos z.2.2), fun z => half.trans (if_neg (fun y => z ⟨by omega, Or.inr e1, y⟩))⟩
      · rw [xw_if_f e1]
        exact ⟨fun z => absurd z.2.1 (fun y => y.elim e0 e1), fun _ => rfl⟩
theorem c_fits (fu : Nat) {M : m_M} {b t : Nat} {s : xw_S} (h4 : s.1 (48 + 4 * b) 4 = Mm M) (h5 : s.1 (48 + 4 * b) 5 = Ma M) (hr2 : xw_r (Mm M)) (hr3 : 0 ≤ Ma M ∧ Ma M ≤ 2) (l1 : xw_r (s.1 (21 + t) 1)) (l2 : -1 ≤ s.1 (21 + t) 2 ∧ s.1 (21 + t) 2 ≤ 2) : (w_fit M (s.1 (21 + t) 1) (s.1 (21 + t) 2) → f_TR_fits fu s t b = some (s, 1)) ∧ (¬ w_fit M (s.1 (21 + t) 1) (s.1 (21 + t) 2) → f_TR_fits fu s t b = some (s, 0)) := by
  unfold f_TR_fits
  rw [xw_jn_e, xw_grd_t l1]
  have half : (xw_jn (fun (s10 : xw_S) => some (s10, (1 : Int)))
 (fun (j37 : xw_S → Option (xw_S × Int)) => xw_grd (xw_r (s.1 (21 + t) 2)) (xw_if (s.1 (21 + t) 2 = -1) (j37 s)
 (xw_grd (xw_r (s.1 (48 + 4 * b) 5)) (xw_if (s.1 (21 + t) 2 = s.1 (48 + 4 * b) 5) (j37 s)
 (some (s, 0))))))) = if s.1 (21 + t) 2 = -1 ∨ s.1 (21 + t) 2 = Ma M then some (s, 1) else some (s, 0) := by
    rw [xw_jn_e, xw_grd_t ⟨by omega, by omega⟩]
    by_cases d0 : s.1 (21 + t) 2 = -1
    · rw [xw_if_t d0, if_pos (Or.inl d0)]
    · rw [xw_if_f d0, h5, xw_grd_t ⟨by omega, by omega⟩]
      by_cases d1 : s.1 (21 + t) 2 = Ma M
      · rw [xw_if_t d1, if_pos (Or.inr d1)]
      · rw [xw_if_f d1, if_neg (fun z => z.elim d0 d1)]
  by_cases e0 : s.1 (21 + t) 1 = 0
  · rw [xw_if_t e0]
    exact ⟨fun z => half.trans (if_pos z.2), fun z => half.trans (if_neg (fun y => z ⟨Or.inl e0, y⟩))⟩
  · rw [xw_if_f e0, h4, xw_grd_t hr2]
    by_cases e1 : s.1 (21 + t) 1 = Mm M
    · rw [xw_if_t e1]
      exact ⟨fun z => half.trans (if_pos z.2), fun z => half.trans (if_neg (fun y => z ⟨Or.inr e1, y⟩))⟩
    · rw [xw_if_f e1]
      exact ⟨fun z => absurd z.1 (fun y => y.elim e0 e1), fun _ => rfl⟩
def S_wc (b m : Nat) : Nat → Nat → Prop := fun i k => S_ct1 b i k ∨ (i = 7 ∧ 3 * m ≤ k ∧ k < 3 * m + 3)
def S_wr (q m : Nat) : Nat → Nat → Prop := fun i k => S_t1 q i k ∨ (i = 13 ∧ 3 * m ≤ k ∧ k < 3 * m + 3)
theorem iv_c_f {σ ρ σ' ρ' : xw_S} (h : iv_c σ ρ) (h1 : ∀ k, σ'.1 0 k = σ.1 0 k) (h2 : ∀ t k, t < 3 → σ'.1 (21 + t) k = σ.1 (21 + t) k) (h3 : ρ'.1 0 15 = ρ.1 0 15) (h4 : ∀ t, ρ'.1 10 t = ρ.1 10 t ∧ ρ'.1 11 t = ρ.1 11 t ∧ ρ'.1 12 t = ρ.1 12 t) : iv_c σ' ρ' := by
  obtain ⟨a1, a2, a3, a4⟩ := h
  refine ⟨by rw [h1, h3]; exact a1, by rw [h1]; exact a2, by rw [h1]; exact a3, fun t ht => ?_⟩
  rw [h1] at ht
  have ht3 : t < 3 := by omega
  rw [h2 t _ ht3, h2 t _ ht3, h2 t _ ht3, (h4 t).1, (h4 t).2.1, (h4 t).2.2]
  exact a4 t ht
theorem w_chain (fu : Nat) (hfu : 2000 ≤ fu) {M0 : m_M} {A : Nat → Int} {me : Int} {m : Nat} (hm : m < 4) (hr2 : xw_r (Mm M0)) (hr3 : 0 ≤ Ma M0 ∧ Ma M0 ≤ 2) : ∀ (dd t N1 N2 : Nat) (σ ρ : xw_S) (M : m_M) (cc rc : Int), t + dd = 3 → dd < N1 → dd < N2 → iv_c σ ρ → w_M M0 A me (8 + m) (4 + m) σ ρ M → σ.1 (48 + 4 * (8 + m)) 3 = ((5 : Nat) : Int) → ρ.1 2 m = Mm M0 → ρ.1 3 m = Ma M0 → (∀ j, t ≤ j → j < 3 → σ.1 7 (3 * m + j) = 0) → ∃ (σ' ρ' : xw_S) (M' : m_M) (c : Nat), c ≤ dd ∧ (∀ K : xw_S → Int → Option (xw_S × Int), lp_AW_sendAlongChain_4 fu (m : Int) K N1 σ cc (t : Int) = K σ' (cc + c)) ∧ (∀ K : xw_S → Int → Int → Option (xw_S × Int), lp_MD_weave_36 fu (m : Int) K N2 ρ rc (t : Int) = K ρ' (rc + c) (m : Int)) ∧ frm (S_wc (8 + m) m) σ σ' ∧ frm (S_wr (4 + m) m) ρ ρ' ∧ w_M M0 A me (8 + m) (4 + m) σ' ρ' M' ∧ (∀ j, j < t → σ'.1 7 (3 * m + j) = σ.1 7 (3 * m + j) ∧ ρ'.1 13 (3 * m + j) = ρ.1 13 (3 * m + j)) ∧ ∀ j, t ≤ j → j < 3 → σ'.1 7 (3 * m + j) = ρ'.1 13 (3 * m + j) ∧ (σ'.1 7 (3 * m + j) = 0 ∨ σ'.1 7 (3 * m + j) = 1) := by
  intro dd
  induction dd with
  | zero =>
    intro t N1 N2 σ ρ M cc rc ht h1 h2 hc hw h3 hn2 hn3 h7
    obtain ⟨N1, rfl⟩ : ∃ n', N1 = n' + 1 := ⟨N1 - 1, by omega⟩
    obtain ⟨N2, rfl⟩ : ∃ n', N2 = n' + 1 := ⟨N2 - 1, by omega⟩
    have hch := hc.2.2.1
    have hch0 := hc.2.1
    refine ⟨σ, ρ, M, 0, Nat.le_refl _, fun K => ?_, fun K => ?_, frm_rf _ _, frm_rf _ _, hw, fun j _ => ⟨rfl, rfl⟩, fun j j1 j2 => by omega⟩
    · rw [lp_AW_sendAlongChain_4, xw_grd_t ⟨⟨by omega, by omega⟩, ⟨by omega, by omega⟩⟩, xw_if_t (by omega)]
      simp
    · rw [k_weave36, xw_grd_t ⟨by omega, by omega⟩, xw_if_t (by omega)]
      simp
  | succ dd ih =>
    intro t N1 N2 σ ρ M cc rc ht h1 h2 hc hw h3 hn2 hn3 h7
    obtain ⟨N1, rfl⟩ : ∃ n', N1 = n' + 1 := ⟨N1 - 1, by omega⟩
    obtain ⟨N2, rfl⟩ : ∃ n', N2 = n' + 1 := ⟨N2 - 1, by omega⟩
    have hch := hc.2.2.1
    have hch0 := hc.2.1
    have heq := hc.1
    have hE := hw.1
    have hMm : Mm M = Mm M0 := hw.2.2.2.2.2.1
    have hMa : Ma M = Ma M0 := hw.2.2.2.2.2.2
    have rs := fun K => r_w36 fu (M0 := M0) hm K N2 ρ rc (t := t) (by omega) heq.symm (by omega) hn2 hn3 hr2 hr3 (fun z => by
      have := hc.2.2.2 t (by omega)
      rw [← this.1.2.1, ← this.1.2.2]
      exact ⟨this.2.2.1, this.2.2.2.1, this.2.2.2.2⟩)
    by_cases hlt : (t : Int) < σ.1 0 10
    · obtain ⟨⟨e1, e2, e3⟩, e4, e5, e6, e7⟩ := hc.2.2.2 t hlt
      have cf := c_fits fu (M := M0) (b := 8 + m) (t := t) (s := σ) (by rw [← hMm]; exact hE.1.2.2.1) (by rw [← hMa]; exact hE.1.2.2.2.1) hr2 hr3 e5 ⟨e6, e7⟩
      have pre : ∀ (K : xw_S → Int → Option (xw_S × Int)) (v : Int), f_TR_fits fu σ t (8 + m) = some (σ, v) → lp_AW_sendAlongChain_4 fu (m : Int) K (N1 + 1) σ cc (t : Int) = xw_grd (xw_r v) (xw_if (v = 0) (lp_AW_sendAlongChain_4 fu (m : Int) K N1 σ cc ((t + 1 : Nat) : Int)) (xw_bn2 (f_LM_transform fu σ (8 + m) (σ.1 (21 + t) 0) (t : Int)) (fun s11 r13 => xw_grd (xw_r r13) (xw_if (r13 = 0) (xw_grd ((0 ≤ ((m : Int) * 3) + (t : Int) ∧ ((m : Int) * 3) + (t : Int) < ((12 : Nat) : Int))) (xw_let (xw_st s11 7 (((m : Int) * 3) + (t : Int)).toNat 1) (fun s17 => lp_AW_sendAlongChain_4 fu (m : Int) K N1 s17 cc ((t + 1 : Nat) : Int)))) (xw_let (cc + 1) (fun v19 => lp_AW_sendAlongChain_4 fu (m : Int) K N1 s11 v19 ((t + 1 : Nat) : Int))))))) := by
        intro K v hv
        rw [lp_AW_sendAlongChain_4, xw_grd_t ⟨⟨by omega, by omega⟩, ⟨by omega, by omega⟩⟩, xw_if_f (by omega), xw_grd_t (by omega), xw_grd_t (by omega), Int.toNat_natCast t, show 4 * 2 + ((m : Int)).toNat = 8 + m by omega, xw_bn2_e hv]
        rfl
      by_cases hf : w_fit M0 (σ.1 (21 + t) 1) (σ.1 (21 + t) 2)
      · obtain ⟨σ1, ρ1, r, M1, a1, a2, a3, a4, a5, a6⟩ := w_tr fu hfu (b := 8 + m) (q := 4 + m) (t := t) (cv := σ.1 (21 + t) 0) (σ := σ) (ρ := ρ) (by omega) (by omega) (by omega) e4 h3 e1.symm hw
        have rs1 : ∀ K, lp_MD_weave_36 fu (m : Int) K (N2 + 1) ρ rc (t : Int) = lp_MD_weave_36 fu (m : Int) K N2 (xw_st ρ1 13 (3 * m + t) (1 - r)) (rc + r) ((t + 1 : Nat) : Int) := fun K => by
          rw [(rs K).1 ⟨by omega, by rw [← e2, ← e3]; exact hf⟩]
          exact (r_w102 fu hm K N2 ρ rc (by omega)).2 ρ1 r a2 a3
        -- the two states behind
        have key : ∀ σ2 : xw_S, (σ2 = σ1 ∨ σ2 = xw_st σ1 7 (3 * m + t) 1) → σ2.1 7 (3 * m + t) = 1 - r → (∀ K, lp_AW_sendAlongChain_4 fu (m : Int) K (N1 + 1) σ cc (t : Int) = lp_AW_sendAlongChain_4 fu (m : Int) K N1 σ2 (cc + r) ((t + 1 : Nat) : Int)) → ∃ (σ' ρ' : xw_S) (M' : m_M) (c : Nat), c ≤ dd + 1 ∧ (∀ K : xw_S → Int → Option (xw_S × Int), lp_AW_sendAlongChain_4 fu (m : Int) K (N1 + 1) σ cc (t : Int) = K σ' (cc + c)) ∧ (∀ K : xw_S → Int → Int → Option (xw_S × Int), lp_MD_weave_36 fu (m : Int) K (N2 + 1) ρ rc (t : Int) = K ρ' (rc + c) (m : Int)) ∧ frm (S_wc (8 + m) m) σ σ' ∧ frm (S_wr (4 + m) m) ρ ρ' ∧ w_M M0 A me (8 + m) (4 + m) σ' ρ' M' ∧ (∀ j, j < t → σ'.1 7 (3 * m + j) = σ.1 7 (3 * m + j) ∧ ρ'.1 13 (3 * m + j) = ρ.1 13 (3 * m + j)) ∧ ∀ j, t ≤ j → j < 3 → σ'.1 7 (3 * m + j) = ρ'.1 13 (3 * m + j) ∧ (σ'.1 7 (3 * m + j) = 0 ∨ σ'.1 7 (3 * m + j) = 1) := by
          intro σ2 hσ2 h72 hcl
          have f2 : frm (S_wc (8 + m) m) σ σ2 := by
            rcases hσ2 with e | e
            · rw [e]; exact frm_mono a4 (fun _ _ z => Or.inl z)
            · rw [e]; exact frm_tr (frm_mono a4 (fun _ _ z => Or.inl z)) (frm_st (Or.inr ⟨rfl, by omega, by omega⟩))
          have g2 : frm (S_wr (4 + m) m) ρ (xw_st ρ1 13 (3 * m + t) (1 - r)) := frm_tr (frm_mono a5 (fun _ _ z => Or.inl z)) (frm_st (Or.inr ⟨rfl, by omega, by omega⟩))
          have f12 : frm (fun i _ => i = 7) σ1 σ2 := by
            rcases hσ2 with e | e
            · rw [e]; exact frm_rf _ _
            · rw [e]; exact frm_st rfl
          have g12 : frm (fun i _ => i = 13) ρ1 (xw_st ρ1 13 (3 * m + t) (1 - r)) := frm_st rfl
          have hj7 : ∀ j, j ≠ t → σ2.1 7 (3 * m + j) = σ.1 7 (3 * m + j) := fun j hj => by
            have e7 : σ1.1 7 (3 * m + j) = σ.1 7 (3 * m + j) := a4.2 _ _ (by unfold S_ct1 S_ct0; omega)
            rcases hσ2 with e | e
            · rw [e]; exact e7
            · rw [e, st_k (by omega)]; exact e7
          have hw2 : w_M M0 A me (8 + m) (4 + m) σ2 (xw_st ρ1 13 (3 * m + t) (1 - r)) M1 := ⟨c_E_f a6.1 f12 (fun i k z => by omega), r_M_f a6.2.1 (rfm_frm g12) (fun i k z => by omega), a6.2.2⟩
          obtain ⟨σ', ρ', M', c, p0, p1, p2, p3, p4, p5, p6, p7⟩ := ih (t + 1) N1 N2 σ2 (xw_st ρ1 13 (3 * m + t) (1 - r)) M1 (cc + r) (rc + r) (by omega) (by omega) (by omega) (iv_c_f hc (fun k => f2.2 _ _ (by unfold S_wc S_ct1 S_ct0; omega)) (fun t' k ht' => f2.2 _ _ (by unfold S_wc S_ct1 S_ct0; omega)) (g2.2 _ _ (by unfold S_wr S_t1 S_t0 S_em; omega)) (fun t' => ⟨g2.2 _ _ (by unfold S_wr S_t1 S_t0 S_em; omega), g2.2 _ _ (by unfold S_wr S_t1 S_t0 S_em; omega), g2.2 _ _ (by unfold S_wr S_t1 S_t0 S_em; omega)⟩)) hw2 (by rw [f2.2 _ _ (by unfold S_wc S_ct1 S_ct0; omega)]; exact h3) (by rw [g2.2 _ _ (by unfold S_wr S_t1 S_t0 S_em; omega)]; exact hn2) (by rw [g2.2 _ _ (by unfold S_wr S_t1 S_t0 S_em; omega)]; exact hn3) (fun j j1 j2 => by rw [hj7 j (by omega)]; exact h7 j (by omega) j2)
          refine ⟨σ', ρ', M', c + r.toNat, by omega, fun K => ?_, fun K => ?_, frm_tr f2 p3, frm_tr g2 p4, p5, fun j hj => ?_, fun j j1 j2 => ?_⟩
          · rw [hcl K, p1 K]
            congr 1
            omega
          · rw [rs1 K, p2 K]
            congr 1
            omega
          · rw [(p6 j (by omega)).1, (p6 j (by omega)).2, hj7 j (by omega), st_k (by omega), a5.2 _ _ (by unfold S_t1 S_t0 S_em; omega)]
            exact ⟨rfl, rfl⟩
          · by_cases hjt : j = t
            · subst hjt
              rw [(p6 j (by omega)).1, (p6 j (by omega)).2, h72, st_s]
              exact ⟨rfl, by omega⟩
            · exact p7 j (by omega) j2
        rcases a3 with er | er
        · refine key (xw_st σ1 7 (3 * m + t) 1) (Or.inr rfl) (by rw [st_s, er]; rfl) (fun K => ?_)
          rw [pre K 1 (cf.1 hf), xw_grd_t (by decide), xw_if_f (by decide), xw_bn2_e a1, er, xw_grd_t (by decide), xw_if_t rfl, xw_grd_t (by omega), xw_let_e, show ((m : Int) * 3 + (t : Int)).toNat = 3 * m + t by omega, show cc + 0 = cc by omega]
        · refine key σ1 (Or.inl rfl) (by rw [a4.2 _ _ (by unfold S_ct1 S_ct0; omega), h7 t (Nat.le_refl _) (by omega), er]; rfl) (fun K => ?_)
          rw [pre K 1 (cf.1 hf), xw_grd_t (by decide), xw_if_f (by decide), xw_bn2_e a1, er, xw_grd_t (by decide), xw_if_f (by decide), xw_let_e]
      · have rs0 : ∀ K, lp_MD_weave_36 fu (m : Int) K (N2 + 1) ρ rc (t : Int) = lp_MD_weave_36 fu (m : Int) K N2 (xw_st ρ 13 (3 * m + t) 0) rc ((t + 1 : Nat) : Int) := fun K => by
          rw [(rs K).2 (fun z => hf (by rw [e2, e3]; exact z.2))]
          exact (r_w102 fu hm K N2 ρ rc (by omega)).1
        have g2 : frm (S_wr (4 + m) m) ρ (xw_st ρ 13 (3 * m + t) 0) := frm_st (Or.inr ⟨rfl, by omega, by omega⟩)
        have g12 : frm (fun i _ => i = 13) ρ (xw_st ρ 13 (3 * m + t) 0) := frm_st rfl
        obtain ⟨σ', ρ', M', c, p0, p1, p2, p3, p4, p5, p6, p7⟩ := ih (t + 1) N1 N2 σ (xw_st ρ 13 (3 * m + t) 0) M cc rc (by omega) (by omega) (by omega) (iv_c_f hc (fun _ => rfl) (fun _ _ _ => rfl) (st_i (by decide)) (fun t' => ⟨st_i (by decide), st_i (by decide), st_i (by decide)⟩)) ⟨hw.1, r_M_f hw.2.1 (rfm_frm g12) (fun i k z => by omega), hw.2.2⟩ h3 (by rw [st_i (by decide)]; exact hn2) (by rw [st_i (by decide)]; exact hn3) (fun j j1 j2 => h7 j (by omega) j2)
        refine ⟨σ', ρ', M', c, by omega, fun K => ?_, fun K => ?_, p3, frm_tr g2 p4, p5, fun j hj => ?_, fun j j1 j2 => ?_⟩
        · rw [pre K 0 (cf.2 hf), xw_grd_t (by decide), xw_if_t rfl]
          exact p1 K
        · rw [rs0 K]; exact p2 K
        · rw [(p6 j (by omega)).1, (p6 j (by omega)).2, st_k (by omega)]
          exact ⟨rfl, rfl⟩
        · by_cases hjt : j = t
          · subst hjt
            rw [(p6 j (by omega)).1, (p6 j (by omega)).2, st_s, h7 j (Nat.le_refl _) j2]
            exact ⟨rfl, Or.inl rfl⟩
          · exact p7 j (by omega) j2
    · have rs0 : ∀ K, lp_MD_weave_36 fu (m : Int) K (N2 + 1) ρ rc (t : Int) = lp_MD_weave_36 fu (m : Int) K N2 (xw_st ρ 13 (3 * m + t) 0) rc ((t + 1 : Nat) : Int) := fun K => by
        rw [(rs K).2 (fun z => hlt z.1)]
        exact (r_w102 fu hm K N2 ρ rc (by omega)).1
      have ex : ∀ (N : Nat) (t' : Nat) (K : xw_S → Int → Option (xw_S × Int)), σ.1 0 10 ≤ (t' : Int) → t' ≤ 3 → lp_AW_sendAlongChain_4 fu (m : Int) K (N + 1) σ cc (t' : Int) = K σ cc := fun N t' K h4 h5 => by
        rw [lp_AW_sendAlongChain_4, xw_grd_t ⟨⟨by omega, by omega⟩, ⟨by omega, by omega⟩⟩, xw_if_t h4]
      have g2 : frm (S_wr (4 + m) m) ρ (xw_st ρ 13 (3 * m + t) 0) := frm_st (Or.inr ⟨rfl, by omega, by omega⟩)
      have g12 : frm (fun i _ => i = 13) ρ (xw_st ρ 13 (3 * m + t) 0) := frm_st rfl
      obtain ⟨σ', ρ', M', c, p0, p1, p2, p3, p4, p5, p6, p7⟩ := ih (t + 1) N1 N2 σ (xw_st ρ 13 (3 * m + t) 0) M cc rc (by omega) (by omega) (by omega) (iv_c_f hc (fun _ => rfl) (fun _ _ _ => rfl) (st_i (by decide)) (fun t' => ⟨st_i (by decide), st_i (by decide), st_i (by decide)⟩)) ⟨hw.1, r_M_f hw.2.1 (rfm_frm g12) (fun i k z => by omega), hw.2.2⟩ h3 (by rw [st_i (by decide)]; exact hn2) (by rw [st_i (by decide)]; exact hn3) (fun j j1 j2 => h7 j (by omega) j2)
      refine ⟨σ', ρ', M', c, by omega, fun K => ?_, fun K => ?_, p3, frm_tr g2 p4, p5, fun j hj => ?_, fun j j1 j2 => ?_⟩
      · obtain ⟨N1', rfl⟩ : ∃ n', N1 = n' + 1 := ⟨N1 - 1, by omega⟩
        have := p1 K
        rw [ex N1' (t + 1) K (by omega) (by omega)] at this
        rw [ex (N1' + 1) t K (by omega) (by omega)]
        exact this
      · rw [rs0 K]; exact p2 K
      · rw [(p6 j (by omega)).1, (p6 j (by omega)).2, st_k (by omega)]
        exact ⟨rfl, rfl⟩
      · by_cases hjt : j = t
        · subst hjt
          rw [(p6 j (by omega)).1, (p6 j (by omega)).2, st_s, h7 j (Nat.le_refl _) j2]
          exact ⟨rfl, Or.inl rfl⟩
        · exact p7 j (by omega) j2
