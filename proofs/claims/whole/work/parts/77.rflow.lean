/-! 77: the reference explores: reach and with -/
def lb (x : Int64) (i : Nat) : Bool := x.toBitVec.getLsbD i
theorem lb_ext {x y : Int64} (h : ∀ i, i < 64 → lb x i = lb y i) : x = y := Int64.toBitVec_inj.mp (BitVec.eq_of_getLsbD_eq (fun i hi => h i hi))
theorem lb_or (x y : Int64) (i : Nat) : lb (x ||| y) i = (lb x i || lb y i) := by unfold lb; rw [Int64.toBitVec_or, BitVec.getLsbD_or]
theorem lb_and (x y : Int64) (i : Nat) : lb (x &&& y) i = (lb x i && lb y i) := by unfold lb; rw [Int64.toBitVec_and, BitVec.getLsbD_and]
theorem lb_0 (i : Nat) : lb 0 i = false := BitVec.getLsbD_zero
theorem lb_1 : ∀ i, i < 64 → lb 1 i = decide (i = 0) := by decide +kernel
theorem lb_hl : ∀ y : Nat, y < 64 → ∀ j : Nat, j < 64 → lb (xw_Lhl 1 (y : Int)) j = decide (j = y) := by decide +kernel
theorem s_L : ∀ n : Nat, n < 64 → (((xw_i (n : Int)).toInt64 &&& 63).toBitVec.smod 64).toNat = n := by decide +kernel
theorem lb_hr (x : Int64) {n : Nat} (hn : n < 64) : lb (xw_Lhr x (n : Int)) 0 = lb x n := by
  unfold lb xw_Lhr
  rw [Int64.toBitVec_shiftRight]
  show (x.toBitVec.sshiftRight (((xw_i (n : Int)).toInt64 &&& 63).toBitVec.smod 64).toNat).getLsbD 0 = _
  rw [s_L n hn, BitVec.getLsbD_sshiftRight]
  simp [hn]
theorem z_Lc (x y : Int64) : xw_r (xw_Lc x y) ∧ (xw_Lc x y = 0 ↔ x = y) := by
  unfold xw_Lc
  constructor
  · unfold lg_cmp
    split
    · decide
    · split <;> decide
  · rw [← lg_cmp_eq]
    constructor
    · intro h
      exact Int32.toInt_inj.mp h
    · intro h
      rw [h]
      rfl
theorem z_bit (x : Int64) {n : Nat} (hn : n < 64) : xw_Lc ((xw_Lhr x (n : Int)) &&& (1 : Int64)) (1 : Int64) = 0 ↔ lb x n = true := by
  rw [(z_Lc _ _).2, ← lb_hr x hn]
  constructor
  · intro h
    have h0 : lb (xw_Lhr x (n : Int) &&& 1) 0 = lb 1 0 := by rw [h]
    rw [lb_and, lb_1 0 (by omega)] at h0
    simpa using h0
  · intro h
    apply lb_ext
    intro i hi
    rw [lb_and, lb_1 i hi]
    by_cases h0 : i = 0
    · subst h0; rw [h]; rfl
    · simp [h0]
/-- the locals that are set in each of a set of sets -/
def r_S (x : Int64) (n : Nat) : Prop := ∀ i, i < 64 → lb x i = true → i.testBit n = true
theorem r_S_or (x y : Int64) (n : Nat) : r_S (x ||| y) n ↔ r_S x n ∧ r_S y n := by
  unfold r_S
  constructor
  · intro h
    exact ⟨fun i hi hx => h i hi (by rw [lb_or, hx]; rfl), fun i hi hx => h i hi (by rw [lb_or, hx, Bool.or_true])⟩
  · intro h i hi hx
    rw [lb_or, Bool.or_eq_true] at hx
    exact hx.elim (h.1 i hi) (h.2 i hi)
theorem r_S_0 (n : Nat) : r_S 0 n := fun i _ h => by rw [lb_0] at h; exact absurd h (by decide)
theorem m_sum_lt2 {f g : Nat → Nat} {k : Nat} : ∀ n, k < n → (∀ p, p < n → g p ≤ f p) → g k < f k → m_sum g n < m_sum f n := by
  have le : ∀ n, (∀ p, p < n → g p ≤ f p) → m_sum g n ≤ m_sum f n := by
    intro n
    induction n with
    | zero => intro _; exact Nat.le_refl _
    | succ n ih =>
      intro h
      have x := ih (fun p hp => h p (by omega))
      have y := h n (by omega)
      rw [m_sum, m_sum]
      omega
  intro n
  induction n with
  | zero => intro h; omega
  | succ n ih =>
    intro hk h hlt
    rw [m_sum, m_sum]
    have y := h n (by omega)
    by_cases hn : k = n
    · subst hn
      have x := le k (fun p hp => h p (by omega))
      omega
    · have x := ih (by omega) (fun p hp => h p (by omega)) hlt
      omega
def m_zc (x : Int64) : Nat := m_sum (fun i => if lb x i then 0 else 1) 64
theorem m_zc_le (x : Int64) : m_zc x ≤ 64 := by
  have := m_sum_le (f := fun i => if lb x i then 0 else 1) (a := 1) 64 (fun p _ => by split <;> omega)
  unfold m_zc
  omega
theorem m_zc_or {x y : Int64} (h : (x ||| y) ≠ x) : m_zc (x ||| y) < m_zc x := by
  have : ∃ i, i < 64 ∧ lb x i = false ∧ lb y i = true := by
    apply Classical.byContradiction
    intro hn
    apply h
    apply lb_ext
    intro i hi
    rw [lb_or]
    cases hx : lb x i
    · cases hy : lb y i
      · rfl
      · exact absurd ⟨i, hi, hx, hy⟩ hn
    · rfl
  obtain ⟨i, hi, hx, hy⟩ := this
  unfold m_zc
  refine m_sum_lt2 (k := i) 64 hi ?_ ?_
  · intro p _
    rw [lb_or]
    cases lb x p <;> cases lb y p <;> simp
  · rw [lb_or, hx, hy]
    simp
def rfm (S : Nat → Nat → Prop) (s s' : xw_S) : Prop := ∀ i k, ¬ S i k → s'.1 i k = s.1 i k
theorem rfm_rf (S : Nat → Nat → Prop) (s : xw_S) : rfm S s s := fun _ _ _ => rfl
theorem rfm_tr {S : Nat → Nat → Prop} {a b c : xw_S} (h : rfm S a b) (h' : rfm S b c) : rfm S a c := fun i k hs => (h' i k hs).trans (h i k hs)
theorem rfm_mono {S T : Nat → Nat → Prop} {s s' : xw_S} (h : rfm S s s') (hST : ∀ i k, S i k → T i k) : rfm T s s' := fun i k ht => h i k (fun hs => ht (hST i k hs))
theorem rfm_frm {S : Nat → Nat → Prop} {s s' : xw_S} (h : frm S s s') : rfm S s s' := h.2
def S_rx : Nat → Nat → Prop := fun i k => i = 15 ∨ (i = 0 ∧ (k = 23 ∨ k = 24))
def r_K (M : m_M) (A : Nat → Int) (me : Int) (q : Nat) (s : xw_S) : Prop := rB s q (Mc M) (ML M) ∧ rH s q (Mh M) (MN M) ∧ s.1 3 q = Ma M ∧ s.1 5 q = Ms M ∧ me ≤ 4 ∧ ∀ m : Nat, (m : Int) < me → s.1 3 (q / 4 * 4 + m) = A m ∧ 0 ≤ A m ∧ A m ≤ 2
def r_D (M : m_M) (s : xw_S) : Prop := (∀ p, p < ML M → -1 ≤ s.1 15 p ∧ s.1 15 p ≤ Ms M ∧ (s.1 15 p < 0 → s.2 p = 0) ∧ (0 ≤ s.1 15 p → m_bg (Mc M) p)) ∧ (s.1 0 23 = 0 ∨ s.1 0 23 = 1) ∧ (s.1 0 24 = 0 ∨ s.1 0 24 = 1)
theorem r_K_f {M : m_M} {A : Nat → Int} {me : Int} {q : Nat} {s s' : xw_S} (h : r_K M A me q s) (hf : rfm (fun i k => S_rx i k ∨ i = 14) s s') : r_K M A me q s' := by
  obtain ⟨hB, hH, h5, h7, hm, hA⟩ := h
  obtain ⟨b1, b2, b3, b4, b5⟩ := hB
  obtain ⟨c1, c2, c3, c4, c5⟩ := hH
  refine ⟨⟨b1, b2, ?_, fun p hp => ?_, b5⟩, ⟨c1, c2, ?_, fun i hi => ?_, c5⟩, ?_, ?_, hm, fun m hm' => ⟨?_, (hA m hm').2⟩⟩
  · rw [hf _ _ (by unfold S_rx; omega)]; exact b3
  · rw [hf _ _ (by unfold S_rx; omega)]; exact b4 p hp
  · rw [hf _ _ (by unfold S_rx; omega)]; exact c3
  · rw [hf _ _ (by unfold S_rx; omega)]; exact c4 i hi
  · rw [hf _ _ (by unfold S_rx; omega)]; exact h5
  · rw [hf _ _ (by unfold S_rx; omega)]; exact h7
  · rw [hf _ _ (by unfold S_rx; omega)]; exact (hA m hm').1
theorem r_K_e {M : m_M} {A : Nat → Int} {me : Int} {q : Nat} {s s' : xw_S} (h : r_K M A me q s) (hf : rfm S_rx s s') : r_K M A me q s' := r_K_f h (rfm_mono hf (fun _ _ z => Or.inl z))
def r_v (M : m_M) (s : xw_S) : m_V := (s.1 15, fun p n => r_S (s.2 p) n, s.1 0 23, s.1 0 24, m_sum (fun p => if 0 ≤ s.1 15 p then m_zc (s.2 p) else 65) (ML M))
def r_R (M : m_M) (s : xw_S) (e : Option xw_S) (X : (Nat → Int) → (Nat → Nat → Prop) → Prop) : Prop := ∃ s', e = some s' ∧ rfm S_rx s s' ∧ r_D M s' ∧ m_O (ML M) (r_v M s) (r_v M s') X
theorem r_R_b {M : m_M} {s : xw_S} {e : Option xw_S} {f : xw_S → Option xw_S} {X Y : (Nat → Int) → (Nat → Nat → Prop) → Prop} (h : r_R M s e X) (hf : ∀ s', rfm S_rx s s' → r_D M s' → (s'.1 0 23 = 0 ∨ s'.1 0 23 = s.1 0 23) → r_R M s' (f s') Y) : r_R M s (xw_bnd e f) (fun d S => X d S ∧ Y d S) := by
  obtain ⟨s1, h1, h2, h3, h4⟩ := h
  have sn : s1.1 0 23 = 0 ∨ s1.1 0 23 = s.1 0 23 := by
    rcases h4.2.2 with ⟨_, f⟩ | ⟨_, _, g⟩
    · exact f.imp id (fun z => z.1)
    · exact g
  obtain ⟨s2, g1, g2, g3, g4⟩ := hf s1 h2 h3 sn
  exact ⟨s2, by rw [xw_bnd_e h1]; exact g1, rfm_tr h2 g2, g3, m_O_comp h4 g4⟩
theorem r_R_wk {M : m_M} {s : xw_S} {e : Option xw_S} {X Y : (Nat → Int) → (Nat → Nat → Prop) → Prop} (h : r_R M s e X) (hs : ∀ d S, m_le (ML M) d S (r_v M s).1 (r_v M s).2.1 → Y d S → X d S) (ho : X (r_v M s).1 (r_v M s).2.1 → Y (r_v M s).1 (r_v M s).2.1) : r_R M s e Y := by
  obtain ⟨s1, h1, h2, h3, h4⟩ := h
  exact ⟨s1, h1, h2, h3, m_O_wk h4 hs ho⟩
/-- sound is put down where C does not hold, and else nothing is done -/
theorem r_chk {M : m_M} {s s' : xw_S} {C : Prop} (hD : r_D M s) (hf : frm (fun i k => i = 0 ∧ k = 23) s s') (h1 : s'.1 0 23 = 0 ∨ (C ∧ s'.1 0 23 = s.1 0 23)) (h2 : C → s'.1 0 23 = s.1 0 23) : rfm S_rx s s' ∧ r_D M s' ∧ m_O (ML M) (r_v M s) (r_v M s') (fun _ _ => C) := by
  have e1 : s'.1 15 = s.1 15 := funext (fun k => hf.2 _ _ (by omega))
  have e2 : s'.2 = s.2 := hf.1
  have e3 : s'.1 0 24 = s.1 0 24 := hf.2 _ _ (by omega)
  refine ⟨fun i k h => hf.2 i k (fun z => h (Or.inr ⟨z.1, Or.inl z.2⟩)), ⟨?_, ?_, ?_⟩, ⟨fun d S hl hx => ⟨?_, h2 hx⟩, ?_, Or.inl ⟨⟨e1, ?_, ?_⟩, ?_⟩⟩⟩
  · rw [e1, e2]; exact hD.1
  · rcases h1 with z | ⟨_, z⟩
    · exact Or.inl z
    · rw [z]; exact hD.2.1
  · rw [e3]; exact hD.2.2
  · unfold r_v at hl ⊢; dsimp only at hl ⊢; rw [e1, e2]; exact hl
  · unfold r_v; dsimp only; rw [e1, e2]; exact m_le_rf _ _ _
  · unfold r_v; dsimp only; rw [e2]
  · unfold r_v; dsimp only; rw [e1, e2, e3]
  · exact h1.imp id (fun z => ⟨z.2, z.1⟩)
theorem r_bad {M : m_M} {s : xw_S} {X : (Nat → Int) → (Nat → Nat → Prop) → Prop} (hD : r_D M s) (hn : ∀ d S, m_le (ML M) d S (r_v M s).1 (r_v M s).2.1 → ¬ X d S) : r_R M s (some (xw_st s 0 23 0)) X := by
  obtain ⟨a1, a2, a3⟩ := r_chk (C := False) hD (s' := xw_st s 0 23 0) (frm_st ⟨rfl, rfl⟩) (Or.inl (st_s _ _ _ _)) (fun z => z.elim)
  exact ⟨_, rfl, a1, a2, m_O_wk a3 (fun d S hl hx => hn d S hl hx) (fun z => z.elim)⟩
def k_r45 (t e : Int) (Q : Int64) (s10 : xw_S) : Option xw_S := xw_jn (fun (s19 : xw_S) (t0_86 : Int) => xw_grd ((t0_86 = 0 ∨ t0_86 = 1)) (xw_let (xw_st s19 0 24 t0_86) (fun s20 => xw_grd ((0 ≤ t ∧ t < ((121 : Nat) : Int))) (xw_let (xw_st s20 15 (t).toNat e) (fun s24 => xw_let (xw_sL s24 (t).toNat ((s24.2 (t).toNat) ||| Q)) (fun s26 => some s26))))))
 (fun (j86 : xw_S → Int → Option xw_S) => xw_jn (fun (s18 : xw_S) => j86 s18 1)
 (fun (j81 : xw_S → Option xw_S) => xw_grd (xw_r (s10.1 0 24)) (xw_if (s10.1 0 24 = 0) (xw_grd ((0 ≤ t ∧ t < ((121 : Nat) : Int))) (xw_grd (xw_r (s10.1 15 (t).toNat)) (xw_if (s10.1 15 (t).toNat < 0) (j81 s10)
 (xw_grd (xw_r (xw_Lc ((s10.2 (t).toNat) ||| Q) (s10.2 (t).toNat))) (xw_if (xw_Lc ((s10.2 (t).toNat) ||| Q) (s10.2 (t).toNat) = 0) (j86 s10 0)
 (j81 s10))))))
 (j81 s10))))
theorem k_reach (fu : Nat) (s0 : xw_S) (q t e : Int) (Q : Int64) : f_MD_reach fu s0 q t e Q = xw_grd ((0 ≤ q ∧ q < ((12 : Nat) : Int))) (xw_jn (fun (s28 : xw_S) => xw_let (xw_st s28 0 23 0) (fun s29 => some s29))
 (fun (j39 : xw_S → Option xw_S) => xw_grd (xw_r t ∧ xw_r (s0.1 6 (q).toNat)) (xw_if (s0.1 6 (q).toNat ≤ t) (j39 s0)
 (xw_grd (xw_r e ∧ xw_r (s0.1 5 (q).toNat)) (xw_if (s0.1 5 (q).toNat < e) (j39 s0)
 (xw_grd ((0 ≤ t ∧ t < ((121 : Nat) : Int))) (xw_jn (fun (s10 : xw_S) => k_r45 t e Q s10)
 (fun (j45 : xw_S → Option xw_S) => xw_grd (xw_r (s0.1 15 (t).toNat)) (xw_if (s0.1 15 (t).toNat < 0) (j45 s0)
 (xw_if (s0.1 15 (t).toNat = e) (j45 s0)
 (j39 s0))))))))))) := rfl
theorem r_r45 {t e : Int} {Q : Int64} {s : xw_S} (ht : 0 ≤ t ∧ t < 121) (hm : s.1 0 24 = 0 ∨ s.1 0 24 = 1) (hd : xw_r (s.1 15 t.toNat)) : k_r45 t e Q s = some (xw_sL (xw_st (xw_st s 0 24 (if s.1 0 24 = 0 ∧ 0 ≤ s.1 15 t.toNat ∧ (s.2 t.toNat ||| Q) = s.2 t.toNat then 0 else 1)) 15 t.toNat e) t.toNat (s.2 t.toNat ||| Q)) := by
  have j86 : ∀ m : Int, (m = 0 ∨ m = 1) → xw_grd (m = 0 ∨ m = 1) (xw_let (xw_st s 0 24 m) (fun s20 => xw_grd ((0 ≤ t ∧ t < ((121 : Nat) : Int))) (xw_let (xw_st s20 15 (t).toNat e) (fun s24 => xw_let (xw_sL s24 (t).toNat ((s24.2 (t).toNat) ||| Q)) (fun s26 => some s26))))) = some (xw_sL (xw_st (xw_st s 0 24 m) 15 t.toNat e) t.toNat (s.2 t.toNat ||| Q)) := by
    intro m hm
    rw [xw_grd_t hm, xw_let_e, xw_grd_t (by omega)]
    rfl
  unfold k_r45
  rw [xw_jn_e, xw_jn_e, xw_grd_t ⟨by omega, by omega⟩]
  by_cases h1 : s.1 0 24 = 0
  · rw [xw_if_t h1, xw_grd_t (by omega), xw_grd_t hd]
    by_cases h2 : s.1 15 t.toNat < 0
    · rw [xw_if_t h2, if_neg (by omega)]
      exact j86 1 (Or.inr rfl)
    · rw [xw_if_f h2, xw_grd_t (z_Lc _ _).1]
      by_cases h3 : (s.2 t.toNat ||| Q) = s.2 t.toNat
      · rw [xw_if_t ((z_Lc _ _).2.2 h3), if_pos ⟨h1, by omega, h3⟩]
        exact j86 0 (Or.inl rfl)
      · rw [xw_if_f (fun z => h3 ((z_Lc _ _).2.1 z)), if_neg (fun z => h3 z.2.2)]
        exact j86 1 (Or.inr rfl)
  · rw [xw_if_f h1, if_neg (fun z => h1 z.1)]
    exact j86 1 (Or.inr rfl)
theorem r_rc (fu : Nat) {M : m_M} {A : Nat → Int} {me : Int} {q : Nat} {s : xw_S} (hK : r_K M A me q s) (hD : r_D M s) (hMs : 1 ≤ Ms M ∧ Ms M ≤ 8) {t e : Int} {Q : Int64} (ht : 0 ≤ t ∧ t ≤ 1000) (htp : t < (ML M : Int) → m_pl (Mc M) (ML M) t) (he : 0 ≤ e ∧ e ≤ 100) : r_R M s (f_MD_reach fu s (q : Int) t e Q) (fun d S => m_ar (Mc M) (ML M) d S t e (r_S Q) ∧ e ≤ Ms M) := by
  obtain ⟨⟨hq, hL, hlen, hcode, hc⟩, hH, h3, h5, hm, hA⟩ := hK
  rw [k_reach, xw_grd_t (by omega), xw_jn_e, Int.toNat_natCast, hlen, h5, xw_grd_t ⟨⟨by omega, by omega⟩, ⟨by omega, by omega⟩⟩]
  by_cases h1 : (ML M : Int) ≤ t
  · rw [xw_if_t h1]
    exact r_bad hD (fun d S _ hx => by have := hx.1.1.2.1; omega)
  · have hpl := htp (by omega)
    have hdt := hD.1 t.toNat (by omega)
    rw [xw_if_f h1, xw_grd_t ⟨⟨by omega, by omega⟩, ⟨by omega, by omega⟩⟩]
    by_cases h2 : Ms M < e
    · rw [xw_if_t h2]
      exact r_bad hD (fun d S _ hx => by have := hx.2; omega)
    · rw [xw_if_f h2, xw_grd_t (by omega), xw_jn_e, xw_grd_t ⟨by omega, by omega⟩]
      dsimp only
      rw [r_r45 (t := t) (by omega) hD.2.2 ⟨by omega, by omega⟩]
      by_cases h4 : 0 ≤ s.1 15 t.toNat ∧ s.1 15 t.toNat ≠ e
      · rw [xw_if_f (by omega), xw_if_f h4.2]
        refine r_bad hD (fun d S hl hx => ?_)
        have x := (hl t.toNat (by omega) h4.1).1
        have y := hx.1.2.1
        have z : (r_v M s).1 t.toNat = s.1 15 t.toNat := rfl
        omega
      · have e0 : ∀ (E : Option xw_S) (B : Option xw_S), xw_if (s.1 15 t.toNat < 0) E (xw_if (s.1 15 t.toNat = e) E B) = E := by
          intro E B
          by_cases h6 : s.1 15 t.toNat < 0
          · rw [xw_if_t h6]
          · rw [xw_if_f h6, xw_if_t (by omega)]
        rw [e0]
        generalize hmm : (if s.1 0 24 = 0 ∧ 0 ≤ s.1 15 t.toNat ∧ (s.2 t.toNat ||| Q) = s.2 t.toNat then (0 : Int) else 1) = mm
        have e1 : ∀ p, (xw_sL (xw_st (xw_st s 0 24 mm) 15 t.toNat e) t.toNat (s.2 t.toNat ||| Q)).1 15 p = if p = t.toNat then e else s.1 15 p := fun p => by
          show (xw_st (xw_st s 0 24 mm) 15 t.toNat e).1 15 p = _
          rw [st_e, st_i (by omega)]
          simp only [true_and]
        have e2 : ∀ p, (xw_sL (xw_st (xw_st s 0 24 mm) 15 t.toNat e) t.toNat (s.2 t.toNat ||| Q)).2 p = if p = t.toNat then (s.2 t.toNat ||| Q) else s.2 p := fun p => rfl
        have e3 : (xw_sL (xw_st (xw_st s 0 24 mm) 15 t.toNat e) t.toNat (s.2 t.toNat ||| Q)).1 0 24 = mm := by
          show (xw_st (xw_st s 0 24 mm) 15 t.toNat e).1 0 24 = _
          rw [st_i (by omega), st_s]
        have e4 : (xw_sL (xw_st (xw_st s 0 24 mm) 15 t.toNat e) t.toNat (s.2 t.toNat ||| Q)).1 0 23 = s.1 0 23 := by
          show (xw_st (xw_st s 0 24 mm) 15 t.toNat e).1 0 23 = _
          rw [st_i (by omega), st_k (by omega)]
        have e5 : rfm S_rx s (xw_sL (xw_st (xw_st s 0 24 mm) 15 t.toNat e) t.toNat (s.2 t.toNat ||| Q)) := by
          intro i k h
          show (xw_st (xw_st s 0 24 mm) 15 t.toNat e).1 i k = _
          unfold S_rx at h
          rw [st_i (by omega), st_e, if_neg (by omega)]
        generalize xw_sL (xw_st (xw_st s 0 24 mm) 15 t.toNat e) t.toNat (s.2 t.toNat ||| Q) = s' at *
        have hD' : r_D M s' := by
          refine ⟨fun p hp => ?_, by rw [e4]; exact hD.2.1, ?_⟩
          · rw [e1, e2]
            by_cases hpt : p = t.toNat
            · rw [if_pos hpt, if_pos hpt]
              exact ⟨by omega, by omega, fun z => by omega, fun _ => by rw [hpt]; exact hpl.2.2⟩
            · rw [if_neg hpt, if_neg hpt]
              exact hD.1 p hp
          · rw [e3, ← hmm]
            split
            · exact Or.inl rfl
            · exact Or.inr rfl
        refine ⟨s', rfl, e5, hD', ?_⟩
        by_cases h7 : 0 ≤ s.1 15 t.toNat ∧ (s.2 t.toNat ||| Q) = s.2 t.toNat
        · have f1 : s'.1 15 = s.1 15 := funext (fun p => by
            rw [e1]
            by_cases hpt : p = t.toNat
            · rw [if_pos hpt, hpt]; omega
            · rw [if_neg hpt])
          have f2 : s'.2 = s.2 := funext (fun p => by
            rw [e2]
            by_cases hpt : p = t.toNat
            · rw [if_pos hpt, hpt]; exact h7.2
            · rw [if_neg hpt])
          have f3 : s'.1 0 24 = s.1 0 24 := by
            rw [e3, ← hmm]
            rcases hD.2.2 with z | z
            · rw [if_pos ⟨z, h7⟩, z]
            · rw [if_neg (fun w => by have := w.1; omega), z]
          have ev : r_v M s' = r_v M s := by unfold r_v; rw [f1, f2, f3, e4]
          rw [ev]
          refine m_O_id (Or.inr ⟨⟨hpl, ?_, fun n hn => ?_⟩, by omega⟩)
          · show s.1 15 t.toNat = e
            omega
          · have hn' : r_S (s.2 t.toNat) n := hn
            rw [← h7.2, r_S_or] at hn'
            exact hn'.2
        · have f3 : mm = 1 := by
            rw [← hmm, if_neg (fun w => h7 w.2)]
          refine m_O_up (T := r_S Q) (c := Mc M) (t := t) (e := e) ?_ ?_ ?_ ?_ ?_ ?_ ?_ ?_ (fun d S h => h.1)
          · intro p hp
            unfold r_v
            dsimp only
            refine ⟨by rw [e1, if_neg hp], ?_⟩
            rw [e2, if_neg hp]
          · show s'.1 15 t.toNat = e
            rw [e1, if_pos rfl]
          · intro z
            have z' : 0 ≤ s.1 15 t.toNat := z
            show s.1 15 t.toNat = e
            omega
          · intro n g1 g2
            show r_S (s'.2 t.toNat) n
            rw [e2, if_pos rfl, r_S_or]
            refine ⟨?_, g2⟩
            by_cases h8 : 0 ≤ s.1 15 t.toNat
            · exact g1 h8
            · rw [hdt.2.2.1 (by omega)]
              exact r_S_0 n
          · intro _ n hn
            have hn' : r_S (s'.2 t.toNat) n := hn
            rw [e2, if_pos rfl, r_S_or] at hn'
            exact hn'.1
          · exact e4
          · show s'.1 0 24 = 1
            rw [e3, f3]
          · unfold r_v
            dsimp only
            refine m_sum_lt (k := t.toNat) (ML M) (by omega) ?_ ?_
            · intro p _ hpt
              rw [e1, e2, if_neg hpt, if_neg hpt]
            · rw [e1, e2, if_pos rfl, if_pos rfl, if_pos he.1]
              by_cases h8 : 0 ≤ s.1 15 t.toNat
              · rw [if_pos h8]
                exact m_zc_or (fun z => h7 ⟨h8, z⟩)
              · rw [if_neg h8]
                have := m_zc_le (s.2 t.toNat ||| Q)
                omega
theorem z_or6 : ∀ k : Nat, k < 64 → ∀ n : Nat, n < 6 → (k ||| 2 ^ n) < 64 := z_or_lt
theorem r_wi (fu : Nat) (x : Int64) {num : Nat} (hn : num < 6) {fl : Int} (hfl : fl = 0 ∨ fl = 1) (K : xw_S → Int64 → Option (xw_S × Int64)) : ∀ (dd k n : Nat) (s : xw_S) (w : Int64), k + dd = 64 → dd < n → (s.1 0 23 = 0 ∨ s.1 0 23 = 1) → ∃ s' w', lp_MD_with_6 fu x (num : Int) fl K n s w (k : Int) = K s' w' ∧ frm (fun i k => i = 0 ∧ k = 23) s s' ∧ (s'.1 0 23 = 0 ∨ s'.1 0 23 = 1) ∧ (s'.1 0 23 = 1 ↔ s.1 0 23 = 1 ∧ (fl = 0 ∨ ∀ i, k ≤ i → i < 64 → lb x i = true → i.testBit num = true)) ∧ ∀ y, y < 64 → (lb w' y = true ↔ lb w y = true ∨ ∃ i, k ≤ i ∧ i < 64 ∧ lb x i = true ∧ y = i ||| 2 ^ num) := by
  intro dd
  induction dd with
  | zero =>
    intro k n s w hk hn hs
    obtain ⟨n, rfl⟩ : ∃ n', n = n' + 1 := ⟨n - 1, by omega⟩
    rw [lp_MD_with_6, xw_grd_t ⟨by omega, by omega⟩, xw_if_t (by omega)]
    refine ⟨s, w, rfl, frm_rf _ _, hs, ⟨fun z => ⟨z, Or.inr (fun i h1 h2 => by omega)⟩, fun z => z.1⟩, fun y _ => ⟨Or.inl, fun z => z.elim id (fun ⟨i, h1, h2, _⟩ => by omega)⟩⟩
  | succ dd ih =>
    intro k n s w hk hnn hs
    obtain ⟨n, rfl⟩ : ∃ n', n = n' + 1 := ⟨n - 1, by omega⟩
    by_cases hb : lb x k = true
    · have step : ∃ t0 : Int, (t0 = 0 ∨ t0 = 1) ∧ (t0 = 1 ↔ s.1 0 23 = 1 ∧ (fl = 0 ∨ k.testBit num = true)) ∧ lp_MD_with_6 fu x (num : Int) fl K (n + 1) s w (k : Int) = lp_MD_with_6 fu x (num : Int) fl K n (xw_st s 0 23 t0) (w ||| xw_Lhl 1 ((k ||| 2 ^ num : Nat) : Int)) ((k + 1 : Nat) : Int) := by
        have eo := z_or k (by omega) num hn
        have eh := z_hr k (by omega) num hn
        have go : ∀ t0 : Int, (t0 = 0 ∨ t0 = 1) → xw_grd (t0 = 0 ∨ t0 = 1) (xw_let (xw_st s 0 23 t0) (fun s15 => xw_let (w ||| (xw_Lhl (1 : Int64) (xw_or (k : Int) (xw_hl 1 (num : Int))))) (fun v18 => (fun (s20 : xw_S) (w5_68 : Int64) (i7_68 : Int) => xw_let (i7_68 + 1) (fun v21 => lp_MD_with_6 fu x (num : Int) fl K n s20 w5_68 v21)) s15 v18 (k : Int)))) = lp_MD_with_6 fu x (num : Int) fl K n (xw_st s 0 23 t0) (w ||| xw_Lhl 1 ((k ||| 2 ^ num : Nat) : Int)) ((k + 1 : Nat) : Int) := by
          intro t0 h0
          rw [xw_grd_t h0, eo]
          rfl
        rw [lp_MD_with_6, xw_grd_t ⟨by omega, by omega⟩, xw_if_f (by omega), xw_jn_e, xw_grd_t (z_Lc _ _).1, xw_if_t ((z_bit x (by omega)).2 hb), xw_jn_e, xw_jn_e, xw_grd_t ⟨by omega, by omega⟩]
        by_cases h1 : s.1 0 23 = 0
        · rw [xw_if_t h1]
          exact ⟨0, Or.inl rfl, ⟨fun z => by omega, fun z => by omega⟩, go 0 (Or.inl rfl)⟩
        · rw [xw_if_f h1, xw_jn_e, xw_grd_t ⟨by omega, by omega⟩]
          by_cases h2 : fl = 0
          · rw [xw_if_t h2]
            exact ⟨1, Or.inr rfl, ⟨fun _ => ⟨by omega, Or.inl h2⟩, fun _ => rfl⟩, go 1 (Or.inr rfl)⟩
          · rw [xw_if_f h2, eh]
            by_cases h3 : k.testBit num = true
            · rw [if_pos h3, xw_grd_t (by decide), xw_if_t rfl]
              exact ⟨1, Or.inr rfl, ⟨fun _ => ⟨by omega, Or.inr h3⟩, fun _ => rfl⟩, go 1 (Or.inr rfl)⟩
            · rw [if_neg h3, xw_grd_t (by decide), xw_if_f (by decide)]
              exact ⟨0, Or.inl rfl, ⟨fun z => by omega, fun z => absurd z.2 (fun y => y.elim h2 h3)⟩, go 0 (Or.inl rfl)⟩
      obtain ⟨t0, t1, t2, t3⟩ := step
      obtain ⟨s', w', g1, g2, g3, g4, g5⟩ := ih (k + 1) n (xw_st s 0 23 t0) (w ||| xw_Lhl 1 ((k ||| 2 ^ num : Nat) : Int)) (by omega) (by omega) (by rw [st_s]; exact t1)
      refine ⟨s', w', t3.trans g1, frm_tr (frm_st ⟨rfl, rfl⟩) g2, g3, ?_, fun y hy => ?_⟩
      · rw [g4, st_s, t2]
        constructor
        · rintro ⟨⟨a1, a2⟩, a3⟩
          refine ⟨a1, ?_⟩
          rcases a2 with a2 | a2
          · exact Or.inl a2
          · rcases a3 with a3 | a3
            · exact Or.inl a3
            · refine Or.inr (fun i h1 h2 h3 => ?_)
              by_cases hik : i = k
              · subst hik; exact a2
              · exact a3 i (by omega) h2 h3
        · rintro ⟨a1, a2⟩
          rcases a2 with a2 | a2
          · exact ⟨⟨a1, Or.inl a2⟩, Or.inl a2⟩
          · exact ⟨⟨a1, Or.inr (a2 k (Nat.le_refl _) (by omega) hb)⟩, Or.inr (fun i h1 h2 h3 => a2 i (by omega) h2 h3)⟩
      · rw [g5 y hy, lb_or, lb_hl _ (z_or_lt k (by omega) num hn) y hy, Bool.or_eq_true, decide_eq_true_eq]
        constructor
        · rintro ((a | a) | ⟨i, h1, h2, h3, h4⟩)
          · exact Or.inl a
          · exact Or.inr ⟨k, Nat.le_refl _, by omega, hb, a⟩
          · exact Or.inr ⟨i, by omega, h2, h3, h4⟩
        · rintro (a | ⟨i, h1, h2, h3, h4⟩)
          · exact Or.inl (Or.inl a)
          · by_cases hik : i = k
            · subst hik; exact Or.inl (Or.inr h4)
            · exact Or.inr ⟨i, by omega, h2, h3, h4⟩
    · obtain ⟨s', w', g1, g2, g3, g4, g5⟩ := ih (k + 1) n s w (by omega) (by omega) hs
      refine ⟨s', w', ?_, g2, g3, ?_, fun y hy => ?_⟩
      · rw [lp_MD_with_6, xw_grd_t ⟨by omega, by omega⟩, xw_if_f (by omega), xw_jn_e, xw_grd_t (z_Lc _ _).1, xw_if_f (fun z => hb ((z_bit x (by omega)).1 z))]
        exact g1
      · rw [g4]
        constructor
        · rintro ⟨a1, a2⟩
          refine ⟨a1, a2.imp id (fun a3 i h1 h2 h3 => ?_)⟩
          by_cases hik : i = k
          · subst hik; exact absurd h3 hb
          · exact a3 i (by omega) h2 h3
        · rintro ⟨a1, a2⟩
          exact ⟨a1, a2.imp id (fun a3 i h1 h2 h3 => a3 i (by omega) h2 h3)⟩
      · rw [g5 y hy]
        constructor
        · rintro (a | ⟨i, h1, h2, h3, h4⟩)
          · exact Or.inl a
          · exact Or.inr ⟨i, by omega, h2, h3, h4⟩
        · rintro (a | ⟨i, h1, h2, h3, h4⟩)
          · exact Or.inl a
          · by_cases hik : i = k
            · subst hik; exact absurd h3 hb
            · exact Or.inr ⟨i, by omega, h2, h3, h4⟩
/-- with: what it does to sound, and the set of sets that it answers -/
theorem r_with (fu : Nat) (hfu : 1000 ≤ fu) (x : Int64) {num : Nat} (hn : num < 6) {fl : Int} (hfl : fl = 0 ∨ fl = 1) {s : xw_S} (hs : s.1 0 23 = 0 ∨ s.1 0 23 = 1) : ∃ s' w, f_MD_with fu s x (num : Int) fl = some (s', w) ∧ frm (fun i k => i = 0 ∧ k = 23) s s' ∧ (s'.1 0 23 = 0 ∨ ((fl = 0 ∨ r_S x num) ∧ s'.1 0 23 = s.1 0 23)) ∧ ((fl = 0 ∨ r_S x num) → s'.1 0 23 = s.1 0 23) ∧ ∀ n, r_S w n ↔ (r_S x n ∨ n = num) := by
  obtain ⟨s', w, g1, g2, g3, g4, g5⟩ := r_wi fu x hn hfl (fun (s23 : xw_S) (w5_74 : Int64) => some (s23, w5_74)) 64 0 fu s 0 (by omega) (by omega) hs
  have hS : (fl = 0 ∨ ∀ i, 0 ≤ i → i < 64 → lb x i = true → i.testBit num = true) ↔ (fl = 0 ∨ r_S x num) := by
    unfold r_S
    constructor
    · exact fun z => z.imp id (fun a i h1 h2 => a i (Nat.zero_le _) h1 h2)
    · exact fun z => z.imp id (fun a i _ h1 h2 => a i h1 h2)
  rw [hS] at g4
  refine ⟨s', w, g1, g2, ?_, fun hC => ?_, fun n => ?_⟩
  · rcases g3 with z | z
    · exact Or.inl z
    · exact Or.inr ⟨(g4.1 z).2, by rw [z, (g4.1 z).1]⟩
  · rcases hs with z | z
    · rcases g3 with y | y
      · rw [y, z]
      · have := (g4.1 y).1
        omega
    · rw [z]
      exact g4.2 ⟨z, hC⟩
  · constructor
    · intro h
      by_cases hnn : n = num
      · exact Or.inr hnn
      · refine Or.inl (fun i hi hx => ?_)
        have := h (i ||| 2 ^ num) (z_or_lt i hi num hn) ((g5 _ (z_or_lt i hi num hn)).2 (Or.inr ⟨i, Nat.zero_le _, hi, hx, rfl⟩))
        rw [Nat.testBit_or, Nat.testBit_two_pow, decide_eq_false (fun z => hnn z.symm), Bool.or_false] at this
        exact this
    · intro h y hy hw
      rcases (g5 y hy).1 hw with z | ⟨i, _, hi, hx, rfl⟩
      · rw [lb_0] at z; exact absurd z (by decide)
      · rw [Nat.testBit_or, Nat.testBit_two_pow, Bool.or_eq_true, decide_eq_true_eq]
        rcases h with h | h
        · exact Or.inl (h i hi hx)
        · exact Or.inr h.symm
