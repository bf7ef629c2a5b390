/-! 67: isWellFormed -/
theorem m_in {c : Nat → Int} {L p : Nat} (h : m_nx c L = (L : Int)) (hp : p < L) (hb : m_bg c p) : 0 < q_sz (c p) ∧ (p : Int) + q_sz (c p) ≤ (L : Int) := by
  have hs := q_sz_r (c p)
  have hin := m_nx_in c hb
  refine ⟨?_, ?_⟩
  · apply Int.lt_of_not_ge
    intro hz
    have := hin (L - p - 1) (Or.inr (Or.inl (by omega)))
    rw [show p + (L - p - 1) + 1 = L by omega] at this
    omega
  · apply Int.le_of_not_gt
    intro hz
    have := hin (L - p - 1) (Or.inl (by omega))
    rw [show p + (L - p - 1) + 1 = L by omega] at this
    omega
theorem q_sz_32 {op : Int} (h : 0 < q_sz op) : 0 ≤ op ∧ op ≤ 32 := by
  unfold q_sz at h
  repeat' split at h
  all_goals omega
def m_W1 (c : Nat → Int) (L : Nat) (lo me : Int) (k : Nat) : Prop := ∀ p : Nat, k ≤ p → p < L → m_bg c p → m_nh c L lo me p
theorem q_wf1 (fu : Nat) {s : xw_S} {b : Nat} {c : Nat → Int} {L : Nat} (h : cB s b c L) (hd : cD0 s b c L) (hd1 : m_nx c L = (L : Int)) {lo me : Int} (hlo : s.1 (48 + 4 * b) 6 = lo) (hlr : xw_r lo) (hme : xw_r me) (K0 K1 : xw_S → Option (xw_S × Int)) : ∀ (d k n : Nat), k + d = L → d < n → (m_W1 c L lo me k → lp_B_isWellFormed_11 fu b me K0 K1 n s (k : Int) = K1 s) ∧ (¬ m_W1 c L lo me k → lp_B_isWellFormed_11 fu b me K0 K1 n s (k : Int) = K0 s) := by
  have hL := h.2.1
  have hcap := xb_cap_le b
  have hlen := h.2.2.1
  intro d
  induction d with
  | zero =>
    intro k n hk hn
    obtain ⟨n, rfl⟩ : ∃ n', n = n' + 1 := ⟨n - 1, by omega⟩
    have e : lp_B_isWellFormed_11 fu b me K0 K1 (n + 1) s (k : Int) = K1 s := by
      rw [lp_B_isWellFormed_11, hlen, xw_grd_t ⟨⟨by omega, by omega⟩, ⟨by omega, by omega⟩⟩, xw_if_t (by omega)]
    exact ⟨fun _ => e, fun z => absurd (fun p h1 h2 => by omega) z⟩
  | succ d ih =>
    intro k n hk hn
    obtain ⟨n, rfl⟩ : ∃ n', n = n' + 1 := ⟨n - 1, by omega⟩
    obtain ⟨i1, i2⟩ := ih (k + 1) n (by omega) (by omega)
    have es : lp_B_isWellFormed_11 fu b me K0 K1 (n + 1) s (k : Int) = if m_bg c k ∧ ¬ m_nh c L lo me k then K0 s else lp_B_isWellFormed_11 fu b me K0 K1 n s ((k + 1 : Nat) : Int) := by
      rw [lp_B_isWellFormed_11, hlen, xw_grd_t ⟨⟨by omega, by omega⟩, ⟨by omega, by omega⟩⟩, xw_if_f (by omega), xw_bn2_e (q_begins0 fu h hd ⟨by omega, by omega⟩), xw_jn_e]
      by_cases hb : m_bg c k
      · rw [if_pos (show m_pl c L (k : Int) from ⟨by omega, by omega, by rw [Int.toNat_natCast]; exact hb⟩), xw_grd_t (by decide), xw_if_f (by decide), xw_bn2_e (q_numbers fu h hd hlo hlr hme (by omega) (q_sz_32 (m_in hd1 (by omega) hb).1).2)]
        by_cases hn : m_nh c L lo me k
        · rw [if_pos hn, xw_grd_t (by decide), xw_if_f (by decide), if_neg (fun z => z.2 hn)]
          rfl
        · rw [if_neg hn, xw_grd_t (by decide), xw_if_t rfl, if_pos ⟨hb, hn⟩]
      · rw [if_neg (show ¬ m_pl c L (k : Int) from fun z => hb (by have := z.2.2; rwa [Int.toNat_natCast] at this)), xw_grd_t (by decide), xw_if_t rfl, if_neg (fun z => hb z.1)]
        rfl
    rw [es]
    by_cases hx : m_bg c k ∧ ¬ m_nh c L lo me k
    · rw [if_pos hx]
      exact ⟨fun z => absurd (z k (Nat.le_refl _) (by omega) hx.1) hx.2, fun _ => rfl⟩
    · rw [if_neg hx]
      have hk1 : m_W1 c L lo me k ↔ m_W1 c L lo me (k + 1) := by
        constructor
        · exact fun z p h1 h2 => z p (by omega) h2
        · intro z p h1 h2 h3
          by_cases hpk : p = k
          · subst hpk
            by_cases h4 : m_nh c L lo me p
            · exact h4
            · exact absurd ⟨h3, h4⟩ hx
          · exact z p (by omega) h2 h3
      rw [hk1]
      exact ⟨i1, i2⟩
/-- what WELL FORMED asks of a handler -/
abbrev m_hh (c : Nat → Int) (L : Nat) (hd : Nat → Int) (i : Nat) : Prop := (hd (4 * i) < hd (4 * i + 1) ∧ (hd (4 * i + 1) = (L : Int) ∨ m_pl c L (hd (4 * i + 1)))) ∧ m_pl c L (hd (4 * i)) ∧ m_pl c L (hd (4 * i + 2))
def q_w92 (fu b : Nat) (K0 K1 : xw_S → Option (xw_S × Int)) (n : Nat) (s44 : xw_S) (i t : Int) : Option (xw_S × Int) := xw_bn2 (f_B_part fu s44 b i 0) (fun s45 r47 => xw_bn2 (f_B_begins fu s45 b r47) (fun s48 r50 => xw_grd (xw_r r50) (xw_if (r50 = 0) (K0 s48)
     (xw_bn2 (f_B_part fu s48 b i 2) (fun s53 r55 => xw_bn2 (f_B_begins fu s53 b r55) (fun s56 r58 => xw_grd (xw_r r58) (xw_if (r58 = 0) (K0 s56)
     (xw_grd (xw_r t) (xw_if (t = 0) (K0 s56)
     (xw_let (i + 1) (fun v63 => lp_B_isWellFormed_46 fu b K0 K1 n s56 v63)))))))))))
theorem q_w46 (fu b : Nat) (K0 K1 : xw_S → Option (xw_S × Int)) (n : Nat) (s : xw_S) (i : Int) : lp_B_isWellFormed_46 fu b K0 K1 (n + 1) s i = xw_grd (xw_r i ∧ xw_r (s.1 (48 + 4 * b) 9)) (xw_if (s.1 (48 + 4 * b) 9 ≤ i) (K1 s) (xw_bn2 (f_B_part fu s b i 1) (fun s27 r29 => xw_bn2 (f_B_part fu s27 b i 0) (fun s30 r32 => xw_grd (xw_r r29 ∧ xw_r r32) (xw_if (r29 ≤ r32) (q_w92 fu b K0 K1 n s30 i 0) (xw_grd (xw_r (s30.1 (48 + 4 * b) 8)) (xw_if (r29 = s30.1 (48 + 4 * b) 8) (q_w92 fu b K0 K1 n s30 i 1) (xw_bn2 (f_B_begins fu s30 b r29) (fun s37 r39 => xw_grd (xw_r r39) (xw_if (r39 = 0) (q_w92 fu b K0 K1 n s37 i 0) (q_w92 fu b K0 K1 n s37 i 1))))))))))) := rfl
theorem q_w92e (fu : Nat) {s : xw_S} {b : Nat} {c : Nat → Int} {L : Nat} (h : cB s b c L) (hd0 : cD0 s b c L) {hd : Nat → Int} {N : Nat} (hh : cH s b hd N) (K0 K1 : xw_S → Option (xw_S × Int)) (n : Nat) {i : Nat} (hi : i < N) {t : Int} (ht : t = 0 ∨ t = 1) : q_w92 fu b K0 K1 n s (i : Int) t = if (m_pl c L (hd (4 * i)) ∧ m_pl c L (hd (4 * i + 2))) ∧ t = 1 then lp_B_isWellFormed_46 fu b K0 K1 n s ((i + 1 : Nat) : Int) else K0 s := by
  have hr := hh.2.2.2.2
  have r0 := hr (4 * i) (by omega)
  have r2 := hr (4 * i + 2) (by omega)
  have p0 : f_B_part fu s b (i : Int) 0 = some (s, hd (4 * i)) := q_part fu hh hi (w := 0) (by omega)
  have p2 : f_B_part fu s b (i : Int) 2 = some (s, hd (4 * i + 2)) := q_part fu hh hi (w := 2) (by omega)
  unfold q_w92
  rw [xw_bn2_e p0, xw_bn2_e (q_begins0 fu h hd0 ⟨by omega, by omega⟩)]
  by_cases h1 : m_pl c L (hd (4 * i))
  · rw [if_pos h1, xw_grd_t (by decide), xw_if_f (by decide), xw_bn2_e p2, xw_bn2_e (q_begins0 fu h hd0 ⟨by omega, by omega⟩)]
    by_cases h2 : m_pl c L (hd (4 * i + 2))
    · rw [if_pos h2, xw_grd_t (by decide), xw_if_f (by decide)]
      rcases ht with rfl | rfl
      · rw [xw_grd_t (by decide), xw_if_t rfl, if_neg (fun z => by have := z.2; omega)]
      · rw [xw_grd_t (by decide), xw_if_f (by decide), if_pos ⟨⟨h1, h2⟩, rfl⟩]
        rfl
    · rw [if_neg h2, xw_grd_t (by decide), xw_if_t rfl, if_neg (fun z => h2 z.1.2)]
  · rw [if_neg h1, xw_grd_t (by decide), xw_if_t rfl, if_neg (fun z => h1 z.1.1)]
def m_W2 (c : Nat → Int) (L : Nat) (hd : Nat → Int) (N k : Nat) : Prop := ∀ i : Nat, k ≤ i → i < N → m_hh c L hd i
theorem q_wf2 (fu : Nat) {s : xw_S} {b : Nat} {c : Nat → Int} {L : Nat} (h : cB s b c L) (hd0 : cD0 s b c L) {hd : Nat → Int} {N : Nat} (hh : cH s b hd N) (hN : N ≤ 5) (K0 K1 : xw_S → Option (xw_S × Int)) : ∀ (d k n : Nat), k + d = N → d < n → (m_W2 c L hd N k → lp_B_isWellFormed_46 fu b K0 K1 n s (k : Int) = K1 s) ∧ (¬ m_W2 c L hd N k → lp_B_isWellFormed_46 fu b K0 K1 n s (k : Int) = K0 s) := by
  have hL := h.2.1
  have hcap := xb_cap_le b
  have hlen := h.2.2.1
  have hnn := hh.2.2.1
  have hr := hh.2.2.2.2
  intro d
  induction d with
  | zero =>
    intro k n hk hn
    obtain ⟨n, rfl⟩ : ∃ n', n = n' + 1 := ⟨n - 1, by omega⟩
    have e : lp_B_isWellFormed_46 fu b K0 K1 (n + 1) s (k : Int) = K1 s := by
      rw [q_w46, hnn, xw_grd_t ⟨⟨by omega, by omega⟩, ⟨by omega, by omega⟩⟩, xw_if_t (by omega)]
    exact ⟨fun _ => e, fun z => absurd (fun p h1 h2 => by omega) z⟩
  | succ d ih =>
    intro k n hk hn
    obtain ⟨n, rfl⟩ : ∃ n', n = n' + 1 := ⟨n - 1, by omega⟩
    obtain ⟨i1, i2⟩ := ih (k + 1) n (by omega) (by omega)
    have r0 := hr (4 * k) (by omega)
    have r1 := hr (4 * k + 1) (by omega)
    have p0 : f_B_part fu s b (k : Int) 0 = some (s, hd (4 * k)) := q_part fu hh (by omega) (w := 0) (by omega)
    have p1 : f_B_part fu s b (k : Int) 1 = some (s, hd (4 * k + 1)) := q_part fu hh (by omega) (w := 1) (by omega)
    have es : lp_B_isWellFormed_46 fu b K0 K1 (n + 1) s (k : Int) = if m_hh c L hd k then lp_B_isWellFormed_46 fu b K0 K1 n s ((k + 1 : Nat) : Int) else K0 s := by
      rw [q_w46, hnn, xw_grd_t ⟨⟨by omega, by omega⟩, ⟨by omega, by omega⟩⟩, xw_if_f (by omega), xw_bn2_e p1, xw_bn2_e p0, xw_grd_t ⟨⟨by omega, by omega⟩, ⟨by omega, by omega⟩⟩]
      by_cases h1 : hd (4 * k + 1) ≤ hd (4 * k)
      · rw [xw_if_t h1, q_w92e fu h hd0 hh K0 K1 n (by omega) (Or.inl rfl), if_neg (fun z => by have := z.2; omega), if_neg (fun z => by have := z.1.1; omega)]
      · rw [xw_if_f h1, hlen, xw_grd_t ⟨by omega, by omega⟩]
        have fin : (hd (4 * k + 1) = (L : Int) ∨ m_pl c L (hd (4 * k + 1))) → q_w92 fu b K0 K1 n s (k : Int) 1 = if m_hh c L hd k then lp_B_isWellFormed_46 fu b K0 K1 n s ((k + 1 : Nat) : Int) else K0 s := by
          intro h2
          rw [q_w92e fu h hd0 hh K0 K1 n (by omega) (Or.inr rfl)]
          by_cases h3 : m_pl c L (hd (4 * k)) ∧ m_pl c L (hd (4 * k + 2))
          · rw [if_pos ⟨h3, rfl⟩, if_pos ⟨⟨by omega, h2⟩, h3⟩]
          · rw [if_neg (fun z => h3 z.1), if_neg (fun z => h3 z.2)]
        by_cases h2 : hd (4 * k + 1) = (L : Int)
        · rw [xw_if_t h2, fin (Or.inl h2)]
        · rw [xw_if_f h2, xw_bn2_e (q_begins0 fu h hd0 ⟨by omega, by omega⟩)]
          by_cases h3 : m_pl c L (hd (4 * k + 1))
          · rw [if_pos h3, xw_grd_t (by decide), xw_if_f (by decide), fin (Or.inr h3)]
          · rw [if_neg h3, xw_grd_t (by decide), xw_if_t rfl, q_w92e fu h hd0 hh K0 K1 n (by omega) (Or.inl rfl), if_neg (fun z => by have := z.2; omega), if_neg (fun z => z.1.2.elim h2 h3)]
    rw [es]
    by_cases hx : m_hh c L hd k
    · rw [if_pos hx]
      have hk1 : m_W2 c L hd N k ↔ m_W2 c L hd N (k + 1) := by
        constructor
        · exact fun z p h1 h2 => z p (by omega) h2
        · intro z p h1 h2
          by_cases hpk : p = k
          · subst hpk; exact hx
          · exact z p (by omega) h2
      rw [hk1]
      exact ⟨i1, i2⟩
    · rw [if_neg hx]
      exact ⟨fun z => absurd (z k (Nat.le_refl _) (by omega)) hx, fun _ => rfl⟩
/-- WELL FORMED -/
def m_WF (c : Nat → Int) (L : Nat) (hd : Nat → Int) (N : Nat) (lo me : Int) : Prop := m_nx c L = (L : Int) ∧ m_W1 c L lo me 0 ∧ m_W2 c L hd N 0
theorem q_wf (fu b : Nat) (hfu : 1000 ≤ fu) {s : xw_S} {c : Nat → Int} {L : Nat} (h : cB s b c L) {hd : Nat → Int} {N : Nat} (hh : cH s b hd N) (hN : N ≤ 5) {lo me : Int} (hlo : s.1 (48 + 4 * b) 6 = lo) (hlr : xw_r lo) (hme : xw_r me) :
    ∃ s', frm (S_fi b) s s' ∧ cD0 s' b c L ∧ s'.1 (48 + 4 * b) 10 = m_ct c L ∧ (m_WF c L hd N lo me → f_B_isWellFormed fu s b me = some (s', 1)) ∧ (¬ m_WF c L hd N lo me → f_B_isWellFormed fu s b me = some (s', 0)) := by
  obtain ⟨hb, hL, hlen, hcode, hc⟩ := h
  have hcap := xb_cap_le b
  obtain ⟨s', a1, a2, a3, a4⟩ := q_fi fu b hfu hb c L hL s hlen hcode hc
  have hB' : cB s' b c L := ⟨hb, hL, by rw [a2.2 _ _ (by unfold S_fi; omega), hlen], fun p hp => by rw [a2.2 _ _ (by unfold S_fi; omega), hcode p hp], hc⟩
  have hH' : cH s' b hd N := ⟨hb, hh.2.1, by rw [a2.2 _ _ (by unfold S_fi; omega), hh.2.2.1], fun i hi => by rw [a2.2 _ _ (by unfold S_fi; omega), hh.2.2.2.1 i hi], hh.2.2.2.2⟩
  refine ⟨s', a2, a3, a4, ?_, ?_⟩
  · intro hw
    unfold f_B_isWellFormed
    rw [xw_bn2_e a1, if_pos hw.1, xw_grd_t (by decide), xw_if_f (by decide), xw_jn_e, xw_jn_e]
    have e1 := (q_wf1 fu hB' a3 hw.1 (lo := lo) (me := me) (by rw [a2.2 _ _ (by unfold S_fi; omega), hlo]) hlr hme (fun (s22 : xw_S) => some (s22, (0 : Int))) (fun (s23 : xw_S) => xw_jn (fun (s66 : xw_S) => some (s66, (1 : Int))) (fun (k133 : xw_S → Option (xw_S × Int)) => xw_jn (fun (s65 : xw_S) => some (s65, 0)) (fun (k125 : xw_S → Option (xw_S × Int)) => lp_B_isWellFormed_46 fu b k125 k133 fu s23 0))) L 0 fu (by omega) (by omega)).1 hw.2.1
    have e2 := (q_wf2 fu hB' a3 hH' hN (fun (s65 : xw_S) => some (s65, (0 : Int))) (fun (s66 : xw_S) => some (s66, (1 : Int))) N 0 fu (by omega) (by omega)).1 hw.2.2
    exact e1.trans e2
  · intro hw
    unfold f_B_isWellFormed
    rw [xw_bn2_e a1]
    by_cases h1 : m_nx c L = (L : Int)
    · rw [if_pos h1, xw_grd_t (by decide), xw_if_f (by decide), xw_jn_e, xw_jn_e]
      have q1 := q_wf1 fu hB' a3 h1 (lo := lo) (me := me) (by rw [a2.2 _ _ (by unfold S_fi; omega), hlo]) hlr hme (fun (s22 : xw_S) => some (s22, (0 : Int))) (fun (s23 : xw_S) => xw_jn (fun (s66 : xw_S) => some (s66, (1 : Int))) (fun (k133 : xw_S → Option (xw_S × Int)) => xw_jn (fun (s65 : xw_S) => some (s65, 0)) (fun (k125 : xw_S → Option (xw_S × Int)) => lp_B_isWellFormed_46 fu b k125 k133 fu s23 0))) L 0 fu (by omega) (by omega)
      by_cases h2 : m_W1 c L lo me 0
      · have e2 := (q_wf2 fu hB' a3 hH' hN (fun (s65 : xw_S) => some (s65, (0 : Int))) (fun (s66 : xw_S) => some (s66, (1 : Int))) N 0 fu (by omega) (by omega)).2 (fun z => hw ⟨h1, h2, z⟩)
        exact (q1.1 h2).trans e2
      · exact q1.2 h2
    · rw [if_neg h1, xw_grd_t (by decide), xw_if_t rfl]
