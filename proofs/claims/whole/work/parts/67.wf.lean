/-! 67: isWellFormed -/
theorem m_in {c : Nat → Int} {L p : Nat} (h : m_nx c L = (L : Int)) (hp : p < L) (hb : m_bg c p) : 0 < q_sz (c p) ∧ (p : Int) + q_sz (c p) ≤ (L : Int) := by
  have hs := q_sz_r (c p)
  have hin := m_nx_in c hb
  refine ⟨?_, ?_⟩
  · apply Int.lt_of_not_ge
    intro hz
    have := hin (L - p - 1) (Or.inr (Or.inl (by omega)))
    rw [show p + (L - p - 1) + 1 = L by omega] at this
    omega
  · apply Int.le_of_not_gt
    intro hz
    have := hin (L - p - 1) (Or.inl (by omega))
    rw [show p + (L - p - 1) + 1 = L by omega] at this
    omega
theorem q_sz_32 {op : Int} (h : 0 < q_sz op) : 0 ≤ op ∧ op ≤ 32 := by
  unfold q_sz at h
  repeat' split at h
  all_goals omega
def m_W1 (c : Nat → Int) (L : Nat) (lo me : Int) (k : Nat) : Prop := ∀ p : Nat, k ≤ p → p < L → m_bg c p → m_nh c L lo me p
theorem q_wf1 (fu : Nat) {s : xw_S} {b : Nat} {c : Nat → Int} {L : Nat} (h : cB s b c L) (hd : cD0 s b c L) (hd1 : m_nx c L = (L : Int)) {lo me : Int} (hlo : s.1 (48 + 4 * b) 6 = lo) (hlr : xw_r lo) (hme : xw_r me) (K0 K1 : xw_S → Option (xw_S × Int)) : ∀ (d k n : Nat), k + d = L → d < n → (m_W1 c L lo me k → lp_B_isWellFormed_11 fu b me K0 K1 n s (k : Int) = K1 s) ∧ (¬ m_W1 c L lo me k → lp_B_isWellFormed_11 fu b me K0 K1 n s (k : Int) = K0 s) := by
  have hL := h.2.1
  have hcap := xb_cap_le b
  have hlen := h.2.2.1
  intro d
  induction d with
  | zero =>
    intro k n hk hn
    obtain ⟨n, rfl⟩ : ∃ n', n = n' + 1 := ⟨n - 1, by omega⟩
    have e : lp_B_isWellFormed_11 fu b me K0 K1 (n + 1) s (k : Int) = K1 s := by
      rw [lp_B_isWellFormed_11, hlen, xw_grd_t ⟨⟨by omega, by omega⟩, ⟨by omega, by omega⟩⟩, xw_if_t (by omega)]
    exact ⟨fun _ => e, fun z => absurd (fun p h1 h2 => by omega) z⟩
  | succ d ih =>
    intro k n hk hn
    obtain ⟨n, rfl⟩ : ∃ n', n = n' + 1 := ⟨n - 1, by omega⟩
    obtain ⟨i1, i2⟩ := ih (k + 1) n (by omega) (by omega)
    have es : lp_B_isWellFormed_11 fu b me K0 K1 (n + 1) s (k : Int) = if m_bg c k ∧ ¬ m_nh c L lo me k then K0 s else lp_B_isWellFormed_11 fu b me K0 K1 n s ((k + 1 : Nat) : Int) := by
      rw [lp_B_isWellFormed_11, hlen, xw_grd_t ⟨⟨by omega, by omega⟩, ⟨by omega, by omega⟩⟩, xw_if_f (by omega), xw_bn2_e (q_begins0 fu h hd ⟨by omega, by omega⟩), xw_jn_e]
      by_cases hb : m_bg c k
      · rw [if_pos (show m_pl c L (k : Int) from ⟨by omega, by omega, by rw [Int.toNat_natCast]; exact hb⟩), xw_grd_t (by decide), xw_if_f (by decide), xw_bn2_e (q_numbers fu h hd hlo hlr hme (by omega) (q_sz_32 (m_in hd1 (by omega) hb).1).2)]
        by_cases hn : m_nh c L lo me k
        · rw [if_pos hn, xw_grd_t (by decide), xw_if_f (by decide), if_neg (fun z => z.2 hn)]
          rfl
        · rw [if_neg hn, xw_grd_t (by decide), xw_if_t rfl, if_pos ⟨hb, hn⟩]
      · rw [if_neg (show ¬ m_pl c L (k : Int) from fun z => hb (by have := z.2.2; rwa [Int.toNat_natCast] at this)), xw_grd_t (by decide), xw_if_t rfl, if_neg (fun z => hb z.1)]
        rfl
    rw [es]
    by_cases hx : m_bg c k ∧ ¬ m_nh c L lo me k
    · rw [if_pos hx]
      exact ⟨fun z => absurd (z k (Nat.le_refl _) (by omega) hx.1) hx.2, fun _ => rfl⟩
    · rw [if_neg hx]
      have hk1 : m_W1 c L lo me k ↔ m_W1 c L lo me (k + 1) := by
        constructor
        · exact fun z p h1 h2 => z p (by omega) h2
        · intro z p h1 h2 h3
          by_cases hpk : p = k
          · subst hpk
            by_cases h4 : m_nh c L lo me p
            · exact h4
            · exact absurd ⟨h3, h4⟩ hx
          · exact z p (by omega) h2 h3
      rw [hk1]
      exact ⟨i1, i2⟩
/-- what WELL FORMED asks of a handler -/
abbrev m_hh (c : Nat → Int) (L : Nat) (hd : Nat → Int) (i : Nat) : Prop := (hd (4 * i) < hd (4 * i + 1) ∧ (hd (4 * i + 1) = (L : Int) ∨ m_pl c L (hd (4 * i + 1)))) ∧ m_pl c L (hd (4 * i)) ∧ m_pl c L (hd (4 * i + 2))
def q_w92 (fu b : Nat) (K0 K1 : xw_S → Option (xw_S × Int)) (n : Nat) (s44 : xw_S) (i t : Int) : Option (xw_S × Int) := xw_bn2 (f_B_part fu s44 b i 0) (fun s45 r47 => xw_bn2 (f_B_begins fu s45 b r47) (fun s48 r50 => xw_grd (xw_r r50) (xw_if (r50 = 0) (K0 s48)
     (xw_bn2 (f_B_part fu s48 b i 2) (fun s53 r55 => xw_bn2 (f_B_begins fu s53 b r55) (fun s56 r58 => xw_grd (xw_r r58) (xw_if (r58 = 0) (K0 s56)
     (xw_grd (xw_r t) (xw_if (t = 0) (K0 s56)
     (xw_let (i + 1) (fun v63 => lp_B_isWellFormed_46 fu b K0 K1 n s56 v63)))))))))))
theorem q_w46 (fu b : Nat) (K0 K1 : xw_S → Option (xw_S × Int)) (n : Nat) (s : xw_S) (i : Int) : lp_B_isWellFormed_46 fu b K0 K1 (n + 1) s i = xw_grd (xw_r i ∧ xw_r (s.1 (48 + 4 * b) 9)) (xw_if (s.1 (48 + 4 * b) 9 ≤ i) (K1 s) (xw_bn2 (f_B_part fu s b i 1) (fun s27 r29 => xw_bn2 (f_B_part fu s27 b i 0) (fun s30 r32 => xw_grd (xw_r r29 ∧ xw_r r32) (xw_if (r29 ≤ r32) (q_w92 fu b K0 K1 n s30 i 0) (xw_grd (xw_r (s30.1 (48 + 4 * b) 8)) (xw_if (r29 = s30.1 (48 + 4 * b) 8) (q_w92 fu b K0 K1 n s30 i 1) (xw_bn2 (f_B_begins fu s30 b r29) (fun s37 r39 => xw_grd (xw_r r39) (xw_if (r39 = 0) (q_w92 fu b K0 K1 n s37 i 0) (q_w92 fu b K0 K1 n s37 i 1))))))))))) := rfl
