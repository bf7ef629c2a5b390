/-! 88.a: before which places something is put: the reference's choose -/
def l_up (f : Nat → Int) (t : Int) (p : Nat) : Int := if (p : Int) = t then 1 else f p
/-- leaders, as found up to place k -/
def l_ld (M : m_M) : Nat → Nat → Int
  | 0, p => if p = 0 then 1 else 0
  | k + 1, p => if m_bg (Mc M) k then (if q_br (Mc M k) ∨ q_en (Mc M k) then l_up (if q_br (Mc M k) then l_up (l_ld M k) ((k : Int) + m_way (Mc M) (ML M) k) else l_ld M k) ((k : Int) + q_sz (Mc M k)) p else l_ld M k p) else l_ld M k p
def l_lh (M : m_M) : Nat → Nat → Int
  | 0, p => l_ld M (ML M) p
  | i + 1, p => l_up (l_lh M i) (Mh M (4 * i + 2)) p
def l_tr (M : m_M) (p : Nat) : Int := if p < ML M ∧ m_bg (Mc M) p ∧ Mc M p = 14 then 1 else 0
theorem l_up_r {f : Nat → Int} {t : Int} (h : ∀ p, f p = 0 ∨ f p = 1) (p : Nat) : l_up f t p = 0 ∨ l_up f t p = 1 := by
  unfold l_up
  split
  · exact Or.inr rfl
  · exact h p
theorem l_ld_r (M : m_M) : ∀ k p, l_ld M k p = 0 ∨ l_ld M k p = 1
  | 0, p => by unfold l_ld; split; exact Or.inr rfl; exact Or.inl rfl
  | k + 1, p => by
    have h := l_ld_r M k
    rw [l_ld]
    split
    · split
      · refine l_up_r (fun p => ?_) p
        split
        · exact l_up_r h p
        · exact h p
      · exact h p
    · exact h p
theorem l_lh_r (M : m_M) : ∀ k p, l_lh M k p = 0 ∨ l_lh M k p = 1
  | 0, p => l_ld_r M _ p
  | k + 1, p => l_up_r (l_lh_r M k) p
def S_17 : Nat → Nat → Prop := fun i _ => i = 17
/-- what of method q the reference's transforming reads -/
def r_C (M : m_M) (q : Nat) (s : xw_S) : Prop := r_M s q M ∧ ∀ p, p < ML M → s.1 14 p = if m_bg (Mc M) p then 1 else 0
theorem r_C_f {M : m_M} {q : Nat} {s s' : xw_S} {S : Nat → Nat → Prop} (h : r_C M q s) (hf : rfm S s s') (hS : ∀ i k, S i k → ¬ (2 ≤ i ∧ i ≤ 9) ∧ i ≠ 14) : r_C M q s' := by
  refine ⟨r_M_f h.1 hf (fun i k z => by have := hS i k z; omega), fun p hp => ?_⟩
  rw [hf _ _ (fun z => (hS _ _ z).2 rfl)]
  exact h.2 p hp
theorem r_ch2 (fu : Nat) {M : m_M} {q : Nat} {cv : Int} (hcv : cv = 0 ∨ cv = 1) : ∀ (dd k N : Nat) (s : xw_S), k + dd = 121 → dd < N → r_C M q s → ∃ s', (∀ K : xw_S → Option xw_S, lp_MD_choose_2 fu (q : Int) cv K N s (k : Int) = K s') ∧ frm S_17 s s' ∧ ∀ p, p < 121 → (k ≤ p → s'.1 17 p = if cv = 0 then l_tr M p else 0) ∧ (p < k → s'.1 17 p = s.1 17 p) := by
  intro dd
  induction dd with
  | zero =>
    intro k N s hk hN hC
    obtain ⟨N, rfl⟩ : ∃ n', N = n' + 1 := ⟨N - 1, by omega⟩
    exact ⟨s, fun K => by rw [lp_MD_choose_2, xw_grd_t ⟨by omega, by omega⟩, xw_if_t (by omega)], frm_rf _ _, fun p hp => ⟨fun z => by omega, fun _ => rfl⟩⟩
  | succ dd ih =>
    intro k N s hk hN hC
    obtain ⟨N, rfl⟩ : ∃ n', N = n' + 1 := ⟨N - 1, by omega⟩
    have hB := hC.1.1
    have hq := hB.1
    have hL := hB.2.1
    have f1 : ∀ v, frm S_17 s (xw_st s 17 k v) := fun v => frm_st rfl
    obtain ⟨s', g1, g2, g3⟩ := ih (k + 1) N (xw_st s 17 k (if cv = 0 then l_tr M k else 0)) (by omega) (by omega) (r_C_f hC (rfm_frm (f1 _)) (fun i k z => by unfold S_17 at z; omega))
    refine ⟨s', fun K => ?_, frm_tr (f1 _) g2, fun p hp => ⟨fun z => ?_, fun z => ?_⟩⟩
    · have fin : ∀ v : Int, (v = 0 ∨ v = 1) → v = (if cv = 0 then l_tr M k else 0) → xw_grd ((0 ≤ (k : Int) ∧ (k : Int) < ((121 : Nat) : Int)) ∧ (v = 0 ∨ v = 1)) (xw_let (xw_st s 17 ((k : Int)).toNat v) (fun s20 => xw_let ((k : Int) + 1) (fun v22 => lp_MD_choose_2 fu (q : Int) cv K N s20 v22))) = K s' := by
        intro v hv e
        rw [xw_grd_t ⟨by omega, hv⟩, xw_let_e, xw_let_e, Int.toNat_natCast, e]
        exact g1 K
      rw [lp_MD_choose_2, xw_grd_t ⟨by omega, by omega⟩, xw_if_f (by omega), xw_jn_e, xw_jn_e, xw_grd_t ⟨by omega, by omega⟩]
      by_cases c0 : cv = 0
      · rw [xw_if_t c0, xw_grd_t (by omega), Int.toNat_natCast, hB.2.2.1, xw_grd_t ⟨by omega, by omega⟩]
        by_cases c1 : (ML M : Int) ≤ (k : Int)
        · rw [xw_if_t c1]
          exact fin 0 (Or.inl rfl) (by rw [if_pos c0]; unfold l_tr; rw [if_neg (by omega)])
        · rw [xw_if_f c1, xw_grd_t (by omega), Int.toNat_natCast, hC.2 k (by omega)]
          by_cases hb : m_bg (Mc M) k
          · have hc := hB.2.2.2.2 k (by omega)
            rw [if_pos hb, xw_grd_t (by decide), xw_if_f (by decide), xw_bn2_e (q_MDop' fu hB (by omega)), xw_grd_t ⟨by omega, by omega⟩]
            by_cases h14 : Mc M k = 14
            · rw [xw_if_t h14]
              exact fin 1 (Or.inr rfl) (by rw [if_pos c0]; unfold l_tr; rw [if_pos ⟨by omega, hb, h14⟩])
            · rw [xw_if_f h14]
              exact fin 0 (Or.inl rfl) (by rw [if_pos c0]; unfold l_tr; rw [if_neg (fun z => h14 z.2.2)])
          · rw [if_neg hb, xw_grd_t (by decide), xw_if_t rfl]
            exact fin 0 (Or.inl rfl) (by rw [if_pos c0]; unfold l_tr; rw [if_neg (fun z => hb z.2.1)])
      · rw [xw_if_f c0]
        exact fin 0 (Or.inl rfl) (by rw [if_neg c0])
    · by_cases hpk : p = k
      · rw [(g3 p hp).2 (by omega), hpk, st_s]
      · exact (g3 p hp).1 (by omega)
    · rw [(g3 p hp).2 (by omega), st_k (by omega)]
theorem r_ch73 (fu : Nat) {M : m_M} {me : Int} {q : Nat} (hW : m_W M me) : ∀ (dd k N : Nat) (s : xw_S), k + dd = ML M → dd < N → r_C M q s → (∀ p, p < 121 → s.1 17 p = l_ld M k p) → ∃ s', (∀ K : xw_S → Option xw_S, lp_MD_choose_73 fu (q : Int) K N s (k : Int) = K s') ∧ frm S_17 s s' ∧ ∀ p, p < 121 → s'.1 17 p = l_ld M (ML M) p := by
  intro dd
  induction dd with
  | zero =>
    intro k N s hk hN hC h17
    obtain ⟨N, rfl⟩ : ∃ n', N = n' + 1 := ⟨N - 1, by omega⟩
    have hB := hC.1.1
    have hq := hB.1
    have hL := hB.2.1
    exact ⟨s, fun K => by rw [lp_MD_choose_73, xw_grd_t (by omega), Int.toNat_natCast, hB.2.2.1, xw_grd_t ⟨⟨by omega, by omega⟩, ⟨by omega, by omega⟩⟩, xw_if_t (by omega)], frm_rf _ _, by rw [← show k = ML M by omega]; exact h17⟩
  | succ dd ih =>
    intro k N s hk hN hC h17
    obtain ⟨N, rfl⟩ : ∃ n', N = n' + 1 := ⟨N - 1, by omega⟩
    have hB := hC.1.1
    have hq := hB.1
    have hL := hB.2.1
    have hck := hB.2.2.2.2 k (by omega)
    have h14 := hC.2 k (by omega)
    have hdr := r_C_f hC (s' := s) (S := S_17) (rfm_rf _ _) (fun i k z => by unfold S_17 at z; omega)
    -- the two stores
    have up : ∀ (z : xw_S) (f : Nat → Int) (t : Int), (∀ p, p < 121 → z.1 17 p = f p) → 0 ≤ t → ∀ p, p < 121 → (xw_st z 17 t.toNat 1).1 17 p = l_up f t p := by
      intro z f t hz ht p hp
      unfold l_up
      rw [st_e]
      by_cases hpt : (p : Int) = t
      · rw [if_pos ⟨rfl, by omega⟩, if_pos hpt]
      · rw [if_neg (fun y => hpt (by omega)), if_neg hpt]
        exact hz p hp
    by_cases hb : m_bg (Mc M) k
    · have hin := m_in hW.2.2.1 (by omega) hb
      have hwp := hW.2.2.2.1 k (by omega) hb
      rw [if_pos hb] at h14
      -- second half, from any state with the right array
      have half : ∀ (z : xw_S) (f : Nat → Int), frm S_17 s z → (∀ p, p < 121 → z.1 17 p = f p) → (∀ p, l_ld M (k + 1) p = if q_br (Mc M k) ∨ q_en (Mc M k) then l_up f ((k : Int) + q_sz (Mc M k)) p else f p) → ∃ s', (∀ K : xw_S → Option xw_S, (xw_grd ((0 ≤ (k : Int) ∧ (k : Int) < ((121 : Nat) : Int))) (xw_jn (fun (s71 : xw_S) (i3_158 : Int) => xw_let (i3_158 + 1) (fun v72 => lp_MD_choose_73 fu (q : Int) K N s71 v72))
     (fun (j158 : xw_S → Int → Option xw_S) => xw_grd (xw_r (z.1 14 ((k : Int)).toNat)) (xw_if (z.1 14 ((k : Int)).toNat = 0) (j158 z (k : Int))
     (xw_bn2 (f_MD_branches fu z (Mc M k)) (fun s54 r56 => xw_jn (fun (s64 : xw_S) (i3_145 : Int) (i4_145 : Int) => xw_bn2 (f_MD_sizeOf fu s64 i4_145) (fun s65 r67 => xw_grd ((0 ≤ i3_145 + r67 ∧ i3_145 + r67 < ((121 : Nat) : Int))) (xw_let (xw_st s65 17 (i3_145 + r67).toNat 1) (fun s69 => j158 s69 i3_145))))
     (fun (j145 : xw_S → Int → Int → Option xw_S) => xw_grd (xw_r r56) (xw_if (r56 = 0) (xw_bn2 (f_MD_ends fu s54 (Mc M k)) (fun s59 r61 => xw_grd (xw_r r61) (xw_if (r61 = 0) (j158 s59 (k : Int))
     (j145 s59 (k : Int) (Mc M k)))))
     (j145 s54 (k : Int) (Mc M k)))))))))) = K s') ∧ frm S_17 s s' ∧ ∀ p, p < 121 → s'.1 17 p = l_ld M (ML M) p := by
        intro z f hf hz hl
        have hCz := r_C_f hC (rfm_frm hf) (fun i k y => by unfold S_17 at y; omega)
        have z14 : z.1 14 k = 1 := by rw [hCz.2 k (by omega), if_pos hb]
        by_cases hbe : q_br (Mc M k) ∨ q_en (Mc M k)
        · obtain ⟨s', g1, g2, g3⟩ := ih (k + 1) N (xw_st z 17 ((k : Int) + q_sz (Mc M k)).toNat 1) (by omega) (by omega) (r_C_f hCz (rfm_frm (frm_st (S := S_17) rfl)) (fun i k y => by unfold S_17 at y; omega)) (fun p hp => by rw [hl p, if_pos hbe]; exact up z f _ hz (by omega) p hp)
          refine ⟨s', fun K => ?_, frm_tr (frm_tr hf (frm_st rfl)) g2, g3⟩
          rw [xw_grd_t (by omega), xw_jn_e, Int.toNat_natCast, z14, xw_grd_t (by decide), xw_if_f (by decide), xw_bn2_e (q_MDbr fu z ⟨by omega, by omega⟩), xw_jn_e]
          have tl : (fun (s64 : xw_S) (i3_145 : Int) (i4_145 : Int) => xw_bn2 (f_MD_sizeOf fu s64 i4_145) (fun s65 r67 => xw_grd ((0 ≤ i3_145 + r67 ∧ i3_145 + r67 < ((121 : Nat) : Int))) (xw_let (xw_st s65 17 (i3_145 + r67).toNat 1) (fun s69 => (fun (s71 : xw_S) (i3_158 : Int) => xw_let (i3_158 + 1) (fun v72 => lp_MD_choose_73 fu (q : Int) K N s71 v72)) s69 i3_145)))) z (k : Int) (Mc M k) = K s' := by
            dsimp only
            rw [xw_bn2_e (q_MDsz fu z ⟨by omega, by omega⟩), xw_grd_t (by omega), xw_let_e, xw_let_e]
            exact g1 K
          by_cases hbr : q_br (Mc M k)
          · rw [if_pos hbr, xw_grd_t (by decide), xw_if_f (by decide)]
            exact tl
          · rw [if_neg hbr, xw_grd_t (by decide), xw_if_t rfl, xw_bn2_e (q_MDen fu z ⟨by omega, by omega⟩), if_pos (hbe.resolve_left hbr), xw_grd_t (by decide), xw_if_f (by decide)]
            exact tl
        · obtain ⟨s', g1, g2, g3⟩ := ih (k + 1) N z (by omega) (by omega) hCz (fun p hp => by rw [hl p, if_neg hbe]; exact hz p hp)
          refine ⟨s', fun K => ?_, frm_tr hf g2, g3⟩
          rw [xw_grd_t (by omega), xw_jn_e, Int.toNat_natCast, z14, xw_grd_t (by decide), xw_if_f (by decide), xw_bn2_e (q_MDbr fu z ⟨by omega, by omega⟩), xw_jn_e, if_neg (fun y => hbe (Or.inl y)), xw_grd_t (by decide), xw_if_t rfl, xw_bn2_e (q_MDen fu z ⟨by omega, by omega⟩), if_neg (fun y => hbe (Or.inr y)), xw_grd_t (by decide), xw_if_t rfl]
          exact g1 K
      by_cases hbr : q_br (Mc M k)
      · have hpl := hwp.1 hbr
        have hpl1 := hpl.1
        have hpl2 := hpl.2.1
        obtain ⟨s', g1, g2, g3⟩ := half (xw_st s 17 ((k : Int) + m_way (Mc M) (ML M) k).toNat 1) (l_up (l_ld M k) ((k : Int) + m_way (Mc M) (ML M) k)) (frm_st rfl) (up s _ _ h17 hpl1) (fun p => by rw [l_ld, if_pos hb, if_pos (Or.inl hbr), if_pos hbr, if_pos (Or.inl hbr)])
        refine ⟨s', fun K => ?_, g2, g3⟩
        rw [lp_MD_choose_73, xw_grd_t (by omega), Int.toNat_natCast, hB.2.2.1, xw_grd_t ⟨⟨by omega, by omega⟩, ⟨by omega, by omega⟩⟩, xw_if_f (by omega), xw_bn2_e (q_MDop' fu hB (by omega)), xw_grd_t (by omega), xw_jn_e, Int.toNat_natCast, h14, xw_grd_t (by decide), xw_if_f (by decide), xw_bn2_e (q_MDbr fu s ⟨by omega, by omega⟩), if_pos hbr, xw_grd_t (by decide), xw_if_f (by decide), xw_bn2_e (q_target fu hB hbr hin.2), xw_grd_t (by omega), xw_let_e]
        exact g1 K
      · obtain ⟨s', g1, g2, g3⟩ := half s (l_ld M k) (frm_rf _ _) h17 (fun p => by rw [l_ld, if_pos hb, if_neg hbr])
        refine ⟨s', fun K => ?_, g2, g3⟩
        rw [lp_MD_choose_73, xw_grd_t (by omega), Int.toNat_natCast, hB.2.2.1, xw_grd_t ⟨⟨by omega, by omega⟩, ⟨by omega, by omega⟩⟩, xw_if_f (by omega), xw_bn2_e (q_MDop' fu hB (by omega)), xw_grd_t (by omega), xw_jn_e, Int.toNat_natCast, h14, xw_grd_t (by decide), xw_if_f (by decide), xw_bn2_e (q_MDbr fu s ⟨by omega, by omega⟩), if_neg hbr, xw_grd_t (by decide), xw_if_t rfl]
        rw [← Int.toNat_natCast k] at h14
        exact g1 K
    · rw [if_neg hb] at h14
      obtain ⟨s', g1, g2, g3⟩ := ih (k + 1) N s (by omega) (by omega) hC (fun p hp => by rw [l_ld, if_neg hb]; exact h17 p hp)
      refine ⟨s', fun K => ?_, g2, g3⟩
      rw [lp_MD_choose_73, xw_grd_t (by omega), Int.toNat_natCast, hB.2.2.1, xw_grd_t ⟨⟨by omega, by omega⟩, ⟨by omega, by omega⟩⟩, xw_if_f (by omega), xw_bn2_e (q_MDop' fu hB (by omega)), xw_grd_t (by omega), xw_jn_e, Int.toNat_natCast, h14, xw_grd_t (by decide), xw_if_t rfl]
      dsimp only
      rw [xw_grd_t (by omega), xw_jn_e, Int.toNat_natCast, h14, xw_grd_t (by decide), xw_if_t rfl]
      exact g1 K
theorem r_ch166 (fu : Nat) {M : m_M} {q : Nat} : ∀ (dd k N : Nat) (s : xw_S), k + dd = MN M → dd < N → r_C M q s → (∀ i, i < MN M → 0 ≤ Mh M (4 * i + 2) ∧ Mh M (4 * i + 2) < 121) → (∀ p, p < 121 → s.1 17 p = l_lh M k p) → ∃ s', (∀ K : xw_S → Option xw_S, lp_MD_choose_166 fu (q : Int) K N s (k : Int) = K s') ∧ frm S_17 s s' ∧ ∀ p, p < 121 → s'.1 17 p = l_lh M (MN M) p := by
  intro dd
  induction dd with
  | zero =>
    intro k N s hk hN hC hh h17
    obtain ⟨N, rfl⟩ : ∃ n', N = n' + 1 := ⟨N - 1, by omega⟩
    have hH := hC.1.2.1
    have hq := hH.1
    have hNN := hH.2.1
    exact ⟨s, fun K => by rw [lp_MD_choose_166, xw_grd_t (by omega), Int.toNat_natCast, hH.2.2.1, xw_grd_t ⟨⟨by omega, by omega⟩, ⟨by omega, by omega⟩⟩, xw_if_t (by omega)], frm_rf _ _, by rw [← show k = MN M by omega]; exact h17⟩
  | succ dd ih =>
    intro k N s hk hN hC hh h17
    obtain ⟨N, rfl⟩ : ∃ n', N = n' + 1 := ⟨N - 1, by omega⟩
    have hH := hC.1.2.1
    have hq := hH.1
    have hNN := hH.2.1
    have hk2 := hh k (by omega)
    have v2 := hH.2.2.2.1 (4 * k + 2) (by omega)
    obtain ⟨s', g1, g2, g3⟩ := ih (k + 1) N (xw_st s 17 (Mh M (4 * k + 2)).toNat 1) (by omega) (by omega) (r_C_f hC (rfm_frm (frm_st (S := S_17) rfl)) (fun i k y => by unfold S_17 at y; omega)) hh (fun p hp => by
      rw [l_lh]
      unfold l_up
      rw [st_e]
      by_cases hpt : (p : Int) = Mh M (4 * k + 2)
      · rw [if_pos ⟨rfl, by omega⟩, if_pos hpt]
      · rw [if_neg (fun y => hpt (by omega)), if_neg hpt]
        exact h17 p hp)
    refine ⟨s', fun K => ?_, frm_tr (frm_st rfl) g2, g3⟩
    rw [lp_MD_choose_166, xw_grd_t (by omega), Int.toNat_natCast, hH.2.2.1, xw_grd_t ⟨⟨by omega, by omega⟩, ⟨by omega, by omega⟩⟩, xw_if_f (by omega), xw_grd_t (by omega), show ((20 * (q : Int)) + (4 * (k : Int)) + 2).toNat = 20 * q + (4 * k + 2) by omega, v2, xw_grd_t (by omega), xw_let_e, xw_let_e]
    exact g1 K
/-- whether something is put before p -/
def l_pu (M : m_M) (cv : Int) (p : Nat) : Int := if cv = 0 then l_tr M p else l_lh M (MN M) p
theorem q_choose (fu : Nat) (hfu : 1000 ≤ fu) {M : m_M} {me : Int} {q : Nat} {cv : Int} (hcv : cv = 0 ∨ cv = 1) {s : xw_S} (hW : m_W M me) (hC : r_C M q s) : ∃ s', f_MD_choose fu s (q : Int) cv = some s' ∧ frm S_17 s s' ∧ ∀ p, p < ML M → s'.1 17 p = l_pu M cv p := by
  have hL := hW.1
  have hq := hC.1.1.1
  obtain ⟨s1, a1, a2, a3⟩ := r_ch2 fu (M := M) (q := q) hcv 121 0 fu s (by omega) (by omega) hC
  have a1' : ∀ K : xw_S → Option xw_S, lp_MD_choose_2 fu (q : Int) cv K fu s 0 = K s1 := a1
  by_cases c0 : cv = 0
  · refine ⟨s1, ?_, a2, fun p hp => ?_⟩
    · unfold f_MD_choose
      rw [xw_jn_e, a1', xw_grd_t ⟨by omega, by omega⟩, xw_if_t c0]
    · rw [(a3 p (by omega)).1 (Nat.zero_le _), if_pos c0]
      unfold l_pu
      rw [if_pos c0]
  · have hC1 := r_C_f hC (rfm_frm a2) (fun i k y => by unfold S_17 at y; omega)
    have hC2 := r_C_f hC1 (rfm_frm (frm_st (S := S_17) (k := 0) (v := 1) rfl)) (fun i k y => by unfold S_17 at y; omega)
    obtain ⟨s2, b1, b2, b3⟩ := r_ch73 fu hW (ML M) 0 fu (xw_st s1 17 0 1) (by omega) (by omega) hC2 (fun p hp => by
      by_cases hp0 : p = 0
      · rw [hp0, st_s]; rfl
      · rw [st_k hp0, (a3 p hp).1 (Nat.zero_le _), if_neg c0, l_ld, if_neg hp0])
    have b1' : ∀ K : xw_S → Option xw_S, lp_MD_choose_73 fu (q : Int) K fu (xw_st s1 17 (0 : Int).toNat 1) 0 = K s2 := b1
    have hC3 := r_C_f hC2 (rfm_frm b2) (fun i k y => by unfold S_17 at y; omega)
    obtain ⟨s3, d1, d2, d3⟩ := r_ch166 fu (M := M) (q := q) (MN M) 0 fu s2 (by omega) (by omega) hC3 (fun i hi => by
      have := (hW.2.2.2.2 i hi).2.2
      have h1 := this.1
      have h2 := this.2.1
      omega) b3
    have d1' : ∀ K : xw_S → Option xw_S, lp_MD_choose_166 fu (q : Int) K fu s2 0 = K s3 := d1
    have hlen : s3.1 6 q = (ML M : Int) := by rw [d2.2 _ _ (by unfold S_17; omega), b2.2 _ _ (by unfold S_17; omega), st_i (by decide), a2.2 _ _ (by unfold S_17; omega)]; exact hC.1.1.2.2.1
    refine ⟨xw_st s3 17 (ML M) 0, ?_, frm_tr (frm_tr (frm_tr (frm_tr a2 (frm_st rfl)) b2) d2) (frm_st rfl), fun p hp => ?_⟩
    · unfold f_MD_choose
      rw [xw_jn_e, a1', xw_grd_t ⟨by omega, by omega⟩, xw_if_f c0, xw_let_e, xw_jn_e, b1', xw_jn_e, d1', xw_grd_t (by omega), Int.toNat_natCast, hlen, xw_grd_t (by omega), xw_let_e, Int.toNat_natCast]
    · rw [st_k (by omega), d3 p (by omega)]
      unfold l_pu
      rw [if_neg c0]
