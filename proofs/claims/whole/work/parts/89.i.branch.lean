/-! 89.i: branches, marks, probes -/
def k_go (fu : Nat) (q f : Int) (s24 : xw_S) : Option xw_S := xw_grd ((0 ≤ f ∧ f < ((8 : Nat) : Int))) (xw_bn2 (f_MD_target fu s24 q (s24.1 23 (f).toNat)) (fun s26 r28 => xw_grd ((0 ≤ f ∧ f < ((8 : Nat) : Int))) (xw_let (xw_st s26 23 (f).toNat r28) (fun s31 => some s31))))
def k_nx (fu : Nat) (f op : Int) (s19 : xw_S) : Option xw_S := xw_grd ((0 ≤ f ∧ f < ((8 : Nat) : Int))) (xw_bn2 (f_MD_sizeOf fu s19 op) (fun s21 r23 => xw_grd ((0 ≤ f ∧ f < ((8 : Nat) : Int))) (xw_let (xw_st s21 23 (f).toNat ((s19.1 23 (f).toNat) + r23)) (fun s31 => some s31))))
def k_bb (fu : Nat) (q f op : Int) (s : xw_S) (v r : Int) : Option xw_S := xw_grd (xw_r v) (xw_if (v = 2) (xw_grd (xw_r r) (xw_if (0 ≤ r) (k_nx fu f op s) (k_go fu q f s))) (k_nx fu f op s))
def k_ba (fu : Nat) (q f op : Int) (s : xw_S) (v r : Int) : Option xw_S := xw_grd (xw_r v) (xw_if (v = 0) (k_go fu q f s) (xw_if (v = 1) (xw_grd (xw_r r) (xw_if (r = 0) (k_go fu q f s) (k_bb fu q f op s v r))) (k_bb fu q f op s v r)))
theorem k_br (fu : Nat) (s : xw_S) (q f op : Int) : f_MD_branch fu s q f op = xw_let (xw_rm op 10) (fun v1 => xw_grd (xw_r v1) (xw_if (v1 = 0) (k_ba fu q f op s v1 0) (xw_bn2 (f_MD_pop fu s) (fun s5 r7 => k_ba fu q f op s5 v1 r7)))) := rfl
theorem z_rm10 : xw_rm 10 10 = 0 ∧ xw_rm 11 10 = 1 ∧ xw_rm 12 10 = 2 ∧ xw_rm 20 10 = 0 ∧ xw_rm 21 10 = 1 ∧ xw_rm 22 10 = 2 := by decide +kernel
section
variable {a qb : Nat} {σ ρ : xw_S} {f m p h b q : Nat} {M : m_M}
theorem x_rb (fu : Nat) (s : xw_S) (fI qI : Int) {o : Int} (ho : q_br o) : k_r69 fu s fI qI o = xw_bnd (f_MD_branch fu s qI fI o) (fun s61 => some s61) := by
  have ho' : xw_r o := by unfold q_br q_sb q_wb at ho; exact ⟨by omega, by omega⟩
  unfold k_r69
  rw [xw_bn2_e (q_MDbr fu s ho'), if_pos ho, xw_grd_t (by decide), xw_if_f (by decide)]
/-- going to the target, on both sides -/
theorem x_tgt (fu : Nat) (hF : x_F qb σ ρ f m p h) (hf : f < 8) (hC : c_M σ b M) (hR : r_M ρ q M) (hL : ML M ≤ 120) (hp : p < ML M) (hbr : q_br (Mc M p)) (hz : (p : Int) + q_sz (Mc M p) ≤ ML M) (ht : 0 ≤ (p : Int) + m_way (Mc M) (ML M) p) : f_B_wayAt fu σ b (σ.1 (24 + 3 * f) 4) = some (σ, m_way (Mc M) (ML M) p) ∧ k_go fu (q : Int) (f : Int) ρ = some (xw_st ρ 23 f ((((p : Int) + m_way (Mc M) (ML M) p).toNat : Nat) : Int)) := by
  refine ⟨by rw [hF.1.2.1]; exact q_wayAt fu hC.1 ⟨by omega, by omega⟩, ?_⟩
  unfold k_go
  rw [xw_grd_t (by omega), Int.toNat_natCast, hF.2.1.2.1, xw_bn2_e (q_target fu hR.1 hbr hz), xw_grd_t (by omega), show ((((p : Int) + m_way (Mc M) (ML M) p).toNat : Nat) : Int) = (p : Int) + m_way (Mc M) (ML M) p by omega]
  rfl
theorem x_nxt (fu : Nat) (hF : x_F qb σ ρ f m p h) (hf : f < 8) {o : Int} (ho : xw_r o) : k_nx fu (f : Int) o ρ = some (xw_st ρ 23 f ((p + (q_sz o).toNat : Nat) : Int)) := by
  have hz := q_sz_r o
  unfold k_nx
  rw [xw_grd_t (by omega), xw_bn2_e (q_MDsz fu ρ ho), xw_grd_t (by omega), Int.toNat_natCast, hF.2.1.2.1, show (p : Int) + q_sz o = ((p + (q_sz o).toNat : Nat) : Int) by omega]
  rfl
theorem x_goto (fu : Nat) (hF : x_F qb σ ρ f m p h) (hf : f < 8) (hC : c_M σ b M) (hR : r_M ρ q M) (hL : ML M ≤ 120) (hp : p < ML M) (ho : Mc M p = 10 ∨ Mc M p = 20) (hz : (p : Int) + q_sz (Mc M p) ≤ ML M) (ht : 0 ≤ (p : Int) + m_way (Mc M) (ML M) p) : x_1 fu a qb σ ρ f m p b q (Mc M p) ((p : Int) + m_way (Mc M) (ML M) p).toNat h := by
  have hbr : q_br (Mc M p) := by unfold q_br q_sb q_wb; omega
  obtain ⟨t1, t2⟩ := x_tgt fu hF hf hC hR hL hp hbr hz ht
  refine ⟨xw_st σ (24 + 3 * f) 4 ((((p : Int) + m_way (Mc M) (ML M) p).toNat : Nat) : Int), _, ?_, ?_, x_go hF _, X_c4 _, X_r4 _⟩
  · have e : k_c65 fu a σ f b (Mc M p) = xw_bn2 (xw_bn2 (f_B_wayAt fu σ b (σ.1 (24 + 3 * f) 4)) (fun s135 r137 => some (s135, r137))) (fun s25 r27 => xw_let (xw_st s25 (24 + 3 * f) 4 ((σ.1 (24 + 3 * f) 4) + r27)) (fun s28 => some s28)) := by
      rcases ho with z | z <;> rw [z] <;> rfl
    rw [e, xw_bn2_e t1, xw_bn2_e rfl, hF.1.2.1, show ((((p : Int) + m_way (Mc M) (ML M) p).toNat : Nat) : Int) = (p : Int) + m_way (Mc M) (ML M) p by omega]
    rfl
  · rw [x_rb fu ρ (f : Int) (q : Int) hbr, k_br, xw_let_e]
    have e : xw_rm (Mc M p) 10 = 0 := by rcases ho with z | z <;> rw [z]; exact z_rm10.1; exact z_rm10.2.2.2.1
    rw [e, xw_grd_t (by decide), xw_if_t rfl]
    unfold k_ba
    rw [xw_grd_t (by decide), xw_if_t rfl, xw_bnd_e t2]
theorem x_cond (fu : Nat) (hF : x_F qb σ ρ f m p (h + 1)) (hf : f < 8) (hu : ρ.1 0 31 = ((f + 1 : Nat) : Int)) (hh : h < 8) (hC : c_M σ b M) (hR : r_M ρ q M) (hL : ML M ≤ 120) (hp : p < ML M) (ho : (Mc M p = 11 ∨ Mc M p = 21) ∨ (Mc M p = 12 ∨ Mc M p = 22)) (hz : (p : Int) + q_sz (Mc M p) ≤ ML M) (ht : 0 ≤ (p : Int) + m_way (Mc M) (ML M) p) : x_1 fu a qb σ ρ f m p b q (Mc M p) ((p : Int) + m_way (Mc M) (ML M) p).toNat h ∨ x_1 fu a qb σ ρ f m p b q (Mc M p) (p + (q_sz (Mc M p)).toNat) h := by
  have hbr : q_br (Mc M p) := by unfold q_br q_sb q_wb; omega
  have hor : xw_r (Mc M p) := ⟨by omega, by omega⟩
  have hzr := q_sz_r (Mc M p)
  obtain ⟨σ1, ρ1, v, a1, a2, av, a3, a4, a5⟩ := x_pop fu hF hf hh hu
  have hC1 := c_M_f (S := X_c f) hC a4 (fun i k z => by have := hC.1.1; unfold X_c at z; omega)
  have hR1 := r_M_f (S := X_r f) hR (rfm_frm a5) (fun i k z => by unfold X_r at z; omega)
  obtain ⟨t1, t2⟩ := x_tgt fu a3 hf hC1 hR1 hL hp hbr hz ht
  have n2 := x_nxt fu a3 hf hor
  have goes : (∀ (K : Option xw_S), k_c65 fu a σ f b (Mc M p) = some (xw_st σ1 (24 + 3 * f) 4 ((((p : Int) + m_way (Mc M) (ML M) p).toNat : Nat) : Int))) → f_MD_branch fu ρ (q : Int) (f : Int) (Mc M p) = k_go fu (q : Int) (f : Int) ρ1 → x_1 fu a qb σ ρ f m p b q (Mc M p) ((p : Int) + m_way (Mc M) (ML M) p).toNat h := by
    intro e1 e2
    refine ⟨_, _, e1 none, ?_, x_go a3 _, frm_tr a4 (X_c4 _), frm_tr a5 (X_r4 _)⟩
    rw [x_rb fu ρ (f : Int) (q : Int) hbr, e2, xw_bnd_e t2]
  have nexts : (k_c65 fu a σ f b (Mc M p) = some (xw_st σ1 (24 + 3 * f) 4 ((p + (q_sz (Mc M p)).toNat : Nat) : Int))) → f_MD_branch fu ρ (q : Int) (f : Int) (Mc M p) = k_nx fu (f : Int) (Mc M p) ρ1 → x_1 fu a qb σ ρ f m p b q (Mc M p) (p + (q_sz (Mc M p)).toNat) h := by
    intro e1 e2
    refine ⟨_, _, e1, ?_, x_go a3 _, frm_tr a4 (X_c4 _), frm_tr a5 (X_r4 _)⟩
    rw [x_rb fu ρ (f : Int) (q : Int) hbr, e2, xw_bnd_e n2]
  have ew : xw_bn2 (xw_bn2 (f_B_wayAt fu σ1 b (σ1.1 (24 + 3 * f) 4)) (fun s135 r137 => some (s135, r137))) (fun s25 r27 => xw_let (xw_st s25 (24 + 3 * f) 4 ((σ.1 (24 + 3 * f) 4) + r27)) (fun s28 => some s28)) = some (xw_st σ1 (24 + 3 * f) 4 ((((p : Int) + m_way (Mc M) (ML M) p).toNat : Nat) : Int)) := by
    rw [xw_bn2_e t1, xw_bn2_e rfl, hF.1.2.1, show ((((p : Int) + m_way (Mc M) (ML M) p).toNat : Nat) : Int) = (p : Int) + m_way (Mc M) (ML M) p by omega]
    rfl
  have es : xw_bn2 (xw_bn2 (f_OP_size fu σ1 (Mc M p)) (fun s132 r134 => some (s132, r134))) (fun s25 r27 => xw_let (xw_st s25 (24 + 3 * f) 4 ((σ.1 (24 + 3 * f) 4) + r27)) (fun s28 => some s28)) = some (xw_st σ1 (24 + 3 * f) 4 ((p + (q_sz (Mc M p)).toNat : Nat) : Int)) := by
    rw [xw_bn2_e (q_OPsize fu σ1 hor), xw_bn2_e rfl, hF.1.2.1, show ((p + (q_sz (Mc M p)).toNat : Nat) : Int) = (p : Int) + q_sz (Mc M p) by omega]
    rfl
  rcases ho with ho | ho
  · have e : k_c65 fu a σ f b (Mc M p) = xw_bn2 (xw_bn2 (f_FR_pop fu σ f) (fun s105 r107 => xw_grd (xw_r r107) (xw_if (r107 = 0) (xw_bn2 (f_B_wayAt fu s105 b (s105.1 (24 + 3 * f) 4)) (fun s135 r137 => some (s135, r137))) (xw_bn2 (f_OP_size fu s105 (Mc M p)) (fun s132 r134 => some (s132, r134)))))) (fun s25 r27 => xw_let (xw_st s25 (24 + 3 * f) 4 ((σ.1 (24 + 3 * f) 4) + r27)) (fun s28 => some s28)) := by
      rcases ho with z | z <;> rw [z] <;> rfl
    have er : f_MD_branch fu ρ (q : Int) (f : Int) (Mc M p) = k_ba fu (q : Int) (f : Int) (Mc M p) ρ1 1 v := by
      have e1 : xw_rm (Mc M p) 10 = 1 := by rcases ho with z | z <;> rw [z]; exact z_rm10.2.1; exact z_rm10.2.2.2.2.1
      rw [k_br, xw_let_e, e1, xw_grd_t (by decide), xw_if_f (by decide), xw_bn2_e a2]
    rw [xw_bn2_e a1, xw_grd_t av] at e
    unfold k_ba at er
    rw [xw_grd_t (by decide), xw_if_f (by decide), xw_if_t rfl, xw_grd_t av] at er
    by_cases c0 : v = 0
    · left
      rw [xw_if_t c0] at e er
      exact goes (fun _ => e.trans ew) er
    · right
      rw [xw_if_f c0] at e er
      unfold k_bb at er
      rw [xw_grd_t (by decide), xw_if_f (by decide)] at er
      exact nexts (e.trans es) er
  · have e : k_c65 fu a σ f b (Mc M p) = xw_bn2 (xw_bn2 (f_FR_pop fu σ f) (fun s105 r107 => xw_grd (xw_r r107) (xw_if (0 ≤ r107) (xw_bn2 (f_OP_size fu s105 (Mc M p)) (fun s132 r134 => some (s132, r134))) (xw_bn2 (f_B_wayAt fu s105 b (s105.1 (24 + 3 * f) 4)) (fun s135 r137 => some (s135, r137)))))) (fun s25 r27 => xw_let (xw_st s25 (24 + 3 * f) 4 ((σ.1 (24 + 3 * f) 4) + r27)) (fun s28 => some s28)) := by
      rcases ho with z | z <;> rw [z] <;> rfl
    have er : f_MD_branch fu ρ (q : Int) (f : Int) (Mc M p) = k_ba fu (q : Int) (f : Int) (Mc M p) ρ1 2 v := by
      have e1 : xw_rm (Mc M p) 10 = 2 := by rcases ho with z | z <;> rw [z]; exact z_rm10.2.2.1; exact z_rm10.2.2.2.2.2
      rw [k_br, xw_let_e, e1, xw_grd_t (by decide), xw_if_f (by decide), xw_bn2_e a2]
    rw [xw_bn2_e a1, xw_grd_t av] at e
    unfold k_ba at er
    rw [xw_grd_t (by decide), xw_if_f (by decide), xw_if_f (by decide)] at er
    unfold k_bb at er
    rw [xw_grd_t (by decide), xw_if_t rfl, xw_grd_t av] at er
    by_cases c0 : 0 ≤ v
    · right
      rw [xw_if_t c0] at e er
      exact nexts (e.trans es) er
    · left
      rw [xw_if_f c0] at e er
      exact goes (fun _ => e.trans ew) er
end
/-! what a run counts -/
def x_V (fuel us mk : Int) (σ ρ : xw_S) : Prop := σ.1 17 4 = fuel ∧ (σ.1 17 7 = us ∧ ρ.1 0 39 = us) ∧ (0 ≤ us ∧ us ≤ fuel ∧ fuel ≤ 1000) ∧ (σ.1 17 8 = mk ∧ ρ.1 0 40 = mk ∧ 0 ≤ mk ∧ mk ≤ 1500000) ∧ (∀ k : Nat, k < 100 → (k : Int) < mk → σ.1 19 k = ρ.1 27 k) ∧ (∀ m p : Nat, m < 4 → p < 40 → σ.1 20 (40 * m + p) = ρ.1 28 (256 * m + p)) ∧ (∀ m p : Nat, m < 4 → 40 ≤ p → p < 256 → ρ.1 28 (256 * m + p) = 0)
theorem x_V_f {fuel us mk : Int} {σ ρ σ' ρ' : xw_S} {S T : Nat → Nat → Prop} (h : x_V fuel us mk σ ρ) (hf : frm S σ σ') (hg : frm T ρ ρ') (hS : ∀ i k, S i k → ¬ (i = 17 ∧ (k = 4 ∨ k = 7 ∨ k = 8)) ∧ i ≠ 19 ∧ i ≠ 20) (hT : ∀ i k, T i k → ¬ (i = 0 ∧ (k = 39 ∨ k = 40)) ∧ i ≠ 27 ∧ i ≠ 28) : x_V fuel us mk σ' ρ' := by
  obtain ⟨a1, ⟨a2, a3⟩, a4, ⟨b1, b2, b3⟩, c1, c2, c3⟩ := h
  have n1 : ∀ k, (k = 4 ∨ k = 7 ∨ k = 8) → σ'.1 17 k = σ.1 17 k := fun k hk => hf.2 _ _ (fun z => (hS _ _ z).1 ⟨rfl, hk⟩)
  have n2 : ∀ k, σ'.1 19 k = σ.1 19 k := fun k => hf.2 _ _ (fun z => (hS _ _ z).2.1 rfl)
  have n3 : ∀ k, σ'.1 20 k = σ.1 20 k := fun k => hf.2 _ _ (fun z => (hS _ _ z).2.2 rfl)
  have m1 : ∀ k, (k = 39 ∨ k = 40) → ρ'.1 0 k = ρ.1 0 k := fun k hk => hg.2 _ _ (fun z => (hT _ _ z).1 ⟨rfl, hk⟩)
  have m2 : ∀ k, ρ'.1 27 k = ρ.1 27 k := fun k => hg.2 _ _ (fun z => (hT _ _ z).2.1 rfl)
  have m3 : ∀ k, ρ'.1 28 k = ρ.1 28 k := fun k => hg.2 _ _ (fun z => (hT _ _ z).2.2 rfl)
  refine ⟨by rw [n1 4 (by omega)]; exact a1, ⟨by rw [n1 7 (by omega)]; exact a2, by rw [m1 39 (by omega)]; exact a3⟩, a4, ⟨by rw [n1 8 (by omega)]; exact b1, by rw [m1 40 (by omega)]; exact b2, b3⟩, fun k h1 h2 => by rw [n2, m2]; exact c1 k h1 h2, fun m p h1 h2 => by rw [n3, m3]; exact c2 m p h1 h2, fun m p h1 h2 h3 => by rw [m3]; exact c3 m p h1 h2 h3⟩
def E_c : Nat → Nat → Prop := fun i k => (i = 17 ∧ k = 8) ∨ i = 19 ∨ i = 20
def E_r : Nat → Nat → Prop := fun i k => (i = 0 ∧ k = 40) ∨ i = 27 ∨ i = 28
section
variable {a qb : Nat} {σ ρ : xw_S} {f m p h b q : Nat} {M : m_M} {fuel us mk : Int}
theorem x_o30 (fu : Nat) (hF : x_F qb σ ρ f m p h) (hh : h ≤ 9) (hf : f < 8) (hm4 : m < 4) (hq : q = qb + m) (hqb : qb = 0 ∨ qb = 4) (hC : c_M σ b M) (hR : r_M ρ q M) (hL : 1 ≤ ML M ∧ ML M ≤ 120) (hp : p + 1 < ML M) (hV : x_V fuel us mk σ ρ) (hmk : mk < 1500000) : ∃ σ' ρ', k_c65 fu a σ f b 30 = some σ' ∧ k_r69 fu ρ (f : Int) (q : Int) 30 = some ρ' ∧ x_F qb σ' ρ' f m (p + 2) h ∧ x_V fuel us (mk + 1) σ' ρ' ∧ frm (fun i k => X_c f i k ∨ E_c i k) σ σ' ∧ frm (fun i k => X_r f i k ∨ E_r i k) ρ ρ' := by
  have hrm : xw_rm (q : Int) 4 = (m : Int) := by rw [z_rm4 q (by omega)]; omega
  obtain ⟨a1, ⟨a2, a3⟩, a4, ⟨b1, b2, b3, b4⟩, c1, c2, c3⟩ := hV
  -- the notes
  obtain ⟨σ1, ρ1, n1, n2, n3, n4, n5⟩ : ∃ σ1 ρ1, f_MC_noteMark fu σ (m : Int) (m_nu M p) = some σ1 ∧ k_pl fu (q : Int) (f : Int) 30 ρ (m_nu M p) = k_fin fu (f : Int) 30 ρ1 ∧ frm E_c σ σ1 ∧ frm E_r ρ ρ1 ∧ x_V fuel us (mk + 1) σ1 ρ1 := by
    by_cases c100 : 100 ≤ mk
    · refine ⟨xw_st σ 17 8 (mk + 1), xw_st ρ 0 40 (mk + 1), ?_, ?_, frm_st (Or.inl ⟨rfl, rfl⟩), frm_st (Or.inl ⟨rfl, rfl⟩), ?_⟩
      · unfold f_MC_noteMark
        rw [xw_jn_e, b1, xw_grd_t ⟨by omega, by omega⟩, xw_if_t c100]
        dsimp only
        rw [xw_let_e, b1]
      · rw [k_pl30, xw_jn_e, b2, xw_grd_t ⟨by omega, by omega⟩, xw_if_t c100]
        dsimp only
        rw [xw_let_e, b2]
      · refine ⟨by rw [st_k (by decide)]; exact a1, ⟨by rw [st_k (by decide)]; exact a2, by rw [st_k (by decide)]; exact a3⟩, a4, ⟨st_s _ _ _ _, st_s _ _ _ _, by omega, by omega⟩, fun k h1 h2 => ?_, fun m p h1 h2 => ?_, fun m p h1 h2 h3 => ?_⟩
        · rw [st_i (by decide), st_i (by decide)]; exact c1 k h1 (by omega)
        · rw [st_i (by decide), st_i (by decide)]; exact c2 m p h1 h2
        · rw [st_i (by decide)]; exact c3 m p h1 h2 h3
    · have e1 : (xw_st σ 19 mk.toNat (16 * (m : Int) + m_nu M p)).1 17 8 = mk := by rw [st_i (by decide)]; exact b1
      have e2 : (xw_st ρ 27 mk.toNat (16 * (m : Int) + m_nu M p)).1 0 40 = mk := by rw [st_i (by decide)]; exact b2
      refine ⟨xw_st (xw_st σ 19 mk.toNat (16 * (m : Int) + m_nu M p)) 17 8 (mk + 1), xw_st (xw_st ρ 27 mk.toNat (16 * (m : Int) + m_nu M p)) 0 40 (mk + 1), ?_, ?_, frm_tr (frm_st (Or.inr (Or.inl rfl))) (frm_st (Or.inl ⟨rfl, rfl⟩)), frm_tr (frm_st (Or.inr (Or.inl rfl))) (frm_st (Or.inl ⟨rfl, rfl⟩)), ?_⟩
      · unfold f_MC_noteMark
        rw [xw_jn_e, b1, xw_grd_t ⟨by omega, by omega⟩, xw_if_f c100, xw_grd_t (by omega), xw_let_e]
        dsimp only
        rw [xw_let_e, e1]
      · rw [k_pl30, xw_jn_e, b2, xw_grd_t ⟨by omega, by omega⟩, xw_if_f c100, xw_grd_t (by omega), xw_let_e, hrm]
        dsimp only
        rw [xw_let_e, e2]
      · refine ⟨by rw [st_k (by decide), st_i (by decide)]; exact a1, ⟨by rw [st_k (by decide), st_i (by decide)]; exact a2, by rw [st_k (by decide), st_i (by decide)]; exact a3⟩, a4, ⟨st_s _ _ _ _, st_s _ _ _ _, by omega, by omega⟩, fun k h1 h2 => ?_, fun m p h1 h2 => ?_, fun m p h1 h2 h3 => ?_⟩
        · have eA : (xw_st (xw_st σ 19 mk.toNat (16 * (m : Int) + m_nu M p)) 17 8 (mk + 1)).1 19 k = (xw_st σ 19 mk.toNat (16 * (m : Int) + m_nu M p)).1 19 k := st_i (by decide)
          have eB : (xw_st (xw_st ρ 27 mk.toNat (16 * (m : Int) + m_nu M p)) 0 40 (mk + 1)).1 27 k = (xw_st ρ 27 mk.toNat (16 * (m : Int) + m_nu M p)).1 27 k := st_i (by decide)
          rw [eA, eB]
          by_cases hk : k = mk.toNat
          · rw [hk, st_s, st_s]
          · rw [st_k hk, st_k hk]; exact c1 k h1 (by omega)
        · rw [st_i (by decide), st_i (by decide), st_i (by decide), st_i (by decide)]; exact c2 m p h1 h2
        · rw [st_i (by decide), st_i (by decide)]; exact c3 m p h1 h2 h3
  have hF1 := x_F_f hF hh n3 n4 (fun i k z => by unfold E_c at z; omega) (fun i k z => by unfold E_r at z; omega)
  refine ⟨xw_st σ1 (24 + 3 * f) 4 ((p + 2 : Nat) : Int), xw_st ρ1 23 f ((p + 2 : Nat) : Int), ?_, ?_, x_go hF1 _, x_V_f n5 (X_c4 (f := f) _) (X_r4 (f := f) _) (fun i k z => by unfold X_c at z; omega) (fun i k z => by unfold X_r at z; omega), frm_tr (frm_mono n3 (fun _ _ z => Or.inr z)) (frm_mono (X_c4 _) (fun _ _ z => Or.inl z)), frm_tr (frm_mono n4 (fun _ _ z => Or.inr z)) (frm_mono (X_r4 _) (fun _ _ z => Or.inl z))⟩
  · have eb : f_B_byteAt fu σ b ((σ.1 (24 + 3 * f) 4) + 1) = some (σ, m_nu M p) := by
      rw [hF.1.2.1]
      exact q_byteAt fu hC.1 ⟨by omega, by omega⟩
    have e : k_c65 fu a σ f b 30 = xw_bn2 (xw_bn2 (f_B_byteAt fu σ b ((σ.1 (24 + 3 * f) 4) + 1)) (fun s39 r41 => xw_bnd (f_MC_noteMark fu s39 (σ.1 (24 + 3 * f) 3) r41) (fun s42 => xw_bn2 (f_OP_size fu s42 30) (fun s132 r134 => some (s132, r134))))) (fun s25 r27 => xw_let (xw_st s25 (24 + 3 * f) 4 ((σ.1 (24 + 3 * f) 4) + r27)) (fun s28 => some s28)) := rfl
    rw [e, xw_bn2_e eb, hF.1.1, xw_bnd_e n1, xw_bn2_e (q_OPsize fu σ1 (by decide)), xw_bn2_e rfl, hF.1.2.1]
    rfl
  · rw [x_rp fu ρ (f : Int) (q : Int) (Or.inr (Or.inl rfl)), x_pl fu hF hf hR hL.1 (by omega) 30, x_nvn hp, n2, x_fin fu hF1 hf (by decide)]
    rfl
theorem x_o31 (fu : Nat) (hF : x_F qb σ ρ f m p h) (hh : h ≤ 9) (hf : f < 8) (hm4 : m < 4) (hq : q = qb + m) (hqb : qb = 0 ∨ qb = 4) (hC : c_M σ b M) (hR : r_M ρ q M) (hL : 1 ≤ ML M ∧ ML M ≤ 120) (hp : p + 1 < ML M) (hV : x_V fuel us mk σ ρ) (hn40 : m_nu M p < 40) : ∃ σ' ρ', k_c65 fu a σ f b 31 = some σ' ∧ k_r69 fu ρ (f : Int) (q : Int) 31 = some ρ' ∧ x_F qb σ' ρ' f m (p + 2) h ∧ x_V fuel us mk σ' ρ' ∧ frm (fun i k => X_c f i k ∨ E_c i k) σ σ' ∧ frm (fun i k => X_r f i k ∨ E_r i k) ρ ρ' := by
  have hrm : xw_rm (q : Int) 4 = (m : Int) := by rw [z_rm4 q (by omega)]; omega
  have hnr : 0 ≤ m_nu M p := (m_at_r hC.1.2.2.2.2 _).1
  have hVV := hV
  obtain ⟨a1, ⟨a2, a3⟩, a4, ⟨b1, b2, b3, b4⟩, c1, c2, c3⟩ := hV
  have f1 : frm E_c σ (xw_st σ 20 (40 * m + (m_nu M p).toNat) (σ.1 20 (40 * m + (m_nu M p).toNat) + 1)) := frm_st (Or.inr (Or.inr rfl))
  have g1 : frm E_r ρ (xw_st ρ 28 (256 * m + (m_nu M p).toNat) (ρ.1 28 (256 * m + (m_nu M p).toNat) + 1)) := frm_st (Or.inr (Or.inr rfl))
  have n5 : x_V fuel us mk (xw_st σ 20 (40 * m + (m_nu M p).toNat) (σ.1 20 (40 * m + (m_nu M p).toNat) + 1)) (xw_st ρ 28 (256 * m + (m_nu M p).toNat) (ρ.1 28 (256 * m + (m_nu M p).toNat) + 1)) := by
    refine ⟨by rw [st_i (by decide)]; exact a1, ⟨by rw [st_i (by decide)]; exact a2, by rw [st_i (by decide)]; exact a3⟩, a4, ⟨by rw [st_i (by decide)]; exact b1, by rw [st_i (by decide)]; exact b2, b3, b4⟩, fun k h1 h2 => ?_, fun m' p' h1 h2 => ?_, fun m' p' h1 h2 h3 => ?_⟩
    · rw [st_i (by decide), st_i (by decide)]; exact c1 k h1 h2
    · by_cases he : m' = m ∧ p' = (m_nu M p).toNat
      · rw [he.1, he.2, st_s, st_s, c2 m (m_nu M p).toNat hm4 (by omega)]
      · rw [st_k (by omega), st_k (by omega)]; exact c2 m' p' h1 h2
    · rw [st_k (by omega)]; exact c3 m' p' h1 h2 h3
  have hF1 := x_F_f hF hh f1 g1 (fun i k z => by unfold E_c at z; omega) (fun i k z => by unfold E_r at z; omega)
  refine ⟨_, _, ?_, ?_, x_go hF1 (p + 2), x_V_f n5 (X_c4 (f := f) _) (X_r4 (f := f) _) (fun i k z => by unfold X_c at z; omega) (fun i k z => by unfold X_r at z; omega), frm_tr (frm_mono f1 (fun _ _ z => Or.inr z)) (frm_mono (X_c4 _) (fun _ _ z => Or.inl z)), frm_tr (frm_mono g1 (fun _ _ z => Or.inr z)) (frm_mono (X_r4 _) (fun _ _ z => Or.inl z))⟩
  · have eb : f_B_byteAt fu σ b ((σ.1 (24 + 3 * f) 4) + 1) = some (σ, m_nu M p) := by
      rw [hF.1.2.1]
      exact q_byteAt fu hC.1 ⟨by omega, by omega⟩
    have en : f_MC_noteProbe fu σ (m : Int) (m_nu M p) = some (xw_st σ 20 (40 * m + (m_nu M p).toNat) (σ.1 20 (40 * m + (m_nu M p).toNat) + 1)) := by
      unfold f_MC_noteProbe
      rw [xw_grd_t ⟨by omega, by omega⟩, xw_if_f (by omega), xw_grd_t (by omega), show ((m : Int) * 40 + m_nu M p).toNat = 40 * m + (m_nu M p).toNat by omega]
      rfl
    have e : k_c65 fu a σ f b 31 = xw_bn2 (xw_bn2 (f_B_byteAt fu σ b ((σ.1 (24 + 3 * f) 4) + 1)) (fun s39 r41 => xw_bnd (f_MC_noteProbe fu s39 (σ.1 (24 + 3 * f) 3) r41) (fun s42 => xw_bn2 (f_OP_size fu s42 31) (fun s132 r134 => some (s132, r134))))) (fun s25 r27 => xw_let (xw_st s25 (24 + 3 * f) 4 ((σ.1 (24 + 3 * f) 4) + r27)) (fun s28 => some s28)) := rfl
    rw [e, xw_bn2_e eb, hF.1.1, xw_bnd_e en, xw_bn2_e (q_OPsize fu _ (by decide)), xw_bn2_e rfl, hF.1.2.1]
    rfl
  · rw [x_rp fu ρ (f : Int) (q : Int) (Or.inr (Or.inr rfl)), x_pl fu hF hf hR hL.1 (by omega) 31, x_nvn hp, k_pl31, hrm, xw_grd_t (by omega), show (256 * (m : Int) + m_nu M p).toNat = 256 * m + (m_nu M p).toNat by omega, xw_let_e, x_fin fu hF1 hf (by decide)]
    rfl
end
