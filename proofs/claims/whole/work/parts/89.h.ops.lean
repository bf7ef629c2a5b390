/-! 89.h: the instructions that stay in their frame -/
section
variable {a qb : Nat} {σ ρ : xw_S} {f m p h b q : Nat} {M : m_M}
theorem x_nvn (hp1 : p + 1 < ML M) : x_nv M p = m_nu M p := by
  unfold x_nv m_nu
  rw [if_pos hp1, show (p : Int) + 1 = ((p + 1 : Nat) : Int) by omega, m_at_in hp1]
theorem x_o0 (fu : Nat) (hF : x_F qb σ ρ f m p h) (hf : f < 8) (hC : c_M σ b M) (hR : r_M ρ q M) (hL : 1 ≤ ML M ∧ ML M ≤ 120) (hp : p < ML M) : x_1 fu a qb σ ρ f m p b q 0 (p + (q_sz 0).toNat) h :=
  x_end fu a (Or.inl rfl) hF hf hR hL.1 hp (by rw [x_mv fu hF hC hL.2 hp]; rfl) (k_pl0 _ _ _ _ _) hF (frm_rf _ _) (frm_rf _ _)
theorem x_o1 (fu : Nat) (hF : x_F qb σ ρ f m p h) (hf : f < 8) (hu : ρ.1 0 31 = ((f + 1 : Nat) : Int)) (hC : c_M σ b M) (hR : r_M ρ q M) (hL : 1 ≤ ML M ∧ ML M ≤ 120) (hp : p + 1 < ML M) (hh : h < 8) : x_1 fu a qb σ ρ f m p b q 1 (p + (q_sz 1).toNat) (h + 1) := by
  have hc := hC.1.2.2.2.2
  have hn := hc (p + 1) hp
  have en : m_nu M p = Mc M (p + 1) := by unfold m_nu; rw [show (p : Int) + 1 = ((p + 1 : Nat) : Int) by omega, m_at_in hp]
  have hsg := q_sg_r hn.1 hn.2
  obtain ⟨σ1, ρ1, a1, a2, a3, a4, a5⟩ := x_push fu hF hf hh hu (v := q_sg (Mc M (p + 1))) ⟨by omega, by omega⟩
  refine x_end fu a (Or.inr (Or.inl rfl)) hF hf hR hL.1 (by omega) ?_ ?_ a3 a4 a5
  · rw [x_mv fu hF hC hL.2 (by omega), en]
    show xw_bn2 (f_OP_signedByte fu σ (Mc M (p + 1))) (fun s51 r53 => xw_bnd (f_FR_push fu s51 f r53) (fun s54 => some s54)) = some σ1
    rw [xw_bn2_e (q_OPsg fu σ ⟨by omega, by omega⟩), xw_bnd_e a1]
  · have es : f_MD_signed fu ρ (q : Int) ((p : Int) + 1) = some (ρ, q_sg (Mc M (p + 1))) := by
      rw [show (p : Int) + 1 = ((p + 1 : Nat) : Int) by omega]
      exact q_MDsg fu hR.1 hp
    rw [k_pl1, xw_grd_t (by omega), Int.toNat_natCast, hF.2.1.2.1, xw_bn2_e es, xw_bnd_e a2]
theorem x_o2 (fu : Nat) (hF : x_F qb σ ρ f m p h) (hf : f < 8) (hu : ρ.1 0 31 = ((f + 1 : Nat) : Int)) (hC : c_M σ b M) (hR : r_M ρ q M) (hL : 1 ≤ ML M ∧ ML M ≤ 120) (hp : p + 1 < ML M) (hh : h < 8) (hn6 : 0 ≤ m_nu M p ∧ m_nu M p < 6) : x_1 fu a qb σ ρ f m p b q 2 (p + (q_sz 2).toNat) (h + 1) := by
  have g := x_get fu hF (n := (m_nu M p).toNat) (by omega)
  rw [show (((m_nu M p).toNat : Nat) : Int) = m_nu M p by omega] at g
  obtain ⟨σ1, ρ1, a1, a2, a3, a4, a5⟩ := x_push fu hF hf hh hu g.2
  refine x_end fu a (Or.inr (Or.inr (Or.inl rfl))) hF hf hR hL.1 (by omega) ?_ ?_ a3 a4 a5
  · rw [x_mv fu hF hC hL.2 (by omega)]
    show xw_bn2 (f_FR_getLocal fu σ f (m_nu M p)) (fun s45 r47 => xw_bnd (f_FR_push fu s45 f r47) (fun s48 => some s48)) = some σ1
    rw [xw_bn2_e g.1, xw_bnd_e a1]
  · rw [k_pl2, x_nvn hp, xw_grd_t (by omega), show ((6 * (f : Int)) + m_nu M p).toNat = 6 * f + (m_nu M p).toNat by omega, xw_bnd_e a2]
theorem x_o3 (fu : Nat) (hF : x_F qb σ ρ f m p (h + 1)) (hf : f < 8) (hu : ρ.1 0 31 = ((f + 1 : Nat) : Int)) (hC : c_M σ b M) (hR : r_M ρ q M) (hL : 1 ≤ ML M ∧ ML M ≤ 120) (hp : p + 1 < ML M) (hh : h < 8) (hn6 : 0 ≤ m_nu M p ∧ m_nu M p < 6) : x_1 fu a qb σ ρ f m p b q 3 (p + (q_sz 3).toNat) h := by
  obtain ⟨σ1, ρ1, v, a1, a2, av, a3, a4, a5⟩ := x_pop fu hF hf hh hu
  obtain ⟨b1, b2⟩ := x_set fu a3 (n := (m_nu M p).toNat) (by omega) av
  rw [show (((m_nu M p).toNat : Nat) : Int) = m_nu M p by omega] at b1
  refine x_end fu a (Or.inr (Or.inr (Or.inr (Or.inl rfl)))) hF hf hR hL.1 (by omega) ?_ ?_ b2 (frm_tr a4 (frm_st (Or.inr (Or.inr rfl)))) (frm_tr a5 (frm_st (Or.inr (Or.inr (Or.inl ⟨rfl, by omega, by omega⟩)))))
  · rw [x_mv fu hF hC hL.2 (by omega)]
    show xw_bn2 (f_FR_pop fu σ f) (fun s39 r41 => xw_bnd (f_FR_setLocal fu s39 f (m_nu M p) r41) (fun s42 => some s42)) = some _
    rw [xw_bn2_e a1, xw_bnd_e b1]
  · rw [k_pl3, x_nvn hp, xw_bn2_e a2, xw_grd_t (by omega), show ((6 * (f : Int)) + m_nu M p).toNat = 6 * f + (m_nu M p).toNat by omega]
    rfl
theorem x_o8 (fu : Nat) (hF : x_F qb σ ρ f m p (h + 1)) (hf : f < 8) (hu : ρ.1 0 31 = ((f + 1 : Nat) : Int)) (hC : c_M σ b M) (hR : r_M ρ q M) (hL : 1 ≤ ML M ∧ ML M ≤ 120) (hp : p < ML M) (hh : h + 1 < 8) : x_1 fu a qb σ ρ f m p b q 8 (p + (q_sz 8).toNat) (h + 2) := by
  obtain ⟨σ1, ρ1, v, a1, a2, av, a3, a4, a5⟩ := x_pop fu hF hf (by omega) hu
  obtain ⟨σ2, ρ2, b1, b2, b3, b4, b5⟩ := x_push fu a3 hf (by omega) (by rw [a5.2 _ _ (by unfold X_r; omega)]; exact hu) av
  obtain ⟨σ3, ρ3, c1, c2, c3, c4, c5⟩ := x_push fu b3 hf (by omega) (by rw [b5.2 _ _ (by unfold X_r; omega), a5.2 _ _ (by unfold X_r; omega)]; exact hu) av
  refine x_end fu a (Or.inr (Or.inr (Or.inr (Or.inr (Or.inl rfl))))) hF hf hR hL.1 hp ?_ ?_ c3 (frm_tr (frm_tr a4 b4) c4) (frm_tr (frm_tr a5 b5) c5)
  · have ed : f_FR_doubleTop fu σ f = some σ3 := by
      unfold f_FR_doubleTop
      rw [xw_bn2_e a1, xw_bnd_e b1, xw_bnd_e c1]
    rw [x_mv fu hF hC hL.2 hp]
    show xw_bnd (f_FR_doubleTop fu σ f) (fun s36 => some s36) = some σ3
    rw [xw_bnd_e ed]
  · rw [k_pl8, xw_bn2_e a2, xw_bnd_e b2, xw_bnd_e c2]
theorem x_o9 (fu : Nat) (hF : x_F qb σ ρ f m p (h + 1)) (hf : f < 8) (hu : ρ.1 0 31 = ((f + 1 : Nat) : Int)) (hC : c_M σ b M) (hR : r_M ρ q M) (hL : 1 ≤ ML M ∧ ML M ≤ 120) (hp : p < ML M) (hh : h < 8) : x_1 fu a qb σ ρ f m p b q 9 (p + (q_sz 9).toNat) h := by
  obtain ⟨σ1, ρ1, v, a1, a2, av, a3, a4, a5⟩ := x_pop fu hF hf hh hu
  refine x_end fu a (Or.inr (Or.inr (Or.inr (Or.inr (Or.inr (Or.inl rfl)))))) hF hf hR hL.1 hp ?_ ?_ a3 a4 a5
  · rw [x_mv fu hF hC hL.2 hp]
    show xw_bn2 (f_FR_pop fu σ f) (fun s33 r35 => some s33) = some σ1
    rw [xw_bn2_e a1]
  · rw [k_pl9, xw_bn2_e a2]
theorem x_o16 (fu : Nat) (hF : x_F qb σ ρ f m p h) (hf : f < 8) (hC : c_M σ b M) (hR : r_M ρ q M) (hL : 1 ≤ ML M ∧ ML M ≤ 120) (hp : p + 2 < ML M) (hn6 : 0 ≤ m_nu M p ∧ m_nu M p < 6) : x_1 fu a qb σ ρ f m p b q 16 (p + (q_sz 16).toNat) h := by
  have hc := hC.1.2.2.2.2
  have hn := hc (p + 2) hp
  have g := x_get fu hF (n := (m_nu M p).toNat) (by omega)
  rw [show (((m_nu M p).toNat : Nat) : Int) = m_nu M p by omega] at g
  obtain ⟨b1, b2⟩ := x_set fu hF (n := (m_nu M p).toNat) (by omega) (x_wr (ρ.1 25 (6 * f + (m_nu M p).toNat) + q_sg (Mc M (p + 2))))
  rw [show (((m_nu M p).toNat : Nat) : Int) = m_nu M p by omega] at b1
  refine x_end fu a (Or.inr (Or.inr (Or.inr (Or.inr (Or.inr (Or.inr rfl)))))) hF hf hR hL.1 (by omega) ?_ ?_ b2 (frm_st (Or.inr (Or.inr rfl))) (frm_st (Or.inr (Or.inr (Or.inl ⟨rfl, by omega, by omega⟩))))
  · have eb : f_B_byteAt fu σ b ((σ.1 (24 + 3 * f) 4) + 2) = some (σ, Mc M (p + 2)) := by
      rw [hF.1.2.1, show (p : Int) + 2 = ((p + 2 : Nat) : Int) by omega, q_byteAt fu hC.1 ⟨by omega, by omega⟩, m_at_in hp]
    rw [x_mv fu hF hC hL.2 (by omega)]
    show xw_bn2 (f_FR_getLocal fu σ f (m_nu M p)) (fun s21 r23 => xw_bn2 (f_B_byteAt fu s21 b ((s21.1 (24 + 3 * f) 4) + 2)) (fun s24 r26 => xw_bn2 (f_OP_signedByte fu s24 r26) (fun s27 r29 => xw_bnd (f_FR_setLocal fu s27 f (m_nu M p) (xw_wr (r23 + r29))) (fun s30 => some s30)))) = some _
    rw [xw_bn2_e g.1, xw_bn2_e eb, xw_bn2_e (q_OPsg fu σ ⟨by omega, by omega⟩), xw_bnd_e b1]
  · have es : f_MD_signed fu ρ (q : Int) ((p : Int) + 2) = some (ρ, q_sg (Mc M (p + 2))) := by
      rw [show (p : Int) + 2 = ((p + 2 : Nat) : Int) by omega]
      exact q_MDsg fu hR.1 hp
    rw [k_pl16, x_nvn (by omega), xw_grd_t (by omega), xw_grd_t (by omega), Int.toNat_natCast, hF.2.1.2.1, xw_bn2_e es, show ((6 * (f : Int)) + m_nu M p).toNat = 6 * f + (m_nu M p).toNat by omega]
    rfl
/-! the sums -/
theorem x_calc (fu : Nat) {o : Int} (ho : o = 4 ∨ o = 5 ∨ o = 6) (hF : x_F qb σ ρ f m p (h + 2)) (hf : f < 8) (hu : ρ.1 0 31 = ((f + 1 : Nat) : Int)) (hh : h + 1 < 8) : x_1 fu a qb σ ρ f m p b q o (p + 1) (h + 1) := by
  obtain ⟨σ1, ρ1, v1, a1, a2, av, a3, a4, a5⟩ := x_pop fu hF hf (by omega) hu
  obtain ⟨σ2, ρ2, v2, b1, b2, bv, b3, b4, b5⟩ := x_pop fu a3 hf (by omega) (by rw [a5.2 _ _ (by unfold X_r; omega)]; exact hu)
  have hu2 : ρ2.1 0 31 = ((f + 1 : Nat) : Int) := by rw [b5.2 _ _ (by unfold X_r; omega), a5.2 _ _ (by unfold X_r; omega)]; exact hu
  have key : ∀ w : Int, xw_r w → (f_MC_calculate fu σ f o = xw_bnd (f_FR_push fu σ2 f w) (fun s => some s)) → (f_MD_calculate fu ρ o = xw_bnd (f_MD_push fu ρ2 w) (fun s21 => xw_grd ((0 ≤ (s21.1 0 31) - 1 ∧ (s21.1 0 31) - 1 < ((8 : Nat) : Int))) (xw_let (xw_st s21 23 ((s21.1 0 31) - 1).toNat ((s21.1 23 ((s21.1 0 31) - 1).toNat) + 1)) (fun s25 => some s25)))) → x_1 fu a qb σ ρ f m p b q o (p + 1) (h + 1) := by
    intro w hw hcc hrr
    obtain ⟨σ3, ρ3, c1, c2, c3, c4, c5⟩ := x_push fu b3 hf (by omega) hu2 hw
    have hu3 : ρ3.1 0 31 = ((f + 1 : Nat) : Int) := by rw [c5.2 _ _ (by unfold X_r; omega)]; exact hu2
    have ec : f_MC_calculate fu σ f o = some σ3 := by rw [hcc, xw_bnd_e c1]
    have er : f_MD_calculate fu ρ o = some (xw_st ρ3 23 f ((p + 1 : Nat) : Int)) := by
      rw [hrr, xw_bnd_e c2, hu3, show ((f + 1 : Nat) : Int) - 1 = (f : Int) by omega, xw_grd_t (by omega), Int.toNat_natCast, c3.2.1.2.1]
      rfl
    refine ⟨xw_st σ3 (24 + 3 * f) 4 ((p + 1 : Nat) : Int), xw_st ρ3 23 f ((p + 1 : Nat) : Int), ?_, ?_, x_go c3 (p + 1), frm_tr (frm_tr (frm_tr a4 b4) c4) (X_c4 _), frm_tr (frm_tr (frm_tr a5 b5) c5) (X_r4 _)⟩
    · have e : k_c65 fu a σ f b o = xw_bn2 (xw_bnd (f_MC_calculate fu σ f o) (fun s126 => xw_bn2 (f_OP_size fu s126 o) (fun s132 r134 => some (s132, r134)))) (fun s25 r27 => xw_let (xw_st s25 (24 + 3 * f) 4 ((σ.1 (24 + 3 * f) 4) + r27)) (fun s28 => some s28)) := by
        rcases ho with z | z | z <;> rw [z] <;> rfl
      have hz : q_sz o = 1 := by rcases ho with z | z | z <;> rw [z] <;> decide
      rw [e, xw_bnd_e ec, xw_bn2_e (q_OPsize fu σ3 ⟨by omega, by omega⟩), xw_bn2_e rfl, hz, hF.1.2.1]
      rfl
    · have e : k_r69 fu ρ (f : Int) (q : Int) o = xw_bnd (f_MD_calculate fu ρ o) (fun s29 => some s29) := by
        unfold k_r69
        rw [xw_bn2_e (q_MDbr fu ρ ⟨by omega, by omega⟩), if_neg (by unfold q_br q_sb q_wb; omega), xw_grd_t (by decide), xw_if_t rfl, xw_jn_e, xw_grd_t ⟨by omega, by omega⟩, xw_if_f (by omega), xw_if_f (by omega)]
      rw [e, xw_bnd_e er]
  rcases ho with z | z | z
  · refine key (xw_wr (v2 + v1)) (x_wr _) ?_ ?_
    · unfold f_MC_calculate
      rw [xw_bn2_e a1, xw_bn2_e b1, z]
      rfl
    · unfold f_MD_calculate
      rw [xw_bn2_e a2, xw_bn2_e b2, z]
      rfl
  · refine key (xw_wr (v2 - v1)) (x_wr _) ?_ ?_
    · unfold f_MC_calculate
      rw [xw_bn2_e a1, xw_bn2_e b1, z]
      rfl
    · unfold f_MD_calculate
      rw [xw_bn2_e a2, xw_bn2_e b2, z]
      rfl
  · refine key (xw_wr (v2 * v1)) (x_wr _) ?_ ?_
    · unfold f_MC_calculate
      rw [xw_bn2_e a1, xw_bn2_e b1, z]
      rfl
    · unfold f_MD_calculate
      rw [xw_bn2_e a2, xw_bn2_e b2, z]
      rfl
end
