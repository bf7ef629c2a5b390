/-! 73: closed solutions of a method's flow, and what a step of an exploration does to what is known -/
abbrev m_M : Type := (Nat → Int) × Nat × (Nat → Int) × Nat × Int × Int × Int × Int
def Mc (M : m_M) : Nat → Int := M.1
def ML (M : m_M) : Nat := M.2.1
def Mh (M : m_M) : Nat → Int := M.2.2.1
def MN (M : m_M) : Nat := M.2.2.2.1
def Mm (M : m_M) : Int := M.2.2.2.2.1
def Ma (M : m_M) : Int := M.2.2.2.2.2.1
def Mo (M : m_M) : Int := M.2.2.2.2.2.2.1
def Ms (M : m_M) : Int := M.2.2.2.2.2.2.2
/-- the number behind an instruction -/
def m_nu (M : m_M) (p : Nat) : Int := m_at (Mc M) (ML M) ((p : Int) + 1)
def m_wp (M : m_M) (me : Int) (p : Nat) : Prop := (q_br (Mc M p) → m_pl (Mc M) (ML M) ((p : Int) + m_way (Mc M) (ML M) p)) ∧ ((Mc M p = 2 ∨ Mc M p = 3 ∨ Mc M p = 16) → m_nu M p < Mo M) ∧ (Mc M p = 13 → m_nu M p < me)
/-- well formed, as woven code is too -/
def m_W (M : m_M) (me : Int) : Prop := (1 ≤ ML M ∧ ML M ≤ 120 ∧ MN M ≤ 5) ∧ (0 ≤ Ma M ∧ Ma M ≤ 2 ∧ Ma M ≤ Mo M ∧ Mo M ≤ 6 ∧ 1 ≤ Ms M ∧ Ms M ≤ 8) ∧ m_nx (Mc M) (ML M) = (ML M : Int) ∧ (∀ p, p < ML M → m_bg (Mc M) p → m_wp M me p) ∧ ∀ i, i < MN M → m_hh (Mc M) (ML M) (Mh M) i
def m_ar (c : Nat → Int) (L : Nat) (d : Nat → Int) (S : Nat → Nat → Prop) (t e : Int) (T : Nat → Prop) : Prop := m_pl c L t ∧ d t.toNat = e ∧ ∀ n, S t.toNat n → T n
def m_tk (M : m_M) (A : Nat → Int) (p : Nat) : Int := if Mc M p = 13 then A (m_nu M p).toNat else q_tk (Mc M p)
def m_af (M : m_M) (A : Nat → Int) (d : Nat → Int) (p : Nat) : Int := d p - m_tk M A p + q_pt (Mc M p)
def m_T (M : m_M) (S : Nat → Nat → Prop) (p n : Nat) : Prop := S p n ∨ (Mc M p = 3 ∧ (n : Int) = m_nu M p)
def m_cov (M : m_M) (i p : Nat) : Prop := Mh M (4 * i) ≤ (p : Int) ∧ (p : Int) < Mh M (4 * i + 1)
def m_ok (M : m_M) (A : Nat → Int) (d : Nat → Int) (S : Nat → Nat → Prop) (p : Nat) : Prop :=
  (d p ≤ Ms M ∧ m_tk M A p ≤ d p ∧ m_af M A d p ≤ Ms M ∧ ((Mc M p = 2 ∨ Mc M p = 16) → S p (m_nu M p).toNat)) ∧
  (¬ q_en (Mc M p) → m_ar (Mc M) (ML M) d S ((p : Int) + q_sz (Mc M p)) (m_af M A d p) (m_T M S p)) ∧
  (q_br (Mc M p) → m_ar (Mc M) (ML M) d S ((p : Int) + m_way (Mc M) (ML M) p) (m_af M A d p) (m_T M S p)) ∧
  ∀ i, i < MN M → m_cov M i p → m_ar (Mc M) (ML M) d S (Mh M (4 * i + 2)) 1 (S p)
/-- a closed solution -/
def m_CL (M : m_M) (A : Nat → Int) (d : Nat → Int) (S : Nat → Nat → Prop) : Prop := m_ar (Mc M) (ML M) d S 0 0 (fun n => (n : Int) < Ma M) ∧ ∀ p, p < ML M → 0 ≤ d p → m_ok M A d S p
def m_le (L : Nat) (d : Nat → Int) (S : Nat → Nat → Prop) (d0 : Nat → Int) (S0 : Nat → Nat → Prop) : Prop := ∀ p, p < L → 0 ≤ d0 p → d p = d0 p ∧ ∀ n, S p n → S0 p n
theorem m_le_rf (L : Nat) (d : Nat → Int) (S : Nat → Nat → Prop) : m_le L d S d S := fun _ _ _ => ⟨rfl, fun _ z => z⟩
theorem m_le_tr {L : Nat} {d d1 d0 : Nat → Int} {S S1 S0 : Nat → Nat → Prop} (h : m_le L d S d1 S1) (h' : m_le L d1 S1 d0 S0) : m_le L d S d0 S0 := by
  intro p hp hz
  have a := h' p hp hz
  have b := h p hp (by rw [a.1]; exact hz)
  exact ⟨b.1.trans a.1, fun n z => a.2 n (b.2 n z)⟩
/-- what an exploration ends with -/
def m_EX (M : m_M) (A : Nat → Int) (d : Nat → Int) (S : Nat → Nat → Prop) (r : Int) : Prop := (r = 0 ∨ r = 1) ∧ (r = 1 → m_CL M A d S) ∧ ∀ d' S', m_CL M A d' S' → r = 1 ∧ m_le (ML M) d' S' d S
theorem m_EX_u {M : m_M} {A d1 d2 : Nat → Int} {S1 S2 : Nat → Nat → Prop} {r1 r2 : Int} (h1 : m_EX M A d1 S1 r1) (h2 : m_EX M A d2 S2 r2) : r1 = r2 ∧ (r1 = 1 → ∀ p, p < ML M → (0 ≤ d1 p ∨ 0 ≤ d2 p) → d1 p = d2 p) := by
  obtain ⟨a1, a2, a3⟩ := h1
  obtain ⟨b1, b2, b3⟩ := h2
  have e : r1 = r2 := by
    rcases a1 with a1 | a1
    · rcases b1 with b1 | b1
      · rw [a1, b1]
      · exact absurd (a3 _ _ (b2 b1)).1 (by omega)
    · rw [a1, (b3 _ _ (a2 a1)).1]
  refine ⟨e, fun z p hp hz => ?_⟩
  have x := (b3 _ _ (a2 z)).2 p hp
  have y := (a3 _ _ (b2 (by omega))).2 p hp
  rcases hz with hz | hz
  · exact (y hz).1.symm
  · exact (x hz).1
/-- what is known on the way: depths, sets, sound, changed, a measure -/
abbrev m_V : Type := (Nat → Int) × (Nat → Nat → Prop) × Int × Int × Nat
def m_O (L : Nat) (v v' : m_V) (X : (Nat → Int) → (Nat → Nat → Prop) → Prop) : Prop :=
  (∀ d S, m_le L d S v.1 v.2.1 → X d S → m_le L d S v'.1 v'.2.1 ∧ v'.2.2.1 = v.2.2.1) ∧ m_le L v'.1 v'.2.1 v.1 v.2.1 ∧
  (((v'.1 = v.1 ∧ v'.2.1 = v.2.1 ∧ v'.2.2.2 = v.2.2.2) ∧ (v'.2.2.1 = 0 ∨ (v'.2.2.1 = v.2.2.1 ∧ X v.1 v.2.1))) ∨
   (v'.2.2.2.1 = 1 ∧ v'.2.2.2.2 < v.2.2.2.2 ∧ (v'.2.2.1 = 0 ∨ v'.2.2.1 = v.2.2.1)))
theorem m_O_id {L : Nat} {v : m_V} {X : (Nat → Int) → (Nat → Nat → Prop) → Prop} (h : v.2.2.1 = 0 ∨ X v.1 v.2.1) : m_O L v v X :=
  ⟨fun _ _ hl _ => ⟨hl, rfl⟩, m_le_rf _ _ _, Or.inl ⟨⟨rfl, rfl, rfl⟩, h.imp id (fun z => ⟨rfl, z⟩)⟩⟩
theorem m_O_comp {L : Nat} {v v' v'' : m_V} {X Y : (Nat → Int) → (Nat → Nat → Prop) → Prop} (h : m_O L v v' X) (h' : m_O L v' v'' Y) : m_O L v v'' (fun d S => X d S ∧ Y d S) := by
  obtain ⟨a1, a2, a3⟩ := h
  obtain ⟨b1, b2, b3⟩ := h'
  refine ⟨fun d S hl hx => ?_, m_le_tr b2 a2, ?_⟩
  · have z := a1 d S hl hx.1
    have y := b1 d S z.1 hx.2
    exact ⟨y.1, y.2.trans z.2⟩
  · have sn : (v'.2.2.1 = 0 ∨ v'.2.2.1 = v.2.2.1) := by
      rcases a3 with ⟨_, f⟩ | ⟨_, _, g⟩
      · exact f.imp id (fun z => z.1)
      · exact g
    have sn' : (v''.2.2.1 = 0 ∨ v''.2.2.1 = v'.2.2.1) := by
      rcases b3 with ⟨_, f⟩ | ⟨_, _, g⟩
      · exact f.imp id (fun z => z.1)
      · exact g
    have sn2 : (v''.2.2.1 = 0 ∨ v''.2.2.1 = v.2.2.1) := by
      rcases sn' with z | z
      · exact Or.inl z
      · exact sn.imp (fun y => z.trans y) (fun y => z.trans y)
    rcases a3 with ⟨⟨e1, e2, e3⟩, f⟩ | ⟨g1, g2, g3⟩
    · rcases b3 with ⟨⟨e4, e5, e6⟩, f'⟩ | ⟨g1', g2', g3'⟩
      · refine Or.inl ⟨⟨e4.trans e1, e5.trans e2, e6.trans e3⟩, ?_⟩
        rcases f' with f' | ⟨f1, f2⟩
        · exact Or.inl f'
        · rcases f with f | ⟨f3, f4⟩
          · exact Or.inl (f1.trans f)
          · exact Or.inr ⟨f1.trans f3, f4, by rw [e1, e2] at f2; exact f2⟩
      · exact Or.inr ⟨g1', by rw [e3] at g2'; exact g2', sn2⟩
    · rcases b3 with ⟨⟨e4, e5, e6⟩, f'⟩ | ⟨g1', g2', g3'⟩
      · exact Or.inr ⟨by rw [e6]; exact g1, by rw [e6]; exact g2, sn2⟩
      · exact Or.inr ⟨g1', Nat.lt_trans g2' g2, sn2⟩
theorem m_O_wk {L : Nat} {v v' : m_V} {X Y : (Nat → Int) → (Nat → Nat → Prop) → Prop} (h : m_O L v v' X) (hs : ∀ d S, m_le L d S v.1 v.2.1 → Y d S → X d S) (ho : X v.1 v.2.1 → Y v.1 v.2.1) : m_O L v v' Y := by
  obtain ⟨a1, a2, a3⟩ := h
  refine ⟨fun d S hl hy => a1 d S hl (hs d S hl hy), a2, ?_⟩
  rcases a3 with ⟨e, f⟩ | g
  · exact Or.inl ⟨e, f.imp id (fun z => ⟨z.1, ho z.2⟩)⟩
  · exact Or.inr g
theorem m_O_bad {L : Nat} {v v' : m_V} {X : (Nat → Int) → (Nat → Nat → Prop) → Prop} (h1 : v'.1 = v.1) (h2 : v'.2.1 = v.2.1) (h3 : v'.2.2.2 = v.2.2.2) (h4 : v'.2.2.1 = 0) (hn : ∀ d S, m_le L d S v.1 v.2.1 → ¬ X d S) : m_O L v v' X :=
  ⟨fun d S hl hx => absurd hx (hn d S hl), by rw [h1, h2]; exact m_le_rf _ _ _, Or.inl ⟨⟨h1, h2, h3⟩, Or.inl h4⟩⟩
theorem m_O_up {L : Nat} {c : Nat → Int} {v v' : m_V} {t e : Int} {T : Nat → Prop} {X : (Nat → Int) → (Nat → Nat → Prop) → Prop} (hp : ∀ p, p ≠ t.toNat → v'.1 p = v.1 p ∧ v'.2.1 p = v.2.1 p) (hd : v'.1 t.toNat = e) (hd0 : 0 ≤ v.1 t.toNat → v.1 t.toNat = e) (hS : ∀ n, (0 ≤ v.1 t.toNat → v.2.1 t.toNat n) → T n → v'.2.1 t.toNat n) (hS' : 0 ≤ v.1 t.toNat → ∀ n, v'.2.1 t.toNat n → v.2.1 t.toNat n) (hs : v'.2.2.1 = v.2.2.1) (hc : v'.2.2.2.1 = 1) (hm : v'.2.2.2.2 < v.2.2.2.2) (hX : ∀ d S, X d S → m_ar c L d S t e T) : m_O L v v' X := by
  refine ⟨fun d S hl hx => ⟨fun p hpL hz => ?_, hs⟩, fun p hpL hz => ?_, Or.inr ⟨hc, hm, Or.inr hs⟩⟩
  · by_cases hpt : p = t.toNat
    · subst hpt
      have x := hX d S hx
      refine ⟨x.2.1.trans hd.symm, fun n hn => hS n (fun hz0 => (hl _ hpL hz0).2 n hn) (x.2.2 n hn)⟩
    · rw [(hp p hpt).1, (hp p hpt).2]
      rw [(hp p hpt).1] at hz
      exact hl p hpL hz
  · by_cases hpt : p = t.toNat
    · subst hpt
      exact ⟨hd.trans (hd0 hz).symm, hS' hz⟩
    · rw [(hp p hpt).1, (hp p hpt).2]
      exact ⟨rfl, fun _ z => z⟩
def m_rX (M : m_M) (A : Nat → Int) (k : Nat) (d : Nat → Int) (S : Nat → Nat → Prop) : Prop := ∀ p, k ≤ p → p < ML M → 0 ≤ d p → m_ok M A d S p
theorem m_rX_s {M : m_M} {A : Nat → Int} {k : Nat} {d : Nat → Int} {S : Nat → Nat → Prop} (h : (0 ≤ d k → m_ok M A d S k) ∧ m_rX M A (k + 1) d S) : m_rX M A k d S := by
  intro p h1 h2 h3
  by_cases hk : p = k
  · subst hk; exact h.1 h3
  · exact h.2 p (by omega) h2 h3
/-- what holds between the rounds of an exploration -/
def m_Q (M : m_M) (A : Nat → Int) (v : m_V) : Prop :=
  (∀ d S, m_CL M A d S → m_le (ML M) d S v.1 v.2.1 ∧ v.2.2.1 = 1) ∧ (v.2.2.1 = 0 ∨ v.2.2.1 = 1) ∧ (v.2.2.2.1 = 0 ∨ v.2.2.2.1 = 1) ∧ m_ar (Mc M) (ML M) v.1 v.2.1 0 0 (fun n => (n : Int) < Ma M) ∧ (v.2.2.2.1 = 0 → v.2.2.1 = 1 → m_rX M A 0 v.1 v.2.1)
theorem m_Q_step {M : m_M} {A : Nat → Int} {v v0 v' : m_V} (h : m_Q M A v) (h1 : v.2.2.1 = 1) (e1 : v0.1 = v.1) (e2 : v0.2.1 = v.2.1) (e3 : v0.2.2.1 = v.2.2.1) (e4 : v0.2.2.2.1 = 0) (e5 : v0.2.2.2.2 = v.2.2.2.2) (hO : m_O (ML M) v0 v' (m_rX M A 0)) (hs : v'.2.2.1 = 0 ∨ v'.2.2.1 = 1) (hc : v'.2.2.2.1 = 0 ∨ v'.2.2.2.1 = 1) : m_Q M A v' ∧ (v'.2.2.2.1 = 0 ∨ v'.2.2.2.2 < v.2.2.2.2) := by
  obtain ⟨a1, a2, a3, a4, a5⟩ := h
  obtain ⟨b1, b2, b3⟩ := hO
  refine ⟨⟨fun d S hC => ?_, hs, hc, ?_, fun z1 z2 => ?_⟩, ?_⟩
  · have x := a1 d S hC
    have y := b1 d S (by rw [e1, e2]; exact x.1) (fun p _ hp hz => hC.2 p hp hz)
    exact ⟨y.1, by rw [y.2, e3]; exact x.2⟩
  · rw [e1, e2] at b2
    obtain ⟨c1, c2, c3⟩ := a4
    have x := b2 (0 : Int).toNat (by have := c1.2.1; show 0 < ML M; omega) (by rw [c2]; exact Int.le_refl 0)
    exact ⟨c1, x.1.trans c2, fun n hn => c3 n (x.2 n hn)⟩
  · rcases b3 with ⟨⟨f1, f2, f3⟩, g⟩ | ⟨g1, _, _⟩
    · rcases g with g | ⟨_, g⟩
      · omega
      · rw [f1, f2]; exact g
    · omega
  · rcases b3 with ⟨⟨f1, f2, f3⟩, g⟩ | ⟨g1, g2, _⟩
    · left; rw [f3]; exact e4
    · right; rw [← e5]; exact g2
theorem m_Q_end {M : m_M} {A : Nat → Int} {v : m_V} (h : m_Q M A v) (hz : v.2.2.1 = 0 ∨ v.2.2.2.1 = 0) : m_EX M A v.1 v.2.1 v.2.2.1 := by
  obtain ⟨a1, a2, a3, a4, a5⟩ := h
  refine ⟨a2, fun z => ⟨a4, fun p hp hd => a5 (by omega) z p (Nat.zero_le _) hp hd⟩, fun d S hC => ?_⟩
  exact ⟨(a1 d S hC).2, (a1 d S hC).1⟩
/-! sums -/
def m_sum (f : Nat → Nat) : Nat → Nat
  | 0 => 0
  | n + 1 => m_sum f n + f n
theorem m_sum_eq {f g : Nat → Nat} : ∀ n, (∀ p, p < n → g p = f p) → m_sum g n = m_sum f n
  | 0, _ => rfl
  | n + 1, h => by
    rw [m_sum, m_sum, m_sum_eq n (fun p hp => h p (by omega)), h n (by omega)]
theorem m_sum_lt {f g : Nat → Nat} {k : Nat} : ∀ n, k < n → (∀ p, p < n → p ≠ k → g p = f p) → g k < f k → m_sum g n < m_sum f n
  | 0, h, _, _ => by omega
  | n + 1, h, he, hk => by
    rw [m_sum, m_sum]
    by_cases hn : k = n
    · subst hn
      rw [m_sum_eq k (fun p hp => he p (by omega) (by omega))]
      omega
    · have x := m_sum_lt n (by omega) (fun p hp => he p (by omega)) hk
      have y := he n (by omega) (fun z => hn z.symm)
      omega
theorem m_sum_le {f : Nat → Nat} {a : Nat} : ∀ n, (∀ p, p < n → f p ≤ a) → m_sum f n ≤ a * n
  | 0, _ => by simp [m_sum]
  | n + 1, h => by
    have x := m_sum_le n (fun p hp => h p (by omega))
    have y := h n (by omega)
    rw [m_sum, Nat.mul_succ]
    omega
theorem m_EX0 {M : m_M} {A : Nat → Int} {v v0 : m_V} (hneg : ∀ p, p < ML M → v0.1 p < 0) (hs0 : v0.2.2.1 = 1) (hT : Nat → Prop) (hTa : ∀ n, hT n ↔ (n : Int) < Ma M) (hO : m_O (ML M) v0 v (fun d S => m_ar (Mc M) (ML M) d S 0 0 hT)) (hpl : m_pl (Mc M) (ML M) 0) (hd : v.1 0 = 0) (hS : ∀ n, v.2.1 0 n → hT n) (hs : v.2.2.1 = 1) (hc : v.2.2.2.1 = 1) : m_Q M A v := by
  refine ⟨fun d S hC => ?_, Or.inr hs, Or.inr hc, ⟨hpl, hd, fun n hn => (hTa n).1 (hS n hn)⟩, fun z => by omega⟩
  have x := hO.1 d S (fun p hp hz => absurd hz (by have := hneg p hp; omega)) ⟨hC.1.1, hC.1.2.1, fun n hn => (hTa n).2 (hC.1.2.2 n hn)⟩
  exact ⟨x.1, hs⟩
