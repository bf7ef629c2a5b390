/-! 60: a calculus for the pure functions -/
def pw {β : Type} (e : Option β) (P : β → Prop) : Prop := ∃ b, e = some b ∧ P b
theorem pw_some {β : Type} {b : β} {P : β → Prop} : pw (some b) P ↔ P b := ⟨fun ⟨_, h, hp⟩ => by cases h; exact hp, fun h => ⟨b, rfl, h⟩⟩
theorem pw_let {α β : Type} {a : α} {f : α → Option β} {P : β → Prop} : pw (xw_let a f) P ↔ pw (f a) P := Iff.rfl
theorem pw_jn {κ β : Type} {k : κ} {f : κ → Option β} {P : β → Prop} : pw (xw_jn k f) P ↔ pw (f k) P := Iff.rfl
theorem pw_grd {β : Type} {c : Prop} [Decidable c] {e : Option β} {P : β → Prop} : pw (xw_grd c e) P ↔ c ∧ pw e P := by
  unfold xw_grd
  by_cases h : c
  · simp [h]
  · simp [h, pw]
theorem pw_if {β : Type} {c : Prop} [Decidable c] {a b : Option β} {P : β → Prop} : pw (xw_if c a b) P ↔ (c → pw a P) ∧ (¬ c → pw b P) := by
  unfold xw_if
  by_cases h : c <;> simp [h]
theorem pw_bnd {α β : Type} {e : Option α} {f : α → Option β} {P : β → Prop} : pw (xw_bnd e f) P ↔ pw e (fun a => pw (f a) P) := by
  cases e with
  | none => simp [xw_bnd, pw]
  | some a => simp [xw_bnd, pw]
theorem pw_bn2 {α γ β : Type} {e : Option (α × γ)} {f : α → γ → Option β} {P : β → Prop} : pw (xw_bn2 e f) P ↔ pw e (fun q => pw (f q.1 q.2) P) := by
  cases e with
  | none => simp [xw_bn2, pw]
  | some a => simp [xw_bn2, pw]
theorem pw_mono {β : Type} {e : Option β} {P Q : β → Prop} (h : pw e P) (hPQ : ∀ b, P b → Q b) : pw e Q := by
  obtain ⟨b, h1, h2⟩ := h
  exact ⟨b, h1, hPQ b h2⟩
theorem pw_eq {β : Type} {e : Option β} {b : β} {P : β → Prop} (h : e = some b) (hP : P b) : pw e P := ⟨b, h, hP⟩
theorem xw_grd_t {β : Type} {c : Prop} [Decidable c] {e : Option β} (h : c) : xw_grd c e = e := if_pos h
theorem xw_if_t {β : Type} {c : Prop} [Decidable c] {a b : Option β} (h : c) : xw_if c a b = a := if_pos h
theorem xw_if_f {β : Type} {c : Prop} [Decidable c] {a b : Option β} (h : ¬ c) : xw_if c a b = b := if_neg h
theorem xw_let_e {α β : Type} {a : α} {f : α → Option β} : xw_let a f = f a := rfl
theorem xw_jn_e {κ β : Type} {k : κ} {f : κ → Option β} : xw_jn k f = f k := rfl
theorem xw_bn2_e {α γ β : Type} {e : Option (α × γ)} {a : α} {c : γ} {f : α → γ → Option β} (h : e = some (a, c)) : xw_bn2 e f = f a c := by rw [h]; rfl
theorem xw_bnd_e {α β : Type} {e : Option α} {a : α} {f : α → Option β} (h : e = some a) : xw_bnd e f = f a := by rw [h]; rfl
theorem st_e (s : xw_S) (i k : Nat) (v : Int) (i' k' : Nat) : (xw_st s i k v).1 i' k' = if i' = i ∧ k' = k then v else s.1 i' k' := rfl
theorem st_s (s : xw_S) (i k : Nat) (v : Int) : (xw_st s i k v).1 i k = v := by simp [st_e]
theorem st_i {s : xw_S} {i k : Nat} {v : Int} {i' k' : Nat} (h : i' ≠ i) : (xw_st s i k v).1 i' k' = s.1 i' k' := by simp [st_e, h]
theorem st_k {s : xw_S} {i k : Nat} {v : Int} {i' k' : Nat} (h : k' ≠ k) : (xw_st s i k v).1 i' k' = s.1 i' k' := by simp [st_e, h]
theorem st_2 (s : xw_S) (i k : Nat) (v : Int) : (xw_st s i k v).2 = s.2 := rfl
/-- nothing but the places of S has changed -/
def frm (S : Nat → Nat → Prop) (s s' : xw_S) : Prop := s'.2 = s.2 ∧ ∀ i k, ¬ S i k → s'.1 i k = s.1 i k
theorem frm_rf (S : Nat → Nat → Prop) (s : xw_S) : frm S s s := ⟨rfl, fun _ _ _ => rfl⟩
theorem frm_tr {S : Nat → Nat → Prop} {a b c : xw_S} (h : frm S a b) (h' : frm S b c) : frm S a c := ⟨h'.1.trans h.1, fun i k hs => (h'.2 i k hs).trans (h.2 i k hs)⟩
theorem frm_st {S : Nat → Nat → Prop} {s : xw_S} {i k : Nat} {v : Int} (h : S i k) : frm S s (xw_st s i k v) := ⟨rfl, fun i' k' hs => by
  rw [st_e, if_neg]
  rintro ⟨rfl, rfl⟩
  exact hs h⟩
theorem frm_mono {S T : Nat → Nat → Prop} {s s' : xw_S} (h : frm S s s') (hST : ∀ i k, S i k → T i k) : frm T s s' := ⟨h.1, fun i k ht => h.2 i k (fun hs => ht (hST i k hs))⟩
/-! outside -/
theorem q_outside (fu : Nat) (s : xw_S) {v lo hi : Int} (hv : xw_r v) (hl : xw_r lo) (hh : xw_r hi) : f_MD_outside fu s v lo hi = some (s, if v < lo ∨ hi < v then 1 else 0) := by
  unfold f_MD_outside
  rw [xw_jn_e, xw_grd_t ⟨hv, hl⟩]
  by_cases h1 : v < lo
  · rw [xw_if_t h1, if_pos (Or.inl h1)]
  · rw [xw_if_f h1, xw_grd_t hh]
    by_cases h2 : v ≤ hi
    · rw [xw_if_t h2, if_neg (by omega)]
    · rw [xw_if_f h2, if_pos (by omega)]
/-! ===== Int32 by its bits: bt x i ===== -/
def bt (x : Int32) (i : Nat) : Bool := x.toBitVec.getLsbD i
theorem b_ext {x y : Int32} (h : ∀ i, i < 32 → bt x i = bt y i) : x = y := Int32.toBitVec_inj.mp (BitVec.eq_of_getLsbD_eq (fun i hi => h i hi))
theorem b_or (x y : Int32) (i : Nat) : bt (x ||| y) i = (bt x i || bt y i) := by unfold bt; rw [Int32.toBitVec_or, BitVec.getLsbD_or]
theorem b_and (x y : Int32) (i : Nat) : bt (x &&& y) i = (bt x i && bt y i) := by unfold bt; rw [Int32.toBitVec_and, BitVec.getLsbD_and]
theorem b_xor (x y : Int32) (i : Nat) : bt (x ^^^ y) i = (bt x i ^^ bt y i) := by unfold bt; rw [Int32.toBitVec_xor, BitVec.getLsbD_xor]
theorem b_big {x : Int32} {i : Nat} (h : 32 ≤ i) : bt x i = false := BitVec.getLsbD_of_ge _ _ h
theorem b_255 (i : Nat) : bt 255 i = decide (i < 8) := by
  rcases Nat.lt_or_ge i 32 with h | h
  · exact (by decide +kernel : ∀ i, i < 32 → bt 255 i = decide (i < 8)) i h
  · rw [b_big h, decide_eq_false (by omega)]
theorem b_65535 (i : Nat) : bt 65535 i = decide (i < 16) := by
  rcases Nat.lt_or_ge i 32 with h | h
  · exact (by decide +kernel : ∀ i, i < 32 → bt 65535 i = decide (i < 16)) i h
  · rw [b_big h, decide_eq_false (by omega)]
theorem b_m1 : ∀ i, i < 32 → bt (-1) i = true := by decide +kernel
theorem b_0 (i : Nat) : bt 0 i = false := BitVec.getLsbD_zero
theorem s_l : ∀ n, n < 32 → ((nI n &&& 31).toBitVec.smod 32).toNat = n := by decide +kernel
theorem s_u : ∀ n, n < 32 → (((nI n).toUInt32 &&& Int32.toUInt32 31).toBitVec % 32).toNat = n := by decide +kernel
theorem b_shl (n : Nat) (hn : n < 32) (x : Int32) {i : Nat} (hi : i < 32) : bt (x <<< (nI n &&& 31)) i = (decide (n ≤ i) && bt x (i - n)) := by
  unfold bt
  rw [Int32.toBitVec_shiftLeft]
  show (x.toBitVec <<< ((nI n &&& 31).toBitVec.smod 32).toNat).getLsbD i = _
  rw [s_l n hn, BitVec.getLsbD_shiftLeft]
  rcases Nat.lt_or_ge i n with h | h
  · simp [h, Nat.not_le.mpr h]
  · simp [hi, h, Nat.not_lt.mpr h]
theorem b_ushr (n : Nat) (hn : n < 32) (x : Int32) (i : Nat) : bt ((x.toUInt32 >>> ((nI n).toUInt32 &&& Int32.toUInt32 31)).toInt32) i = bt x (n + i) := by
  show (x.toUInt32 >>> ((nI n).toUInt32 &&& Int32.toUInt32 31)).toBitVec.getLsbD i = x.toUInt32.toBitVec.getLsbD (n + i)
  rw [UInt32.toBitVec_shiftRight]
  show (x.toUInt32.toBitVec >>> (((nI n).toUInt32 &&& Int32.toUInt32 31).toBitVec % 32).toNat).getLsbD i = _
  rw [s_u n hn, BitVec.getLsbD_ushiftRight]
theorem b_sshr (n : Nat) (hn : n < 32) (x : Int32) {i : Nat} (hi : i < 32) : bt (x >>> (nI n &&& 31)) i = if n + i < 32 then bt x (n + i) else bt x 31 := by
  unfold bt
  rw [Int32.toBitVec_shiftRight]
  show (x.toBitVec.sshiftRight ((nI n &&& 31).toBitVec.smod 32).toNat).getLsbD i = _
  rw [s_l n hn, BitVec.getLsbD_sshiftRight, BitVec.msb_eq_getLsbD_last]
  simp [hi]
/-! a byte of a word: by >> and by >>> -/
theorem nI_xw (n : Nat) : xw_i (n : Int) = nI n := by
  unfold xw_i nI
  exact Int32.ofInt_eq_ofNat
theorem q_byte (w : Int) {j : Nat} (hj : j ≤ 3) : xw_an (xw_hu w (8 * (j : Int))) 255 = xw_an (xw_hr w (8 * (j : Int))) 255 := by
  have e8 : (8 * (j : Int)) = ((8 * j : Nat) : Int) := by omega
  unfold xw_an xw_hu xw_hr
  rw [xw_back, xw_back, e8, nI_xw]
  congr 1
  apply b_ext
  intro i hi
  have e255 : xw_i 255 = 255 := by decide
  rw [b_and, b_and, e255, b_255]
  by_cases h : i < 8
  · rw [b_ushr (8 * j) (by omega), b_sshr (8 * j) (by omega) _ hi, if_pos (by omega)]
  · simp [h]
theorem q_byte_r (x : Int) : 0 ≤ xw_an x 255 ∧ xw_an x 255 ≤ 255 := by
  unfold xw_an
  obtain ⟨n, hn, e⟩ := pk_andE (xw_i x) (m := xw_i 255) 8 (by decide)
  rw [e, nI_toInt (by omega)]
  omega
