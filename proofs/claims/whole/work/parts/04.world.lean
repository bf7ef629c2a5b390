/-! 04: the two worlds (written by wip/gen/main.py) -/
def xb_cap (b : Nat) : Nat := if b < 8 then 40 else 120
def xb_hc (b : Nat) : Nat := if b < 8 then 12 else 20
theorem xb_capL (b : Nat) : xb_cap b < 2147483648 := by unfold xb_cap; split <;> decide
theorem xb_hcL (b : Nat) : xb_hc b < 2147483648 := by unfold xb_hc; split <;> decide
def kdC (i : Nat) : xw_T :=
  if i = 0 then (7, 12, [some (1), some (3 + 0), some (3 + 1), some (3 + 2), some (6), some (7), some (8), some (10), some (17), none, none, none]) else
  if i = 1 then (1, 4, [some (2), none, none, none]) else
  if i = 8 then (2, 3, [some (9), none, none]) else
  if i = 10 then (4, 8, [some (48 + 4 * 12), some (11), some (12), some (13), some (14), some (15), some (16), none]) else
  if i = 17 then (5, 9, [some (18), some (19), some (20), none, none, none, none, none, none]) else
  if i = 2 then (20, 240, []) else
  if i = 7 then (21, 12, []) else
  if i = 9 then (20, 120, []) else
  if i = 11 then (20, 243, []) else
  if i = 12 then (20, 243, []) else
  if i = 13 then (20, 243, []) else
  if i = 14 then (20, 244, []) else
  if i = 15 then (20, 121, []) else
  if i = 16 then (20, 121, []) else
  if i = 19 then (20, 100, []) else
  if i = 20 then (20, 160, []) else
  if i = 3 then (23, 4, [some 48, some 52, some 56, some 60]) else
  if i = 4 then (23, 4, [some 64, some 68, some 72, some 76]) else
  if i = 5 then (23, 4, [some 80, some 84, some 88, some 92]) else
  if i = 6 then (24, 3, [some 21, some 22, some 23]) else
  if i = 18 then (25, 8, [some 24, some 27, some 30, some 33, some 36, some 39, some 42, some 45]) else
  if i < 24 then (6, 3, [none, none, none]) else
  if i < 48 then (if i % 3 = 0 then (3, 5, [some (i + 1), some (i + 2), none, none, none]) else if i % 3 = 1 then (20, 8, []) else (20, 6, [])) else
  if i % 4 = 0 then (0, 12, [some (i + 1), some (i + 2), some (i + 3), none, none, none, none, none, none, none, none, none]) else if i % 4 = 3 then (20, xb_hc ((i - 48) / 4), []) else (20, xb_cap ((i - 48) / 4), [])
theorem kc_AW : kdC 0 = (7, 12, [some (1), some (3 + 0), some (3 + 1), some (3 + 2), some (6), some (7), some (8), some (10), some (17), none, none, none]) := by decide
theorem kc_CF : kdC 1 = (1, 4, [some (2), none, none, none]) := by decide
theorem kc_Flow : kdC 8 = (2, 3, [some (9), none, none]) := by decide
theorem kc_Loom : kdC 10 = (4, 8, [some (48 + 4 * 12), some (11), some (12), some (13), some (14), some (15), some (16), none]) := by decide
theorem kc_Mach : kdC 17 = (5, 9, [some (18), some (19), some (20), none, none, none, none, none, none]) := by decide
theorem kc_bytes : kdC 2 = (20, 240, []) := by decide
theorem kc_failures : kdC 7 = (21, 12, []) := by decide
theorem kc_sets : kdC 9 = (20, 120, []) := by decide
theorem kc_ops : kdC 11 = (20, 243, []) := by decide
theorem kc_numbers : kdC 12 = (20, 243, []) := by decide
theorem kc_sources : kdC 13 = (20, 243, []) := by decide
theorem kc_places : kdC 14 = (20, 244, []) := by decide
theorem kc_leads : kdC 15 = (20, 121, []) := by decide
theorem kc_leaders : kdC 16 = (20, 121, []) := by decide
theorem kc_kept : kdC 19 = (20, 100, []) := by decide
theorem kc_probes : kdC 20 = (20, 160, []) := by decide
theorem kc_Tr : ∀ b, b < 3 → kdC (21 + b) = (6, 3, [none, none, none]) := by decide
theorem kc_Frame : ∀ b, b < 8 → kdC (24 + 3 * b) = (3, 5, [some (25 + 3 * b), some (26 + 3 * b), none, none, none]) := by decide
theorem kc_Body : ∀ b, b < 13 → kdC (48 + 4 * b) = (0, 12, [some (49 + 4 * b), some (50 + 4 * b), some (51 + 4 * b), none, none, none, none, none, none, none, none, none]) := by decide
theorem kc_fstack : ∀ b, b < 8 → kdC (25 + 3 * b) = (20, 8, []) := by decide
theorem kc_flocals : ∀ b, b < 8 → kdC (26 + 3 * b) = (20, 6, []) := by decide
theorem kc_bcode : ∀ b, b < 13 → kdC (49 + 4 * b) = (20, xb_cap b, []) := by decide
theorem kc_bdepths : ∀ b, b < 13 → kdC (50 + 4 * b) = (20, xb_cap b, []) := by decide
theorem kc_bparts : ∀ b, b < 13 → kdC (51 + 4 * b) = (20, xb_hc b, []) := by decide
theorem kc_BodyArr : ∀ a, a < 3 → kdC (3 + a) = (23, 4, [some (48 + 16 * a), some (52 + 16 * a), some (56 + 16 * a), some (60 + 16 * a)]) := by decide
theorem kc_BodyArrE0 : ∀ a, a < 3 → ∀ x, x < 4 → [some (48 + 16 * a), some (52 + 16 * a), some (56 + 16 * a), some (60 + 16 * a)].getD x none = some (48 + 4 * (4 * a + x)) := by decide
theorem kc_BodyArrE (a x : Nat) (ha : a < 3) (hx : x < 4) : [some (48 + 16 * a), some (52 + 16 * a), some (56 + 16 * a), some (60 + 16 * a)].getD x none = some (48 + 4 * (4 * a + x)) := kc_BodyArrE0 a ha x hx
theorem kc_TrArr : kdC 6 = (24, 3, [some 21, some 22, some 23]) := by decide
theorem kc_TrArrE : ∀ x, x < 3 → [some 21, some 22, some 23].getD x none = some (21 + x) := by decide
theorem kc_FrameArr : kdC 18 = (25, 8, [some 24, some 27, some 30, some 33, some 36, some 39, some 42, some 45]) := by decide
theorem kc_FrameArrE : ∀ x, x < 8 → [some 24, some 27, some 30, some 33, some 36, some 39, some 42, some 45].getD x none = some (24 + 3 * x) := by decide
def kdR (i : Nat) : xw_T :=
  if i = 0 then (8, 43, [some (1), none, some (2), some (3), some (4), some (5), some (6), some (7), some (8), some (9), none, none, none, none, none, none, some (10), some (11), some (12), some (13), some (14), some (15), some (16), none, none, some (17), some (18), some (19), some (20), none, some (21), none, some (22), some (23), some (24), some (25), some (26), none, none, none, none, some (27), some (28)]) else
  if i = 1 then (20, 240, []) else
  if i = 2 then (20, 12, []) else
  if i = 3 then (20, 12, []) else
  if i = 4 then (20, 12, []) else
  if i = 5 then (20, 12, []) else
  if i = 6 then (20, 12, []) else
  if i = 7 then (20, 1440, []) else
  if i = 8 then (20, 12, []) else
  if i = 9 then (20, 240, []) else
  if i = 10 then (21, 3, []) else
  if i = 11 then (20, 3, []) else
  if i = 12 then (20, 3, []) else
  if i = 13 then (21, 12, []) else
  if i = 14 then (21, 121, []) else
  if i = 15 then (20, 121, []) else
  if i = 16 then (22, 121, []) else
  if i = 17 then (21, 121, []) else
  if i = 18 then (21, 121, []) else
  if i = 19 then (20, 121, []) else
  if i = 20 then (20, 121, []) else
  if i = 21 then (20, 120, []) else
  if i = 22 then (20, 8, []) else
  if i = 23 then (20, 8, []) else
  if i = 24 then (20, 8, []) else
  if i = 25 then (20, 48, []) else
  if i = 26 then (20, 72, []) else
  if i = 27 then (20, 100, []) else
  if i = 28 then (20, 1024, []) else
  (20, 0, [])
theorem kr_MD : kdR 0 = (8, 43, [some (1), none, some (2), some (3), some (4), some (5), some (6), some (7), some (8), some (9), none, none, none, none, none, none, some (10), some (11), some (12), some (13), some (14), some (15), some (16), none, none, some (17), some (18), some (19), some (20), none, some (21), none, some (22), some (23), some (24), some (25), some (26), none, none, none, none, some (27), some (28)]) := by decide
theorem kr_m_bytes : kdR 1 = (20, 240, []) := by decide
theorem kr_m_name : kdR 2 = (20, 12, []) := by decide
theorem kr_m_args : kdR 3 = (20, 12, []) := by decide
theorem kr_m_locals : kdR 4 = (20, 12, []) := by decide
theorem kr_m_room : kdR 5 = (20, 12, []) := by decide
theorem kr_m_length : kdR 6 = (20, 12, []) := by decide
theorem kr_m_code : kdR 7 = (20, 1440, []) := by decide
theorem kr_m_handlers : kdR 8 = (20, 12, []) := by decide
theorem kr_m_handler : kdR 9 = (20, 240, []) := by decide
theorem kr_m_cover : kdR 10 = (21, 3, []) := by decide
theorem kr_m_letter : kdR 11 = (20, 3, []) := by decide
theorem kr_m_wanted : kdR 12 = (20, 3, []) := by decide
theorem kr_m_fails : kdR 13 = (21, 12, []) := by decide
theorem kr_m_begins : kdR 14 = (21, 121, []) := by decide
theorem kr_m_depths : kdR 15 = (20, 121, []) := by decide
theorem kr_m_sets : kdR 16 = (22, 121, []) := by decide
theorem kr_m_before : kdR 17 = (21, 121, []) := by decide
theorem kr_m_wide : kdR 18 = (21, 121, []) := by decide
theorem kr_m_lead : kdR 19 = (20, 121, []) := by decide
theorem kr_m_own : kdR 20 = (20, 121, []) := by decide
theorem kr_m_fresh : kdR 21 = (20, 120, []) := by decide
theorem kr_m_method : kdR 22 = (20, 8, []) := by decide
theorem kr_m_place : kdR 23 = (20, 8, []) := by decide
theorem kr_m_height : kdR 24 = (20, 8, []) := by decide
theorem kr_m_local : kdR 25 = (20, 48, []) := by decide
theorem kr_m_stack : kdR 26 = (20, 72, []) := by decide
theorem kr_m_mark : kdR 27 = (20, 100, []) := by decide
theorem kr_m_probe : kdR 28 = (20, 1024, []) := by decide
theorem kr_long : ∀ q, q < 29 → (kdR q).1 = 22 → q = 16 := by decide
