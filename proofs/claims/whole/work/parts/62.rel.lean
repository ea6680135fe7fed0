/-! THE RELATION between the class's cells and the reference's. -/
def okB (b : Int32) : Prop := b = 0 ∨ b = 8 ∨ b = 16 ∨ b = 32
/-- all but the house and the row now -/
def RS (M : zM) (D : Nat) : Prop :=
  (∀ j, 67 ≤ j → M 49 j = 0) ∧ (∀ j, 67 ≤ j → M 50 j = 0) ∧ M 47 3 = M 0 7 ∧ (M 0 7 = 0 ∨ (M 0 7 = 1 ∧ M 49 = hrow M 12 ∧ okA (M 49) D)) ∧ (∀ i, i < 7 → M 51 (i + 1) = M 38 i) ∧ M 51 0 = sumR (M 38) 7 ∧ (M 47 8 = M 34 1 ∧ nb (M 34 1) 120 ∧ ∀ i, i < 120 → M 54 i = M 35 i ∧ nb (M 35 i) 255) ∧ ∀ s, s < 4 → M 57 s = M (39 + 2 * s) 1 ∧ M 58 s = M (39 + 2 * s) 2 ∧ (∀ i, i < 40 → M 59 (40 * s + i) = M (40 + 2 * s) i) ∧ okB (M 57 s) ∧ nb (M 58 s) 40 ∧ (M 57 s = 0 → M 58 s = 0)
def RR (M : zM) (D : Nat) : Prop := M 48 = hrow M 1 ∧ okA (M 48) D ∧ RS M D
theorem RS_mono {M : zM} {D E : Nat} (h : RS M D) (hD : D ≤ E) : RS M E := ⟨h.1, h.2.1, h.2.2.1, h.2.2.2.1.imp id (fun c => ⟨c.1, c.2.1, okA_mono c.2.2 hD⟩), h.2.2.2.2⟩
theorem RR_mono {M : zM} {D E : Nat} (h : RR M D) (hD : D ≤ E) : RR M E := ⟨h.1, okA_mono h.2.1 hD, RS_mono h.2.2 hD⟩
/-- what RS rests on -/
def RSc (a : Nat) : Prop := a = 0 ∨ (12 ≤ a ∧ a ≤ 20) ∨ a = 34 ∨ a = 35 ∨ (38 ≤ a ∧ a ≤ 46) ∨ a = 49 ∨ a = 51 ∨ a = 54 ∨ (57 ≤ a ∧ a ≤ 59)
theorem RS_congr {M M' : zM} {D : Nat} (h : ∀ a, RSc a → M' a = M a) (h47 : M' 47 3 = M 47 3 ∧ M' 47 8 = M 47 8) (h50 : ∀ j, 67 ≤ j → M' 50 j = 0) (hR : RS M D) : RS M' D := by
  obtain ⟨r1, r2, r3, r4, r5, r6, r7, r8⟩ := hR
  have e0 := h 0 (by unfold RSc; omega)
  have e34 := h 34 (by unfold RSc; omega)
  have e35 := h 35 (by unfold RSc; omega)
  have e38 := h 38 (by unfold RSc; omega)
  have e49 := h 49 (by unfold RSc; omega)
  have e51 := h 51 (by unfold RSc; omega)
  have e54 := h 54 (by unfold RSc; omega)
  have e57 := h 57 (by unfold RSc; omega)
  have e58 := h 58 (by unfold RSc; omega)
  have e59 := h 59 (by unfold RSc; omega)
  have eh : hrow M' 12 = hrow M 12 := hrow_off (fun a h1 h2 => h a (by unfold RSc; omega))
  refine ⟨by rw [e49]; exact r1, h50, by rw [h47.1, e0]; exact r3, by rw [e0, e49, eh]; exact r4, by rw [e51, e38]; exact r5, by rw [e51, e38]; exact r6, by rw [h47.2, e34, e54, e35]; exact r7, fun s hs => ?_⟩
  have ea := h (39 + 2 * s) (by unfold RSc; omega)
  have eb := h (40 + 2 * s) (by unfold RSc; omega)
  rw [e57, e58, e59, ea, eb]
  exact r8 s hs
/-- what RR rests on -/
theorem RR_congr {M M' : zM} {D : Nat} (h : ∀ a, RSc a ∨ (1 ≤ a ∧ a ≤ 9) ∨ a = 48 → M' a = M a) (h47 : M' 47 3 = M 47 3 ∧ M' 47 8 = M 47 8) (h50 : ∀ j, 67 ≤ j → M' 50 j = 0) (hR : RR M D) : RR M' D := by
  have e48 := h 48 (by omega)
  have eh : hrow M' 1 = hrow M 1 := hrow_off (fun a h1 h2 => h a (by omega))
  exact ⟨by rw [e48, eh]; exact hR.1, by rw [e48]; exact hR.2.1, RS_congr (fun a ha => h a (Or.inl ha)) h47 h50 hR.2.2⟩
/-- two methods answer alike, and keep the relation -/
def PE (f g : zM → Option (Int32 × zM)) : Prop := ∀ (M : zM) (D : Nat), D ≤ 40000 → RR M D → ∃ r M1 M2, f M = some (r, M1) ∧ g M1 = some (r, M2) ∧ RR M2 (D + 60)
-- checks
theorem f_within_eq (x lo hi : Int32) (M : zM) : f_X5_within x lo hi M = some (if x < lo then 0 else if hi < x then 0 else 1) := by
  unfold f_X5_within; simp only [if_some]
theorem m_within_eq (x lo hi : Int32) (M : zM) : f_X6_within x lo hi M = some (if x < lo then 0 else if hi < x then 0 else 1) := by
  unfold f_X6_within; simp only [if_some]
theorem zbo_if {c d : Prop} [Decidable c] [Decidable d] : zbo (if c then 0 else if d then 0 else 1) = some (if c then 0 else if d then 0 else 1) := by
  repeat' split
  all_goals rfl
/-- is x between lo and hi (numbers as ints) -/
def inB (x lo hi : Int32) : Prop := ¬ x < lo ∧ ¬ hi < x
theorem wi_t {x lo hi : Int32} (h : inB x lo hi) : (if x < lo then (0 : Int32) else if hi < x then 0 else 1) = 1 := by rw [if_neg h.1, if_neg h.2]
theorem wi_f {x lo hi : Int32} (h : ¬ inB x lo hi) : (if x < lo then (0 : Int32) else if hi < x then 0 else 1) = 0 := by
  by_cases h1 : x < lo
  · rw [if_pos h1]
  · rw [if_neg h1, if_pos]
    exact Classical.byContradiction (fun c => h ⟨h1, c⟩)
theorem inB_nI {x : Int32} {n : Nat} (hn : n < 1000000) : inB x 0 (nI n) ↔ ∃ j, j ≤ n ∧ x = nI j := by
  constructor
  · rintro ⟨h1, h2⟩
    obtain ⟨j, hj, e⟩ := nI_of h1
    subst e
    exact ⟨j, Nat.not_lt.mp (fun c => h2 (nI_lt c hj)), rfl⟩
  · rintro ⟨j, hj, rfl⟩
    exact ⟨nI_pos (by omega), nI_nlt hj (by omega)⟩
/-- the last of n names -/
theorem inB_last {x : Int32} {n : Nat} (hn : n ≤ 8) : inB x 0 (nI n - 1) ↔ ∃ j, j < n ∧ x = nI j := by
  cases n with
  | zero =>
    constructor
    · rintro ⟨h1, h2⟩
      exfalso
      obtain ⟨j, hj, e⟩ := nI_of h1
      subst e
      exact h2 (Int32.lt_iff_toInt_lt.mpr (by rw [nI_toInt hj]; show (-1 : Int) < _; omega))
    · rintro ⟨j, hj, _⟩; omega
  | succ n =>
    rw [nI_pred, inB_nI (by omega)]
    constructor
    · rintro ⟨j, hj, e⟩; exact ⟨j, by omega, e⟩
    · rintro ⟨j, hj, e⟩; exact ⟨j, by omega, e⟩
theorem f_isName_eq {M : zM} (x : Int32) : f_X5_isName x M = some (if x < 0 then 0 else if M 1 0 - 1 < x then 0 else 1) := by
  unfold f_X5_isName
  rw [f_within_eq, Option.bind_some, zbo_if]; rfl
theorem m_isName_eq {M : zM} (x : Int32) : f_X6_isName x M = some (if x < 0 then 0 else if M 48 1 - 1 < x then 0 else 1) := by
  have e : zrd M 48 1 = some (M 48 1) := rd48 (j := 1) (by omega)
  unfold f_X6_isName
  rw [e, Option.bind_some, m_within_eq, Option.bind_some, zbo_if]; rfl
theorem f_isPerson_eq {M : zM} (x : Int32) : f_X5_isPerson x M = some (if x < 0 then 0 else if 5 < x then 0 else 1) := by
  unfold f_X5_isPerson
  rw [f_within_eq, Option.bind_some, zbo_if]; rfl
theorem m_isPerson_eq {M : zM} (x : Int32) : f_X6_isPerson x M = some (if x < 0 then 0 else if 5 < x then 0 else 1) := by
  unfold f_X6_isPerson
  rw [m_within_eq, Option.bind_some, zbo_if]; rfl
theorem f_isOrder_eq {M : zM} (x : Int32) : f_X5_isOrder x M = some (if x < 0 then 0 else if 719 < x then 0 else 1) := by
  unfold f_X5_isOrder
  rw [f_within_eq, Option.bind_some, zbo_if]; rfl
theorem m_isOrder_eq {M : zM} (x : Int32) : f_X6_isOrder x M = some (if x < 0 then 0 else if 719 < x then 0 else 1) := by
  unfold f_X6_isOrder
  rw [m_within_eq, Option.bind_some, zbo_if]; rfl
theorem m_isKind_eq {M : zM} (x : Int32) : f_X6_isKind x M = some (if x < 0 then 0 else if 6 < x then 0 else 1) := by
  unfold f_X6_isKind
  rw [m_within_eq, Option.bind_some, zbo_if]; rfl
-- findings
theorem sumR_congr {f g : Nat → Int32} : ∀ n, (∀ i, i < n → f i = g i) → sumR f n = sumR g n := by
  intro n
  induction n with
  | zero => intro _; rfl
  | succ n ih => intro h; simp only [sumR, ih (fun i hi => h i (by omega)), h n (by omega)]
theorem sumR_upd (f : Nat → Int32) (i : Nat) : ∀ n, i < n → sumR (upd f i (f i + 1)) n = sumR f n + 1 := by
  intro n
  induction n with
  | zero => intro h; omega
  | succ n ih =>
    intro h
    show sumR (upd f i (f i + 1)) n + upd f i (f i + 1) n = sumR f n + f n + 1
    by_cases e : i = n
    · subst e
      rw [sumR_congr (g := f) i (fun j hj => by rw [upd_at, if_neg (by omega)]), upd_at, if_pos rfl, Int32.add_assoc]
    · rw [ih (by omega), upd_at, if_neg (fun c => e c.symm), Int32.add_assoc, Int32.add_assoc, Int32.add_comm 1]
/-- a finding, in both -/
theorem find_pair {M : zM} {D i : Nat} (h : RR M D) (hi : i < 7) : ∃ M1 M2, f_X5_finding (nI i) M = some ((-1000001) - nI i, M1) ∧ (∀ a, a ≠ 38 → M1 a = M a) ∧ f_X6_finding ((-1000001) - nI i) M1 = some ((-1000001) - nI i, M2) ∧ RR M2 D := by
  have e1 : f_X5_finding (nI i) M = some ((-1000001) - nI i, zU M 38 i (M 38 i + 1)) := by
    unfold f_X5_finding
    rw [rd (n := 7) rfl hi, Option.bind_some, wr (n := 7) rfl hi]; rfl
  have ei : (((-1000001) - ((-1000001) - nI i)) + 1 : Int32) = nI (i + 1) := (by decide : ∀ i, i < 7 → (((-1000001) - ((-1000001) - nI i)) + 1 : Int32) = nI (i + 1)) i hi
  generalize hM1 : zU M 38 i (M 38 i + 1) = M1 at e1
  have hf : ∀ a, a ≠ 38 → M1 a = M a := fun a ha => by rw [← hM1]; exact zU_off ha
  have h38 : M1 38 = upd (M 38) i (M 38 i + 1) := by rw [← hM1]; exact zU_row ..
  refine ⟨M1, zU (zU M1 51 (i + 1) (M1 51 (i + 1) + 1)) 51 0 (M1 51 0 + 1), e1, hf, ?_, ?_⟩
  · unfold f_X6_finding
    have z0 : ∀ N : zM, zrd N 51 0 = some (N 51 0) := fun N => rd (M := N) (k := 51) (n := 8) (j := 0) rfl (by omega)
    have w0 : ∀ (N : zM) v, zwr N 51 0 v = some (zU N 51 0 v) := fun N v => wr (M := N) (k := 51) (n := 8) (j := 0) rfl (by omega)
    rw [ei, rd (n := 8) rfl (by omega), Option.bind_some, wr (n := 8) rfl (by omega), Option.bind_some, z0, Option.bind_some, w0, Option.bind_some, zU_at, if_neg (by omega)]
  · obtain ⟨r0, r00, r1, r2, r3, r4, r5, r6, r7, r8⟩ := h
    have g : ∀ a, a ≠ 51 → zU (zU M1 51 (i + 1) (M1 51 (i + 1) + 1)) 51 0 (M1 51 0 + 1) a = M1 a := fun a ha => by rw [zU_off ha, zU_off ha]
    have g2 : ∀ a, a ≠ 51 → a ≠ 38 → zU (zU M1 51 (i + 1) (M1 51 (i + 1) + 1)) 51 0 (M1 51 0 + 1) a = M a := fun a h1 h2 => by rw [g a h1, hf a h2]
    generalize hM2 : zU (zU M1 51 (i + 1) (M1 51 (i + 1) + 1)) 51 0 (M1 51 0 + 1) = M2 at g g2
    have e51 : M1 51 = M 51 := hf 51 (by omega)
    have eh1 : hrow M2 1 = hrow M 1 := hrow_off (fun a h1 h2 => g2 a (by omega) (by omega))
    have eh12 : hrow M2 12 = hrow M 12 := hrow_off (fun a h1 h2 => g2 a (by omega) (by omega))
    refine ⟨by rw [g2 48 (by omega) (by omega), eh1]; exact r0, by rw [g2 48 (by omega) (by omega)]; exact r00, by rw [g2 49 (by omega) (by omega)]; exact r1, by rw [g2 50 (by omega) (by omega)]; exact r2, by rw [g2 47 (by omega) (by omega), g2 0 (by omega) (by omega)]; exact r3, by rw [g2 0 (by omega) (by omega), g2 49 (by omega) (by omega), eh12]; exact r4, fun k hk => ?_, ?_, by rw [g2 47 (by omega) (by omega), g2 34 (by omega) (by omega), g2 54 (by omega) (by omega), g2 35 (by omega) (by omega)]; exact r7, fun s hs => ?_⟩
    · rw [g 38 (by omega), h38, ← hM2, zU_at, if_neg (by omega), zU_at, e51, upd_at]
      by_cases e : k = i
      · subst e; rw [if_pos ⟨rfl, rfl⟩, if_pos rfl, r5 k hk]
      · rw [if_neg (by omega), if_neg e, r5 k hk]
    · rw [g 38 (by omega), h38, sumR_upd _ _ _ hi, ← hM2, zU_same, e51, r6]
    · rw [g2 57 (by omega) (by omega), g2 58 (by omega) (by omega), g2 59 (by omega) (by omega), g2 (39 + 2 * s) (by omega) (by omega), g2 (40 + 2 * s) (by omega) (by omega)]
      exact r8 s hs
