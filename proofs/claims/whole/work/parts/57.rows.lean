/-! ROWS THAT CHANGE; who draws what, by persons. -/
def rc (t i : Nat) : Nat := if i < 5 then t else if i < 15 then t + 8 else if i < 55 then t + 1 + (i - 15) % 5 else if i < 61 then t + 6 else t + 7
def rp (i : Nat) : Nat := if i < 15 then (if i = 0 then 10 else if i = 1 then 0 else if i = 2 then 12 else if i = 3 then 9 else if i = 4 then 11 else i - 5) else if i < 55 then (i - 15) / 5 else if i < 61 then i - 55 else i - 61
theorem hrow_eq (M : zM) (t i : Nat) : hrow M t i = if i < 67 then M (rc t i) (rp i) else 0 := by
  by_cases h5 : i < 5
  · rw [if_pos (by omega)]
    match i, h5 with
    | 0, _ => rfl
    | 1, _ => rfl
    | 2, _ => rfl
    | 3, _ => rfl
    | 4, _ => rfl
  · unfold hrow rc rp
    rw [if_neg (by omega), if_neg (by omega), if_neg (by omega), if_neg (by omega), if_neg (by omega)]
    rw [if_neg h5]
    by_cases h1 : i < 15
    · rw [if_pos h1, if_pos (by omega), if_pos h1, if_pos h1, if_neg (by omega), if_neg (by omega), if_neg (by omega), if_neg (by omega), if_neg (by omega)]
    · rw [if_neg h1, if_neg h1, if_neg h1]
      by_cases h2 : i < 55
      · rw [if_pos h2, if_pos h2, if_pos h2, if_pos (by omega)]
      · rw [if_neg h2, if_neg h2, if_neg h2]
        by_cases h3 : i < 61
        · rw [if_pos h3, if_pos h3, if_pos h3, if_pos (by omega)]
        · rw [if_neg h3, if_neg h3, if_neg h3]
theorem hrow_upd {M : zM} {t k j idx : Nat} (v : Int32) (hi : ∀ i, i < 67 → ((rc t i = k ∧ rp i = j) ↔ i = idx)) (hx : idx < 67) : hrow (zU M k j v) t = upd (hrow M t) idx v := by
  funext i
  rw [upd_at, hrow_eq, hrow_eq]
  by_cases h : i < 67
  · rw [if_pos h, if_pos h, zU_at]
    by_cases e : i = idx
    · rw [if_pos ((hi i h).mpr e), if_pos e]
    · rw [if_neg (fun c => e ((hi i h).mp c)), if_neg e]
  · rw [if_neg h, if_neg h, if_neg (by omega)]
theorem hrow_uN (M : zM) (t : Nat) {f j : Nat} (v : Int32) (hf : f < 5) (hj : j < 8) : hrow (zU M (t + 1 + f) j v) t = upd (hrow M t) (15 + 5 * j + f) v := by
  refine hrow_upd v (fun i hi => ?_) (by omega)
  unfold rc rp
  by_cases h1 : i < 15
  · by_cases h5 : i < 5
    · rw [if_pos h5]; omega
    · rw [if_neg h5, if_pos h1]
      rw [if_pos h1, if_neg (by omega), if_neg (by omega), if_neg (by omega), if_neg (by omega), if_neg (by omega)]; omega
  · rw [if_neg (by omega), if_neg h1, if_neg h1]
    by_cases h2 : i < 55
    · rw [if_pos h2, if_pos h2]; omega
    · rw [if_neg h2, if_neg h2]
      by_cases h3 : i < 61
      · rw [if_pos h3, if_pos h3]; omega
      · rw [if_neg h3, if_neg h3]; omega
theorem hrow_uP (M : zM) (t : Nat) {p : Nat} (v : Int32) (hp : p < 6) : hrow (zU M (t + 6) p v) t = upd (hrow M t) (55 + p) v := by
  refine hrow_upd v (fun i hi => ?_) (by omega)
  unfold rc rp
  by_cases h1 : i < 15
  · by_cases h5 : i < 5
    · rw [if_pos h5]; omega
    · rw [if_neg h5, if_pos h1]; omega
  · rw [if_neg (by omega), if_neg h1, if_neg h1]
    by_cases h2 : i < 55
    · rw [if_pos h2, if_pos h2]; omega
    · rw [if_neg h2, if_neg h2]
      by_cases h3 : i < 61
      · rw [if_pos h3, if_pos h3]; omega
      · rw [if_neg h3, if_neg h3]; omega
theorem hrow_uW (M : zM) (t : Nat) {p : Nat} (v : Int32) (hp : p < 6) : hrow (zU M (t + 7) p v) t = upd (hrow M t) (61 + p) v := by
  refine hrow_upd v (fun i hi => ?_) (by omega)
  unfold rc rp
  by_cases h1 : i < 15
  · by_cases h5 : i < 5
    · rw [if_pos h5]; omega
    · rw [if_neg h5, if_pos h1]; omega
  · rw [if_neg (by omega), if_neg h1, if_neg h1]
    by_cases h2 : i < 55
    · rw [if_pos h2, if_pos h2]; omega
    · rw [if_neg h2, if_neg h2]
      by_cases h3 : i < 61
      · rw [if_pos h3, if_pos h3]; omega
      · rw [if_neg h3, if_neg h3]; omega
theorem hrow_uS (M : zM) (t : Nat) {p : Nat} (v : Int32) (hp : p < 10) : hrow (zU M (t + 8) p v) t = upd (hrow M t) (5 + p) v := by
  refine hrow_upd v (fun i hi => ?_) (by omega)
  unfold rc rp
  by_cases h1 : i < 15
  · by_cases h5 : i < 5
    · rw [if_pos h5]; omega
    · rw [if_neg h5, if_pos h1, if_pos h1, if_neg (by omega), if_neg (by omega), if_neg (by omega), if_neg (by omega), if_neg (by omega)]; omega
  · rw [if_neg (by omega), if_neg h1, if_neg h1]
    by_cases h2 : i < 55
    · rw [if_pos h2, if_pos h2]; omega
    · rw [if_neg h2, if_neg h2]
      by_cases h3 : i < 61
      · rw [if_pos h3, if_pos h3]; omega
      · rw [if_neg h3, if_neg h3]; omega
/-- a house's own number fields -/
theorem hrow_uF (M : zM) (t : Nat) (i : Nat) (v : Int32) (h : i < 5) : hrow (zU M t (rp i) v) t = upd (hrow M t) i v := by
  refine hrow_upd v (fun k hk => ⟨fun ⟨h1, h2⟩ => ?_, fun e => ?_⟩) (by omega)
  · have h5 : k < 5 := by
      refine Nat.not_le.mp (fun h5 => ?_)
      unfold rc at h1
      rw [if_neg (by omega)] at h1
      by_cases a : k < 15
      · rw [if_pos a] at h1; omega
      · rw [if_neg a] at h1
        by_cases b : k < 55
        · rw [if_pos b] at h1; omega
        · rw [if_neg b] at h1
          by_cases c : k < 61
          · rw [if_pos c] at h1; omega
          · rw [if_neg c] at h1; omega
    exact (by decide : ∀ k, k < 5 → ∀ i, i < 5 → rp k = rp i → k = i) k h5 i h h2
  · subst e
    exact ⟨if_pos h, rfl⟩
/-- a house's row doesn't see other cells -/
theorem hrow_off {M M' : zM} {t : Nat} (h : ∀ a, t ≤ a → a ≤ t + 8 → M' a = M a) : hrow M' t = hrow M t := by
  refine hrow_congr ?_ (fun i hi => ?_) (fun f hf i hi => ?_) (fun p hp => ?_) (fun p hp => ?_)
  · rw [h t (by omega) (by omega)]; exact ⟨rfl, rfl, rfl, rfl, rfl⟩
  · rw [h _ (by omega) (by omega)]
  · rw [h _ (by omega) (by omega)]
  · rw [h _ (by omega) (by omega)]
  · rw [h _ (by omega) (by omega)]
/-- a row with other purses, debts, wear -/
def rwX (A pu de we : Nat → Int32) : Nat → Int32 := fun i => if i < 15 then A i else if i < 55 then (if (i - 15) % 5 = 2 then we ((i - 15) / 5) else if (i - 15) % 5 = 3 then de ((i - 15) / 5) else A i) else if i < 61 then pu (i - 55) else A i
theorem rwX_self (A : Nat → Int32) : rwX A (fun p => A (55 + p)) (fun j => nm A j 3) (fun j => nm A j 2) = A := by
  funext i
  unfold rwX nm
  repeat' split
  · rfl
  · show A (15 + 5 * ((i - 15) / 5) + 2) = A i; congr 1; omega
  · show A (15 + 5 * ((i - 15) / 5) + 3) = A i; congr 1; omega
  · rfl
  · show A (55 + (i - 55)) = A i; congr 1; omega
  · rfl
theorem rwX_lo (A pu de we : Nat → Int32) {i : Nat} (h : i < 15) : rwX A pu de we i = A i := by unfold rwX; rw [if_pos h]
theorem rwX_hi (A pu de we : Nat → Int32) {i : Nat} (h : 61 ≤ i) : rwX A pu de we i = A i := by unfold rwX; rw [if_neg (by omega), if_neg (by omega), if_neg (by omega)]
theorem rwX_pu (A pu de we : Nat → Int32) {p : Nat} (h : p < 6) : rwX A pu de we (55 + p) = pu p := by unfold rwX; rw [if_neg (by omega), if_neg (by omega), if_pos (by omega), Nat.add_sub_cancel_left]
theorem rwX_we (A pu de we : Nat → Int32) {j : Nat} (h : j < 8) : nm (rwX A pu de we) j 2 = we j := by
  unfold nm rwX; rw [if_neg (by omega), if_pos (by omega), if_pos (by omega), show (15 + 5 * j + 2 - 15) / 5 = j by omega]
theorem rwX_de (A pu de we : Nat → Int32) {j : Nat} (h : j < 8) : nm (rwX A pu de we) j 3 = de j := by
  unfold nm rwX; rw [if_neg (by omega), if_pos (by omega), if_neg (by omega), if_pos (by omega), show (15 + 5 * j + 3 - 15) / 5 = j by omega]
theorem rwX_nm (A pu de we : Nat → Int32) {j f : Nat} (h : j < 8) (hf : f < 5) (h2 : f ≠ 2) (h3 : f ≠ 3) : nm (rwX A pu de we) j f = nm A j f := by
  unfold nm rwX; rw [if_neg (by omega), if_pos (by omega), if_neg (by omega), if_neg (by omega)]
theorem rwX_uP (A pu de we : Nat → Int32) {p : Nat} (v : Int32) (h : p < 6) : upd (rwX A pu de we) (55 + p) v = rwX A (upd pu p v) de we := by
  funext i
  simp only [upd_at, rwX]
  by_cases e : i = 55 + p
  · subst e; rw [if_pos rfl, if_neg (by omega), if_neg (by omega), if_pos (by omega), if_pos (by omega)]
  · rw [if_neg e]
    repeat' split
    all_goals first | rfl | omega
theorem rwX_uD (A pu de we : Nat → Int32) {j : Nat} (v : Int32) (h : j < 8) : upd (rwX A pu de we) (15 + 5 * j + 3) v = rwX A pu (upd de j v) we := by
  funext i
  simp only [upd_at, rwX]
  by_cases e : i = 15 + 5 * j + 3
  · subst e; rw [if_pos rfl, if_neg (by omega), if_pos (by omega), if_neg (by omega), if_pos (by omega), if_pos (by omega)]
  · rw [if_neg e]
    repeat' split
    all_goals first | rfl | omega
theorem rwX_uE (A pu de we : Nat → Int32) {j : Nat} (v : Int32) (h : j < 8) : upd (rwX A pu de we) (15 + 5 * j + 2) v = rwX A pu de (upd we j v) := by
  funext i
  simp only [upd_at, rwX]
  by_cases e : i = 15 + 5 * j + 2
  · subst e; rw [if_pos rfl, if_neg (by omega), if_pos (by omega), if_pos (by omega), if_pos (by omega)]
  · rw [if_neg e]
    repeat' split
    all_goals first | rfl | omega
-- by persons
noncomputable def drP (A : Nat → Int32) (o p : Nat) : Option Nat := if h : o < 720 ∧ p < 6 then drA A o (Classical.choose (st_perm o h.1 p h.2)) else none
theorem drP_st {A : Nat → Int32} {o k : Nat} (ho : o < 720) (hk : k < 6) : drP A o (st o k) = drA A o k := by
  unfold drP
  have hp : o < 720 ∧ st o k < 6 := ⟨ho, st_lt ho hk⟩
  rw [dif_pos hp]
  have hc := Classical.choose_spec (st_perm o hp.1 (st o k) hp.2)
  rw [st_inj o ho _ hc.1 k hk hc.2]
theorem drP_row {A : Nat → Int32} {o : Nat} {D : Nat → Int32} (ho : o < 720) (h : ∀ k, k < 6 → D (st o k) = iv (drA A o k)) : ∀ p, p < 6 → D p = iv (drP A o p) := by
  intro p hp
  obtain ⟨k, hk, rfl⟩ := st_perm o ho p hp
  rw [h k hk, drP_st ho hk]
theorem drP_spec {A : Nat → Int32} {o p j : Nat} (hn : okN A) (hw : okW A) (ho : o < 720) (hp : p < 6) (h : drP A o p = some j) : j < nn A ∧ nm A j 2 < 50 := by
  obtain ⟨k, hk, rfl⟩ := st_perm o ho p hp
  rw [drP_st ho hk] at h
  have h1 := dr_spec hn hw ho hk h
  have h2 := (fr_lt hn hw ho k (by omega)).2 j h1.2
  rw [hung_bit] at h2
  simp at h2
  exact h2
theorem drP_apart {A : Nat → Int32} {o p q j : Nat} (hn : okN A) (hw : okW A) (ho : o < 720) (hp : p < 6) (hq : q < 6) (h1 : drP A o p = some j) (h2 : drP A o q = some j) : p = q := by
  obtain ⟨k, hk, rfl⟩ := st_perm o ho p hp
  obtain ⟨l, hl, rfl⟩ := st_perm o ho q hq
  rw [drP_st ho hk] at h1
  rw [drP_st ho hl] at h2
  rw [dr_apart hn hw ho hk hl h1 h2]
/-- who of the first k persons draws j -/
noncomputable def who (A : Nat → Int32) (o : Nat) : Nat → Nat → Option Nat
  | 0, _ => none
  | k + 1, j => if drP A o k = some j then some k else who A o k j
theorem who_none {A : Nat → Int32} {o j : Nat} : ∀ k, (∀ p, p < k → drP A o p ≠ some j) → who A o k j = none := by
  intro k
  induction k with
  | zero => intro _; rfl
  | succ k ih => intro h; rw [who, if_neg (h k (by omega)), ih (fun p hp => h p (by omega))]
theorem who_some {A : Nat → Int32} {o j p : Nat} : ∀ k, who A o k j = some p → p < k ∧ drP A o p = some j := by
  intro k
  induction k with
  | zero => intro h; cases h
  | succ k ih =>
    intro h
    rw [who] at h
    by_cases h1 : drP A o k = some j
    · rw [if_pos h1] at h; cases h; exact ⟨by omega, h1⟩
    · rw [if_neg h1] at h; have := ih h; exact ⟨by omega, this.2⟩
theorem who_of {A : Nat → Int32} {o j p : Nat} (hn : okN A) (hw : okW A) (ho : o < 720) : ∀ k, k ≤ 6 → p < k → drP A o p = some j → who A o k j = some p := by
  intro k hk hp h
  cases hc : who A o k j with
  | none =>
    exfalso
    have key : ∀ k, p < k → who A o k j ≠ none := by
      intro k
      induction k with
      | zero => intro h0; omega
      | succ k ih =>
        intro hpk
        rw [who]
        by_cases h1 : drP A o k = some j
        · rw [if_pos h1]; intro e; cases e
        · rw [if_neg h1]
          by_cases h2 : p = k
          · subst h2; exact absurd h h1
          · exact ih (by omega)
    exact key k hp hc
  | some q =>
    have := who_some k hc
    rw [drP_apart hn hw ho (by omega) (by omega) this.2 h]
def minI (a b : Int32) : Int32 := if b < a then b else a
/-- what p pays for j -/
def paid (A : Nat → Int32) (p j : Nat) : Int32 := minI (dueA A j) (A (55 + p))
noncomputable def puK (A : Nat → Int32) (o k : Nat) : Nat → Int32 := fun p => if p < k then (match drP A o p with | none => A (55 + p) | some j => A (55 + p) - paid A p j) else A (55 + p)
noncomputable def deK (A : Nat → Int32) (o k : Nat) : Nat → Int32 := fun j => match who A o k j with
  | none => nm A j 3
  | some p => minI 99999 (nm A j 3 + dueA A j - paid A p j)
noncomputable def weK (A : Nat → Int32) (o k : Nat) : Nat → Int32 := fun j => match who A o k j with
  | none => nm A j 2
  | some _ => minI 99 (nm A j 2 + fadeF (nm A j 0))
/-- the drawn names, as a set -/
noncomputable def setK (A : Nat → Int32) (o : Nat) : Nat → Nat
  | 0 => 0
  | k + 1 => match drP A o k with
    | none => setK A o k
    | some j => setK A o k ||| 2 ^ j
theorem setK_lt {A : Nat → Int32} {o : Nat} (hn : okN A) (hw : okW A) (ho : o < 720) : ∀ k, k ≤ 6 → setK A o k < 256 := by
  intro k
  induction k with
  | zero => intro _; exact Nat.zero_lt_succ 255
  | succ k ih =>
    intro hk
    rw [setK]
    cases h : drP A o k with
    | none => exact ih (by omega)
    | some j => exact m_lt _ (ih (by omega)) j (by have := (drP_spec hn hw ho (by omega) h).1; have := hn.2; omega)
theorem setK_bit {A : Nat → Int32} {o i : Nat} : ∀ k, (setK A o k).testBit i = true ↔ ∃ p, p < k ∧ drP A o p = some i := by
  intro k
  induction k with
  | zero => simp [setK]
  | succ k ih =>
    rw [setK]
    constructor
    · intro h
      cases hd : drP A o k with
      | none =>
        rw [hd] at h
        obtain ⟨p, h1, h2⟩ := ih.mp h
        exact ⟨p, by omega, h2⟩
      | some j =>
        rw [hd] at h
        simp only [Nat.testBit_or, Nat.testBit_two_pow, Bool.or_eq_true, decide_eq_true_eq] at h
        rcases h with h | h
        · obtain ⟨p, h1, h2⟩ := ih.mp h; exact ⟨p, by omega, h2⟩
        · subst h; exact ⟨k, by omega, hd⟩
    · rintro ⟨p, h1, h2⟩
      cases hd : drP A o k with
      | none =>
        refine ih.mpr ⟨p, ?_, h2⟩
        by_cases e : p = k
        · subst e; rw [hd] at h2; cases h2
        · omega
      | some j =>
        show (setK A o k ||| 2 ^ j).testBit i = true
        simp only [Nat.testBit_or, Nat.testBit_two_pow, Bool.or_eq_true, decide_eq_true_eq]
        by_cases e : p = k
        · subst e; rw [hd] at h2; cases h2; exact Or.inr rfl
        · exact Or.inl (ih.mpr ⟨p, by omega, h2⟩)
/-- the reference's set is the same -/
theorem taken_eq {A : Nat → Int32} {o : Nat} (hn : okN A) (hw : okW A) (ho : o < 720) : hung A ^^^ frA A o 6 = setK A o 6 := by
  have key : ∀ k, k ≤ 6 → ∀ i, (hung A ^^^ frA A o k).testBit i = true ↔ ∃ l, l < k ∧ drA A o l = some i := by
    intro k
    induction k with
    | zero => intro _ i; rw [show frA A o 0 = hung A from rfl, Nat.xor_self]; simp
    | succ k ih =>
      intro hk i
      have hs : frA A o (k + 1) = subO (frA A o k) (drA A o k) := rfl
      cases hd : drA A o k with
      | none =>
        rw [hs, hd]
        constructor
        · intro h; obtain ⟨l, h1, h2⟩ := (ih (by omega) i).mp h; exact ⟨l, by omega, h2⟩
        · rintro ⟨l, h1, h2⟩
          refine (ih (by omega) i).mpr ⟨l, ?_, h2⟩
          by_cases e : l = k
          · subst e; rw [hd] at h2; cases h2
          · omega
      | some j =>
        obtain ⟨h3, h4⟩ := dr_spec hn hw ho (by omega) hd
        have h5 := (fr_lt hn hw ho k (by omega)).2 j h4
        rw [hs, hd]
        show (hung A ^^^ (frA A o k ^^^ 2 ^ j)).testBit i = true ↔ _
        rw [← tk_or h5 h4]
        simp only [Nat.testBit_or, Nat.testBit_two_pow, Bool.or_eq_true, decide_eq_true_eq]
        constructor
        · rintro (h | h)
          · obtain ⟨l, h1, h2⟩ := (ih (by omega) i).mp h; exact ⟨l, by omega, h2⟩
          · subst h; exact ⟨k, by omega, hd⟩
        · rintro ⟨l, h1, h2⟩
          by_cases e : l = k
          · subst e; rw [hd] at h2; cases h2; exact Or.inr rfl
          · exact Or.inl ((ih (by omega) i).mpr ⟨l, by omega, h2⟩)
  apply Nat.eq_of_testBit_eq
  intro i
  rw [Bool.eq_iff_iff, key 6 (by omega), setK_bit]
  constructor
  · rintro ⟨l, h1, h2⟩
    exact ⟨st o l, st_lt ho h1, by rw [drP_st ho h1]; exact h2⟩
  · rintro ⟨p, h1, h2⟩
    obtain ⟨k, hk, rfl⟩ := st_perm o ho p h1
    exact ⟨k, hk, by rw [← drP_st ho hk]; exact h2⟩
