/-! SETS AS MASKS, SUMS: what hangs, purses, debts, spots. -/
/-- of how many names a row is -/
def nn (A : Nat → Int32) : Nat := (A 1).toNatClampNeg
/-- names are between 0 and 8 -/
def okN (A : Nat → Int32) : Prop := A 1 = nI (nn A) ∧ nn A ≤ 8
theorem m_or1 : ∀ m, m < 256 → ∀ k, k < 8 → nI m ||| (1 <<< (nI k &&& 31)) = nI (m ||| 2 ^ k) := by decide +kernel
theorem m_or0 (x : Int32) : x ||| 0 = x := by
  apply Int32.toBitVec_inj.mp
  rw [Int32.toBitVec_or]
  exact BitVec.or_zero
theorem m_lt : ∀ m, m < 256 → ∀ k, k < 8 → m ||| 2 ^ k < 256 := by decide +kernel
/-- the first k names that hang, as a mask -/
def hm (A : Nat → Int32) : Nat → Nat
  | 0 => 0
  | k + 1 => if 50 ≤ nm A k 2 then hm A k else hm A k ||| 2 ^ k
theorem hm_lt (A : Nat → Int32) : ∀ k, k ≤ 8 → hm A k < 256 := by
  intro k
  induction k with
  | zero => intro _; exact Nat.zero_lt_succ 255
  | succ k ih =>
    intro hk
    unfold hm
    split
    · exact ih (by omega)
    · exact m_lt _ (ih (by omega)) k (by omega)
theorem hm_bit (A : Nat → Int32) : ∀ k, ∀ i, (hm A k).testBit i = (decide (i < k) && !decide (50 ≤ nm A i 2)) := by
  intro k
  induction k with
  | zero => intro i; simp [hm]
  | succ k ih =>
    intro i
    unfold hm
    by_cases h : 50 ≤ nm A k 2
    · rw [if_pos h, ih]
      by_cases hi : i = k
      · subst hi; simp [h]
      · have : (i < k) ↔ (i < k + 1) := by omega
        simp [this]
    · rw [if_neg h, Nat.testBit_or, ih, Nat.testBit_two_pow]
      by_cases hi : i = k
      · subst hi; simp [h]
      · have : (i < k) ↔ (i < k + 1) := by omega
        simp [this, Ne.symm hi]
/-- all names that hang -/
def hung (A : Nat → Int32) : Nat := hm A (nn A)
theorem hung_lt {A : Nat → Int32} (h : okN A) : hung A < 256 := hm_lt A _ h.2
theorem h_hanging {M : zM} {t : Nat} (h : isH t) (hn : okN (hrow M t)) : f_X0_hanging t M = some (nI (hung (hrow M t))) := by
  unfold f_X0_hanging
  refine zIter_steps (fun k => (nI (hm (hrow M t) k), nI k)) (nn (hrow M t)) 1000 _ (by have := hn.2; omega) (fun k hk => ?_) ?_
  · have h8 := hn.2
    have e1 : M t 0 = nI (nn (hrow M t)) := hn.1
    rw [f_X0_hanging_l4, e1, if_neg (nI_ge hk (by omega)), h_hangs h (by omega), Option.bind_some]
    by_cases hh : 50 ≤ nm (hrow M t) k 2
    · rw [if_pos hh, if_pos rfl]
      simp only [Option.bind_some, hm, if_pos hh, nI_1]
    · rw [if_neg hh, if_neg (by decide)]
      simp only [Option.bind_some, hm, if_neg hh, nI_1, m_or1 _ (hm_lt _ k (by omega)) k (by omega)]
  · have e1 : M t 0 = nI (nn (hrow M t)) := hn.1
    rw [f_X0_hanging_l4, e1, if_pos (nI_le (Nat.le_refl _) (by have := hn.2; omega))]
    rfl
theorem m_hungNow {M : zM} (hn : okN (M 48)) : f_X6_hungNow M = some (nI (hung (M 48))) := by
  unfold f_X6_hungNow
  have e1 : zrd M 48 1 = some (nI (nn (M 48))) := by
    have := rd (M := M) (k := 48) (n := 67) (j := 1) rfl (by omega)
    rw [← hn.1]; exact this
  refine zIter_steps (fun k => (nI (hm (M 48) k), nI k)) (nn (M 48)) 1000 _ (by have := hn.2; omega) (fun k hk => ?_) ?_
  · have h8 := hn.2
    rw [f_X6_hungNow_l4, e1, Option.bind_some, if_neg (nI_ge hk (by omega)), m_hangs (by omega), Option.bind_some]
    by_cases hh : 50 ≤ nm (M 48) k 2
    · rw [if_pos hh, if_pos rfl]
      simp only [Option.bind_some, hm, if_pos hh, nI_1, m_or0]
    · rw [if_neg hh, if_neg (by decide)]
      simp only [Option.bind_some, hm, if_neg hh, nI_1, m_or1 _ (hm_lt _ k (by omega)) k (by omega)]
  · rw [f_X6_hungNow_l4, e1, Option.bind_some, if_pos (nI_le (Nat.le_refl _) (by have := hn.2; omega))]
    rfl
/-- sums of rows -/
def sumR (f : Nat → Int32) : Nat → Int32
  | 0 => 0
  | k + 1 => sumR f k + f k
def pursesA (A : Nat → Int32) : Int32 := sumR (fun p => A (55 + p)) 6
def debtsA (A : Nat → Int32) : Int32 := sumR (fun i => nm A i 3) (nn A)
theorem h_purses {M : zM} {t : Nat} (h : isH t) : f_X0_purses t M = some (pursesA (hrow M t)) := by
  obtain ⟨-, -, -, -, -, h6, -⟩ := shA h
  unfold f_X0_purses pursesA
  refine zIter_steps (fun k => (sumR (fun p => hrow M t (55 + p)) k, nI k)) 6 1000 _ (by omega) (fun k hk => ?_) ?_
  · rw [f_X0_purses_l4, if_neg (show ¬ (6 : Int32) ≤ nI k from nI_ge (b := 6) hk (by decide)), rd h6 hk, Option.bind_some]
    simp only [Option.bind_some, sumR, nI_1, hrow_purse M t hk]
  · rw [f_X0_purses_l4, if_pos (show (6 : Int32) ≤ nI 6 from nI_le (Nat.le_refl _) (by omega))]
theorem m_purses {M : zM} : f_X6_purses M = some (pursesA (M 48)) := by
  unfold f_X6_purses pursesA
  refine zIter_steps (fun k => (sumR (fun p => M 48 (55 + p)) k, nI k)) 6 1000 _ (by omega) (fun k hk => ?_) ?_
  · have e : zrd M 48 (55 + nI k) = some (M 48 (55 + k)) := by
      rw [show (55 : Int32) + nI k = nI (55 + k) from nI_add 55 k]
      exact rd (n := 67) rfl (by omega)
    rw [f_X6_purses_l4, if_neg (show ¬ (6 : Int32) ≤ nI k from nI_ge (b := 6) hk (by decide)), e, Option.bind_some]
    simp only [Option.bind_some, sumR, nI_1]
  · rw [f_X6_purses_l4, if_pos (show (6 : Int32) ≤ nI 6 from nI_le (Nat.le_refl _) (by omega))]
theorem h_debts {M : zM} {t : Nat} (h : isH t) (hn : okN (hrow M t)) : f_X0_debts t M = some (debtsA (hrow M t)) := by
  obtain ⟨-, -, -, h4, -⟩ := shA h
  have e1 : M t 0 = nI (nn (hrow M t)) := hn.1
  have h8 := hn.2
  unfold f_X0_debts debtsA
  refine zIter_steps (fun k => (sumR (fun i => nm (hrow M t) i 3) k, nI k)) (nn (hrow M t)) 1000 _ (by omega) (fun k hk => ?_) ?_
  · rw [f_X0_debts_l4, e1, if_neg (nI_ge hk (by omega)), rd h4 (by omega), Option.bind_some]
    simp only [Option.bind_some, sumR, nI_1, nm, hrow_name M t (show k < 8 by omega) (show 3 < 5 by omega)]
  · rw [f_X0_debts_l4, e1, if_pos (nI_le (Nat.le_refl _) (by omega))]
theorem m_names {M : zM} (hn : okN (M 48)) : zrd M 48 1 = some (nI (nn (M 48))) := by
  have := rd (M := M) (k := 48) (n := 67) (j := 1) rfl (by omega)
  rw [← hn.1]; exact this
theorem m_debts {M : zM} (hn : okN (M 48)) : f_X6_debts M = some (debtsA (M 48)) := by
  have h8 := hn.2
  unfold f_X6_debts debtsA
  refine zIter_steps (fun k => (sumR (fun i => nm (M 48) i 3) k, nI k)) (nn (M 48)) 1000 _ (by omega) (fun k hk => ?_) ?_
  · have e3 : f_X6_nameIs (nI k) 3 M = some (nm (M 48) k 3) := m_nameIs (f := 3) (by omega) (by omega)
    rw [f_X6_debts_l4, m_names hn, Option.bind_some, if_neg (nI_ge hk (by omega)), e3, Option.bind_some]
    simp only [Option.bind_some, sumR, nI_1]
  · rw [f_X6_debts_l4, m_names hn, Option.bind_some, if_pos (nI_le (Nat.le_refl _) (by omega))]
/-- bits: how many -/
def popc (m : Nat) : Nat := ((List.range 8).filter (fun i => m.testBit i)).length
theorem j_bits (x : Int32) (M N : zM) : f_J6_bitCount_0f7a4 x M = f_J6_bitCount_0f7a4 x N := rfl
theorem j_bits_c : ∀ m, m < 256 → f_J6_bitCount_0f7a4 (nI m) zM0 = some (nI (popc m)) := by decide +kernel
theorem j_bitCount {m : Nat} (h : m < 256) (M : zM) : f_J6_bitCount_0f7a4 (nI m) M = some (nI (popc m)) := (j_bits _ M zM0).trans (j_bits_c m h)
theorem m_bits_c : ∀ m, m < 256 → f_X6_bits (nI m) zM0 = some (nI (popc m)) := by decide +kernel
theorem m_bits {m : Nat} (h : m < 256) (M : zM) : f_X6_bits (nI m) M = some (nI (popc m)) := m_bits_c m h
/-- the lowest bit of a set -/
def lowb (m : Nat) : Nat := ((List.range 8).find? (fun i => m.testBit i)).getD 8
theorem low_c : ∀ m, m < 256 → m ≠ 0 → f_X5_lowest (nI m) zM0 = some (nI (lowb m)) := by decide +kernel
theorem h_lowest {m : Nat} (h : m < 256) (h0 : m ≠ 0) (M : zM) : f_X5_lowest (nI m) M = some (nI (lowb m)) := low_c m h h0
theorem low_lt : ∀ m, m < 256 → m ≠ 0 → lowb m < 8 ∧ m.testBit (lowb m) = true ∧ ∀ j, j < lowb m → m.testBit j = false := by decide +kernel
/-- is k in a set -/
theorem bit_c : ∀ m, m < 256 → ∀ k, k < 8 → ((nI m >>> (nI k &&& 31)) &&& 1) = (if m.testBit k then 1 else 0) := by decide +kernel
theorem m_has {m k : Nat} (h : m < 256) (hk : k < 8) (M : zM) : f_X6_has (nI m) (nI k) M = some (if m.testBit k then 1 else 0) := by
  unfold f_X6_has
  rw [bit_c m h k hk]
  cases m.testBit k <;> simp
