/-! SETS WORN IN PEACE. -/
theorem hm_lt2 (A : Nat → Int32) (k : Nat) : hm A k < 2 ^ k := by
  refine Nat.lt_pow_two_of_testBit _ (fun i hi => ?_)
  rw [hm_bit, decide_eq_false (by omega), Bool.false_and]
theorem bit_n : ∀ k, k < 9 → (1 : Int32) <<< (nI k &&& 31) = nI (2 ^ k) := by decide +kernel
theorem pow_le : ∀ k, k < 9 → 2 ^ k ≤ 256 := by decide
set_option maxRecDepth 100000 in
theorem sub_gt : ∀ k, k < 256 → ∀ h, h < k → ¬ (nI k &&& (nI h ^^^ (-1))) = 0 := by decide +kernel
/-- one set inside another -/
abbrev inS (h k : Nat) : Prop := (nI k &&& (nI h ^^^ (-1))) = 0
theorem f_isIn_eq (a b : Nat) (M : zM) : f_X5_isIn (nI a) (nI b) M = some (if inS b a then 1 else 0) := by
  unfold f_X5_isIn
  exact if_some
theorem h_isPeaceful {M : zM} {A : Nat → Int32} {D m : Nat} (hA : okA A D) (hr : hrow M 1 = A) (hm : m < 256) : f_X0_isPeaceful 1 (nI m) M = some (if pairsN A m = 0 then 1 else 0) := by
  have hp := pairs_le8 A m hA.1
  unfold f_X0_isPeaceful
  rw [h_pairsIn isH_1 hm (by rw [hr]; exact hA.2.2.1) (by rw [hr]; exact hA.1), Option.bind_some, hr]
  by_cases c : pairsN A m = 0
  · rw [c, if_pos (show nI 0 = 0 from rfl), if_pos rfl]
  · rw [if_neg (nI_ne0 (by omega) (by omega)), if_neg c]
theorem m_isPeace {M : zM} {A : Nat → Int32} {D m : Nat} (hA : okA A D) (hr : M 48 = A) (hm : m < 256) : f_X6_isPeace (nI m) M = some (if pairsN A m = 0 then 1 else 0) := by
  have hp := pairs_le8 A m hA.1
  unfold f_X6_isPeace
  rw [m_quarrelsIn hm (by rw [hr]; exact hA.2.2.1) (by rw [hr]; exact hA.1), Option.bind_some, hr, ← pairs_eq hA.2.2.1 hA.1]
  by_cases c : pairsN A m = 0
  · rw [c, if_pos (show nI 0 = 0 from rfl), if_pos rfl]
  · rw [if_neg (nI_ne0 (by omega) (by omega)), if_neg c]
/-- the best set of those before k -/
def pm (A : Nat → Int32) : Nat → Nat
  | 0 => 0
  | k + 1 => if inS (hung A) k ∧ pairsN A k = 0 ∧ ¬ nI (popc k) ≤ nI (popc (pm A k)) then k else pm A k
theorem pm_le (A : Nat → Int32) : ∀ k, pm A k ≤ k := by
  intro k
  induction k with
  | zero => exact Nat.le_refl _
  | succ k ih =>
    show (if _ then k else pm A k) ≤ k + 1
    split <;> omega
theorem pm_stay (A : Nat → Int32) {h : Nat} (hh : hung A = h) : ∀ d, h + 1 + d ≤ 256 → pm A (h + 1 + d) = pm A (h + 1) := by
  subst hh
  intro d
  induction d with
  | zero => intro _; rfl
  | succ d ih =>
    intro hd
    show (if inS (hung A) (hung A + 1 + d) ∧ _ then _ else pm A (hung A + 1 + d)) = _
    rw [if_neg (fun q => sub_gt (hung A + 1 + d) (by omega) (hung A) (by omega) q.1), ih (by omega)]
theorem pe_peace {M : zM} {D : Nat} (h : RR M D) : ∃ r, f_X5_peace M = some r ∧ f_X6_peace M = some r := by
  have hA := h.2.1
  have h48 := h.1
  generalize hAA : M 48 = A at hA h48
  have h8 := hA.1.2
  have hlt := hung_lt hA.1
  have hl2 : hung A < 2 ^ nn A := hm_lt2 A (nn A)
  have hp := pow_le (nn A) (by omega)
  have e0 : M 1 0 = nI (nn A) := by rw [← hA.1.1, h48]; rfl
  have est : pm A (2 ^ nn A) = pm A (hung A + 1) := by
    have := pm_stay A rfl (2 ^ nn A - (hung A + 1)) (by omega)
    rw [show hung A + 1 + (2 ^ nn A - (hung A + 1)) = 2 ^ nn A by omega] at this
    exact this
  have s1 : ∀ k, pm A (k + 1) = if inS (hung A) k ∧ pairsN A k = 0 ∧ ¬ nI (popc k) ≤ nI (popc (pm A k)) then k else pm A k := fun k => rfl
  refine ⟨nI (pm A (hung A + 1)), ?_, ?_⟩
  · unfold f_X5_peace
    rw [h_hanging isH_1 (by rw [← h48]; exact hA.1), Option.bind_some, ← h48, ← est]
    refine zIter_steps (fun k => (nI (pm A k), nI k)) (2 ^ nn A) 1000 _ (by omega) (fun k hk => ?_) ?_
    · have hpm := pm_le A k
      rw [f_X5_peace_l12, e0, bit_n _ (by omega), if_neg (nI_ge hk (by omega)), f_isIn_eq, Option.bind_some, s1]
      by_cases c1 : inS (hung A) k
      · rw [if_pos c1, if_neg (show ¬ (1 : Int32) = 0 by decide), h_isPeaceful hA h48.symm (by omega), Option.bind_some]
        by_cases c2 : pairsN A k = 0
        · rw [if_pos c2, if_neg (show ¬ (1 : Int32) = 0 by decide), j_bitCount (by omega), Option.bind_some, j_bitCount (by omega), Option.bind_some]
          by_cases c3 : nI (popc k) ≤ nI (popc (pm A k))
          · rw [if_pos c3, if_neg (fun q => q.2.2 c3), nI_1]; rfl
          · rw [if_neg c3, if_pos ⟨c1, c2, c3⟩, nI_1]; rfl
        · rw [if_neg c2, if_pos rfl, if_neg (fun q => c2 q.2.1), nI_1]; rfl
      · rw [if_neg c1, if_pos rfl, if_neg (fun q => c1 q.1), nI_1]; rfl
    · rw [f_X5_peace_l12, e0, bit_n _ (by omega), if_pos (nI_le (Nat.le_refl _) (by omega))]
  · unfold f_X6_peace
    rw [m_hungNow (by rw [hAA]; exact hA.1), Option.bind_some, hAA]
    refine zIter_steps (fun k => (nI (pm A k), nI k)) (hung A + 1) 1000 _ (by omega) (fun k hk => ?_) ?_
    · have hpm := pm_le A k
      rw [f_X6_peace_l9, if_neg (nI_nlt (by omega) (by omega)), s1]
      unfold f_X6_peace_j45 f_X6_peace_j46
      by_cases c1 : inS (hung A) k
      · rw [if_pos c1, m_bits (by omega), Option.bind_some, m_bits (by omega), Option.bind_some]
        by_cases c3 : nI (popc k) ≤ nI (popc (pm A k))
        · rw [if_pos c3, if_pos rfl, if_neg (fun q => q.2.2 c3), nI_1]; rfl
        · rw [if_neg c3, m_isPeace hA hAA (by omega), Option.bind_some]
          by_cases c2 : pairsN A k = 0
          · rw [if_pos c2, if_neg (show ¬ (1 : Int32) = 0 by decide), if_neg (show ¬ (1 : Int32) = 0 by decide), if_pos ⟨c1, c2, c3⟩, nI_1]; rfl
          · rw [if_neg c2, if_pos rfl, if_pos rfl, if_neg (fun q => c2 q.2.1), nI_1]; rfl
      · rw [if_neg c1, if_pos rfl, if_neg (fun q => c1 q.1), nI_1]; rfl
    · rw [f_X6_peace_l9, if_pos (nI_lt (by omega) (by omega))]
/-- how many sets of m names before k -/
def pcn (A : Nat → Int32) (m : Int32) : Nat → Nat := sumN (fun k => if inS (hung A) k ∧ pairsN A k = 0 ∧ nI (popc k) = m then 1 else 0)
theorem pcn_stay (A : Nat → Int32) (m : Int32) {h : Nat} (hh : hung A = h) : ∀ d, h + 1 + d ≤ 256 → pcn A m (h + 1 + d) = pcn A m (h + 1) := by
  subst hh
  intro d
  induction d with
  | zero => intro _; rfl
  | succ d ih =>
    intro hd
    show pcn A m (hung A + 1 + d) + (if inS (hung A) (hung A + 1 + d) ∧ _ then 1 else 0) = _
    rw [if_neg (fun q => sub_gt (hung A + 1 + d) (by omega) (hung A) (by omega) q.1), ih (by omega)]; rfl
theorem pe_peaceful (x : Int32) : PE (f_X5_peaceful x) (f_X6_peaceful x) := by
  intro M D hD h
  by_cases hx : inB x 0 8
  · have hA := h.2.1
    have h48 := h.1
    generalize hAA : M 48 = A at hA h48
    have h8 := hA.1.2
    have hlt := hung_lt hA.1
    have hl2 : hung A < 2 ^ nn A := hm_lt2 A (nn A)
    have hp := pow_le (nn A) (by omega)
    have e0 : M 1 0 = nI (nn A) := by rw [← hA.1.1, h48]; rfl
    have est : pcn A x (2 ^ nn A) = pcn A x (hung A + 1) := by
      have := pcn_stay A x rfl (2 ^ nn A - (hung A + 1)) (by omega)
      rw [show hung A + 1 + (2 ^ nn A - (hung A + 1)) = 2 ^ nn A by omega] at this
      exact this
    have s1 : ∀ k, pcn A x (k + 1) = pcn A x k + if inS (hung A) k ∧ pairsN A k = 0 ∧ nI (popc k) = x then 1 else 0 := fun k => rfl
    refine pe_same h (nI (pcn A x (hung A + 1))) ?_ ?_
    · unfold f_X5_peaceful
      rw [f_within_eq, Option.bind_some, wi_t hx, if_neg (by decide), h_hanging isH_1 (by rw [← h48]; exact hA.1), Option.bind_some, ← h48, ← est]
      refine zIter_steps (fun k => (nI (pcn A x k), nI k)) (2 ^ nn A) 1000 _ (by omega) (fun k hk => ?_) ?_
      · rw [f_X5_peaceful_l29, e0, bit_n _ (by omega), if_neg (nI_ge hk (by omega)), j_bitCount (by omega), Option.bind_some, s1]
        by_cases c3 : nI (popc k) = x
        · rw [if_pos c3, f_isIn_eq, Option.bind_some]
          by_cases c1 : inS (hung A) k
          · rw [if_pos c1, if_neg (show ¬ (1 : Int32) = 0 by decide), h_isPeaceful hA h48.symm (by omega), Option.bind_some]
            by_cases c2 : pairsN A k = 0
            · rw [if_pos c2, if_neg (show ¬ (1 : Int32) = 0 by decide), if_pos ⟨c1, c2, c3⟩, nI_1, nI_1]; rfl
            · rw [if_neg c2, if_pos rfl, if_neg (fun q => c2 q.2.1), nI_1]; rfl
          · rw [if_neg c1, if_pos rfl, if_neg (fun q => c1 q.1), nI_1]; rfl
        · rw [if_neg c3, if_neg (fun q => c3 q.2.2), nI_1]; rfl
      · rw [f_X5_peaceful_l29, e0, bit_n _ (by omega), if_pos (nI_le (Nat.le_refl _) (by omega))]
    · unfold f_X6_peaceful
      rw [m_within_eq, Option.bind_some, wi_t hx, if_neg (by decide), m_hungNow (by rw [hAA]; exact hA.1), Option.bind_some, hAA]
      refine zIter_steps (fun k => (nI (pcn A x k), nI k)) (hung A + 1) 1000 _ (by omega) (fun k hk => ?_) ?_
      · rw [f_X6_peaceful_l27, if_neg (nI_nlt (by omega) (by omega)), s1]
        unfold f_X6_peaceful_j65
        by_cases c1 : inS (hung A) k
        · rw [if_pos c1, m_bits (by omega), Option.bind_some]
          by_cases c3 : nI (popc k) = x
          · rw [if_pos c3, m_isPeace hA hAA (by omega), Option.bind_some]
            by_cases c2 : pairsN A k = 0
            · rw [if_pos c2, if_neg (show ¬ (1 : Int32) = 0 by decide), if_pos ⟨c1, c2, c3⟩, nI_1, nI_1]; rfl
            · rw [if_neg c2, if_pos rfl, if_neg (fun q => c2 q.2.1), Int32.add_zero, nI_1]; rfl
          · rw [if_neg c3, if_neg (fun q => c3 q.2.2), Int32.add_zero, nI_1]; rfl
        · rw [if_neg c1, if_neg (fun q => c1 q.1), Int32.add_zero, nI_1]; rfl
      · rw [f_X6_peaceful_l27, if_pos (nI_lt (by omega) (by omega))]
  · refine pe_find h 0 (by omega) ?_ (fun M1 hf => ?_)
    · unfold f_X5_peaceful
      rw [f_within_eq, Option.bind_some, wi_f hx, if_pos rfl, bind_pair]; rfl
    · unfold f_X6_peaceful
      rw [m_within_eq, Option.bind_some, wi_f hx, if_pos rfl, bind_pair]; rfl
