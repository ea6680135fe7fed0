/-! THE CHEAPEST AND THE CALMEST ORDER. -/
theorem sumN_swap (X : Nat → Nat → Nat) (m : Nat) : ∀ n, sumN (fun i => sumN (fun j => X i j) m) n = sumN (fun j => sumN (fun i => X i j) n) m := by
  intro n
  induction n with
  | zero => exact (sumN_zero m).symm
  | succ n ih =>
    show sumN (fun i => sumN (fun j => X i j) m) n + sumN (fun j => X n j) m = sumN (fun j => sumN (fun i => X i j) n + X n j) m
    rw [sumN_add, ih]
/-- the due as a number -/
def dn (A : Nat → Int32) (j : Nat) : Nat := (dueA A j).toNatClampNeg
theorem dn_eq {A : Nat → Int32} {D j : Nat} (h : okA A D) (hj : j < 8) : dueA A j = nI (dn A j) ∧ dn A j ≤ 300 := by
  obtain ⟨d, hd, e⟩ := okA_due h hj
  have : dn A j = d := by unfold dn; rw [e, nI_clamp (by omega)]
  rw [this]; exact ⟨e, hd⟩
/-- what is due from him at place p -/
noncomputable def dpay (A : Nat → Int32) (o p : Nat) : Nat := match drP A o p with
  | none => 0
  | some j => dn A j
noncomputable def dsum (A : Nat → Int32) (o : Nat) : Nat := sumN (dpay A o) 6
theorem dpay_le {A : Nat → Int32} {D o p : Nat} (h : okA A D) (ho : o < 720) (hp : p < 6) : dpay A o p ≤ 300 := by
  unfold dpay
  cases hc : drP A o p with
  | none => exact Nat.zero_le _
  | some j =>
    have := (drP_spec h.1 h.2.1 ho hp hc).1
    have h8 := h.1.2
    exact (dn_eq h (by omega)).2
theorem dsum_le {A : Nat → Int32} {D o : Nat} (h : okA A D) (ho : o < 720) : dsum A o ≤ 6 * 300 := sumN_le _ _ 6 (fun p hp => dpay_le h ho hp)
theorem dsum_eq {A : Nat → Int32} {D o : Nat} (h : okA A D) (ho : o < 720) : dsum A o = sumN (fun j => if (setK A o 6).testBit j = true then dn A j else 0) (nn A) := by
  have e1 : dsum A o = sumN (fun p => sumN (fun j => if drP A o p = some j then dn A j else 0) (nn A)) 6 := by
    refine sumN_congr 6 (fun p hp => ?_)
    rw [sumN_one (dn A) (drP A o p) (nn A) (fun f hf => (drP_spec h.1 h.2.1 ho hp hf).1)]
    rfl
  rw [e1, sumN_swap]
  refine sumN_congr _ (fun j hj => ?_)
  have e2 : sumN (fun p => if drP A o p = some j then dn A j else 0) 6 = sumN (fun p => if who A o 6 j = some p then (fun _ => dn A j) p else 0) 6 := by
    refine sumN_congr 6 (fun p hp => ?_)
    by_cases c : drP A o p = some j
    · rw [if_pos c, if_pos (who_of h.1 h.2.1 ho 6 (by omega) hp c)]
    · rw [if_neg c, if_neg (fun q => c (who_some 6 q).2)]
  rw [e2, sumN_one _ _ 6 (fun f hf => (who_some 6 hf).1)]
  cases hc : who A o 6 j with
  | none =>
    have : ¬ (setK A o 6).testBit j = true := fun q => by
      obtain ⟨p, hp⟩ := (who_iff h.1 h.2.1 ho).mp q
      rw [hc] at hp; cases hp
    rw [if_neg this]
  | some p => rw [if_pos ((who_iff h.1 h.2.1 ho).mpr ⟨p, hc⟩)]
theorem hit_le (A : Nat → Int32) (m i : Nat) : hitN A m i ≤ 1 := by
  unfold hitN
  repeat' split
  all_goals omega
theorem pairs_le8 (A : Nat → Int32) (m : Nat) (hn : okN A) : pairsN A m ≤ 8 * 1 := Nat.le_trans (sumN_le _ 1 _ (fun i _ => hit_le A m i)) (Nat.mul_le_mul_right 1 hn.2)
theorem h_duesDrawn {N : zM} {D o : Nat} {A : Nat → Int32} (hA : okA A D) (ho : o < 720) (hd : ∀ p, p < 6 → N 11 p = iv (drP A o p)) (hr : hrow N 1 = A) : f_X0_duesDrawn 1 N = some (nI (dsum A o)) := by
  have h8 := hA.1.2
  have hN0 : N 1 0 = nI (nn (hrow N 1)) := by rw [hr, ← hA.1.1, ← hr]; rfl
  unfold f_X0_duesDrawn dsum
  refine zIter_steps (fun k => (nI (sumN (dpay A o) k), nI k)) 6 1000 _ (by omega) (fun k hk => ?_) ?_
  · have hs : ∀ j, drP A o k = some j → j < nn A := fun j hj => (drP_spec hA.1 hA.2.1 ho hk hj).1
    have s1 : sumN (dpay A o) (k + 1) = sumN (dpay A o) k + dpay A o k := rfl
    rw [f_X0_duesDrawn_l4, if_neg (show ¬ (6 : Int32) ≤ nI k from nI_ge (b := 6) hk (by decide)), h_draws isH_1 hk (hd k hk) hN0 (by rw [hr]; exact h8) (by rw [hr]; exact hs), Option.bind_some]
    cases hc : drP A o k with
    | none =>
      have : dpay A o k = 0 := by unfold dpay; rw [hc]
      rw [if_pos rfl, if_pos rfl, nI_1, s1, this]; rfl
    | some j =>
      have hj := hs j hc
      have : dpay A o k = dn A j := by unfold dpay; rw [hc]
      rw [if_neg (show ¬ (some j = none) by intro e; cases e), if_neg (show ¬ ((1 : Int32) = 0) by decide), rd (n := 6) rfl hk, Option.bind_some, show N (1 + 10) k = _ from hd k hk, hc]
      show ((f_X0_due 1 (nI j) N).bind _) = _
      rw [h_due isH_1 (by omega), Option.bind_some, hr, (dn_eq hA (by omega)).1, nI_add, nI_1, s1, this]; rfl
  · rw [f_X0_duesDrawn_l4, if_pos (show (6 : Int32) ≤ nI 6 from nI_le (Nat.le_refl _) (by omega))]
theorem m_duesIn {M : zM} {D m : Nat} {A : Nat → Int32} (hAA : M 48 = A) (hA : okA A D) (hm : m < 256) : f_X6_duesIn (nI m) M = some (nI (sumN (fun j => if m.testBit j = true then dn A j else 0) (nn A))) := by
  have h8 := hA.1.2
  have z1 : zrd M 48 1 = some (nI (nn A)) := by rw [← hA.1.1, ← hAA]; exact rd48 (j := 1) (by omega)
  unfold f_X6_duesIn
  refine zIter_steps (fun k => (nI (sumN (fun j => if m.testBit j = true then dn A j else 0) k), nI k)) (nn A) 1000 _ (by omega) (fun k hk => ?_) ?_
  · have s1 : sumN (fun j => if m.testBit j = true then dn A j else 0) (k + 1) = sumN (fun j => if m.testBit j = true then dn A j else 0) k + (if m.testBit k = true then dn A k else 0) := rfl
    rw [f_X6_duesIn_l4, z1, Option.bind_some, if_neg (nI_ge hk (by omega)), m_has hm (by omega), Option.bind_some]
    by_cases c : m.testBit k = true
    · rw [if_pos c, if_neg (by decide), m_due (by omega), Option.bind_some, hAA, (dn_eq hA (by omega)).1, nI_add, nI_1, s1, if_pos c]; rfl
    · rw [if_neg c, if_pos rfl, Int32.add_zero, nI_1, s1, if_neg c]; rfl
  · rw [f_X6_duesIn_l4, z1, Option.bind_some, if_pos (nI_le (Nat.le_refl _) (by omega))]
def lo (v : Nat → Int32) : Nat → Int32 × Int32
  | 0 => (0, 2147483647)
  | k + 1 => if (lo v k).2 ≤ v k then lo v k else (nI k, v k)
theorem m_leastOrder {M : zM} {D : Nat} {A v : Nat → Int32} {x : Int32} (hAA : M 48 = A) (hA : okA A D) (hv : (x = 0 ∧ v = fun o => nI (qN A (setK A o 6))) ∨ (x = 1 ∧ v = fun o => nI (dsum A o))) : ∃ M', f_X6_leastOrder x M = some ((lo v 720).1, M') ∧ ∀ a, a ≠ 52 → M' a = M a := by
  have key : ∃ r, zIter (f_X6_leastOrder_l8 x) 1000 (0, 2147483647, 0, M) = some r ∧ ∃ N : zM, r = ((lo v 720).1, N) ∧ ∀ a, a ≠ 52 → N a = M a := by
    refine zIter_inv (fun k s => ∃ N : zM, s = ((lo v k).1, (lo v k).2, nI k, N) ∧ ∀ a, a ≠ 52 → N a = M a) _ 720 1000 _ (by omega) ⟨M, rfl, fun _ _ => rfl⟩ (fun k s hk hI => ?_) (fun s hI => ?_)
    · obtain ⟨N, rfl, hF⟩ := hI
      have n48 : N 48 = A := (hF 48 (by omega)).trans hAA
      obtain ⟨N2, g1, -, g3⟩ := m_drawBy (M := N) (o := k) hk (by rw [n48]; exact hA.1) (by rw [n48]; exact hA.2.1)
      rw [n48, taken_eq hA.1 hA.2.1 hk] at g1
      have p48 : N2 48 = A := (g3 48 (by omega)).trans n48
      have hm := setK_lt hA.1 hA.2.1 hk 6 (by omega)
      have s1 : lo v (k + 1) = if (lo v k).2 ≤ v k then lo v k else (nI k, v k) := rfl
      have fin : ∃ s', f_X6_leastOrder_j43 x (lo v k).1 (lo v k).2 (nI k) (v k) N2 = some (Sum.inl s') ∧ ∃ N : zM, s' = ((lo v (k + 1)).1, (lo v (k + 1)).2, nI (k + 1), N) ∧ ∀ a, a ≠ 52 → N a = M a := by
        unfold f_X6_leastOrder_j43 f_X6_leastOrder_j57
        have hF2 : ∀ a, a ≠ 52 → N2 a = M a := fun a h1 => (g3 a h1).trans (hF a h1)
        by_cases q : (lo v k).2 ≤ v k
        · rw [if_pos q, if_neg (Int32.not_lt.mpr q), nI_1]
          exact ⟨_, rfl, N2, by rw [s1, if_pos q], hF2⟩
        · rw [if_neg q, if_pos (Int32.not_le.mp q), nI_1]
          exact ⟨_, rfl, N2, by rw [s1, if_neg q], hF2⟩
      rw [f_X6_leastOrder_l8, if_neg (show ¬ (720 : Int32) ≤ nI k from nI_ge (b := 720) hk (by decide)), g1, Option.bind_some]
      rcases hv with ⟨hx, hv⟩ | ⟨hx, hv⟩
      · have ev : f_X6_quarrelsIn (nI (setK A k 6)) N2 = some (v k) := by
          rw [m_quarrelsIn hm (by rw [p48]; exact hA.2.2.1) (by rw [p48]; exact hA.1), p48, hv]
        show ∃ s', ((if x = 0 then _ else _) = some (Sum.inl s')) ∧ _
        rw [if_pos hx, ev, Option.bind_some]
        exact fin
      · have ev : f_X6_duesIn (nI (setK A k 6)) N2 = some (v k) := by
          rw [m_duesIn p48 hA hm, ← dsum_eq hA hk, hv]
        show ∃ s', ((if x = 0 then _ else _) = some (Sum.inl s')) ∧ _
        rw [if_neg (show ¬ x = 0 by rw [hx]; decide), ev, Option.bind_some]
        exact fin
    · obtain ⟨N, rfl, hF⟩ := hI
      rw [f_X6_leastOrder_l8, if_pos (show (720 : Int32) ≤ nI 720 from nI_le (Nat.le_refl _) (by omega))]
      exact ⟨_, rfl, N, rfl, hF⟩
  obtain ⟨r, k1, N, rfl, k2⟩ := key
  exact ⟨N, k1, k2⟩
theorem pe_cheapest : PE f_X5_cheapest f_X6_cheapest := by
  intro M D hD h
  have hA := h.2.1
  have h48 := h.1
  generalize hAA : M 48 = A at hA h48
  generalize hv : (fun o => nI (dsum A o)) = v
  have v0 : v 0 < 2147483647 := by rw [← hv]; exact nI_lt (b := 2147483647) (Nat.lt_of_le_of_lt (dsum_le hA (by omega)) (by omega)) (by omega)
  have key : ∃ r, zIter f_X5_cheapest_l6 1000 (0, (-1), 0, M) = some r ∧ ∃ N : zM, r = ((lo v 720).1, N) ∧ ∀ a, a ≠ 10 → a ≠ 11 → N a = M a := by
    refine zIter_inv (fun k s => ∃ N : zM, s = ((lo v k).1, (if k = 0 then -1 else (lo v k).2), nI k, N) ∧ ∀ a, a ≠ 10 → a ≠ 11 → N a = M a) _ 720 1000 _ (by omega) ⟨M, rfl, fun _ _ _ => rfl⟩ (fun k s hk hI => ?_) (fun s hI => ?_)
    · obtain ⟨N, rfl, hF⟩ := hI
      have hr : hrow N 1 = A := by rw [CS_hrow (CS_line hF), h48]
      obtain ⟨N2, e1, e2, e3⟩ := h_draw (M := N) (o := k) isH_1 hk (by rw [hr]; exact hA.1) (by rw [hr]; exact hA.2.1)
      rw [hr] at e2
      have d1 := drP_row (D := N2 11) hk e2
      have hr2 : hrow N2 1 = A := by rw [CS_hrow (CS_line e3), hr]
      have ev : f_X0_duesDrawn 1 N2 = some (v k) := by
        rw [← hv]
        exact h_duesDrawn hA hk d1 hr2
      have hF2 : ∀ a, a ≠ 10 → a ≠ 11 → N2 a = M a := fun a h1 h2 => (e3 a h1 h2).trans (hF a h1 h2)
      have s1 : lo v (k + 1) = if (lo v k).2 ≤ v k then lo v k else (nI k, v k) := rfl
      rw [f_X5_cheapest_l6, if_neg (show ¬ (720 : Int32) ≤ nI k from nI_ge (b := 720) hk (by decide)), e1, Option.bind_some, ev, Option.bind_some]
      unfold f_X5_cheapest_j40
      have hk1 : ¬ k + 1 = 0 := by omega
      by_cases c : k = 0
      · subst c
        rw [if_pos (show nI 0 = 0 from rfl), nI_1]
        have : lo v (0 + 1) = (nI 0, v 0) := by rw [s1]; exact if_neg (Int32.not_le.mpr v0)
        exact ⟨_, rfl, N2, by rw [if_neg hk1, this], hF2⟩
      · rw [if_neg (show ¬ nI k = 0 from nI_ne0 (by omega) (by omega)), if_neg c]
        by_cases q : (lo v k).2 ≤ v k
        · rw [if_pos q, nI_1]
          exact ⟨_, rfl, N2, by rw [if_neg hk1, s1, if_pos q], hF2⟩
        · rw [if_neg q, nI_1]
          exact ⟨_, rfl, N2, by rw [if_neg hk1, s1, if_neg q], hF2⟩
    · obtain ⟨N, rfl, hF⟩ := hI
      rw [f_X5_cheapest_l6, if_pos (show (720 : Int32) ≤ nI 720 from nI_le (Nat.le_refl _) (by omega))]
      exact ⟨_, rfl, N, rfl, hF⟩
  obtain ⟨r, k1, N, rfl, k2⟩ := key
  have hc : CS M N := CS_line k2
  have c48 : N 48 = A := by rw [hc 48 (by omega), hAA]
  obtain ⟨M2, g1, g2⟩ := m_leastOrder (M := N) (x := 1) (v := v) c48 hA (Or.inr ⟨rfl, hv.symm⟩)
  refine pe_scr h (r := (lo v 720).1) (M1 := N) k1 hc ⟨M2, ?_, fun a _ _ h3 => g2 a h3, g2 48 (by omega), fun j hj => by rw [g2 50 (by omega), hc 50 (by omega)]; exact RR_50 h j hj⟩
  unfold f_X6_cheapest
  rw [g1]; rfl
theorem pe_calmest : PE f_X5_calmest f_X6_calmest := by
  intro M D hD h
  have hA := h.2.1
  have h48 := h.1
  generalize hAA : M 48 = A at hA h48
  generalize hv : (fun o => nI (pairsN A (setK A o 6))) = v
  have v0 : v 0 < 2147483647 := by rw [← hv]; exact nI_lt (b := 2147483647) (Nat.lt_of_le_of_lt (pairs_le8 A _ hA.1) (by omega)) (by omega)
  have key : ∃ r, zIter f_X5_calmest_l6 1000 (0, (-1), 0, M) = some r ∧ ∃ N : zM, r = ((lo v 720).1, N) ∧ ∀ a, a ≠ 10 → a ≠ 11 → N a = M a := by
    refine zIter_inv (fun k s => ∃ N : zM, s = ((lo v k).1, (if k = 0 then -1 else (lo v k).2), nI k, N) ∧ ∀ a, a ≠ 10 → a ≠ 11 → N a = M a) _ 720 1000 _ (by omega) ⟨M, rfl, fun _ _ _ => rfl⟩ (fun k s hk hI => ?_) (fun s hI => ?_)
    · obtain ⟨N, rfl, hF⟩ := hI
      have hr : hrow N 1 = A := by rw [CS_hrow (CS_line hF), h48]
      obtain ⟨N2, e1, e2, e3⟩ := h_draw (M := N) (o := k) isH_1 hk (by rw [hr]; exact hA.1) (by rw [hr]; exact hA.2.1)
      rw [hr] at e2
      have d1 := drP_row (D := N2 11) hk e2
      have hr2 : hrow N2 1 = A := by rw [CS_hrow (CS_line e3), hr]
      have ev : f_X0_pairsDrawn 1 N2 = some (v k) := by
        rw [← hv]
        exact h_pairsDrawn isH_1 hk hA.1 hA.2.1 hA.2.2.1 d1 (by rw [hr2]) (fun i _ => by rw [hr2])
      have hF2 : ∀ a, a ≠ 10 → a ≠ 11 → N2 a = M a := fun a h1 h2 => (e3 a h1 h2).trans (hF a h1 h2)
      have s1 : lo v (k + 1) = if (lo v k).2 ≤ v k then lo v k else (nI k, v k) := rfl
      rw [f_X5_calmest_l6, if_neg (show ¬ (720 : Int32) ≤ nI k from nI_ge (b := 720) hk (by decide)), e1, Option.bind_some, ev, Option.bind_some]
      unfold f_X5_calmest_j40
      have hk1 : ¬ k + 1 = 0 := by omega
      by_cases c : k = 0
      · subst c
        rw [if_pos (show nI 0 = 0 from rfl), nI_1]
        have : lo v (0 + 1) = (nI 0, v 0) := by rw [s1]; exact if_neg (Int32.not_le.mpr v0)
        exact ⟨_, rfl, N2, by rw [if_neg hk1, this], hF2⟩
      · rw [if_neg (show ¬ nI k = 0 from nI_ne0 (by omega) (by omega)), if_neg c]
        by_cases q : (lo v k).2 ≤ v k
        · rw [if_pos q, nI_1]
          exact ⟨_, rfl, N2, by rw [if_neg hk1, s1, if_pos q], hF2⟩
        · rw [if_neg q, nI_1]
          exact ⟨_, rfl, N2, by rw [if_neg hk1, s1, if_neg q], hF2⟩
    · obtain ⟨N, rfl, hF⟩ := hI
      rw [f_X5_calmest_l6, if_pos (show (720 : Int32) ≤ nI 720 from nI_le (Nat.le_refl _) (by omega))]
      exact ⟨_, rfl, N, rfl, hF⟩
  obtain ⟨r, k1, N, rfl, k2⟩ := key
  have hc : CS M N := CS_line k2
  have c48 : N 48 = A := by rw [hc 48 (by omega), hAA]
  obtain ⟨M2, g1, g2⟩ := m_leastOrder (M := N) (x := 0) (v := v) c48 hA (Or.inl ⟨rfl, by rw [← hv]; funext o; rw [pairs_eq hA.2.2.1 hA.1]⟩)
  refine pe_scr h (r := (lo v 720).1) (M1 := N) k1 hc ⟨M2, ?_, fun a _ _ h3 => g2 a h3, g2 48 (by omega), fun j hj => by rw [g2 50 (by omega), hc 50 (by omega)]; exact RR_50 h j hj⟩
  unfold f_X6_calmest
  rw [g1]; rfl
