/-! THE LAW'S LOOP OVER THE PURE MACHINE. -/
theorem zss_at {xs : Nat → Int32} {n j : Nat} (hj : j < n) (hn : n ≤ 3072) : zss xs n (nI j) = some (xs j) := by
  unfold zss
  rw [nI_clamp (by omega), if_neg]
  rintro (c | c)
  · exact nI_pos (by omega) c
  · omega
set_option maxHeartbeats 16000000 in
set_option maxRecDepth 40000 in
theorem law_step {xs : Nat → Int32} {n k : Nat} {M : zM} (hn : n ≤ 3072) (hk : 6 * k + 6 ≤ n) (h : RR M (60 * k)) : ∃ M', f_law_l xs n (nI (6 * k), M) = some (Sum.inl (nI (6 * (k + 1)), M')) ∧ RR M' (60 * k + 60) := by
  have hD : 60 * k ≤ 40000 := by omega
  have z0 : zss xs n (nI (6 * k)) = some (xs (6 * k)) := zss_at (by omega) hn
  have z1 : zss xs n (nI (6 * k) + 1) = some (xs (6 * k + 1)) := by rw [nI_1]; exact zss_at (by omega) hn
  have z2 : zss xs n (nI (6 * k) + 2) = some (xs (6 * k + 2)) := by rw [show nI (6 * k) + 2 = nI (6 * k + 2) from nI_add _ 2]; exact zss_at (by omega) hn
  have z3 : zss xs n (nI (6 * k) + 3) = some (xs (6 * k + 3)) := by rw [show nI (6 * k) + 3 = nI (6 * k + 3) from nI_add _ 3]; exact zss_at (by omega) hn
  have z4 : zss xs n (nI (6 * k) + 4) = some (xs (6 * k + 4)) := by rw [show nI (6 * k) + 4 = nI (6 * k + 4) from nI_add _ 4]; exact zss_at (by omega) hn
  have z5 : zss xs n (nI (6 * k) + 5) = some (xs (6 * k + 5)) := by rw [show nI (6 * k) + 5 = nI (6 * k + 5) from nI_add _ 5]; exact zss_at (by omega) hn
  have e6 : nI (6 * k) + 6 = nI (6 * (k + 1)) := nI_add _ 6
  have el : ¬ (Int32.ofNat n - 6 < nI (6 * k)) := by
    rw [show Int32.ofNat n - 6 = nI (n - 6) from nI_sub (a := n) (k := 6) (by omega)]
    exact nI_nlt (by omega) (by omega)
  generalize ex0 : xs (6 * k) = x0 at z0
  generalize ex1 : xs (6 * k + 1) = x1 at z1
  generalize ex2 : xs (6 * k + 2) = x2 at z2
  generalize ex3 : xs (6 * k + 3) = x3 at z3
  generalize ex4 : xs (6 * k + 4) = x4 at z4
  generalize ex5 : xs (6 * k + 5) = x5 at z5
  rw [f_law_l, if_neg el, z0, Option.bind_some]
  by_cases c0 : (x0 &&& 63) = 0
  · obtain ⟨r, M1, M2, e1, e2, e3⟩ := pe_name x1 x2 M _ hD h
    rw [if_pos c0, z1, Option.bind_some, z2, Option.bind_some, e1, Option.bind_some]
    show ∃ M', (((f_X6_name x1 x2 M1).bind _) = some (Sum.inl (nI (6 * (k + 1)), M'))) ∧ _
    rw [e2, Option.bind_some]
    show ∃ M', ((if r = r then _ else _) = some (Sum.inl (nI (6 * (k + 1)), M'))) ∧ _
    rw [if_pos (rfl), e6]
    exact ⟨M2, rfl, e3⟩
  rw [if_neg c0]
  by_cases c1 : (x0 &&& 63) = 1
  · obtain ⟨r, M1, M2, e1, e2, e3⟩ := pe_of x1 x2 M _ hD h
    rw [if_pos c1, z1, Option.bind_some, z2, Option.bind_some, e1, Option.bind_some]
    show ∃ M', (((f_X6_of x1 x2 M1).bind _) = some (Sum.inl (nI (6 * (k + 1)), M'))) ∧ _
    rw [e2, Option.bind_some]
    show ∃ M', ((if r = r then _ else _) = some (Sum.inl (nI (6 * (k + 1)), M'))) ∧ _
    rw [if_pos (rfl), e6]
    exact ⟨M2, rfl, e3⟩
  rw [if_neg c1]
  by_cases c2 : (x0 &&& 63) = 2
  · obtain ⟨r, M1, M2, e1, e2, e3⟩ := pe_change x1 x2 x3 M _ hD h
    rw [if_pos c2, z1, Option.bind_some, z2, Option.bind_some, z3, Option.bind_some, e1, Option.bind_some]
    show ∃ M', (((f_X6_change x1 x2 x3 M1).bind _) = some (Sum.inl (nI (6 * (k + 1)), M'))) ∧ _
    rw [e2, Option.bind_some]
    show ∃ M', ((if r = r then _ else _) = some (Sum.inl (nI (6 * (k + 1)), M'))) ∧ _
    rw [if_pos (rfl), e6]
    exact ⟨M2, rfl, e3⟩
  rw [if_neg c2]
  by_cases c3 : (x0 &&& 63) = 3
  · obtain ⟨r, M1, M2, e1, e2, e3⟩ := pe_person x1 x2 x3 M _ hD h
    rw [if_pos c3, z1, Option.bind_some, z2, Option.bind_some, z3, Option.bind_some, e1, Option.bind_some]
    show ∃ M', (((f_X6_person x1 x2 x3 M1).bind _) = some (Sum.inl (nI (6 * (k + 1)), M'))) ∧ _
    rw [e2, Option.bind_some]
    show ∃ M', ((if r = r then _ else _) = some (Sum.inl (nI (6 * (k + 1)), M'))) ∧ _
    rw [if_pos (rfl), e6]
    exact ⟨M2, rfl, e3⟩
  rw [if_neg c3]
  by_cases c4 : (x0 &&& 63) = 4
  · obtain ⟨r, M1, M2, e1, e2, e3⟩ := pe_personOf x1 x2 M _ hD h
    rw [if_pos c4, z1, Option.bind_some, z2, Option.bind_some, e1, Option.bind_some]
    show ∃ M', (((f_X6_personOf x1 x2 M1).bind _) = some (Sum.inl (nI (6 * (k + 1)), M'))) ∧ _
    rw [e2, Option.bind_some]
    show ∃ M', ((if r = r then _ else _) = some (Sum.inl (nI (6 * (k + 1)), M'))) ∧ _
    rw [if_pos (rfl), e6]
    exact ⟨M2, rfl, e3⟩
  rw [if_neg c4]
  by_cases c5 : (x0 &&& 63) = 5
  · obtain ⟨r, M1, M2, e1, e2, e3⟩ := pe_order x1 M _ hD h
    rw [if_pos c5, z1, Option.bind_some, e1, Option.bind_some]
    show ∃ M', (((f_X6_order x1 M1).bind _) = some (Sum.inl (nI (6 * (k + 1)), M'))) ∧ _
    rw [e2, Option.bind_some]
    show ∃ M', ((if r = r then _ else _) = some (Sum.inl (nI (6 * (k + 1)), M'))) ∧ _
    rw [if_pos (rfl), e6]
    exact ⟨M2, rfl, e3⟩
  rw [if_neg c5]
  by_cases c6 : (x0 &&& 63) = 6
  · obtain ⟨r, M1, M2, e1, e2, e3⟩ := pe_at x1 x2 M _ hD h
    rw [if_pos c6, z1, Option.bind_some, z2, Option.bind_some, e1, Option.bind_some]
    show ∃ M', (((f_X6_at x1 x2 M1).bind _) = some (Sum.inl (nI (6 * (k + 1)), M'))) ∧ _
    rw [e2, Option.bind_some]
    show ∃ M', ((if r = r then _ else _) = some (Sum.inl (nI (6 * (k + 1)), M'))) ∧ _
    rw [if_pos (rfl), e6]
    exact ⟨M2, rfl, e3⟩
  rw [if_neg c6]
  by_cases c7 : (x0 &&& 63) = 7
  · obtain ⟨r, M1, M2, e1, e2, e3⟩ := pe_go x1 M _ hD h
    rw [if_pos c7, z1, Option.bind_some, e1, Option.bind_some]
    show ∃ M', (((f_X6_go x1 M1).bind _) = some (Sum.inl (nI (6 * (k + 1)), M'))) ∧ _
    rw [e2, Option.bind_some]
    show ∃ M', ((if r = r then _ else _) = some (Sum.inl (nI (6 * (k + 1)), M'))) ∧ _
    rw [if_pos (rfl), e6]
    exact ⟨M2, rfl, e3⟩
  rw [if_neg c7]
  by_cases c8 : (x0 &&& 63) = 8
  · obtain ⟨r, M1, M2, e1, e2, e3⟩ := pe_now x1 M _ hD h
    rw [if_pos c8, z1, Option.bind_some, e1, Option.bind_some]
    show ∃ M', (((f_X6_now x1 M1).bind _) = some (Sum.inl (nI (6 * (k + 1)), M'))) ∧ _
    rw [e2, Option.bind_some]
    show ∃ M', ((if r = r then _ else _) = some (Sum.inl (nI (6 * (k + 1)), M'))) ∧ _
    rw [if_pos (rfl), e6]
    exact ⟨M2, rfl, e3⟩
  rw [if_neg c8]
  by_cases c9 : (x0 &&& 63) = 9
  · obtain ⟨r, M1, M2, e1, e2, e3⟩ := pe_mend x1 x2 x3 M _ hD h
    rw [if_pos c9, z1, Option.bind_some, z2, Option.bind_some, z3, Option.bind_some, e1, Option.bind_some]
    show ∃ M', (((f_X6_mend x1 x2 x3 M1).bind _) = some (Sum.inl (nI (6 * (k + 1)), M'))) ∧ _
    rw [e2, Option.bind_some]
    show ∃ M', ((if r = r then _ else _) = some (Sum.inl (nI (6 * (k + 1)), M'))) ∧ _
    rw [if_pos (rfl), e6]
    exact ⟨M2, rfl, e3⟩
  rw [if_neg c9]
  by_cases c10 : (x0 &&& 63) = 10
  · obtain ⟨r, M1, M2, e1, e2, e3⟩ := pe_wears x1 M _ hD h
    rw [if_pos c10, z1, Option.bind_some, e1, Option.bind_some]
    show ∃ M', (((f_X6_wears x1 M1).bind _) = some (Sum.inl (nI (6 * (k + 1)), M'))) ∧ _
    rw [e2, Option.bind_some]
    show ∃ M', ((if r = r then _ else _) = some (Sum.inl (nI (6 * (k + 1)), M'))) ∧ _
    rw [if_pos (rfl), e6]
    exact ⟨M2, rfl, e3⟩
  rw [if_neg c10]
  by_cases c11 : (x0 &&& 63) = 11
  · obtain ⟨r, M1, M2, e1, e2, e3⟩ := pe_ahead x1 x2 M _ hD h
    rw [if_pos c11, z1, Option.bind_some, z2, Option.bind_some, e1, Option.bind_some]
    show ∃ M', (((f_X6_ahead x1 x2 M1).bind _) = some (Sum.inl (nI (6 * (k + 1)), M'))) ∧ _
    rw [e2, Option.bind_some]
    show ∃ M', ((if r = r then _ else _) = some (Sum.inl (nI (6 * (k + 1)), M'))) ∧ _
    rw [if_pos (rfl), e6]
    exact ⟨M2, rfl, e3⟩
  rw [if_neg c11]
  by_cases c12 : (x0 &&& 63) = 12
  · obtain ⟨r, M1, M2, e1, e2, e3⟩ := pe_owes x1 x2 M _ hD h
    rw [if_pos c12, z1, Option.bind_some, z2, Option.bind_some, e1, Option.bind_some]
    show ∃ M', (((f_X6_owes x1 x2 M1).bind _) = some (Sum.inl (nI (6 * (k + 1)), M'))) ∧ _
    rw [e2, Option.bind_some]
    show ∃ M', ((if r = r then _ else _) = some (Sum.inl (nI (6 * (k + 1)), M'))) ∧ _
    rw [if_pos (rfl), e6]
    exact ⟨M2, rfl, e3⟩
  rw [if_neg c12]
  by_cases c13 : (x0 &&& 63) = 13
  · obtain ⟨r, M1, M2, e1, e2, e3⟩ := pe_lasts x1 M _ hD h
    rw [if_pos c13, z1, Option.bind_some, e1, Option.bind_some]
    show ∃ M', (((f_X6_lasts x1 M1).bind _) = some (Sum.inl (nI (6 * (k + 1)), M'))) ∧ _
    rw [e2, Option.bind_some]
    show ∃ M', ((if r = r then _ else _) = some (Sum.inl (nI (6 * (k + 1)), M'))) ∧ _
    rw [if_pos (rfl), e6]
    exact ⟨M2, rfl, e3⟩
  rw [if_neg c13]
  by_cases c14 : (x0 &&& 63) = 14
  · obtain ⟨r, M1, M2, e1, e2, e3⟩ := pe_broke x1 M _ hD h
    rw [if_pos c14, z1, Option.bind_some, e1, Option.bind_some]
    show ∃ M', (((f_X6_broke x1 M1).bind _) = some (Sum.inl (nI (6 * (k + 1)), M'))) ∧ _
    rw [e2, Option.bind_some]
    show ∃ M', ((if r = r then _ else _) = some (Sum.inl (nI (6 * (k + 1)), M'))) ∧ _
    rw [if_pos (rfl), e6]
    exact ⟨M2, rfl, e3⟩
  rw [if_neg c14]
  by_cases c15 : (x0 &&& 63) = 15
  · obtain ⟨r, M1, M2, e1, e2, e3⟩ := pe_often x1 x2 x3 M _ hD h
    rw [if_pos c15, z1, Option.bind_some, z2, Option.bind_some, z3, Option.bind_some, e1, Option.bind_some]
    show ∃ M', (((f_X6_often x1 x2 x3 M1).bind _) = some (Sum.inl (nI (6 * (k + 1)), M'))) ∧ _
    rw [e2, Option.bind_some]
    show ∃ M', ((if r = r then _ else _) = some (Sum.inl (nI (6 * (k + 1)), M'))) ∧ _
    rw [if_pos (rfl), e6]
    exact ⟨M2, rfl, e3⟩
  rw [if_neg c15]
  by_cases c16 : (x0 &&& 63) = 16
  · obtain ⟨r, M1, M2, e1, e2, e3⟩ := pe_kindFor x1 M _ hD h
    rw [if_pos c16, z1, Option.bind_some, e1, Option.bind_some]
    show ∃ M', (((f_X6_kindFor x1 M1).bind _) = some (Sum.inl (nI (6 * (k + 1)), M'))) ∧ _
    rw [e2, Option.bind_some]
    show ∃ M', ((if r = r then _ else _) = some (Sum.inl (nI (6 * (k + 1)), M'))) ∧ _
    rw [if_pos (rfl), e6]
    exact ⟨M2, rfl, e3⟩
  rw [if_neg c16]
  by_cases c17 : (x0 &&& 63) = 17
  · obtain ⟨r, M1, M2, e1, e2, e3⟩ := pe_orderFor x1 x2 M _ hD h
    rw [if_pos c17, z1, Option.bind_some, z2, Option.bind_some, e1, Option.bind_some]
    show ∃ M', (((f_X6_orderFor x1 x2 M1).bind _) = some (Sum.inl (nI (6 * (k + 1)), M'))) ∧ _
    rw [e2, Option.bind_some]
    show ∃ M', ((if r = r then _ else _) = some (Sum.inl (nI (6 * (k + 1)), M'))) ∧ _
    rw [if_pos (rfl), e6]
    exact ⟨M2, rfl, e3⟩
  rw [if_neg c17]
  by_cases c18 : (x0 &&& 63) = 18
  · obtain ⟨r, M1, M2, e1, e2, e3⟩ := pe_orders x1 x2 M _ hD h
    rw [if_pos c18, z1, Option.bind_some, z2, Option.bind_some, e1, Option.bind_some]
    show ∃ M', (((f_X6_orders x1 x2 M1).bind _) = some (Sum.inl (nI (6 * (k + 1)), M'))) ∧ _
    rw [e2, Option.bind_some]
    show ∃ M', ((if r = r then _ else _) = some (Sum.inl (nI (6 * (k + 1)), M'))) ∧ _
    rw [if_pos (rfl), e6]
    exact ⟨M2, rfl, e3⟩
  rw [if_neg c18]
  by_cases c19 : (x0 &&& 63) = 19
  · obtain ⟨r, M1, M2, e1, e2, e3⟩ := pe_cheapest M _ hD h
    rw [if_pos c19, e1, Option.bind_some]
    show ∃ M', (((f_X6_cheapest M1).bind _) = some (Sum.inl (nI (6 * (k + 1)), M'))) ∧ _
    rw [e2, Option.bind_some]
    show ∃ M', ((if r = r then _ else _) = some (Sum.inl (nI (6 * (k + 1)), M'))) ∧ _
    rw [if_pos (rfl), e6]
    exact ⟨M2, rfl, e3⟩
  rw [if_neg c19]
  by_cases c20 : (x0 &&& 63) = 20
  · obtain ⟨r, M1, M2, e1, e2, e3⟩ := pe_calmest M _ hD h
    rw [if_pos c20, e1, Option.bind_some]
    show ∃ M', (((f_X6_calmest M1).bind _) = some (Sum.inl (nI (6 * (k + 1)), M'))) ∧ _
    rw [e2, Option.bind_some]
    show ∃ M', ((if r = r then _ else _) = some (Sum.inl (nI (6 * (k + 1)), M'))) ∧ _
    rw [if_pos (rfl), e6]
    exact ⟨M2, rfl, e3⟩
  rw [if_neg c20]
  by_cases c21 : (x0 &&& 63) = 21
  · obtain ⟨r, M1, M2, e1, e2, e3⟩ := pe_best x1 x2 M _ hD h
    rw [if_pos c21, z1, Option.bind_some, z2, Option.bind_some, e1, Option.bind_some]
    show ∃ M', (((f_X6_best x1 x2 M1).bind _) = some (Sum.inl (nI (6 * (k + 1)), M'))) ∧ _
    rw [e2, Option.bind_some]
    show ∃ M', ((if r = r then _ else _) = some (Sum.inl (nI (6 * (k + 1)), M'))) ∧ _
    rw [if_pos (rfl), e6]
    exact ⟨M2, rfl, e3⟩
  rw [if_neg c21]
  by_cases c22 : (x0 &&& 63) = 22
  · obtain ⟨r, M1, M2, e1, e2, e3⟩ := pe_wishFor x1 x2 M _ hD h
    rw [if_pos c22, z1, Option.bind_some, z2, Option.bind_some, e1, Option.bind_some]
    show ∃ M', (((f_X6_wishFor x1 x2 M1).bind _) = some (Sum.inl (nI (6 * (k + 1)), M'))) ∧ _
    rw [e2, Option.bind_some]
    show ∃ M', ((if r = r then _ else _) = some (Sum.inl (nI (6 * (k + 1)), M'))) ∧ _
    rw [if_pos (rfl), e6]
    exact ⟨M2, rfl, e3⟩
  rw [if_neg c22]
  by_cases c23 : (x0 &&& 63) = 23
  · obtain ⟨r, e1, e2⟩ := pe_peace h
    rw [if_pos c23, e1, Option.bind_some, e2, Option.bind_some, if_pos rfl, e6]
    exact ⟨M, rfl, RR_mono h (by omega)⟩
  rw [if_neg c23]
  by_cases c24 : (x0 &&& 63) = 24
  · obtain ⟨r, M1, M2, e1, e2, e3⟩ := pe_peaceful x1 M _ hD h
    rw [if_pos c24, z1, Option.bind_some, e1, Option.bind_some]
    show ∃ M', (((f_X6_peaceful x1 M1).bind _) = some (Sum.inl (nI (6 * (k + 1)), M'))) ∧ _
    rw [e2, Option.bind_some]
    show ∃ M', ((if r = r then _ else _) = some (Sum.inl (nI (6 * (k + 1)), M'))) ∧ _
    rw [if_pos (rfl), e6]
    exact ⟨M2, rfl, e3⟩
  rw [if_neg c24]
  by_cases c25 : (x0 &&& 63) = 25
  · obtain ⟨r, M2, e1, e2, e3⟩ := pe_groups h
    rw [if_pos c25, e1, Option.bind_some, e2, Option.bind_some]
    show ∃ M', ((if r = r then _ else _) = some (Sum.inl (nI (6 * (k + 1)), M'))) ∧ _
    rw [if_pos rfl, e6]
    exact ⟨M2, rfl, e3⟩
  rw [if_neg c25]
  by_cases c26 : (x0 &&& 63) = 26
  · obtain ⟨r, M1, M2, e1, e2, e3⟩ := pe_mendFor x1 M _ hD h
    rw [if_pos c26, z1, Option.bind_some, e1, Option.bind_some]
    show ∃ M', (((f_X6_mendFor x1 M1).bind _) = some (Sum.inl (nI (6 * (k + 1)), M'))) ∧ _
    rw [e2, Option.bind_some]
    show ∃ M', ((if r = r then _ else _) = some (Sum.inl (nI (6 * (k + 1)), M'))) ∧ _
    rw [if_pos (rfl), e6]
    exact ⟨M2, rfl, e3⟩
  rw [if_neg c26]
  by_cases c27 : (x0 &&& 63) = 27
  · obtain ⟨r, M1, M2, e1, e2, e3⟩ := pe_without x1 M _ hD h
    rw [if_pos c27, z1, Option.bind_some, e1, Option.bind_some]
    show ∃ M', (((f_X6_without x1 M1).bind _) = some (Sum.inl (nI (6 * (k + 1)), M'))) ∧ _
    rw [e2, Option.bind_some]
    show ∃ M', ((if r = r then _ else _) = some (Sum.inl (nI (6 * (k + 1)), M'))) ∧ _
    rw [if_pos (rfl), e6]
    exact ⟨M2, rfl, e3⟩
  rw [if_neg c27]
  by_cases c28 : (x0 &&& 63) = 28
  · obtain ⟨r, M1, M2, e1, e2, e3⟩ := pe_fits x1 x2 M _ hD h
    rw [if_pos c28, z1, Option.bind_some, z2, Option.bind_some, e1, Option.bind_some]
    show ∃ M', (((f_X6_fits x1 x2 M1).bind _) = some (Sum.inl (nI (6 * (k + 1)), M'))) ∧ _
    rw [e2, Option.bind_some]
    show ∃ M', ((if r = r then _ else _) = some (Sum.inl (nI (6 * (k + 1)), M'))) ∧ _
    rw [if_pos (rfl), e6]
    exact ⟨M2, rfl, e3⟩
  rw [if_neg c28]
  by_cases c29 : (x0 &&& 63) = 29
  · obtain ⟨r, M1, M2, e1, e2, e3⟩ := pe_wish x1 x2 M _ hD h
    rw [if_pos c29, z1, Option.bind_some, z2, Option.bind_some, e1, Option.bind_some]
    show ∃ M', (((f_X6_wish x1 x2 M1).bind _) = some (Sum.inl (nI (6 * (k + 1)), M'))) ∧ _
    rw [e2, Option.bind_some]
    show ∃ M', ((if r = r then _ else _) = some (Sum.inl (nI (6 * (k + 1)), M'))) ∧ _
    rw [if_pos (rfl), e6]
    exact ⟨M2, rfl, e3⟩
  rw [if_neg c29]
  by_cases c30 : (x0 &&& 63) = 30
  · obtain ⟨r, M1, M2, e1, e2, e3⟩ := pe_moths x1 M _ hD h
    rw [if_pos c30, z1, Option.bind_some, e1, Option.bind_some]
    show ∃ M', (((f_X6_moths x1 M1).bind _) = some (Sum.inl (nI (6 * (k + 1)), M'))) ∧ _
    rw [e2, Option.bind_some]
    show ∃ M', ((if r = r then _ else _) = some (Sum.inl (nI (6 * (k + 1)), M'))) ∧ _
    rw [if_pos (rfl), e6]
    exact ⟨M2, rfl, e3⟩
  rw [if_neg c30]
  by_cases c31 : (x0 &&& 63) = 31
  · obtain ⟨r, M1, M2, e1, e2, e3⟩ := pe_odds x1 x2 h
    rw [if_pos c31, z1, Option.bind_some, z2, Option.bind_some, e1, Option.bind_some]
    show ∃ M', (((f_X6_odds x1 x2 M1).bind _) = some (Sum.inl (nI (6 * (k + 1)), M'))) ∧ _
    rw [e2, Option.bind_some]
    show ∃ M', ((if (lg_cmp r r) = 0 then _ else _) = some (Sum.inl (nI (6 * (k + 1)), M'))) ∧ _
    rw [if_pos ((lg_cmp_eq r r).mpr rfl), e6]
    exact ⟨M2, rfl, e3⟩
  rw [if_neg c31]
  by_cases c32 : (x0 &&& 63) = 32
  · obtain ⟨r, M1, M2, e1, e2, e3⟩ := pe_seed x1 M _ hD h
    rw [if_pos c32, z1, Option.bind_some, e1, Option.bind_some]
    show ∃ M', (((some x1).bind _) = some (Sum.inl (nI (6 * (k + 1)), M'))) ∧ _
    rw [Option.bind_some, e2, Option.bind_some]
    show ∃ M', ((if r = r then _ else _) = some (Sum.inl (nI (6 * (k + 1)), M'))) ∧ _
    rw [if_pos (rfl), e6]
    exact ⟨M2, rfl, e3⟩
  rw [if_neg c32]
  by_cases c33 : (x0 &&& 63) = 33
  · obtain ⟨r, M1, M2, e1, e2, e3⟩ := pe_feed x1 x2 M _ hD h
    rw [if_pos c33, z1, Option.bind_some, z2, Option.bind_some, e1, Option.bind_some]
    show ∃ M', (((f_X6_feed x1 x2 M1).bind _) = some (Sum.inl (nI (6 * (k + 1)), M'))) ∧ _
    rw [e2, Option.bind_some]
    show ∃ M', ((if r = r then _ else _) = some (Sum.inl (nI (6 * (k + 1)), M'))) ∧ _
    rw [if_pos (rfl), e6]
    exact ⟨M2, rfl, e3⟩
  rw [if_neg c33]
  by_cases c34 : (x0 &&& 63) = 34
  · obtain ⟨r, M1, M2, e1, e2, e3⟩ := pe_wipe M _ hD h
    rw [if_pos c34, e1, Option.bind_some]
    show ∃ M', (((f_X6_wipe M1).bind _) = some (Sum.inl (nI (6 * (k + 1)), M'))) ∧ _
    rw [e2, Option.bind_some]
    show ∃ M', ((if r = r then _ else _) = some (Sum.inl (nI (6 * (k + 1)), M'))) ∧ _
    rw [if_pos (rfl), e6]
    exact ⟨M2, rfl, e3⟩
  rw [if_neg c34]
  by_cases c35 : (x0 &&& 63) = 35
  · obtain ⟨r, M1, M2, e1, e2, e3⟩ := pe_text M _ hD h
    rw [if_pos c35, e1, Option.bind_some]
    show ∃ M', (((f_X6_text M1).bind _) = some (Sum.inl (nI (6 * (k + 1)), M'))) ∧ _
    rw [e2, Option.bind_some]
    show ∃ M', ((if r = r then _ else _) = some (Sum.inl (nI (6 * (k + 1)), M'))) ∧ _
    rw [if_pos (rfl), e6]
    exact ⟨M2, rfl, e3⟩
  rw [if_neg c35]
  by_cases c36 : (x0 &&& 63) = 36
  · obtain ⟨r, M1, M2, e1, e2, e3⟩ := pe_hold x1 x2 M _ hD h
    rw [if_pos c36, z1, Option.bind_some, z2, Option.bind_some, e1, Option.bind_some]
    show ∃ M', (((f_X6_hold x1 x2 M1).bind _) = some (Sum.inl (nI (6 * (k + 1)), M'))) ∧ _
    rw [e2, Option.bind_some]
    show ∃ M', ((if r = r then _ else _) = some (Sum.inl (nI (6 * (k + 1)), M'))) ∧ _
    rw [if_pos (rfl), e6]
    exact ⟨M2, rfl, e3⟩
  rw [if_neg c36]
  by_cases c37 : (x0 &&& 63) = 37
  · obtain ⟨r, M1, M2, e1, e2, e3⟩ := pe_as x1 x2 M _ hD h
    rw [if_pos c37, z1, Option.bind_some, z2, Option.bind_some, e1, Option.bind_some]
    show ∃ M', (((f_X6_as x1 x2 M1).bind _) = some (Sum.inl (nI (6 * (k + 1)), M'))) ∧ _
    rw [e2, Option.bind_some]
    show ∃ M', ((if r = r then _ else _) = some (Sum.inl (nI (6 * (k + 1)), M'))) ∧ _
    rw [if_pos (rfl), e6]
    exact ⟨M2, rfl, e3⟩
  rw [if_neg c37]
  by_cases c38 : (x0 &&& 63) = 38
  · obtain ⟨r, M1, M2, e1, e2, e3⟩ := pe_sheet x1 x2 x3 M _ hD h
    rw [if_pos c38, z1, Option.bind_some, z2, Option.bind_some, z3, Option.bind_some, e1, Option.bind_some]
    show ∃ M', (((f_X6_sheet x1 x2 x3 M1).bind _) = some (Sum.inl (nI (6 * (k + 1)), M'))) ∧ _
    rw [e2, Option.bind_some]
    show ∃ M', ((if r = r then _ else _) = some (Sum.inl (nI (6 * (k + 1)), M'))) ∧ _
    rw [if_pos (rfl), e6]
    exact ⟨M2, rfl, e3⟩
  rw [if_neg c38]
  by_cases c39 : (x0 &&& 63) = 39
  · obtain ⟨r, M1, M2, e1, e2, e3⟩ := pe_write x1 x2 x3 M _ hD h
    rw [if_pos c39, z1, Option.bind_some, z2, Option.bind_some, z3, Option.bind_some, e1, Option.bind_some]
    show ∃ M', (((f_X6_write x1 x2 x3 M1).bind _) = some (Sum.inl (nI (6 * (k + 1)), M'))) ∧ _
    rw [e2, Option.bind_some]
    show ∃ M', ((if r = r then _ else _) = some (Sum.inl (nI (6 * (k + 1)), M'))) ∧ _
    rw [if_pos (rfl), e6]
    exact ⟨M2, rfl, e3⟩
  rw [if_neg c39]
  by_cases c40 : (x0 &&& 63) = 40
  · obtain ⟨r, M1, M2, e1, e2, e3⟩ := pe_copy x1 x2 x3 x4 x5 M _ hD h
    rw [if_pos c40, z1, Option.bind_some, z2, Option.bind_some, z3, Option.bind_some, z4, Option.bind_some, z5, Option.bind_some, e1, Option.bind_some]
    show ∃ M', (((f_X6_copy x1 x2 x3 x4 x5 M1).bind _) = some (Sum.inl (nI (6 * (k + 1)), M'))) ∧ _
    rw [e2, Option.bind_some]
    show ∃ M', ((if r = r then _ else _) = some (Sum.inl (nI (6 * (k + 1)), M'))) ∧ _
    rw [if_pos (rfl), e6]
    exact ⟨M2, rfl, e3⟩
  rw [if_neg c40]
  by_cases c41 : (x0 &&& 63) = 41
  · obtain ⟨r, M1, M2, e1, e2, e3⟩ := pe_load x1 M _ hD h
    rw [if_pos c41, z1, Option.bind_some, e1, Option.bind_some]
    show ∃ M', (((f_X6_load x1 M1).bind _) = some (Sum.inl (nI (6 * (k + 1)), M'))) ∧ _
    rw [e2, Option.bind_some]
    show ∃ M', ((if r = r then _ else _) = some (Sum.inl (nI (6 * (k + 1)), M'))) ∧ _
    rw [if_pos (rfl), e6]
    exact ⟨M2, rfl, e3⟩
  rw [if_neg c41]
  by_cases c42 : (x0 &&& 63) = 42
  · obtain ⟨r, M1, M2, e1, e2, e3⟩ := pe_judge x1 M _ hD h
    rw [if_pos c42, z1, Option.bind_some, e1, Option.bind_some]
    show ∃ M', (((f_X6_judge x1 M1).bind _) = some (Sum.inl (nI (6 * (k + 1)), M'))) ∧ _
    rw [e2, Option.bind_some]
    show ∃ M', ((if r = r then _ else _) = some (Sum.inl (nI (6 * (k + 1)), M'))) ∧ _
    rw [if_pos (rfl), e6]
    exact ⟨M2, rfl, e3⟩
  rw [if_neg c42]
  by_cases c43 : (x0 &&& 63) = 43
  · obtain ⟨r, M1, M2, e1, e2, e3⟩ := pe_image M _ hD h
    rw [if_pos c43, e1, Option.bind_some]
    show ∃ M', (((f_X6_image M1).bind _) = some (Sum.inl (nI (6 * (k + 1)), M'))) ∧ _
    rw [e2, Option.bind_some]
    show ∃ M', ((if r = r then _ else _) = some (Sum.inl (nI (6 * (k + 1)), M'))) ∧ _
    rw [if_pos (rfl), e6]
    exact ⟨M2, rfl, e3⟩
  rw [if_neg c43]
  by_cases c44 : (x0 &&& 63) = 44
  · obtain ⟨r, M1, M2, e1, e2, e3⟩ := pe_undo M _ hD h
    rw [if_pos c44, e1, Option.bind_some]
    show ∃ M', (((f_X6_undo M1).bind _) = some (Sum.inl (nI (6 * (k + 1)), M'))) ∧ _
    rw [e2, Option.bind_some]
    show ∃ M', ((if r = r then _ else _) = some (Sum.inl (nI (6 * (k + 1)), M'))) ∧ _
    rw [if_pos (rfl), e6]
    exact ⟨M2, rfl, e3⟩
  rw [if_neg c44]
  by_cases c45 : (x0 &&& 63) = 45
  · obtain ⟨r, M1, M2, e1, e2, e3⟩ := pe_tear M _ hD h
    rw [if_pos c45, e1, Option.bind_some]
    show ∃ M', (((f_X6_tear M1).bind _) = some (Sum.inl (nI (6 * (k + 1)), M'))) ∧ _
    rw [e2, Option.bind_some]
    show ∃ M', ((if r = r then _ else _) = some (Sum.inl (nI (6 * (k + 1)), M'))) ∧ _
    rw [if_pos (rfl), e6]
    exact ⟨M2, rfl, e3⟩
  rw [if_neg c45]
  by_cases c46 : (x0 &&& 63) = 46
  · obtain ⟨r, M1, M2, e1, e2, e3⟩ := pe_count x1 M _ hD h
    rw [if_pos c46, z1, Option.bind_some, e1, Option.bind_some]
    show ∃ M', (((f_X6_count x1 M1).bind _) = some (Sum.inl (nI (6 * (k + 1)), M'))) ∧ _
    rw [e2, Option.bind_some]
    show ∃ M', ((if r = r then _ else _) = some (Sum.inl (nI (6 * (k + 1)), M'))) ∧ _
    rw [if_pos (rfl), e6]
    exact ⟨M2, rfl, e3⟩
  rw [if_neg c46]
  by_cases c47 : (x0 &&& 63) = 47
  · obtain ⟨r, M1, M2, e1, e2, e3⟩ := pe_status x1 M _ hD h
    rw [if_pos c47, z1, Option.bind_some, e1, Option.bind_some]
    show ∃ M', (((f_X6_status x1 M1).bind _) = some (Sum.inl (nI (6 * (k + 1)), M'))) ∧ _
    rw [e2, Option.bind_some]
    show ∃ M', ((if r = r then _ else _) = some (Sum.inl (nI (6 * (k + 1)), M'))) ∧ _
    rw [if_pos (rfl), e6]
    exact ⟨M2, rfl, e3⟩
  rw [if_neg c47]
  rw [e6]
  exact ⟨M, rfl, RR_mono h (by omega)⟩
theorem z48_far {j : Nat} (h : 67 ≤ j) : zM0 48 j = 0 := by
  show (upd (upd (upd (upd (upd (upd (upd (upd (upd (upd (upd (upd (upd (upd (upd (upd (upd (upd (upd (upd (upd (upd (upd (fun _ => 0) 2 1) 5 (-1)) 6 (-1)) 7 (-1)) 8 (-1)) 9 (-1)) 10 (-1)) 11 (-1)) 12 (-1)) 13 (-1)) 14 (-1)) 55 100) 61 (-1)) 56 100) 62 (-1)) 57 100) 63 (-1)) 58 100) 64 (-1)) 59 100) 65 (-1)) 60 100) 66 (-1)) j = 0
  rw [upd_at, if_neg (by omega), upd_at, if_neg (by omega), upd_at, if_neg (by omega), upd_at, if_neg (by omega), upd_at, if_neg (by omega), upd_at, if_neg (by omega), upd_at, if_neg (by omega), upd_at, if_neg (by omega), upd_at, if_neg (by omega), upd_at, if_neg (by omega), upd_at, if_neg (by omega), upd_at, if_neg (by omega), upd_at, if_neg (by omega), upd_at, if_neg (by omega), upd_at, if_neg (by omega), upd_at, if_neg (by omega), upd_at, if_neg (by omega), upd_at, if_neg (by omega), upd_at, if_neg (by omega), upd_at, if_neg (by omega), upd_at, if_neg (by omega), upd_at, if_neg (by omega), upd_at, if_neg (by omega)]
theorem z48_row : ∀ j, j < 67 → zM0 48 j = hrow zM0 1 j := by decide +kernel
theorem z48_nm : ∀ i, i < 8 → ∀ f, f < 5 → nm (zM0 48) i f = 0 := by decide +kernel
theorem z48_pu : ∀ p, p < 6 → zM0 48 (55 + p) = 100 ∧ zM0 48 (61 + p) = -1 := by decide +kernel
theorem z48_sp : ∀ p, p < 10 → zM0 48 (5 + p) = -1 := by decide +kernel
theorem z48_nn : nn (zM0 48) = 0 := by decide +kernel
theorem RR_0 : RR zM0 0 := by
  have hnb : ∀ b, nb (0 : Int32) b := fun b => ⟨0, Nat.zero_le _, rfl⟩
  refine ⟨?_, ⟨⟨?_, ?_⟩, fun p hp => Or.inl (z48_pu p hp).2, fun i hi => ?_, hnb _, hnb _, hnb _, fun i hi => ⟨?_, ?_, ?_, ?_⟩, fun p hp => ⟨100, by omega, (z48_pu p hp).1⟩, fun i hi => Or.inl (z48_sp i hi), fun j hj => z48_far hj⟩, fun _ _ => rfl, fun _ _ => rfl, rfl, Or.inl rfl, fun _ _ => rfl, ?_, ⟨rfl, hnb _, fun _ _ => ⟨rfl, hnb _⟩⟩, fun s hs => ?_⟩
  · funext j
    by_cases c : j < 67
    · exact z48_row j c
    · rw [z48_far (by omega), hrow_out _ _ (by omega)]
  · rw [z48_nn]; rfl
  · rw [z48_nn]; omega
  · rw [z48_nn] at hi; omega
  · rw [z48_nm i hi 0 (by omega)]; exact hnb _
  · rw [z48_nm i hi 1 (by omega)]; exact hnb _
  · rw [z48_nm i hi 2 (by omega)]; exact hnb _
  · rw [z48_nm i hi 3 (by omega)]; exact hnb _
  · decide +kernel
  · rcases (show s = 0 ∨ s = 1 ∨ s = 2 ∨ s = 3 by omega) with rfl | rfl | rfl | rfl
    · exact ⟨rfl, rfl, fun _ _ => rfl, Or.inl rfl, hnb _, fun _ => rfl⟩
    · exact ⟨rfl, rfl, fun _ _ => rfl, Or.inl rfl, hnb _, fun _ => rfl⟩
    · exact ⟨rfl, rfl, fun _ _ => rfl, Or.inl rfl, hnb _, fun _ => rfl⟩
    · exact ⟨rfl, rfl, fun _ _ => rfl, Or.inl rfl, hnb _, fun _ => rfl⟩
theorem law_small : ∀ n, n < 6 → (Int32.ofNat n - 6) < (0 : Int32) := by decide +kernel
theorem law_end {xs : Nat → Int32} {n : Nat} {M : zM} (hn : n ≤ 3072) : f_law_l xs n (nI (6 * (n / 6)), M) = some (.inr 1) := by
  rw [f_law_l, if_pos]
  by_cases c : n < 6
  · rw [show n / 6 = 0 by omega]
    exact law_small n c
  · rw [show Int32.ofNat n - 6 = nI (n - 6) from nI_sub (a := n) (k := 6) (by omega)]
    exact nI_lt (by omega) (by omega)
theorem z_all : zPure := by
  intro xs n hn
  have key : ∃ r, zIter (f_law_l xs n) 1000 (0, zM0) = some r ∧ r = 1 := by
    refine zIter_inv (fun k s => ∃ M : zM, s = (nI (6 * k), M) ∧ RR M (60 * k)) _ (n / 6) 1000 _ (by omega) ⟨zM0, rfl, RR_0⟩ (fun k s hk hI => ?_) (fun s hI => ?_)
    · obtain ⟨M, rfl, hR⟩ := hI
      obtain ⟨M', e1, e2⟩ := law_step (xs := xs) hn (show 6 * k + 6 ≤ n by omega) hR
      exact ⟨_, e1, M', rfl, by rw [Nat.mul_succ]; exact e2⟩
    · obtain ⟨M, rfl, hR⟩ := hI
      exact ⟨_, law_end hn, rfl⟩
  obtain ⟨r, k1, rfl⟩ := key
  exact k1
