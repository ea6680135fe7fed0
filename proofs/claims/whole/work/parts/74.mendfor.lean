/-! WHICH NAME TO MEND, WHICH TO BE WITHOUT. -/
noncomputable def rv (A : Nat → Int32) (x : Int32) (n i : Nat) : Int32 := pursesA (daysA (upd A (15 + 5 * i + 2) x) n)
theorem okA_wear {A : Nat → Int32} {D i : Nat} {x : Int32} (hA : okA A D) (hi : i < 8) (hx : nb x 99) : okA (upd A (15 + 5 * i + 2) x) D := okA_setN hA hi (by omega) (fun c => by omega) (fun c => by omega) (fun _ => hx) (fun c => by omega) (fun c => by omega)
theorem h_richest {M : zM} {A : Nat → Int32} {D n : Nat} {x : Int32} (hA : okA A D) (hD : D ≤ 40000) (h48 : hrow M 1 = A) (hn : n ≤ 200) (hx : nb x 99) : ∃ N : zM, zIter (f_X5_richestWith_l24 x (nI n)) 1000 ((-1), (-1), 0, M) = f_X5_richestWith_j96 (gb nI (rv A x n) (-1) (nn A)).1 N ∧ ∀ a, (a < 23 ∨ 33 < a) → N a = M a := by
  generalize hv : rv A x n = v
  have h8 := hA.1.2
  have e0 : M 1 0 = nI (nn A) := by rw [← hA.1.1, ← h48]; rfl
  have jOk : ∀ y N, ∃ r, f_X5_richestWith_j96 y N = some r := by
    intro y N
    unfold f_X5_richestWith_j96
    by_cases c : 0 ≤ y
    · rw [if_pos c]; exact ⟨_, rfl⟩
    · rw [if_neg c, bind_pair]; exact h_findOk 3 (by omega) N
  have key : ∃ r, zIter (f_X5_richestWith_l24 x (nI n)) 1000 ((-1), (-1), 0, M) = some r ∧ ∃ N : zM, f_X5_richestWith_j96 (gb nI v (-1) (nn A)).1 N = some r ∧ ∀ a, (a < 23 ∨ 33 < a) → N a = M a := by
    refine zIter_inv (fun k s => ∃ N : zM, s = ((gb nI v (-1) k).1, (gb nI v (-1) k).2, nI k, N) ∧ ∀ a, (a < 23 ∨ 33 < a) → N a = M a) _ (nn A) 1000 _ (by omega) ⟨M, rfl, fun _ _ => rfl⟩ (fun k s hk hI => ?_) (fun s hI => ?_)
    · obtain ⟨N, rfl, hF⟩ := hI
      obtain ⟨N1, e1, e2, e3⟩ := h_become (M := N) isH_23 isH_1 (by omega)
      have er : hrow N1 23 = A := by rw [e2, ← h48]; exact hrow_off (fun a h1 h2 => hF a (by omega))
      have er2 : hrow (zU N1 26 k x) 23 = upd A (15 + 5 * k + 2) x := by
        rw [show zU N1 26 k x = zU N1 (23 + 1 + 2) k x from rfl, hrow_uN _ _ _ (by omega) (by omega), er]
      obtain ⟨N2, f1, f2, f3⟩ := h_pass (M := zU N1 26 k x) (n := n) (D := D) isH_23 (by rw [er2]; exact okA_wear hA (by omega) hx) hn (by omega)
      have hF2 : ∀ a, (a < 23 ∨ 33 < a) → N2 a = M a := fun a ha => by rw [f3 a (by omega), zU_off (by omega), e3 a (by omega), hF a ha]
      have ev : f_X0_purses 23 N2 = some (v k) := by
        rw [h_purses isH_23, f2, er2, ← hv]; rfl
      have s1 : gb nI v (-1) (k + 1) = if v k ≤ (gb nI v (-1) k).2 then gb nI v (-1) k else (nI k, v k) := rfl
      rw [f_X5_richestWith_l24, hF 1 (by omega), e0, if_neg (nI_ge hk (by omega)), e1, Option.bind_some, wr (n := 8) rfl (by omega), Option.bind_some, f1, Option.bind_some, ev, Option.bind_some]
      by_cases c : v k ≤ (gb nI v (-1) k).2
      · rw [if_pos c, nI_1]
        exact ⟨_, rfl, N2, by rw [s1, if_pos c], hF2⟩
      · rw [if_neg c, Option.bind_some, nI_1]
        exact ⟨_, rfl, N2, by rw [s1, if_neg c], hF2⟩
    · obtain ⟨N, rfl, hF⟩ := hI
      obtain ⟨r, hr⟩ := jOk (gb nI v (-1) (nn A)).1 N
      rw [f_X5_richestWith_l24, hF 1 (by omega), e0, if_pos (nI_le (Nat.le_refl _) (by omega)), hr]
      exact ⟨_, rfl, N, hr, hF⟩
  obtain ⟨r, k1, N, k2, k3⟩ := key
  exact ⟨N, k1.trans k2.symm, k3⟩
theorem m_pursesBy {M : zM} {A : Nat → Int32} {D n : Nat} {x : Int32} (hAA : M 48 = A) (hA : okA A D) (hD : D ≤ 40000) (hn : n ≤ 200) (hx : nb x 99) (h50 : ∀ j, 67 ≤ j → M 50 j = 0) : ∃ M', f_X6_pursesBy x (nI n) M = some ((gb nI (rv A x n) (-1) (nn A)).1, M') ∧ MS M M' := by
  generalize hv : rv A x n = v
  have h8 := hA.1.2
  have key : ∃ r, zIter (f_X6_pursesBy_l8 x (nI n)) 1000 ((-1), (-1), 0, M) = some r ∧ ∃ N : zM, r = ((gb nI v (-1) (nn A)).1, N) ∧ MS M N := by
    refine zIter_inv (fun k s => ∃ N : zM, s = ((gb nI v (-1) k).1, (gb nI v (-1) k).2, nI k, N) ∧ MS M N) _ (nn A) 1000 _ (by omega) ⟨M, rfl, MS_refl h50⟩ (fun k s hk hI => ?_) (fun s hI => ?_)
    · obtain ⟨P, rfl, hF⟩ := hI
      have n48 : P 48 = A := hF.2.1.trans hAA
      have z1 : zrd P 48 1 = some (nI (nn A)) := by rw [← hA.1.1, ← n48]; exact rd48 (j := 1) (by omega)
      have q3 : ∀ N : zM, f_X6_place (nI k) 2 N = some (nI (15 + 5 * k + 2)) := fun N => m_place k 2 N
      have hAk := okA_wear hA (i := k) (by omega) hx
      have hz := hAk.2.2.2.2.2.2.2.2.2
      have p48 : zU P 48 (15 + 5 * k + 2) x 48 = upd A (15 + 5 * k + 2) x := by rw [zU_row, n48]
      obtain ⟨N0, a1, a2, a3⟩ := m_aside (M := zU P 48 (15 + 5 * k + 2) x) (by rw [p48]; exact hz) (fun j hj => by rw [zU_off (by omega)]; exact hF.2.2 j hj)
      have n0 : N0 48 = upd A (15 + 5 * k + 2) x := (a3 48 (by omega)).trans p48
      obtain ⟨N2, b1, b2, b3⟩ := m_days (M := N0) (n := n) (D := D) (by rw [n0]; exact hAk) hn (by omega)
      rw [n0] at b2
      have n50 : N2 50 = upd A (15 + 5 * k + 2) x := by rw [b3 50 (by omega) (by omega), a2, p48]
      obtain ⟨N3, c1, c2, c3⟩ := m_copyRow (M := N2) (a := 50) (b := 48) (Or.inr (Or.inr rfl)) (Or.inl rfl) (by omega) (by rw [n50]; exact hz) (by rw [b2]; exact (okA_days hAk n (by omega)).2.2.2.2.2.2.2.2.2)
      have ev : pursesA (N2 48) = v k := by rw [b2, ← hv]; rfl
      have hF2 : MS M (zU N3 48 (15 + 5 * k + 2) (A (15 + 5 * k + 2))) := by
        refine ⟨fun a h1 h2 h3 => ?_, ?_, fun j hj => ?_⟩
        · rw [zU_off h1, c3 a h1, b3 a h1 h3, a3 a h2, zU_off h1, hF.1 a h1 h2 h3]
        · rw [zU_row, c2, n50, upd_upd, upd_self, hAA]
        · rw [zU_off (by omega), c3 50 (by omega), n50]; exact hz j hj
      have s1 : gb nI v (-1) (k + 1) = if v k ≤ (gb nI v (-1) k).2 then gb nI v (-1) k else (nI k, v k) := rfl
      have pbp : f_X6_putBackPurses N2 = some (v k, N3) := by
        unfold f_X6_putBackPurses
        rw [m_purses, Option.bind_some, c1, ev]; rfl
      rw [f_X6_pursesBy_l8, z1, Option.bind_some, if_neg (nI_ge hk (by omega)), q3, Option.bind_some, m_become_eq (by omega), Option.bind_some]
      show ∃ s', (((f_X6_copyRow 48 50 (zU P 48 (15 + 5 * k + 2) x)).bind _) = some (Sum.inl s')) ∧ _
      rw [a1, Option.bind_some, b1, Option.bind_some, pbp, Option.bind_some]
      show ∃ s', (((f_X6_place (nI k) 2 N3).bind _) = some (Sum.inl s')) ∧ _
      rw [q3, Option.bind_some, wr48 (by omega), Option.bind_some, n48]
      unfold f_X6_pursesBy_j80
      by_cases c : v k ≤ (gb nI v (-1) k).2
      · rw [if_pos c, if_neg (Int32.not_lt.mpr c), nI_1]
        exact ⟨_, rfl, _, by rw [s1, if_pos c], hF2⟩
      · rw [if_neg c, if_pos (Int32.not_le.mp c), nI_1]
        exact ⟨_, rfl, _, by rw [s1, if_neg c], hF2⟩
    · obtain ⟨P, rfl, hF⟩ := hI
      have n48 : P 48 = A := hF.2.1.trans hAA
      have z1 : zrd P 48 1 = some (nI (nn A)) := by rw [← hA.1.1, ← n48]; exact rd48 (j := 1) (by omega)
      rw [f_X6_pursesBy_l8, z1, Option.bind_some, if_pos (nI_le (Nat.le_refl _) (by omega))]
      exact ⟨_, rfl, P, rfl, hF⟩
  obtain ⟨r, k1, N, rfl, k2⟩ := key
  exact ⟨N, k1, k2⟩
theorem pe_mendFor (y : Int32) : PE (f_X5_mendFor y) (f_X6_mendFor y) := by
  intro M D hD h
  by_cases hy : inB y 0 60
  · obtain ⟨n, hn, rfl⟩ := (inB_nI (n := 60) (by omega)).mp hy
    have hA := h.2.1
    have h48 := h.1
    generalize hAA : M 48 = A at hA h48
    have hx : nb (0 : Int32) 99 := ⟨0, by omega, rfl⟩
    obtain ⟨N, k1, k2⟩ := h_richest (M := M) (x := 0) hA hD h48.symm (by omega : n ≤ 200) hx
    have hc : CS M N := CS_trial k2
    have mod : ∀ Q : zM, (∀ a, a ≠ 38 → Q a = N a) → ∃ M2, f_X6_pursesBy 0 (nI n) Q = some ((gb nI (rv A 0 n) (-1) (nn A)).1, M2) ∧ MS Q M2 := fun Q hQ => m_pursesBy (by rw [hQ 48 (by omega), hc 48 (by omega), hAA]) hA hD (by omega) hx (fun j hj => by rw [hQ 50 (by omega), hc 50 (by omega)]; exact RR_50 h j hj)
    generalize (gb nI (rv A 0 n) (-1) (nn A)).1 = r at k1 mod
    by_cases c : 0 ≤ r
    · refine pe_scr h (r := r) (M1 := N) ?_ hc ?_
      · unfold f_X5_mendFor f_X5_richestWith
        rw [f_within_eq, Option.bind_some, wi_t hy, if_neg (by decide), k1, bind_pair]
        unfold f_X5_richestWith_j96
        rw [if_pos c]
      · obtain ⟨M2, g1, g2⟩ := mod N (fun _ _ => rfl)
        refine ⟨M2, ?_, g2⟩
        unfold f_X6_mendFor f_X6_orNone
        rw [m_within_eq, Option.bind_some, wi_t hy, if_neg (by decide), g1, Option.bind_some]
        show ((if 0 ≤ r then _ else _ : Option (Int32 × zM)).bind _) = _
        rw [if_pos c]; rfl
    · refine pe_find2 h 3 (by omega) (M8 := N) ?_ hc (fun Q hQ => ?_)
      · unfold f_X5_mendFor f_X5_richestWith
        rw [f_within_eq, Option.bind_some, wi_t hy, if_neg (by decide), k1, bind_pair]
        unfold f_X5_richestWith_j96
        rw [if_neg c, bind_pair]; rfl
      · obtain ⟨M2, g1, g2⟩ := mod Q hQ
        refine ⟨M2, ?_, g2⟩
        unfold f_X6_mendFor f_X6_orNone
        rw [m_within_eq, Option.bind_some, wi_t hy, if_neg (by decide), g1, Option.bind_some]
        show ((if 0 ≤ r then _ else _ : Option (Int32 × zM)).bind _) = _
        rw [if_neg c, bind_pair, bind_pair]; rfl
  · refine pe_find h 0 (by omega) ?_ (fun M1 hf => ?_)
    · unfold f_X5_mendFor f_X5_richestWith
      rw [f_within_eq, Option.bind_some, wi_f hy, if_pos rfl, bind_pair, bind_pair]; rfl
    · unfold f_X6_mendFor
      rw [m_within_eq, Option.bind_some, wi_f hy, if_pos rfl, bind_pair]; rfl
theorem pe_without (y : Int32) : PE (f_X5_without y) (f_X6_without y) := by
  intro M D hD h
  by_cases hy : inB y 0 60
  · obtain ⟨n, hn, rfl⟩ := (inB_nI (n := 60) (by omega)).mp hy
    have hA := h.2.1
    have h48 := h.1
    generalize hAA : M 48 = A at hA h48
    have hx : nb (99 : Int32) 99 := ⟨99, by omega, rfl⟩
    obtain ⟨N, k1, k2⟩ := h_richest (M := M) (x := 99) hA hD h48.symm (by omega : n ≤ 200) hx
    have hc : CS M N := CS_trial k2
    have mod : ∀ Q : zM, (∀ a, a ≠ 38 → Q a = N a) → ∃ M2, f_X6_pursesBy 99 (nI n) Q = some ((gb nI (rv A 99 n) (-1) (nn A)).1, M2) ∧ MS Q M2 := fun Q hQ => m_pursesBy (by rw [hQ 48 (by omega), hc 48 (by omega), hAA]) hA hD (by omega) hx (fun j hj => by rw [hQ 50 (by omega), hc 50 (by omega)]; exact RR_50 h j hj)
    generalize (gb nI (rv A 99 n) (-1) (nn A)).1 = r at k1 mod
    by_cases c : 0 ≤ r
    · refine pe_scr h (r := r) (M1 := N) ?_ hc ?_
      · unfold f_X5_without f_X5_richestWith
        rw [f_within_eq, Option.bind_some, wi_t hy, if_neg (by decide), k1, bind_pair]
        unfold f_X5_richestWith_j96
        rw [if_pos c]
      · obtain ⟨M2, g1, g2⟩ := mod N (fun _ _ => rfl)
        refine ⟨M2, ?_, g2⟩
        unfold f_X6_without f_X6_orNone
        rw [m_within_eq, Option.bind_some, wi_t hy, if_neg (by decide), g1, Option.bind_some]
        show ((if 0 ≤ r then _ else _ : Option (Int32 × zM)).bind _) = _
        rw [if_pos c]; rfl
    · refine pe_find2 h 3 (by omega) (M8 := N) ?_ hc (fun Q hQ => ?_)
      · unfold f_X5_without f_X5_richestWith
        rw [f_within_eq, Option.bind_some, wi_t hy, if_neg (by decide), k1, bind_pair]
        unfold f_X5_richestWith_j96
        rw [if_neg c, bind_pair]; rfl
      · obtain ⟨M2, g1, g2⟩ := mod Q hQ
        refine ⟨M2, ?_, g2⟩
        unfold f_X6_without f_X6_orNone
        rw [m_within_eq, Option.bind_some, wi_t hy, if_neg (by decide), g1, Option.bind_some]
        show ((if 0 ≤ r then _ else _ : Option (Int32 × zM)).bind _) = _
        rw [if_neg c, bind_pair, bind_pair]; rfl
  · refine pe_find h 0 (by omega) ?_ (fun M1 hf => ?_)
    · unfold f_X5_without f_X5_richestWith
      rw [f_within_eq, Option.bind_some, wi_f hy, if_pos rfl, bind_pair, bind_pair]; rfl
    · unfold f_X6_without
      rw [m_within_eq, Option.bind_some, wi_f hy, if_pos rfl, bind_pair]; rfl
