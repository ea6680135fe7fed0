/-! THE REFERENCE DRAWS. -/
theorem hung_bit {A : Nat → Int32} {i : Nat} : (hung A).testBit i = (decide (i < nn A) && !decide (50 ≤ nm A i 2)) := hm_bit A (nn A) i
theorem m_leastLeft {M : zM} {f : Nat} (hn : okN (M 48)) (hf : f < 256) (hs : ∀ i, f.testBit i = true → (hung (M 48)).testBit i = true) (hT : hung (M 48) ^^^ f < 256) : f_X6_leastLeft (nI (hung (M 48) ^^^ f)) M = some (iv (lowO f)) := by
  have h8 := hn.2
  have none8 : ∀ i, nn (M 48) ≤ i → f.testBit i = false := fun i hi => by
    cases hb : f.testBit i with
    | false => rfl
    | true =>
      have := hs i hb
      rw [hung_bit] at this
      simp at this
      omega
  unfold f_X6_leastLeft
  obtain ⟨r, h1, h2⟩ := zIter_may (b := f_X6_leastLeft_l2 (nI (hung (M 48) ^^^ f)) M) (fun k s => s = nI k ∧ ∀ j, j < k → f.testBit j = false) (fun r => r = iv (lowO f)) (nn (M 48)) 1000 (0 : Int32) (by omega) ⟨rfl, fun j hj => by omega⟩ (fun k s hk hI => by
    obtain ⟨rfl, hb⟩ := hI
    have hTb : (hung (M 48) ^^^ f).testBit k = ((hung (M 48)).testBit k ^^ f.testBit k) := Nat.testBit_xor ..
    rw [f_X6_leastLeft_l2, m_names hn, Option.bind_some, if_neg (nI_ge hk (by omega)), m_hangs (by omega), Option.bind_some]
    by_cases hh : 50 ≤ nm (M 48) k 2
    · have hfb : f.testBit k = false := by
        cases hb2 : f.testBit k with
        | false => rfl
        | true => have := hs k hb2; rw [hung_bit] at this; simp [hh] at this
      rw [if_pos hh, if_pos rfl, nI_1, Option.bind_some]
      refine Or.inl ⟨_, rfl, rfl, fun j hj => ?_⟩
      by_cases hjk : j = k
      · subst hjk; exact hfb
      · exact hb j (by omega)
    · have hhb : (hung (M 48)).testBit k = true := by rw [hung_bit]; simp [hk, hh]
      rw [if_neg hh, if_neg (by decide), m_has hT (by omega), Option.bind_some, hTb, hhb]
      cases hfb : f.testBit k with
      | true =>
        refine Or.inr ⟨iv (some k), ?_, ?_⟩
        · unfold f_X6_leastLeft_j34
          rw [m_names hn, Option.bind_some, if_neg (nI_ge hk (by omega))]
          rfl
        · rw [low_is f hf k (by omega) hfb hb]
      | false =>
        refine Or.inl ⟨nI (k + 1), ?_, rfl, fun j hj => ?_⟩
        · rw [nI_1]; rfl
        · by_cases hjk : j = k
          · subst hjk; exact hfb
          · exact hb j (by omega)) (fun s hI => by
    obtain ⟨rfl, hb⟩ := hI
    rw [f_X6_leastLeft_l2, m_names hn, Option.bind_some, if_pos (nI_le (Nat.le_refl _) (by omega))]
    refine ⟨-1, ?_, ?_⟩
    · unfold f_X6_leastLeft_j34
      rw [m_names hn, Option.bind_some, if_pos (nI_le (Nat.le_refl _) (by omega))]
      rfl
    · have h0 : f = 0 := low_no f hf (fun j _ => by
        by_cases hj : j < nn (M 48)
        · exact hb j hj
        · exact none8 j (by omega))
      rw [lowO, if_pos h0]; rfl)
  rw [h1, h2]
theorem x_lt2 {a b : Nat} (ha : a < 256) (hb : b < 256) : a ^^^ b < 256 := Nat.xor_lt_two_pow (n := 8) ha hb
theorem tk_or {a f j : Nat} (h1 : a.testBit j = true) (h2 : f.testBit j = true) : (a ^^^ f) ||| 2 ^ j = a ^^^ (f ^^^ 2 ^ j) := by
  apply Nat.eq_of_testBit_eq
  intro i
  simp only [Nat.testBit_or, Nat.testBit_xor, Nat.testBit_two_pow]
  by_cases h : j = i
  · subst h; simp [h1, h2]
  · simp [h]
theorem m_drawBy {M : zM} {o : Nat} (ho : o < 720) (hn : okN (M 48)) (hw : okW (M 48)) : ∃ M', f_X6_drawBy (nI o) M = some (nI (hung (M 48) ^^^ frA (M 48) o 6), M') ∧ (∀ k, k < 6 → M' 52 (st o k) = iv (drA (M 48) o k)) ∧ (∀ a, a ≠ 52 → M' a = M a) := by
  generalize hA : M 48 = A at hn hw
  have key : ∃ r, zIter (f_X6_drawBy_l4 (nI o)) 1000 (0, 0, M) = some r ∧ ∃ N : zM, r = (nI (hung A ^^^ frA A o 6), N) ∧ (∀ k, k < 6 → N 52 (st o k) = iv (drA A o k)) ∧ (∀ a, a ≠ 52 → N a = M a) := by
    refine zIter_inv (fun k s => ∃ N : zM, s = (nI (hung A ^^^ frA A o k), nI k, N) ∧ (∀ j, j < k → N 52 (st o j) = iv (drA A o j)) ∧ ∀ a, a ≠ 52 → N a = M a) _ 6 1000 _ (by omega) ⟨M, by rw [show frA A o 0 = hung A from rfl, Nat.xor_self]; rfl, fun j hj => by omega, fun _ _ => rfl⟩ (fun k s hk hI => ?_) (fun s hI => ?_)
    · obtain ⟨N, rfl, hN, hF⟩ := hI
      obtain ⟨f1, f2⟩ := fr_lt hn hw ho k (by omega)
      have hT : hung A ^^^ frA A o k < 256 := x_lt2 (hung_lt hn) f1
      have hp6 := st_lt ho hk
      have e48 : N 48 = A := by rw [hF 48 (by omega), hA]
      have hn' : okN (N 48) := by rw [e48]; exact hn
      -- the end of a round, whatever is drawn
      have fin : ∃ s', f_X6_drawBy_j80 (nI o) (nI (hung A ^^^ frA A o k)) (nI k) (nI (st o k)) (iv (drA A o k)) (nI (st o k)) N = some (.inl s') ∧ ∃ N : zM, s' = (nI (hung A ^^^ frA A o (k + 1)), nI (k + 1), N) ∧ (∀ j, j < k + 1 → N 52 (st o j) = iv (drA A o j)) ∧ ∀ a, a ≠ 52 → N a = M a := by
        unfold f_X6_drawBy_j80
        have hr : ∀ v, zrd (zU N 52 (st o k) v) 52 (nI (st o k)) = some v := fun v => by
          rw [rd (n := 6) rfl hp6, zU_same]
        rw [wr (n := 6) rfl hp6, Option.bind_some, hr, Option.bind_some, Option.bind_some]
        have hnew : ∀ j, j < k + 1 → zU N 52 (st o k) (iv (drA A o k)) 52 (st o j) = iv (drA A o j) := by
          intro j hj
          rw [zU_at]
          by_cases hjk : j = k
          · subst hjk; rw [if_pos ⟨rfl, rfl⟩]
          · rw [if_neg (fun hc => hjk (st_inj o ho j (by omega) k hk hc.2)), hN j (by omega)]
        have hfr : ∀ a, a ≠ 52 → zU N 52 (st o k) (iv (drA A o k)) a = M a := fun a ha => (zU_off ha).trans (hF a ha)
        cases hd : drA A o k with
        | none =>
          have e : frA A o (k + 1) = frA A o k := by show subO _ (drA A o k) = _; rw [hd]; rfl
          rw [hd] at hnew hfr
          rw [if_neg (show ¬ 0 ≤ iv none by decide), m_or0, nI_1, Option.bind_some, Option.bind_some]
          exact ⟨_, rfl, _, by rw [e], hnew, hfr⟩
        | some j =>
          obtain ⟨h3, h4⟩ := dr_spec hn hw ho hk hd
          have e : frA A o (k + 1) = frA A o k ^^^ 2 ^ j := by show subO _ (drA A o k) = _; rw [hd]; rfl
          rw [hd] at hnew hfr
          rw [if_pos (show 0 ≤ iv (some j) from nI_pos' (by omega)), nI_1]
          show ∃ s', ((some (nI (hung A ^^^ frA A o k) ||| (1 <<< (nI j &&& 31)))).bind _) = _ ∧ _
          rw [m_or1 _ hT j h3, tk_or (f2 j h4) h4, Option.bind_some, Option.bind_some]
          exact ⟨_, rfl, _, by rw [e], hnew, hfr⟩
      have hlow : ∀ v, pickA A (frA A o k) (st o k) = lowO (frA A o k) → f_X6_drawBy_j56 (nI o) (nI (hung A ^^^ frA A o k)) (nI k) (nI (st o k)) v N = f_X6_drawBy_j80 (nI o) (nI (hung A ^^^ frA A o k)) (nI k) (nI (st o k)) (iv (drA A o k)) (nI (st o k)) N := by
        intro v c
        unfold f_X6_drawBy_j56 f_X6_drawBy_j57
        have hd : drA A o k = lowO (frA A o k) := c
        have hl := m_leastLeft (M := N) (f := frA A o k) hn' f1 (by rw [e48]; exact f2) (by rw [e48]; exact hT)
        rw [e48] at hl
        rw [if_pos rfl, hl, Option.bind_some, hd]
      have ew : zrd N 48 (61 + nI (st o k)) = some (A (61 + st o k)) := by
        rw [show (61 : Int32) + nI (st o k) = nI (61 + st o k) from nI_add 61 _, rd (n := 67) rfl (by omega), e48]
      rw [f_X6_drawBy_l4, if_neg (show ¬ (6 : Int32) ≤ nI k from nI_ge (b := 6) hk (by decide)), m_stands ho hk, Option.bind_some, ew, Option.bind_some]
      by_cases h1 : A (61 + st o k) < 0
      · rw [if_pos h1, hlow _ (by unfold pickA; rw [if_pos h1])]
        exact fin
      · rw [if_neg h1]
        rcases hw _ hp6 with e | ⟨w, hw1, e⟩
        · rw [e] at h1; exact absurd (by decide) h1
        · have hw8 : w < 8 := by have := hn.2; omega
          have ec : (A (61 + st o k)).toNatClampNeg = w := by rw [e, nI_clamp (by omega)]
          have hTb : (hung A ^^^ frA A o k).testBit w = ((hung A).testBit w ^^ (frA A o k).testBit w) := Nat.testBit_xor ..
          rw [e, m_hangs hw8, Option.bind_some, e48]
          by_cases hh : 50 ≤ nm A w 2
          · have hb : ¬ (frA A o k).testBit w = true := fun hb => by
              have := f2 w hb; rw [hung_bit] at this; simp [hh] at this
            rw [if_pos hh, if_pos rfl, hlow _ (by unfold pickA; rw [if_neg h1, ec, if_neg hb])]
            exact fin
          · have hhb : (hung A).testBit w = true := by rw [hung_bit]; simp [hw1, hh]
            rw [if_neg hh, if_neg (by decide), m_has hT hw8, Option.bind_some, hTb, hhb]
            cases hb : (frA A o k).testBit w with
            | true =>
              have hd : drA A o k = some w := by
                unfold drA pickA; rw [if_neg h1, ec, if_pos hb]
              have := fin
              rw [hd] at this
              exact this
            | false =>
              have e2 := hlow (nI w) (by unfold pickA; rw [if_neg h1, ec, if_neg (by rw [hb]; decide)])
              show ∃ s', f_X6_drawBy_j56 _ _ _ _ _ _ = _ ∧ _
              rw [e2]
              exact fin
    · obtain ⟨N, rfl, hN, hF⟩ := hI
      rw [f_X6_drawBy_l4, if_pos (show (6 : Int32) ≤ nI 6 from nI_le (Nat.le_refl _) (by omega))]
      exact ⟨_, rfl, N, rfl, hN, hF⟩
  obtain ⟨r, h1, N, rfl, h2, h3⟩ := key
  exact ⟨N, h1, h2, h3⟩
