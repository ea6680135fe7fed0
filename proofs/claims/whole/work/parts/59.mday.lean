/-! A DAY, as the reference has it. -/
theorem rd48 {M : zM} {j : Nat} (hj : j < 67) : zrd M 48 (nI j) = some (M 48 j) := rd (n := 67) rfl hj
theorem wr48 {M : zM} {j : Nat} {v : Int32} (hj : j < 67) : zwr M 48 (nI j) v = some (zU M 48 j v) := wr (n := 67) rfl hj
theorem m_pays {N : zM} {p j : Nat} {A pu de we : Nat → Int32} (hp : p < 6) (hj : j < 8) (hr : N 48 = rwX A pu de we) (hd : N 52 p = nI j) : ∃ N', f_X6_pays (nI p) N = some N' ∧ N' 48 = rwX A (upd pu p (pu p - minI (dueF (nm A j 0) (nm A j 1) (we j) (de j)) (pu p))) (upd de j (minI 99999 (de j + dueF (nm A j 0) (nm A j 1) (we j) (de j) - minI (dueF (nm A j 0) (nm A j 1) (we j) (de j)) (pu p)))) we ∧ ∀ a, a ≠ 48 → N' a = N a := by
  have ed : f_X6_dueOf (nI j) N = some (dueF (nm A j 0) (nm A j 1) (we j) (de j)) := by
    rw [m_due hj, hr]
    unfold dueA
    rw [rwX_we _ _ _ _ hj, rwX_de _ _ _ _ hj, rwX_nm _ _ _ _ hj (by omega) (by omega) (by omega), rwX_nm _ _ _ _ hj (by omega) (by omega) (by omega)]
  generalize dueF (nm A j 0) (nm A j 1) (we j) (de j) = due at *
  have e55 : (55 : Int32) + nI p = nI (55 + p) := nI_add 55 p
  unfold f_X6_pays
  rw [rd (n := 6) rfl hp, Option.bind_some, hd, ed, Option.bind_some, e55, rd48 (by omega), Option.bind_some, Option.bind_some, Option.bind_some, wr48 (by omega), Option.bind_some]
  have ep : N 48 (55 + p) = pu p := by rw [hr, rwX_pu _ _ _ _ hp]
  rw [ep]
  have e3 : ∀ v, f_X6_nameIs (nI j) 3 (zU N 48 (55 + p) v) = some (de j) := fun v => by
    have h := m_nameIs (M := zU N 48 (55 + p) v) (i := j) (f := 3) hj (by omega)
    rw [zU_row, hr, rwX_uP _ _ _ _ _ hp, rwX_de _ _ _ _ hj] at h
    exact h
  have e4 : ∀ N, f_X6_place (nI j) 3 N = some (nI (15 + 5 * j + 3)) := fun N => m_place j 3 N
  rw [e4, Option.bind_some, e3, Option.bind_some, wr48 (by omega), Option.bind_some]
  refine ⟨_, rfl, ?_, fun a ha => by rw [zU_off ha, zU_off ha]⟩
  rw [zU_row, zU_row, hr, rwX_uP _ _ _ _ _ hp, rwX_uD _ _ _ _ _ hj]
  rfl
theorem who_iff {A : Nat → Int32} {o j : Nat} (hn : okN A) (hw : okW A) (ho : o < 720) : (setK A o 6).testBit j = true ↔ ∃ p, who A o 6 j = some p := by
  rw [setK_bit]
  constructor
  · rintro ⟨p, h1, h2⟩; exact ⟨p, who_of hn hw ho 6 (by omega) h1 h2⟩
  · rintro ⟨p, h⟩; exact ⟨p, who_some 6 h⟩
theorem m_day {M : zM} {o : Nat} (ho : o < 720) (h3 : M 48 3 = nI o) (hn : okN (M 48)) (hw : okW (M 48)) (hF : okF (M 48)) : ∃ M', f_X6_day M = some M' ∧ M' 48 = dayA (M 48) o ∧ (∀ p, p < 6 → M' 52 p = iv (drP (M 48) o p)) ∧ ∀ a, a ≠ 48 → a ≠ 52 → M' a = M a := by
  obtain ⟨M1, e1, hd1, hf1⟩ := m_drawBy (M := M) ho hn hw
  have e9 : zrd M 48 3 = some (nI o) := by rw [← h3]; exact rd48 (j := 3) (by omega)
  have hr1 : M1 48 = M 48 := hf1 48 (by omega)
  have hdp := drP_row (D := M1 52) ho hd1
  generalize hA : M 48 = A at *
  unfold f_X6_day
  rw [e9, Option.bind_some, e1, Option.bind_some, taken_eq hn hw ho]
  have h8 := hn.2
  have hm := setK_lt hn hw ho 6 (by omega)
  show ∃ M', zIter (f_X6_day_l13 (nI (setK A o 6))) 1000 (0, M1) = some M' ∧ _
  refine zIter_inv (b := f_X6_day_l13 (nI (setK A o 6))) (fun k s => ∃ N : zM, s = (nI k, N) ∧ N 48 = rwX A (puK A o k) (deK A o k) (fun j => nm A j 2) ∧ N 52 = M1 52 ∧ ∀ a, a ≠ 48 → a ≠ 52 → N a = M a) _ 6 1000 _ (by omega) ⟨M1, rfl, ?_, rfl, fun a _ h2 => hf1 a h2⟩ (fun k s hk hI => ?_) (fun s hI => ?_)
  · rw [hr1]
    have e1 : puK A o 0 = fun p => A (55 + p) := by funext p; unfold puK; rw [if_neg (by omega)]
    have e2 : deK A o 0 = fun j => nm A j 3 := rfl
    rw [e1, e2, rwX_self]
  · obtain ⟨N, rfl, hr, hdN, hF9⟩ := hI
    rw [f_X6_day_l13, if_neg (show ¬ (6 : Int32) ≤ nI k from nI_ge (b := 6) hk (by decide)), rd (n := 6) rfl hk, Option.bind_some, hdN, hdp k hk]
    cases hc : drP A o k with
    | none =>
      rw [if_pos (show iv none < 0 by decide), nI_1, Option.bind_some]
      exact ⟨_, rfl, N, rfl, by rw [puK_none hc, deK_none hc]; exact hr, hdN, hF9⟩
    | some j =>
      have hj8 : j < 8 := by have := (drP_spec hn hw ho hk hc).1; omega
      rw [if_neg (show ¬ iv (some j) < 0 from nI_pos (by omega))]
      have hno : who A o k j = none := who_none k (fun p hp e => by have := drP_apart hn hw ho (by omega) hk e hc; omega)
      have de0 : deK A o k j = nm A j 3 := by unfold deK; rw [hno]
      have pu0 : puK A o k k = A (55 + k) := by unfold puK; rw [if_neg (Nat.lt_irrefl _)]
      obtain ⟨N2, p1, p2, p3⟩ := m_pays (N := N) hk hj8 hr (by rw [hdN, hdp k hk, hc]; rfl)
      rw [de0] at p2
      have ed : dueF (nm A j 0) (nm A j 1) (nm A j 2) (nm A j 3) = dueA A j := rfl
      have epd : minI (dueA A j) (puK A o k k) = paid A k j := by rw [pu0]; rfl
      rw [ed, epd, puK_succ hc, deK_succ hc] at p2
      rw [p1, Option.bind_some, nI_1, Option.bind_some]
      exact ⟨_, rfl, N2, rfl, p2, by rw [p3 52 (by omega)]; exact hdN, fun a h1 h2 => by rw [p3 a h1]; exact hF9 a h1 h2⟩
  · obtain ⟨N, rfl, hr, hdN, hF9⟩ := hI
    rw [f_X6_day_l13, if_pos (show (6 : Int32) ≤ nI 6 from nI_le (Nat.le_refl _) (by omega))]
    unfold f_X6_day_j39
    -- the names fade
    have key : ∃ r, zIter (f_X6_day_l41 (nI (setK A o 6))) 1000 (0, N) = some r ∧ (r 48 = dayA A o ∧ (∀ p, p < 6 → r 52 p = iv (drP A o p)) ∧ ∀ a, a ≠ 48 → a ≠ 52 → r a = M a) := by
      refine zIter_inv (b := f_X6_day_l41 (nI (setK A o 6))) (fun k s => ∃ N : zM, s = (nI k, N) ∧ N 48 = rwX A (puK A o 6) (deK A o 6) (fun j => if j < k then weK A o 6 j else nm A j 2) ∧ N 52 = M1 52 ∧ ∀ a, a ≠ 48 → a ≠ 52 → N a = M a) _ (nn A) 1000 _ (by omega) ⟨N, rfl, ?_, hdN, hF9⟩ (fun k s hk hI => ?_) (fun s hI => ?_)
      · rw [hr]; congr 1
      · obtain ⟨N, rfl, hr, hdN, hF9⟩ := hI
        have hk8 : k < 8 := by omega
        have hnN : okN (N 48) := by
          have e1 : N 48 1 = A 1 := by rw [hr, rwX_lo _ _ _ _ (by omega)]
          unfold okN; rw [nn_congr e1, e1]; exact hn
        have hnn : nn (N 48) = nn A := nn_congr (by rw [hr, rwX_lo _ _ _ _ (by omega)])
        have ewe : f_X6_nameIs (nI k) 2 N = some (nm A k 2) := by
          have h := m_nameIs (M := N) (i := k) (f := 2) hk8 (by omega)
          rw [hr, rwX_we _ _ _ _ hk8] at h
          simp only [Nat.lt_irrefl, if_false] at h
          exact h
        have efa : f_X6_fadesBy (nI k) N = some (fadeF (nm A k 0)) := by
          rw [m_fades hk8, hr, rwX_nm _ _ _ _ hk8 (by omega) (by omega) (by omega)]
        have epl : f_X6_place (nI k) 2 N = some (nI (15 + 5 * k + 2)) := m_place k 2 N
        -- the end of a round
        have fin : ∀ v, v = weK A o 6 k → ∃ s', f_X6_day_j94 (nI (setK A o 6)) (nI k) v (nI (15 + 5 * k + 2)) N = some (.inl s') ∧ ∃ N : zM, s' = (nI (k + 1), N) ∧ N 48 = rwX A (puK A o 6) (deK A o 6) (fun j => if j < k + 1 then weK A o 6 j else nm A j 2) ∧ N 52 = M1 52 ∧ ∀ a, a ≠ 48 → a ≠ 52 → N a = M a := by
          intro v hv
          unfold f_X6_day_j94
          rw [wr48 (by omega), Option.bind_some, nI_1, Option.bind_some]
          refine ⟨_, rfl, _, rfl, ?_, by rw [zU_off (by omega)]; exact hdN, fun a h1 h2 => by rw [zU_off h1]; exact hF9 a h1 h2⟩
          rw [zU_row, hr, rwX_uE _ _ _ _ _ hk8, hv]
          congr 1
          funext j
          simp only [upd_at]
          by_cases e : j = k
          · subst e; rw [if_pos rfl, if_pos (show j < j + 1 by omega)]
          · rw [if_neg e]
            by_cases h1 : j < k
            · rw [if_pos h1, if_pos (show j < k + 1 by omega)]
            · rw [if_neg h1, if_neg (show ¬ j < k + 1 by omega)]
        rw [f_X6_day_l41, m_names hnN, Option.bind_some, hnn, if_neg (nI_ge hk (by omega)), epl, Option.bind_some, m_has hm hk8, Option.bind_some]
        by_cases hb : (setK A o 6).testBit k = true
        · obtain ⟨p, hp⟩ := (who_iff hn hw ho).mp hb
          rw [if_pos hb, if_neg (show ¬ ((1 : Int32) = 0) by decide), ewe, Option.bind_some, efa, Option.bind_some]
          refine fin _ ?_
          unfold weK
          rw [hp]
          rfl
        · have hno : who A o 6 k = none := by
            cases hc : who A o 6 k with
            | none => rfl
            | some p => exact absurd ((who_iff hn hw ho).mpr ⟨p, hc⟩) hb
          rw [if_neg hb, if_pos rfl, ewe, Option.bind_some]
          refine fin _ ?_
          unfold weK
          rw [hno]
      · obtain ⟨N, rfl, hr, hdN, hF9⟩ := hI
        have e1 : N 48 1 = A 1 := by rw [hr, rwX_lo _ _ _ _ (by omega)]
        have hnn : nn (N 48) = nn A := nn_congr e1
        have hnN : okN (N 48) := by unfold okN; rw [hnn, e1]; exact hn
        have h4 : ∀ i, i < 8 → nm (N 48) i 4 = nm A i 4 := fun i hi => by rw [hr, rwX_nm _ _ _ _ hi (by omega) (by omega) (by omega)]
        have hFN : okF (N 48) := fun i hi => by
          rw [hnn] at hi ⊢
          rw [h4 i (by omega)]
          exact hF i hi
        have hrow2 : N 48 = rwX A (puK A o 6) (deK A o 6) (weK A o 6) := by
          rw [hr]
          congr 1
          funext j
          by_cases h1 : j < nn A
          · rw [if_pos h1]
          · rw [if_neg h1]
            have : who A o 6 j = none := by
              cases hc : who A o 6 j with
              | none => rfl
              | some p => exact absurd (drP_spec hn hw ho (who_some 6 hc).1 (who_some 6 hc).2).1 h1
            unfold weK; rw [this]
        rw [f_X6_day_l41, m_names hnN, Option.bind_some, hnn, if_pos (nI_le (Nat.le_refl _) (by omega))]
        unfold f_X6_day_j101
        have e4 : zrd N 48 4 = some (A 4) := by
          have h := rd48 (M := N) (j := 4) (by omega)
          rw [hr, rwX_lo _ _ _ _ (by omega)] at h
          exact h
        rw [e4, Option.bind_some, m_quarrelsIn hm hFN hnN, Option.bind_some, ← pairs_eq hFN hnN, ← pairsN_congr (A := A) hnn.symm (fun i hi => (h4 i (by omega)).symm) hF hn]
        have w4 : ∀ v, zwr N 48 4 v = some (zU N 48 4 v) := fun v => wr48 (j := 4) (by omega)
        rw [w4, Option.bind_some]
        have e0 : ∀ v, zrd (zU N 48 4 v) 48 0 = some (A 0) := fun v => by
          have h := rd48 (M := zU N 48 4 v) (j := 0) (by omega)
          rw [zU_at, if_neg (by omega), hr, rwX_lo _ _ _ _ (by omega)] at h
          exact h
        have w0 : ∀ (N : zM) v, zwr N 48 0 v = some (zU N 48 0 v) := fun N v => wr48 (j := 0) (by omega)
        rw [e0, Option.bind_some, w0, Option.bind_some]
        refine ⟨_, rfl, ?_, fun p hp => ?_, fun a h1 h2 => ?_⟩
        · rw [zU_row, zU_row, hrow2]; rfl
        · rw [zU_off (by omega), zU_off (by omega), hdN]; exact hdp p hp
        · rw [zU_off h1, zU_off h1]; exact hF9 a h1 h2
    obtain ⟨r, k1, k2⟩ := key
    exact ⟨r, by rw [k1]; rfl, k2⟩
