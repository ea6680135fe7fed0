/-! THE IMAGE; A NAME AS A KIND. -/
theorem pe_image : PE f_X5_image f_X6_image := by
  intro M D hD h
  obtain ⟨r0, r00, r1, r2, r3, r4, r5, r6, r7, r8⟩ := h
  obtain ⟨M1, e1, e2, e3⟩ := h_become (M := M) isH_12 isH_1 (by omega)
  have g1 : ∀ a, a ≠ 0 → (a < 12 ∨ 20 < a) → zU M1 0 7 1 a = M a := fun a h1 h2 => by rw [zU_off h1, e3 a (by omega)]
  have h12 : hrow (zU M1 0 7 1) 12 = M 48 := by
    rw [show hrow (zU M1 0 7 1) 12 = hrow M1 12 from hrow_off (fun a h1 h2 => zU_off (by omega)), e2, r0]
  have h07 : zU M1 0 7 1 0 7 = 1 := zU_same ..
  generalize hN : zU M1 0 7 1 = N at g1 h12 h07
  obtain ⟨M2, f1, f2, f3⟩ := m_copyRow (M := N) (a := 48) (b := 49) (Or.inl rfl) (Or.inr (Or.inl rfl)) (by omega) (by rw [g1 48 (by omega) (by omega)]; exact r00.2.2.2.2.2.2.2.2.2) (by rw [g1 49 (by omega) (by omega)]; exact r1)
  rw [g1 48 (by omega) (by omega)] at f2
  refine ⟨1, N, zU M2 47 3 1, ?_, ?_, ?_⟩
  · unfold f_X5_image
    rw [e1, Option.bind_some, Option.bind_some, hN]
  · unfold f_X6_image
    rw [f1]; rfl
  · have k : ∀ a, a ≠ 0 → (a < 12 ∨ 20 < a) → a ≠ 47 → a ≠ 49 → zU M2 47 3 1 a = M a := fun a q1 q2 q3 q4 => by rw [zU_off q3, f3 a q4, g1 a q1 q2]
    have k12 : hrow (zU M2 47 3 1) 12 = M 48 := by
      rw [show hrow (zU M2 47 3 1) 12 = hrow N 12 from hrow_off (fun a q1 q2 => by rw [zU_off (by omega), f3 a (by omega)]), h12]
    have k1 : hrow (zU M2 47 3 1) 1 = hrow M 1 := hrow_off (fun a q1 q2 => k a (by omega) (by omega) (by omega) (by omega))
    have k49 : zU M2 47 3 1 49 = M 48 := by rw [zU_off (by omega), f2]
    have k07 : zU M2 47 3 1 0 7 = 1 := by rw [zU_off (show 0 ≠ 47 by omega), f3 0 (by omega), h07]
    have k473 : zU M2 47 3 1 47 3 = 1 := zU_same ..
    have k478 : zU M2 47 3 1 47 8 = M 47 8 := by rw [zU_at, if_neg (by omega), f3 47 (by omega), g1 47 (by omega) (by omega)]
    generalize zU M2 47 3 1 = Q at k k12 k1 k49 k07 k473 k478
    refine RR_mono (D := D) ⟨by rw [k 48 (by omega) (by omega) (by omega) (by omega), k1]; exact r0, by rw [k 48 (by omega) (by omega) (by omega) (by omega)]; exact r00, by rw [k49]; exact r00.2.2.2.2.2.2.2.2.2, by rw [k 50 (by omega) (by omega) (by omega) (by omega)]; exact r2, by rw [k473, k07], Or.inr ⟨k07, by rw [k49, k12], by rw [k49]; exact r00⟩, by rw [k 51 (by omega) (by omega) (by omega) (by omega), k 38 (by omega) (by omega) (by omega) (by omega)]; exact r5, by rw [k 51 (by omega) (by omega) (by omega) (by omega), k 38 (by omega) (by omega) (by omega) (by omega)]; exact r6, by rw [k478, k 34 (by omega) (by omega) (by omega) (by omega), k 54 (by omega) (by omega) (by omega) (by omega), k 35 (by omega) (by omega) (by omega) (by omega)]; exact r7, fun s hs => ?_⟩ (by omega)
    rw [k 57 (by omega) (by omega) (by omega) (by omega), k 58 (by omega) (by omega) (by omega) (by omega), k 59 (by omega) (by omega) (by omega) (by omega), k (39 + 2 * s) (by omega) (by omega) (by omega) (by omega), k (40 + 2 * s) (by omega) (by omega) (by omega) (by omega)]
    exact r8 s hs
theorem under_c : ∀ k, k < 7 → ∀ x, x < 7 → f_X6_isUnder (nI k) (nI x) zM0 = f_X1_isUnder (nI k) (nI x) zM0 ∧ (f_X1_isUnder (nI k) (nI x) zM0 = some 0 ∨ f_X1_isUnder (nI k) (nI x) zM0 = some 1) := by decide +kernel
theorem under_eq {k x : Nat} (hk : k < 7) (hx : x < 7) : ∃ u, (u = 0 ∨ u = 1) ∧ (∀ M, f_X1_isUnder (nI k) (nI x) M = some u) ∧ ∀ M, f_X6_isUnder (nI k) (nI x) M = some u := by
  obtain ⟨h1, h2⟩ := under_c k hk x hx
  have a1 : ∀ M, f_X1_isUnder (nI k) (nI x) M = f_X1_isUnder (nI k) (nI x) zM0 := fun _ => rfl
  have a2 : ∀ M, f_X6_isUnder (nI k) (nI x) M = f_X6_isUnder (nI k) (nI x) zM0 := fun _ => rfl
  rcases h2 with h2 | h2
  · exact ⟨0, Or.inl rfl, fun M => (a1 M).trans h2, fun M => (a2 M).trans (h1.trans h2)⟩
  · exact ⟨1, Or.inr rfl, fun M => (a1 M).trans h2, fun M => (a2 M).trans (h1.trans h2)⟩
theorem pe_as (x y : Int32) : PE (f_X5_as x y) (f_X6_as x y) := by
  intro M D hD h
  have eN := RR_names h
  have hA := h.2.1
  have hn := h.2.1.1
  by_cases hx : inB x 0 9
  · obtain ⟨p, hp, rfl⟩ := (inB_nI (n := 9) (by omega)).mp hx
    have p5 : (5 : Int32) + nI p = nI (5 + p) := nI_add 5 p
    have sp : ∀ N : zM, f_X6_isSpot (nI p) N = some 1 := fun N => by
      unfold f_X6_isSpot
      rw [m_within_eq, Option.bind_some, zbo_if, wi_t hx]; rfl
    by_cases hy : inB y 0 6
    · obtain ⟨k, hk, rfl⟩ := (inB_nI (n := 6) (by omega)).mp hy
      have e9 : M 9 p = M 48 (5 + p) := by rw [h.1, hrow_spot _ _ (by omega)]
      rcases hA.2.2.2.2.2.2.2.2.1 p (by omega) with c | ⟨j, hj, c⟩
      · have nb1 : ¬ isNm (M 48) (-1) := fun q => q.1 (by decide)
        refine pe_find h 5 (by omega) ?_ (fun M1 hf => ?_)
        · unfold f_X5_as
          rw [f_within_eq, Option.bind_some, wi_t hx, if_neg (by decide), f_within_eq, Option.bind_some, wi_t hy, if_neg (by decide), rd (n := 10) rfl (by omega), Option.bind_some, e9, c, f_isName_eq, Option.bind_some, eN, wi_f nb1, if_pos rfl, bind_pair]; rfl
        · unfold f_X6_as
          rw [sp, Option.bind_some, if_neg (by decide), m_isKind_eq, Option.bind_some, wi_t hy, if_neg (by decide), p5, rd48 (by omega), Option.bind_some, hf 48 (by omega), c, if_neg (by decide), bind_pair]; rfl
      · have hj8 : j < 8 := by have := hn.2; omega
        have hnm : isNm (M 48) (nI j) := (isNm_iff hn).mpr ⟨j, hj, rfl⟩
        obtain ⟨q, hq, eq⟩ := (hA.2.2.2.2.2.2.1 j hj8).1
        obtain ⟨u, u01, u1, u2⟩ := under_eq (k := q) (x := k) (by omega) (by omega)
        have e2 : M 2 j = nI q := by rw [← eq, h.1]; exact (hrow_name M 1 hj8 (f := 0) (by omega)).symm
        have cls : f_X5_as (nI p) (nI k) M = if u = 0 then f_X5_finding 2 M else some (nI j, M) := by
          unfold f_X5_as
          rw [f_within_eq, Option.bind_some, wi_t hx, if_neg (by decide), f_within_eq, Option.bind_some, wi_t hy, if_neg (by decide), rd (n := 10) rfl (by omega), Option.bind_some, e9, c, f_isName_eq, Option.bind_some, eN, wi_t hnm, if_neg (by decide), rd (n := 8) rfl hj8, Option.bind_some, e2, u1, Option.bind_some, bind_pair]
        have mod : ∀ N : zM, N 48 = M 48 → f_X6_as (nI p) (nI k) N = if u = 0 then f_X6_finding (-1000003) N else some (nI j, N) := by
          intro N hN
          unfold f_X6_as
          rw [sp, Option.bind_some, if_neg (by decide), m_isKind_eq, Option.bind_some, wi_t hy, if_neg (by decide), p5, rd48 (by omega), Option.bind_some, hN, c, if_pos (nI_pos' (by omega)), show f_X6_nameIs (nI j) 0 N = some (nm (N 48) j 0) from m_nameIs hj8 (f := 0) (by omega), Option.bind_some, hN, eq, u2, Option.bind_some, bind_pair]
        by_cases hu : u = 0
        · refine pe_find h 2 (by omega) ?_ (fun M1 hf => ?_)
          · rw [cls, if_pos hu]; rfl
          · rw [mod M1 (hf 48 (by omega)), if_pos hu]; rfl
        · refine pe_same h (nI j) ?_ ?_
          · rw [cls, if_neg hu]
          · rw [mod M rfl, if_neg hu]
    · refine pe_find h 0 (by omega) ?_ (fun M1 hf => ?_)
      · unfold f_X5_as f_X5_as_j20
        rw [f_within_eq, Option.bind_some, wi_t hx, if_neg (by decide), f_within_eq, Option.bind_some, wi_f hy, if_pos rfl, bind_pair]; rfl
      · unfold f_X6_as f_X6_as_j14
        rw [sp, Option.bind_some, if_neg (by decide), m_isKind_eq, Option.bind_some, wi_f hy, if_pos rfl, bind_pair]; rfl
  · refine pe_find h 0 (by omega) ?_ (fun M1 hf => ?_)
    · unfold f_X5_as f_X5_as_j20
      rw [f_within_eq, Option.bind_some, wi_f hx, if_pos rfl, bind_pair]; rfl
    · unfold f_X6_as f_X6_as_j14 f_X6_isSpot
      rw [m_within_eq, Option.bind_some, zbo_if, wi_f hx, Option.bind_some, Option.bind_some, if_pos rfl, bind_pair]; rfl
