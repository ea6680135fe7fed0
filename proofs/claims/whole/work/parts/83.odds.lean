/-! THE ODDS. -/
theorem zIter_map {σ ρ τ : Type} (φ : ρ → τ) {b : σ → Option (σ ⊕ ρ)} {b' : σ → Option (σ ⊕ τ)} (h : ∀ s, b' s = (b s).map (fun z => match z with | .inl s => .inl s | .inr r => .inr (φ r))) : ∀ n s, zIter b' n s = (zIter b n s).map φ := by
  intro n
  induction n with
  | zero => intro s; rfl
  | succ n ih =>
    intro s
    show ((b' s).bind _) = ((b s).bind _).map φ
    rw [h s]
    cases hb : b s with
    | none => rfl
    | some z =>
      cases z with
      | inl s' => exact ih s'
      | inr r => rfl
theorem odds5a (c x a b : Int32) (M : zM) : ∀ n s, zIter (f_X5_odds_l78 c x a b M) n s = (zIter (f_X5_odds_l78 c x a b zM0) n s).map (fun r => (r.1, M)) := by
  refine zIter_map _ (fun s => ?_)
  obtain ⟨y5, y7⟩ := s
  rw [f_X5_odds_l78, f_X5_odds_l78]
  repeat' split
  all_goals rfl
theorem odds6a (c x a b : Int32) (M : zM) : ∀ n s, zIter (f_X6_odds_l71 c x a b M) n s = (zIter (f_X6_odds_l71 c x a b zM0) n s).map (fun r => (r.1, M)) := by
  refine zIter_map _ (fun s => ?_)
  obtain ⟨y5, y7⟩ := s
  rw [f_X6_odds_l71, f_X6_odds_l71]
  repeat' split
  all_goals rfl
theorem odds5 (c x : Int32) (M : zM) : ∀ n s, zIter (f_X5_odds_l44 c x M) n s = (zIter (f_X5_odds_l44 c x zM0) n s).map (fun r => (r.1, M)) := by
  refine zIter_map _ (fun s => ?_)
  obtain ⟨y3, y4, y5⟩ := s
  have j : f_X5_odds_j72 c x y3 y4 M = (f_X5_odds_j72 c x y3 y4 zM0).map (fun r => (r.1, M)) := odds5a c x y3 y4 M _ _
  rw [f_X5_odds_l44, f_X5_odds_l44, j]
  cases f_X5_odds_j72 c x y3 y4 zM0 <;> (repeat' split) <;> rfl
theorem odds6 (c x : Int32) (M : zM) : ∀ n s, zIter (f_X6_odds_l39 c x M) n s = (zIter (f_X6_odds_l39 c x zM0) n s).map (fun r => (r.1, M)) := by
  refine zIter_map _ (fun s => ?_)
  obtain ⟨y3, y4⟩ := s
  have j : f_X6_odds_j65 c x y3 y4 M = (f_X6_odds_j65 c x y3 y4 zM0).map (fun r => (r.1, M)) := odds6a c x y3 y4 M _ _
  rw [f_X6_odds_l39, f_X6_odds_l39, j]
  cases f_X6_odds_j65 c x y3 y4 zM0 <;> (repeat' split) <;> rfl
set_option maxRecDepth 100000 in
theorem odds_c : ∀ c, c < 9 → ∀ x, x < 15 → ∀ y, y < 2 → ((zIter (f_X5_odds_l44 (nI x) (nI y) zM0) 1000 (nI c, 16, 0)).map Prod.fst).isSome = true ∧ (zIter (f_X5_odds_l44 (nI x) (nI y) zM0) 1000 (nI c, 16, 0)).map Prod.fst = (zIter (f_X6_odds_l39 (nI x) (nI y) zM0) 1000 (nI c, 16)).map Prod.fst := by decide +kernel
theorem popc_le (m : Nat) : popc m ≤ 8 := by
  unfold popc
  exact Nat.le_trans (List.length_filter_le _ _) (Nat.le_of_eq (List.length_range))
theorem pe_odds (x y : Int32) {M : zM} {D : Nat} (h : RR M D) : ∃ r M1 M2, f_X5_odds x y M = some (r, M1) ∧ f_X6_odds x y M1 = some (r, M2) ∧ RR M2 (D + 60) := by
  have find : ((f_X5_odds x y M = (f_X5_finding 0 M).bind fun ((v, N) : Int32 × zM) => some ((v : Int32).toInt64, N)) ∧ ∀ N : zM, f_X6_odds x y N = (f_X6_finding (-1000001) N).bind fun ((v, Q) : Int32 × zM) => some ((v : Int32).toInt64, Q)) → ∃ r M1 M2, f_X5_odds x y M = some (r, M1) ∧ f_X6_odds x y M1 = some (r, M2) ∧ RR M2 (D + 60) := by
    rintro ⟨h1, h2⟩
    obtain ⟨M1, M2, a1, a2, a3, a4⟩ := find_pair h (show 0 < 7 by omega)
    refine ⟨Int32.toInt64 ((-1000001) - nI 0), M1, M2, ?_, ?_, RR_mono a4 (by omega)⟩
    · rw [h1, show f_X5_finding 0 M = _ from a1]; rfl
    · rw [h2, show f_X6_finding (-1000001) M1 = _ from a3]; rfl
  by_cases hx : inB x 0 14
  · by_cases hy : inB y 0 1
    · obtain ⟨i, hi, rfl⟩ := (inB_nI (n := 14) (by omega)).mp hx
      obtain ⟨j, hj, rfl⟩ := (inB_nI (n := 1) (by omega)).mp hy
      have hA := h.2.1
      have h48 := h.1
      have hlt := hung_lt hA.1
      have hp := popc_le (hung (M 48))
      obtain ⟨c1, c2⟩ := odds_c (popc (hung (M 48))) (by omega) i (by omega) j (by omega)
      cases e5 : zIter (f_X5_odds_l44 (nI i) (nI j) zM0) 1000 (nI (popc (hung (M 48))), 16, 0) with
      | none => rw [e5] at c1; cases c1
      | some r5 =>
        cases e6 : zIter (f_X6_odds_l39 (nI i) (nI j) zM0) 1000 (nI (popc (hung (M 48))), 16) with
        | none => rw [e5, e6] at c2; cases c2
        | some r6 =>
          rw [e5, e6] at c2
          have e : r5.1 = r6.1 := Option.some.inj c2
          refine ⟨r5.1, M, M, ?_, ?_, RR_mono h (by omega)⟩
          · unfold f_X5_odds
            rw [f_within_eq, Option.bind_some, wi_t hx, if_neg (by decide), f_within_eq, Option.bind_some, wi_t hy, if_neg (by decide), h_hanging isH_1 (by rw [← h48]; exact hA.1), Option.bind_some, ← h48, j_bitCount hlt, Option.bind_some, odds5, e5]; rfl
          · unfold f_X6_odds
            rw [m_within_eq, Option.bind_some, wi_t hx, if_neg (by decide), m_within_eq, Option.bind_some, wi_t hy, if_neg (by decide), m_hungNow hA.1, Option.bind_some, m_bits hlt, Option.bind_some, odds6, e6, e]; rfl
    · refine find ⟨?_, fun N => ?_⟩
      · unfold f_X5_odds f_X5_odds_j19
        rw [f_within_eq, Option.bind_some, wi_t hx, if_neg (by decide), f_within_eq, Option.bind_some, wi_f hy, if_pos rfl]
      · unfold f_X6_odds f_X6_odds_j19
        rw [m_within_eq, Option.bind_some, wi_t hx, if_neg (by decide), m_within_eq, Option.bind_some, wi_f hy, if_pos rfl]
  · refine find ⟨?_, fun N => ?_⟩
    · unfold f_X5_odds f_X5_odds_j19
      rw [f_within_eq, Option.bind_some, wi_f hx, if_pos rfl]
    · unfold f_X6_odds f_X6_odds_j19
      rw [m_within_eq, Option.bind_some, wi_f hx, if_pos rfl]
