/-! THE ODDS. -/
theorem zIter_map {σ ρ τ : Type} (φ : ρ → τ) {b : σ → Option (σ ⊕ ρ)} {b' : σ → Option (σ ⊕ τ)} (h : ∀ s, b' s = (b s).map (fun z => match z with | .inl s => .inl s | .inr r => .inr (φ r))) : ∀ n s, zIter b' n s = (zIter b n s).map φ := by
  intro n
  induction n with
  | zero => intro s; rfl
  | succ n ih =>
    intro s
    show ((b' s).bind _) = ((b s).bind _).map φ
    rw [h s]
    cases hb : b s with
    | none => rfl
    | some z =>
      cases z with
      | inl s' => exact ih s'
      | inr r => rfl
theorem odds5a (c x a b : Int32) (M : zM) : ∀ n s, zIter (f_X5_odds_l78 c x a b M) n s = (zIter (f_X5_odds_l78 c x a b zM0) n s).map (fun r => (r.1, M)) := by
  refine zIter_map _ (fun s => ?_)
  obtain ⟨y5, y7⟩ := s
  rw [f_X5_odds_l78, f_X5_odds_l78]
  repeat' split
  all_goals rfl
theorem odds6a (c x a b : Int32) (M : zM) : ∀ n s, zIter (f_X6_odds_l71 c x a b M) n s = (zIter (f_X6_odds_l71 c x a b zM0) n s).map (fun r => (r.1, M)) := by
  refine zIter_map _ (fun s => ?_)
  obtain ⟨y5, y7⟩ := s
  rw [f_X6_odds_l71, f_X6_odds_l71]
  repeat' split
  all_goals rfl
theorem odds5 (c x : Int32) (M : zM) : ∀ n s, zIter (f_X5_odds_l44 c x M) n s = (zIter (f_X5_odds_l44 c x zM0) n s).map (fun r => (r.1, M)) := by
  refine zIter_map _ (fun s => ?_)
  obtain ⟨y3, y4, y5⟩ := s
  have j : f_X5_odds_j72 c x y3 y4 M = (f_X5_odds_j72 c x y3 y4 zM0).map (fun r => (r.1, M)) := odds5a c x y3 y4 M _ _
  rw [f_X5_odds_l44, f_X5_odds_l44, j]
  cases f_X5_odds_j72 c x y3 y4 zM0 <;> (repeat' split) <;> rfl
theorem odds6 (c x : Int32) (M : zM) : ∀ n s, zIter (f_X6_odds_l39 c x M) n s = (zIter (f_X6_odds_l39 c x zM0) n s).map (fun r => (r.1, M)) := by
  refine zIter_map _ (fun s => ?_)
  obtain ⟨y3, y4⟩ := s
  have j : f_X6_odds_j65 c x y3 y4 M = (f_X6_odds_j65 c x y3 y4 zM0).map (fun r => (r.1, M)) := odds6a c x y3 y4 M _ _
  rw [f_X6_odds_l39, f_X6_odds_l39, j]
  cases f_X6_odds_j65 c x y3 y4 zM0 <;> (repeat' split) <;> rfl
set_option maxRecDepth 100000 in
theorem odds_c : ∀ c, c < 9 → ∀ x, x < 15 → ∀ y, y < 2 → ((zIter (f_X5_odds_l44 (nI x) (nI y) zM0) 1000 (nI c, 16, 0)).map Prod.fst).isSome = true ∧ (zIter (f_X5_odds_l44 (nI x) (nI y) zM0) 1000 (nI c, 16, 0)).map Prod.fst = (zIter (f_X6_odds_l39 (nI x) (nI y) zM0) 1000 (nI c, 16)).map Prod.fst := by decide +kernel
