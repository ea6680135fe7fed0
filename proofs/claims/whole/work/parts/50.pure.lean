/-! THE PURE MACHINE'S REASONING. From here on there is no machine: functions of a memory M : cell -> place -> Int32. -/
theorem zIter_steps {σ ρ : Type} {b : σ → Option (σ ⊕ ρ)} (s : Nat → σ) (N n : Nat) (r : ρ) (hN : N < n) (hstep : ∀ k, k < N → b (s k) = some (.inl (s (k + 1)))) (hexit : b (s N) = some (.inr r)) : zIter b n (s 0) = some r := by
  have key : ∀ (d k m : Nat), k + d = N → d < m → zIter b m (s k) = some r := by
    intro d
    induction d with
    | zero =>
      intro k m hk hm
      cases m with
      | zero => omega
      | succ m =>
        have : k = N := by omega
        subst this
        simp [zIter, hexit]
    | succ d ih =>
      intro k m hk hm
      cases m with
      | zero => omega
      | succ m =>
        rw [zIter, hstep k (by omega)]
        exact ih (k + 1) m (by omega) (by omega)
  exact key N 0 n (by omega) hN
/-- a loop with an invariant: N rounds, then out -/
theorem zIter_inv {σ ρ : Type} {b : σ → Option (σ ⊕ ρ)} (I : Nat → σ → Prop) (Q : ρ → Prop) (N n : Nat) (s0 : σ) (hN : N < n) (h0 : I 0 s0) (hstep : ∀ k s, k < N → I k s → ∃ s', b s = some (.inl s') ∧ I (k + 1) s') (hexit : ∀ s, I N s → ∃ r, b s = some (.inr r) ∧ Q r) : ∃ r, zIter b n s0 = some r ∧ Q r := by
  have key : ∀ (d k m : Nat) (s : σ), k + d = N → d < m → I k s → ∃ r, zIter b m s = some r ∧ Q r := by
    intro d
    induction d with
    | zero =>
      intro k m s hk hm hi
      cases m with
      | zero => omega
      | succ m =>
        have : k = N := by omega
        subst this
        obtain ⟨r, h1, h2⟩ := hexit s hi
        exact ⟨r, by simp [zIter, h1], h2⟩
    | succ d ih =>
      intro k m s hk hm hi
      cases m with
      | zero => omega
      | succ m =>
        obtain ⟨s', h1, h2⟩ := hstep k s (by omega) hi
        rw [zIter, h1]
        exact ih (k + 1) m s' (by omega) (by omega) h2
  exact key N 0 n s0 (by omega) hN h0
/-- a loop that may leave early: each round goes on or out -/
theorem zIter_may {σ ρ : Type} {b : σ → Option (σ ⊕ ρ)} (I : Nat → σ → Prop) (Q : ρ → Prop) (N n : Nat) (s0 : σ) (hN : N < n) (h0 : I 0 s0) (hstep : ∀ k s, k < N → I k s → (∃ s', b s = some (.inl s') ∧ I (k + 1) s') ∨ ∃ r, b s = some (.inr r) ∧ Q r) (hexit : ∀ s, I N s → ∃ r, b s = some (.inr r) ∧ Q r) : ∃ r, zIter b n s0 = some r ∧ Q r := by
  have key : ∀ (d k m : Nat) (s : σ), k + d = N → d < m → I k s → ∃ r, zIter b m s = some r ∧ Q r := by
    intro d
    induction d with
    | zero =>
      intro k m s hk hm hi
      cases m with
      | zero => omega
      | succ m =>
        have : k = N := by omega
        subst this
        obtain ⟨r, h1, h2⟩ := hexit s hi
        exact ⟨r, by simp [zIter, h1], h2⟩
    | succ d ih =>
      intro k m s hk hm hi
      cases m with
      | zero => omega
      | succ m =>
        rcases hstep k s (by omega) hi with ⟨s', h1, h2⟩ | ⟨r, h1, h2⟩
        · rw [zIter, h1]
          exact ih (k + 1) m s' (by omega) (by omega) h2
        · exact ⟨r, by simp [zIter, h1], h2⟩
  exact key N 0 n s0 (by omega) hN h0
-- reading and writing at known places
theorem rd {M : zM} {k n j : Nat} (hs : sh k = .inl n) (hj : j < n) (hn : n < 1000 := by decide) : zrd M k (nI j) = some (M k j) := by
  unfold zrd
  rw [hs]
  simp only []
  rw [if_neg, nI_clamp (by omega)]
  intro h
  rcases h with h | h
  · exact nI_pos (by omega) h
  · rw [nI_clamp (by omega)] at h; omega
theorem wr {M : zM} {k n j : Nat} {v : Int32} (hs : sh k = .inl n) (hj : j < n) (hn : n < 1000 := by decide) : zwr M k (nI j) v = some (zU M k j v) := by
  unfold zwr
  rw [hs]
  simp only []
  rw [if_neg, nI_clamp (by omega)]
  intro h
  rcases h with h | h
  · exact nI_pos (by omega) h
  · rw [nI_clamp (by omega)] at h; omega
theorem shA {t : Nat} (h : isH t) : sh (t + 1) = .inl 8 ∧ sh (t + 2) = .inl 8 ∧ sh (t + 3) = .inl 8 ∧ sh (t + 4) = .inl 8 ∧ sh (t + 5) = .inl 8 ∧ sh (t + 6) = .inl 6 ∧ sh (t + 7) = .inl 6 ∧ sh (t + 8) = .inl 10 ∧ sh (t + 9) = .inl 6 ∧ sh (t + 10) = .inl 6 := by
  rcases h with rfl | rfl | rfl <;> exact ⟨rfl, rfl, rfl, rfl, rfl, rfl, rfl, rfl, rfl, rfl⟩
theorem upd_at (f : Nat → Int32) (k : Nat) (v : Int32) (j : Nat) : upd f k v j = if j = k then v else f j := rfl
theorem zU_at (M : zM) (k j : Nat) (v : Int32) (a b : Nat) : zU M k j v a b = if a = k ∧ b = j then v else M a b := by
  unfold zU
  by_cases h : a = k
  · subst h
    by_cases h2 : b = j
    · simp [upd, h2]
    · simp [upd, h2]
  · simp [h]
-- a house as one row, as the reference keeps it
def hrow (M : zM) (t : Nat) : Nat → Int32 := fun j =>
  if j = 0 then M t 10 else if j = 1 then M t 0 else if j = 2 then M t 12 else if j = 3 then M t 9 else if j = 4 then M t 11
  else if j < 15 then M (t + 8) (j - 5) else if j < 55 then M (t + 1 + (j - 15) % 5) ((j - 15) / 5) else if j < 61 then M (t + 6) (j - 55) else if j < 67 then M (t + 7) (j - 61) else 0
theorem hrow_0 (M : zM) (t : Nat) : hrow M t 0 = M t 10 := rfl
theorem hrow_1 (M : zM) (t : Nat) : hrow M t 1 = M t 0 := rfl
theorem hrow_2 (M : zM) (t : Nat) : hrow M t 2 = M t 12 := rfl
theorem hrow_3 (M : zM) (t : Nat) : hrow M t 3 = M t 9 := rfl
theorem hrow_4 (M : zM) (t : Nat) : hrow M t 4 = M t 11 := rfl
theorem hrow_spot (M : zM) (t : Nat) {i : Nat} (h : i < 10) : hrow M t (5 + i) = M (t + 8) i := by
  unfold hrow
  rw [if_neg (by omega), if_neg (by omega), if_neg (by omega), if_neg (by omega), if_neg (by omega), if_pos (by omega), Nat.add_sub_cancel_left]
theorem hrow_name (M : zM) (t : Nat) {i f : Nat} (h : i < 8) (hf : f < 5) : hrow M t (15 + 5 * i + f) = M (t + 1 + f) i := by
  unfold hrow
  rw [if_neg (by omega), if_neg (by omega), if_neg (by omega), if_neg (by omega), if_neg (by omega), if_neg (by omega), if_pos (by omega), show (15 + 5 * i + f - 15) % 5 = f by omega, show (15 + 5 * i + f - 15) / 5 = i by omega]
theorem hrow_purse (M : zM) (t : Nat) {p : Nat} (h : p < 6) : hrow M t (55 + p) = M (t + 6) p := by
  unfold hrow
  rw [if_neg (by omega), if_neg (by omega), if_neg (by omega), if_neg (by omega), if_neg (by omega), if_neg (by omega), if_neg (by omega), if_pos (by omega), Nat.add_sub_cancel_left]
theorem hrow_wish (M : zM) (t : Nat) {p : Nat} (h : p < 6) : hrow M t (61 + p) = M (t + 7) p := by
  unfold hrow
  rw [if_neg (by omega), if_neg (by omega), if_neg (by omega), if_neg (by omega), if_neg (by omega), if_neg (by omega), if_neg (by omega), if_neg (by omega), if_pos (by omega), Nat.add_sub_cancel_left]
theorem hrow_out (M : zM) (t : Nat) {j : Nat} (h : 67 ≤ j) : hrow M t j = 0 := by
  unfold hrow
  rw [if_neg (by omega), if_neg (by omega), if_neg (by omega), if_neg (by omega), if_neg (by omega), if_neg (by omega), if_neg (by omega), if_neg (by omega), if_neg (by omega)]
/-- two rows alike, place by place -/
theorem row_ext {A B : Nat → Int32} (h0 : ∀ j, j < 5 → A j = B j) (h1 : ∀ i, i < 10 → A (5 + i) = B (5 + i)) (h2 : ∀ i, i < 8 → ∀ f, f < 5 → A (15 + 5 * i + f) = B (15 + 5 * i + f)) (h3 : ∀ p, p < 6 → A (55 + p) = B (55 + p)) (h4 : ∀ p, p < 6 → A (61 + p) = B (61 + p)) (h5 : ∀ j, 67 ≤ j → A j = B j) : A = B := by
  funext j
  by_cases a : j < 5
  · exact h0 j a
  · by_cases b : j < 15
    · have := h1 (j - 5) (by omega); rwa [show 5 + (j - 5) = j by omega] at this
    · by_cases c : j < 55
      · have := h2 ((j - 15) / 5) (by omega) ((j - 15) % 5) (by omega)
        rwa [show 15 + 5 * ((j - 15) / 5) + (j - 15) % 5 = j by omega] at this
      · by_cases d : j < 61
        · have := h3 (j - 55) (by omega); rwa [show 55 + (j - 55) = j by omega] at this
        · by_cases e : j < 67
          · have := h4 (j - 61) (by omega); rwa [show 61 + (j - 61) = j by omega] at this
          · exact h5 j (by omega)
/-- a house's row is what its cells say: alike cells, alike rows -/
theorem hrow_congr {M M' : zM} {t t' : Nat} (h : M' t' 10 = M t 10 ∧ M' t' 0 = M t 0 ∧ M' t' 12 = M t 12 ∧ M' t' 9 = M t 9 ∧ M' t' 11 = M t 11) (hs : ∀ i, i < 10 → M' (t' + 8) i = M (t + 8) i) (hn : ∀ f, f < 5 → ∀ i, i < 8 → M' (t' + 1 + f) i = M (t + 1 + f) i) (hp : ∀ p, p < 6 → M' (t' + 6) p = M (t + 6) p) (hw : ∀ p, p < 6 → M' (t' + 7) p = M (t + 7) p) : hrow M' t' = hrow M t := by
  refine row_ext ?_ (fun i hi => by rw [hrow_spot _ _ hi, hrow_spot _ _ hi, hs i hi]) (fun i hi f hf => by rw [hrow_name _ _ hi hf, hrow_name _ _ hi hf, hn f hf i hi]) (fun p h9 => by rw [hrow_purse _ _ h9, hrow_purse _ _ h9, hp p h9]) (fun p h9 => by rw [hrow_wish _ _ h9, hrow_wish _ _ h9, hw p h9]) (fun j hj => by rw [hrow_out _ _ hj, hrow_out _ _ hj])
  intro j hj
  match j, hj with
  | 0, _ => exact h.1
  | 1, _ => exact h.2.1
  | 2, _ => exact h.2.2.1
  | 3, _ => exact h.2.2.2.1
  | 4, _ => exact h.2.2.2.2
-- what is said of a name
def dueF (kind duty wear debt : Int32) : Int32 := if kind = 1 then duty + wear / 10 else if kind = 2 then 2 * duty else if kind = 3 then (if debt ≤ 0 then 2 * duty else 0) else if kind = 4 then (if debt ≤ 0 then 2 * duty else 0) / 2 else if kind = 5 then duty / 2 else if kind = 6 then duty + wear / 10 + 5 else duty
def fadeF (kind : Int32) : Int32 := if kind = 1 then 2 else if kind = 5 then 3 else if kind = 6 then 4 else 1
/-- of a row: field f of name i -/
abbrev nm (A : Nat → Int32) (i f : Nat) : Int32 := A (15 + 5 * i + f)
def dueA (A : Nat → Int32) (i : Nat) : Int32 := dueF (nm A i 0) (nm A i 1) (nm A i 2) (nm A i 3)
theorem if_some {α : Type} {c : Prop} [Decidable c] {a b : α} : (if c then some a else some b) = some (if c then a else b) := by split <;> rfl
theorem f_due_eq (k d w b : Int32) (M : zM) : f_X1_due k d w b M = some (dueF k d w b) := by
  unfold f_X1_due dueF
  simp only [Option.bind_some]
  by_cases h : b ≤ 0
  · simp only [if_pos h]; unfold f_X1_due_j19
    simp only [if_some]
  · simp only [if_neg h]; unfold f_X1_due_j19
    simp only [if_some]
theorem f_fades_eq (k : Int32) (M : zM) : f_X1_fades k M = some (fadeF k) := by
  unfold f_X1_fades fadeF
  repeat (first | rfl | split)
theorem h_due {M : zM} {t i : Nat} (h : isH t) (hi : i < 8) : f_X0_due t (nI i) M = some (dueA (hrow M t) i) := by
  obtain ⟨h1, h2, h3, h4, -⟩ := shA h
  unfold f_X0_due dueA nm
  rw [rd h1 hi, Option.bind_some, rd h2 hi, Option.bind_some, rd h3 hi, Option.bind_some, rd h4 hi, Option.bind_some, f_due_eq, Option.bind_some, hrow_name _ _ hi (by omega), hrow_name _ _ hi (by omega), hrow_name _ _ hi (by omega), hrow_name _ _ hi (by omega)]
theorem h_hangs {M : zM} {t i : Nat} (h : isH t) (hi : i < 8) : f_X0_hangs t (nI i) M = some (if 50 ≤ nm (hrow M t) i 2 then 0 else 1) := by
  obtain ⟨h1, h2, h3, h4, -⟩ := shA h
  unfold f_X0_hangs nm
  rw [rd h3 hi, Option.bind_some, hrow_name _ _ hi (by omega)]
  split <;> rfl
-- the reference
theorem m_place (i f : Nat) (M : zM) : f_X6_place (nI i) (nI f) M = some (nI (15 + 5 * i + f)) := by
  show some ((nI 15 + nI 5 * nI i) + nI f) = _
  rw [pk_mul, nI_add, nI_add]
theorem m_nameIs {M : zM} {i f : Nat} (hi : i < 8) (hf : f < 5) : f_X6_nameIs (nI i) (nI f) M = some (nm (M 48) i f) := by
  unfold f_X6_nameIs
  rw [m_place, Option.bind_some, rd (n := 67) rfl (by omega)]
  rfl
theorem m_due {M : zM} {i : Nat} (hi : i < 8) : f_X6_dueOf (nI i) M = some (dueA (M 48) i) := by
  have e0 : f_X6_nameIs (nI i) 0 M = some (nm (M 48) i 0) := m_nameIs (f := 0) hi (by omega)
  have e1 : f_X6_nameIs (nI i) 1 M = some (nm (M 48) i 1) := m_nameIs (f := 1) hi (by omega)
  have e2 : f_X6_nameIs (nI i) 2 M = some (nm (M 48) i 2) := m_nameIs (f := 2) hi (by omega)
  have e3 : f_X6_nameIs (nI i) 3 M = some (nm (M 48) i 3) := m_nameIs (f := 3) hi (by omega)
  unfold f_X6_dueOf dueA dueF
  rw [e1, Option.bind_some, e3, Option.bind_some]
  by_cases h : nm (M 48) i 3 ≤ 0
  · simp only [if_pos h]; unfold f_X6_dueOf_j23
    simp only [e0, e2, Option.bind_some]
    simp only [if_some]
  · simp only [if_neg h]; unfold f_X6_dueOf_j23
    simp only [e0, e2, Option.bind_some]
    simp only [if_some]
theorem m_fades {M : zM} {i : Nat} (hi : i < 8) : f_X6_fadesBy (nI i) M = some (fadeF (nm (M 48) i 0)) := by
  have e0 : f_X6_nameIs (nI i) 0 M = some (nm (M 48) i 0) := m_nameIs (f := 0) hi (by omega)
  unfold f_X6_fadesBy fadeF
  rw [e0, Option.bind_some]
  repeat (first | rfl | split)
theorem m_hangs {M : zM} {i : Nat} (hi : i < 8) : f_X6_hangs (nI i) M = some (if 50 ≤ nm (M 48) i 2 then 0 else 1) := by
  have e2 : f_X6_nameIs (nI i) 2 M = some (nm (M 48) i 2) := m_nameIs (f := 2) hi (by omega)
  unfold f_X6_hangs
  rw [e2, Option.bind_some]
  split <;> rfl
