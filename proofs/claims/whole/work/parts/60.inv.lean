/-! WHAT ALWAYS HOLDS OF A ROW, and that a day keeps it. -/
/-- a number of 0 to b -/
def nb (x : Int32) (b : Nat) : Prop := ∃ k, k ≤ b ∧ x = nI k
theorem nb_mono {x : Int32} {a b : Nat} (h : nb x a) (hab : a ≤ b) : nb x b := by obtain ⟨k, h1, h2⟩ := h; exact ⟨k, by omega, h2⟩
def okA (A : Nat → Int32) (D : Nat) : Prop :=
  okN A ∧ okW A ∧ okF A ∧ nb (A 0) D ∧ nb (A 3) 719 ∧ nb (A 4) 99999 ∧ (∀ i, i < 8 → nb (nm A i 0) 6 ∧ nb (nm A i 1) 99 ∧ nb (nm A i 2) 99 ∧ nb (nm A i 3) 99999) ∧ (∀ p, p < 6 → nb (A (55 + p)) 9999) ∧ (∀ i, i < 10 → A (5 + i) = -1 ∨ ∃ j, j < nn A ∧ A (5 + i) = nI j) ∧ ∀ j, 67 ≤ j → A j = 0
theorem okA_mono {A : Nat → Int32} {D E : Nat} (h : okA A D) (hD : D ≤ E) : okA A E := ⟨h.1, h.2.1, h.2.2.1, nb_mono h.2.2.2.1 hD, h.2.2.2.2⟩
theorem nI_dec {a b : Nat} (ha : a < 2 ^ 31) (hb : b < 2 ^ 31) : (nI a < nI b) ↔ a < b := nI_ltI ha hb
theorem minI_nb {a b : Nat} (ha : a < 2 ^ 31) (hb : b < 2 ^ 31) : minI (nI a) (nI b) = nI (min a b) := by
  unfold minI
  by_cases h : b < a
  · rw [if_pos ((nI_dec hb ha).mpr h), Nat.min_eq_right (by omega)]
  · rw [if_neg (fun c => h ((nI_dec hb ha).mp c)), Nat.min_eq_left (by omega)]
theorem due_nb {k d w b : Int32} (hk : nb k 6) (hd : nb d 99) (hw : nb w 99) : nb (dueF k d w b) 300 := by
  obtain ⟨k, hk, rfl⟩ := hk
  obtain ⟨d, hd, rfl⟩ := hd
  obtain ⟨w, hw, rfl⟩ := hw
  have e10 : nI w / 10 = nI (w / 10) := pk_div (d := 10) (by omega) (by omega) (by omega)
  have e2 : (2 : Int32) * nI d = nI (2 * d) := pk_mul 2 d
  have eh : ∀ x, x < 2 ^ 31 → nI x / 2 = nI (x / 2) := fun x hx => pk_div (d := 2) hx (by omega) (by omega)
  have e5 : ∀ x, nI x + 5 = nI (x + 5) := fun x => nI_add x 5
  unfold dueF
  rw [e10, e2, nI_add, e5]
  repeat' split
  · exact ⟨_, by omega, rfl⟩
  · exact ⟨_, by omega, rfl⟩
  · exact ⟨_, by omega, rfl⟩
  · exact ⟨0, by omega, rfl⟩
  · rw [eh _ (by omega)]; exact ⟨_, by omega, rfl⟩
  · exact ⟨0, by omega, by decide⟩
  · rw [eh _ (by omega)]; exact ⟨_, by omega, rfl⟩
  · exact ⟨_, by omega, rfl⟩
  · exact ⟨_, by omega, rfl⟩
theorem fade_nb (k : Int32) : nb (fadeF k) 4 := by
  unfold fadeF
  repeat' split
  · exact ⟨2, by omega, rfl⟩
  · exact ⟨3, by omega, rfl⟩
  · exact ⟨4, by omega, rfl⟩
  · exact ⟨1, by omega, rfl⟩
theorem okA_due {A : Nat → Int32} {D j : Nat} (h : okA A D) (hj : j < 8) : nb (dueA A j) 300 := by
  obtain ⟨h1, h2, h3, -⟩ := h.2.2.2.2.2.2.1 j hj
  exact due_nb h1 h2 h3
theorem paid_nb {A : Nat → Int32} {D j p : Nat} (h : okA A D) (hj : j < 8) (hp : p < 6) : ∃ d u : Nat, d ≤ 300 ∧ u ≤ 9999 ∧ dueA A j = nI d ∧ A (55 + p) = nI u ∧ paid A p j = nI (min d u) := by
  obtain ⟨d, hd, e1⟩ := okA_due h hj
  obtain ⟨u, hu, e2⟩ := h.2.2.2.2.2.2.2.1 p hp
  exact ⟨d, u, hd, hu, e1, e2, by unfold paid; rw [e1, e2, minI_nb (by omega) (by omega)]⟩
theorem sumN_le (f : Nat → Nat) (c : Nat) : ∀ n, (∀ i, i < n → f i ≤ c) → sumN f n ≤ n * c := by
  intro n
  induction n with
  | zero => intro _; exact Nat.zero_le _
  | succ n ih =>
    intro h
    have h1 := ih (fun i hi => h i (by omega))
    have h2 := h n (by omega)
    rw [Nat.succ_mul]
    show sumN f n + f n ≤ _
    omega
theorem pairs_le {A : Nat → Int32} (hn : okN A) (m : Nat) : pairsN A m ≤ 8 := by
  have h := sumN_le (hitN A m) 1 (nn A) (fun i _ => by
    unfold hitN
    cases foeO A i with
    | none => exact Nat.zero_le _
    | some f => simp only []; split <;> omega)
  have := hn.2
  unfold pairsN
  omega
theorem okA_day {A : Nat → Int32} {D o : Nat} (h : okA A D) (ho : o < 720) (hD : D < 2000000) : okA (dayA A o) (D + 1) := by
  obtain ⟨hn, hw, hF, h0, h3, h4, hnm, hpu, hsp, hz⟩ := id h
  have lo : ∀ i, i < 15 → i ≠ 0 → i ≠ 4 → dayA A o i = A i := fun i h1 h2 h3 => by
    unfold dayA; rw [upd_at, if_neg h2, upd_at, if_neg h3, rwX_lo _ _ _ _ h1]
  have hi : ∀ i, 61 ≤ i → dayA A o i = A i := fun i h1 => by
    unfold dayA; rw [upd_at, if_neg (by omega), upd_at, if_neg (by omega), rwX_hi _ _ _ _ h1]
  have mid : ∀ i, 15 ≤ i → dayA A o i = rwX A (puK A o 6) (deK A o 6) (weK A o 6) i := fun i h1 => by
    unfold dayA; rw [upd_at, if_neg (by omega), upd_at, if_neg (by omega)]
  have hnn : nn (dayA A o) = nn A := nn_congr (lo 1 (by omega) (by omega) (by omega))
  have hfoe : ∀ i f, i < 8 → f < 5 → f ≠ 2 → f ≠ 3 → nm (dayA A o) i f = nm A i f := fun i f h1 h2 h3 h4 => by
    show dayA A o _ = _
    rw [mid _ (by omega)]; exact rwX_nm _ _ _ _ h1 h2 h3 h4
  refine ⟨?_, ?_, ?_, ?_, ?_, ?_, ?_, ?_, ?_, ?_⟩
  · unfold okN; rw [hnn, lo 1 (by omega) (by omega) (by omega)]; exact hn
  · intro p hp; rw [hi _ (by omega), hnn]; exact hw p hp
  · intro i hi9
    rw [hnn] at hi9 ⊢
    rw [hfoe i 4 (by have := hn.2; omega) (by omega) (by omega) (by omega)]
    exact hF i hi9
  · obtain ⟨d, hd, e⟩ := h0
    refine ⟨d + 1, by omega, ?_⟩
    unfold dayA; rw [upd_at, if_pos rfl, e, nI_1]
  · rw [lo 3 (by omega) (by omega) (by omega)]; exact h3
  · obtain ⟨q, hq, e⟩ := h4
    have hp8 := pairs_le hn (setK A o 6)
    refine ⟨min 99999 (q + pairsN A (setK A o 6)), by omega, ?_⟩
    unfold dayA; rw [upd_at, if_neg (by omega), upd_at, if_pos rfl, e, nI_add]
    exact minI_nb (a := 99999) (by omega) (by omega)
  · intro i hi8
    obtain ⟨n0, n1, n2, n3⟩ := hnm i hi8
    refine ⟨by rw [hfoe i 0 hi8 (by omega) (by omega) (by omega)]; exact n0, by rw [hfoe i 1 hi8 (by omega) (by omega) (by omega)]; exact n1, ?_, ?_⟩
    · have e : nm (dayA A o) i 2 = weK A o 6 i := by
        show dayA A o _ = _
        rw [mid _ (by omega)]; exact rwX_we _ _ _ _ hi8
      rw [e]
      unfold weK
      cases who A o 6 i with
      | none => exact n2
      | some p =>
        obtain ⟨w, hw9, ew⟩ := n2
        obtain ⟨f, hf9, ef⟩ := fade_nb (nm A i 0)
        refine ⟨min 99 (w + f), by omega, ?_⟩
        simp only []
        rw [ew, ef, nI_add]
        exact minI_nb (a := 99) (by omega) (by omega)
    · have e : nm (dayA A o) i 3 = deK A o 6 i := by
        show dayA A o _ = _
        rw [mid _ (by omega)]; exact rwX_de _ _ _ _ hi8
      rw [e]
      unfold deK
      cases hc : who A o 6 i with
      | none => exact n3
      | some p =>
        obtain ⟨b, hb9, eb⟩ := n3
        obtain ⟨d, u, hd, hu, e1, e2, e3⟩ := paid_nb h hi8 (who_some 6 hc).1
        refine ⟨min 99999 (b + d - min d u), by omega, ?_⟩
        simp only []
        rw [eb, e1, e3, nI_add, pk_sub (by omega)]
        exact minI_nb (a := 99999) (by omega) (by omega)
  · intro p hp
    have e : dayA A o (55 + p) = puK A o 6 p := by
      rw [mid _ (by omega)]; exact rwX_pu _ _ _ _ hp
    rw [e]
    unfold puK
    rw [if_pos hp]
    cases hc : drP A o p with
    | none => exact hpu p hp
    | some j =>
      have hj8 : j < 8 := by have := (drP_spec hn hw ho hp hc).1; have := hn.2; omega
      obtain ⟨d, u, hd, hu, e1, e2, e3⟩ := paid_nb h hj8 hp
      refine ⟨u - min d u, by omega, ?_⟩
      simp only []
      rw [e2, e3, pk_sub (by omega)]
  · intro i hi9
    rw [lo _ (by omega) (by omega) (by omega), hnn]
    exact hsp i hi9
  · intro j hj; rw [hi _ (by omega)]; exact hz j hj
/-- days, on a row -/
def orderN (A : Nat → Int32) : Nat := (A 3).toNatClampNeg
theorem okA_order {A : Nat → Int32} {D : Nat} (h : okA A D) : orderN A < 720 ∧ A 3 = nI (orderN A) := by
  obtain ⟨o, ho, e⟩ := h.2.2.2.2.1
  have : orderN A = o := by unfold orderN; rw [e, nI_clamp (by omega)]
  rw [this]; exact ⟨by omega, e⟩
noncomputable def daysA (A : Nat → Int32) : Nat → Nat → Int32
  | 0 => A
  | k + 1 => dayA (daysA A k) (orderN (daysA A k))
theorem okA_days {A : Nat → Int32} {D : Nat} (h : okA A D) : ∀ k, D + k < 2000000 → okA (daysA A k) (D + k) := by
  intro k
  induction k with
  | zero => intro _; exact h
  | succ k ih =>
    intro hk
    have h1 := ih (by omega)
    exact okA_day h1 (okA_order h1).1 (show D + k < 2000000 by omega)
