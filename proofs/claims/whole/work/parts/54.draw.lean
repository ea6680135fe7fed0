/-! DRAWING: who draws which name. -/
def okW (A : Nat → Int32) : Prop := ∀ p, p < 6 → A (61 + p) = -1 ∨ ∃ w, w < nn A ∧ A (61 + p) = nI w
def iv : Option Nat → Int32
  | none => -1
  | some j => nI j
def lowO (f : Nat) : Option Nat := if f = 0 then none else some (lowb f)
def pickA (A : Nat → Int32) (f p : Nat) : Option Nat := if A (61 + p) < 0 then lowO f else if f.testBit (A (61 + p)).toNatClampNeg then some (A (61 + p)).toNatClampNeg else lowO f
def subO (f : Nat) : Option Nat → Nat
  | none => f
  | some j => f ^^^ 2 ^ j
/-- what is left on the rail, k places drawn -/
def frA (A : Nat → Int32) (o : Nat) : Nat → Nat
  | 0 => hung A
  | k + 1 => subO (frA A o k) (pickA A (frA A o k) (st o k))
/-- what is drawn at place k -/
def drA (A : Nat → Int32) (o k : Nat) : Option Nat := pickA A (frA A o k) (st o k)
theorem x_lt : ∀ m, m < 256 → ∀ k, k < 8 → m ^^^ 2 ^ k < 256 := by decide +kernel
theorem x_and : ∀ m, m < 256 → ∀ k, k < 8 → m.testBit k = true → nI m &&& ((1 <<< (nI k &&& 31)) ^^^ (-1)) = nI (m ^^^ 2 ^ k) := by decide +kernel
theorem low_is : ∀ f, f < 256 → ∀ k, k < 8 → f.testBit k = true → (∀ j, j < k → f.testBit j = false) → lowO f = some k := by decide +kernel
theorem low_no : ∀ f, f < 256 → (∀ j, j < 8 → f.testBit j = false) → f = 0 := by decide +kernel
theorem lowO_spec {f j : Nat} (hf : f < 256) (h : lowO f = some j) : j < 8 ∧ f.testBit j = true := by
  unfold lowO at h
  by_cases h0 : f = 0
  · rw [if_pos h0] at h; cases h
  · rw [if_neg h0] at h; cases h
    exact ⟨(low_lt f hf h0).1, (low_lt f hf h0).2.1⟩
theorem pick_spec {A : Nat → Int32} {f p j : Nat} (hn : okN A) (hw : okW A) (hp : p < 6) (hf : f < 256) (h : pickA A f p = some j) : j < 8 ∧ f.testBit j = true := by
  unfold pickA at h
  by_cases h1 : A (61 + p) < 0
  · rw [if_pos h1] at h; exact lowO_spec hf h
  · rw [if_neg h1] at h
    by_cases h2 : f.testBit (A (61 + p)).toNatClampNeg = true
    · rw [if_pos h2] at h; cases h
      refine ⟨?_, h2⟩
      rcases hw p hp with e | ⟨w, hw1, e⟩
      · rw [e] at h1; exact absurd (by decide) h1
      · rw [e, nI_clamp (by have := hn.2; omega)]; have := hn.2; omega
    · rw [if_neg h2] at h; exact lowO_spec hf h
theorem fr_lt {A : Nat → Int32} {o : Nat} (hn : okN A) (hw : okW A) (ho : o < 720) : ∀ k, k ≤ 6 → frA A o k < 256 ∧ ∀ i, (frA A o k).testBit i = true → (hung A).testBit i = true := by
  intro k
  induction k with
  | zero => intro _; exact ⟨hung_lt hn, fun i h => h⟩
  | succ k ih =>
    intro hk
    obtain ⟨h1, h2⟩ := ih (by omega)
    show subO _ _ < 256 ∧ ∀ i, (subO _ _).testBit i = true → _
    cases hp : pickA A (frA A o k) (st o k) with
    | none => exact ⟨h1, h2⟩
    | some j =>
      obtain ⟨h3, h4⟩ := pick_spec hn hw (st_lt ho (by omega)) h1 hp
      refine ⟨x_lt _ h1 j h3, fun i hi => ?_⟩
      simp only [subO, Nat.testBit_xor, Nat.testBit_two_pow] at hi
      by_cases hij : j = i
      · subst hij; exact h2 _ h4
      · simp [hij] at hi; exact h2 i hi
theorem dr_spec {A : Nat → Int32} {o k j : Nat} (hn : okN A) (hw : okW A) (ho : o < 720) (hk : k < 6) (h : drA A o k = some j) : j < 8 ∧ (frA A o k).testBit j = true := pick_spec hn hw (st_lt ho hk) (fr_lt hn hw ho k (by omega)).1 h
/-- no name is drawn twice -/
theorem fr_keep {A : Nat → Int32} {o : Nat} (hn : okN A) (hw : okW A) (ho : o < 720) {i : Nat} : ∀ d k, k + d ≤ 6 → (frA A o k).testBit i = false → (frA A o (k + d)).testBit i = false := by
  intro d
  induction d with
  | zero => intro k _ h; exact h
  | succ d ih =>
    intro k hk h
    have h1 := ih k (by omega) h
    show (subO (frA A o (k + d)) (pickA A (frA A o (k + d)) (st o (k + d)))).testBit i = false
    cases hp : pickA A (frA A o (k + d)) (st o (k + d)) with
    | none => exact h1
    | some j =>
      obtain ⟨h3, h4⟩ := pick_spec hn hw (st_lt ho (by omega)) (fr_lt hn hw ho (k + d) (by omega)).1 hp
      simp only [subO, Nat.testBit_xor, Nat.testBit_two_pow, h1]
      by_cases hij : j = i
      · subst hij; rw [h1] at h4; cases h4
      · simp [hij]
theorem dr_lt {A : Nat → Int32} {o k l i j : Nat} (hn : okN A) (hw : okW A) (ho : o < 720) (hkl : k < l) (hl : l < 6) (h1 : drA A o k = some i) (h2 : drA A o l = some j) : i ≠ j := by
  intro e
  subst e
  obtain ⟨h3, h4⟩ := dr_spec hn hw ho (by omega) h1
  have h5 : (frA A o (k + 1)).testBit i = false := by
    show (subO (frA A o k) (pickA A (frA A o k) (st o k))).testBit i = false
    have h1' : pickA A (frA A o k) (st o k) = some i := h1
    rw [h1']
    simp [subO, Nat.testBit_xor, Nat.testBit_two_pow, h4]
  have h6 := fr_keep hn hw ho (l - (k + 1)) (k + 1) (by omega) h5
  rw [show k + 1 + (l - (k + 1)) = l by omega] at h6
  rw [(dr_spec hn hw ho hl h2).2] at h6
  cases h6
theorem dr_apart {A : Nat → Int32} {o k l i : Nat} (hn : okN A) (hw : okW A) (ho : o < 720) (hk : k < 6) (hl : l < 6) (h1 : drA A o k = some i) (h2 : drA A o l = some i) : k = l := by
  rcases Nat.lt_trichotomy k l with h | h | h
  · exact absurd rfl (dr_lt hn hw ho h hl h1 h2)
  · exact h
  · exact absurd rfl (dr_lt hn hw ho h hk h2 h1)
/-- the class draws -/
theorem h_draw {M : zM} {t o : Nat} (h : isH t) (ho : o < 720) (hn : okN (hrow M t)) (hw : okW (hrow M t)) : ∃ M', f_X0_draw t (nI o) M = some M' ∧ (∀ k, k < 6 → M' (t + 10) (st o k) = iv (drA (hrow M t) o k)) ∧ (∀ a, a ≠ t + 9 → a ≠ t + 10 → M' a = M a) := by
  obtain ⟨-, -, -, -, -, -, h7, -, h9, h10⟩ := shA h
  obtain ⟨M1, e1, hl1, hf1⟩ := h_lineUp (M := M) h ho
  have hr1 : hrow M1 t = hrow M t := by
    refine hrow_congr ?_ (fun i hi => ?_) (fun f hf i hi => ?_) (fun p hp => ?_) (fun p hp => ?_)
    · rw [hf1 t (by omega)]; exact ⟨rfl, rfl, rfl, rfl, rfl⟩
    · rw [hf1 _ (by omega)]
    · rw [hf1 _ (by omega)]
    · rw [hf1 _ (by omega)]
    · rw [hf1 _ (by omega)]
  unfold f_X0_draw
  rw [e1, Option.bind_some, h_hanging h (by rw [hr1]; exact hn), hr1, Option.bind_some]
  generalize hA : hrow M t = A at hn hw hr1
  refine zIter_inv (fun k s => ∃ N : zM, s = (nI (frA A o k), nI k, N) ∧ (∀ j, j < k → N (t + 10) (st o j) = iv (drA A o j)) ∧ ∀ a, a ≠ t + 10 → N a = M1 a) _ 6 1000 _ (by omega) ⟨M1, rfl, fun j hj => by omega, fun _ _ => rfl⟩ (fun k s hk hI => ?_) (fun s hI => ?_)
  · obtain ⟨N, rfl, hN, hF⟩ := hI
    obtain ⟨f1, f2⟩ := fr_lt hn hw ho k (by omega)
    have hp6 := st_lt ho hk
    have el : N (t + 9) k = nI (st o k) := by rw [hF _ (by omega)]; exact hl1 k hk
    have ew : N (t + 7) (st o k) = A (61 + st o k) := by rw [hF _ (by omega), ← hr1, hrow_wish _ _ hp6]
    -- the end of a round, whatever is drawn
    have fin : drA A o k = pickA A (frA A o k) (st o k) → ∃ s', f_X0_draw_j91 t (nI (frA A o k)) (nI k) (nI (st o k)) (iv (drA A o k)) N = some (.inl s') ∧ ∃ N : zM, s' = (nI (frA A o (k + 1)), nI (k + 1), N) ∧ (∀ j, j < k + 1 → N (t + 10) (st o j) = iv (drA A o j)) ∧ ∀ a, a ≠ t + 10 → N a = M1 a := by
      intro _
      unfold f_X0_draw_j91
      rw [wr h10 hp6, Option.bind_some]
      have hnew : ∀ j, j < k + 1 → zU N (t + 10) (st o k) (iv (drA A o k)) (t + 10) (st o j) = iv (drA A o j) := by
        intro j hj
        rw [zU_at]
        by_cases hjk : j = k
        · subst hjk; rw [if_pos ⟨rfl, rfl⟩]
        · rw [if_neg (fun hc => hjk (st_inj o ho j (by omega) k hk hc.2)), hN j (by omega)]
      have hfr : ∀ a, a ≠ t + 10 → zU N (t + 10) (st o k) (iv (drA A o k)) a = M1 a := fun a ha => (zU_off ha).trans (hF a ha)
      cases hd : drA A o k with
      | none =>
        have e : frA A o (k + 1) = frA A o k := by show subO _ (drA A o k) = _; rw [hd]; rfl
        rw [hd] at hnew hfr
        rw [if_pos (show iv none < 0 by decide), nI_1, Option.bind_some]
        exact ⟨_, rfl, _, by rw [e], hnew, hfr⟩
      | some j =>
        obtain ⟨h3, h4⟩ := dr_spec hn hw ho hk hd
        have e : frA A o (k + 1) = frA A o k ^^^ 2 ^ j := by show subO _ (drA A o k) = _; rw [hd]; rfl
        rw [hd] at hnew hfr
        rw [if_neg (show ¬ iv (some j) < 0 from nI_pos (by omega)), nI_1]
        show ∃ s', ((some (nI (frA A o k) &&& ((1 <<< (nI j &&& 31)) ^^^ (-1)))).bind _) = _ ∧ _
        rw [x_and _ f1 j h3 h4, Option.bind_some, Option.bind_some]
        exact ⟨_, rfl, _, by rw [e], hnew, hfr⟩
    have hlow : ∀ (c : pickA A (frA A o k) (st o k) = lowO (frA A o k)), f_X0_draw_j81 t (nI (frA A o k)) (nI k) (nI (st o k)) (-1) N = f_X0_draw_j91 t (nI (frA A o k)) (nI k) (nI (st o k)) (iv (drA A o k)) N := by
      intro c
      unfold f_X0_draw_j81
      have hd : drA A o k = lowO (frA A o k) := c
      by_cases h0 : frA A o k = 0
      · rw [if_pos (by rw [h0]; rfl), hd, lowO, if_pos h0]; rfl
      · rw [if_neg (nI_ne0 (by omega) (by omega)), h_lowest f1 h0, Option.bind_some, hd, lowO, if_neg h0]; rfl
    rw [f_X0_draw_l12, if_neg (show ¬ (6 : Int32) ≤ nI k from nI_ge (b := 6) hk (by decide)), rd h9 hk, Option.bind_some, el, if_neg (nI_pos (by omega)), if_pos (show nI (st o k) < (6 : Int32) from nI_lt (b := 6) hp6 (by decide)), rd h7 hp6, Option.bind_some, ew, Option.bind_some]
    by_cases h1 : A (61 + st o k) < 0
    · rw [if_pos h1, hlow (by unfold pickA; rw [if_pos h1])]
      exact fin rfl
    · rw [if_neg h1]
      rcases hw _ hp6 with e | ⟨w, hw1, e⟩
      · rw [e] at h1; exact absurd (by decide) h1
      · have hw8 : w < 8 := by have := hn.2; omega
        have ec : (A (61 + st o k)).toNatClampNeg = w := by rw [e, nI_clamp (by omega)]
        rw [e, bit_c _ f1 w hw8]
        by_cases hb : (frA A o k).testBit w = true
        · rw [if_pos hb, if_pos rfl, Option.bind_some]
          have hd : drA A o k = some w := by
            unfold drA pickA; rw [if_neg h1, ec, if_pos hb]
          have := fin rfl
          rw [hd] at this
          exact this
        · rw [if_neg hb, if_neg (by decide), hlow (by unfold pickA; rw [if_neg h1, ec, if_neg hb])]
          exact fin rfl
  · obtain ⟨N, rfl, hN, hF⟩ := hI
    rw [f_X0_draw_l12, if_pos (show (6 : Int32) ≤ nI 6 from nI_le (Nat.le_refl _) (by omega))]
    exact ⟨_, rfl, hN, fun a h1 h2 => (hF a h2).trans (hf1 a h1)⟩
