/-! THREE COLOURS DO: each name tells one foe at most. -/
/-- a loop that goes down by a measure -/
theorem zIter_mu {σ ρ : Type} {b : σ → Option (σ ⊕ ρ)} (I : σ → Prop) (μ : σ → Nat) (Q : ρ → Prop) (h : ∀ s, I s → (∃ s', b s = some (.inl s') ∧ I s' ∧ μ s' < μ s) ∨ ∃ r, b s = some (.inr r) ∧ Q r) : ∀ (n : Nat) (s : σ), μ s < n → I s → ∃ r, zIter b n s = some r ∧ Q r := by
  intro n
  induction n with
  | zero => intro s h0; omega
  | succ n ih =>
    intro s hm hi
    rcases h s hi with ⟨s', h1, h2, h3⟩ | ⟨r, h1, h2⟩
    · rw [zIter, h1]
      exact ih s' (by omega) h2
    · exact ⟨r, by simp [zIter, h1], h2⟩
/-- a set without another -/
def dif (s c : Nat) : Nat := s &&& (255 ^^^ c)
set_option maxRecDepth 100000 in
theorem dif_lt : ∀ s, s < 256 → ∀ c, c < 256 → dif s c < 256 := fun s hs c _ => Nat.lt_of_le_of_lt Nat.and_le_left hs
theorem bit_out {m i : Nat} (hm : m < 256) (h : m.testBit i = true) : i < 8 := by
  refine Nat.not_le.mp (fun hi => ?_)
  rw [Nat.testBit_lt_two_pow (Nat.lt_of_lt_of_le hm (Nat.pow_le_pow_right (by omega) hi : 2 ^ 8 ≤ 2 ^ i))] at h
  cases h
theorem b255 : ∀ i, i < 8 → (255 : Nat).testBit i = true := by decide
theorem dif_bit {s c i : Nat} (hs : s < 256) : (dif s c).testBit i = (s.testBit i && !c.testBit i) := by
  unfold dif
  rw [Nat.testBit_and, Nat.testBit_xor]
  cases h : s.testBit i with
  | false => rfl
  | true => rw [b255 i (bit_out hs h)]; simp
theorem set_ext {a b : Nat} (h : ∀ i, a.testBit i = b.testBit i) : a = b := Nat.eq_of_testBit_eq h
/-- the names of a set, as a predicate's mask -/
def mkM (p : Nat → Bool) : Nat → Nat
  | 0 => 0
  | k + 1 => if p k then mkM p k ||| 2 ^ k else mkM p k
theorem mkM_bit (p : Nat → Bool) : ∀ k, ∀ i, (mkM p k).testBit i = (decide (i < k) && p i) := by
  intro k
  induction k with
  | zero => intro i; simp [mkM]
  | succ k ih =>
    intro i
    unfold mkM
    by_cases h : p k = true
    · rw [if_pos h, Nat.testBit_or, ih, Nat.testBit_two_pow]
      by_cases hi : i = k
      · subst hi; simp [h]
      · have : (i < k) ↔ (i < k + 1) := by omega
        simp [this, Ne.symm hi]
    · rw [if_neg h, ih]
      by_cases hi : i = k
      · subst hi; simp [h]
      · have : (i < k) ↔ (i < k + 1) := by omega
        simp [this]
theorem mkM_lt (p : Nat → Bool) : mkM p 8 < 256 := by
  refine Nat.lt_pow_two_of_testBit (n := 8) _ (fun i hi => ?_)
  rw [mkM_bit, decide_eq_false (by omega), Bool.false_and]
/-- at most one -/
theorem sumN_pos {p : Nat → Prop} [DecidablePred p] : ∀ n x, x < n → p x → 1 ≤ sumN (fun u => if p u then 1 else 0) n := by
  intro n
  induction n with
  | zero => intro x hx; omega
  | succ n ih =>
    intro x hx h
    show 1 ≤ sumN _ n + if p n then 1 else 0
    by_cases e : x = n
    · subst e; rw [if_pos h]; omega
    · have := ih x (by omega) h; omega
theorem sumN_uniq {p : Nat → Prop} [DecidablePred p] : ∀ n, sumN (fun u => if p u then 1 else 0) n ≤ 1 → ∀ x, x < n → ∀ y, y < n → p x → p y → x = y := by
  intro n
  induction n with
  | zero => intro _ x hx; omega
  | succ n ih =>
    intro h x hx y hy px py
    have h' : sumN (fun u => if p u then 1 else 0) n + (if p n then 1 else 0) ≤ 1 := h
    by_cases e : x = n
    · by_cases e2 : y = n
      · omega
      · rw [e] at px
        have := sumN_pos n y (by omega) py
        rw [if_pos px] at h'; omega
    · by_cases e2 : y = n
      · rw [e2] at py
        have := sumN_pos n x (by omega) px
        rw [if_pos py] at h'; omega
      · exact ih (by omega) x (by omega) y (by omega) px py
theorem sumN_mono {f g : Nat → Nat} : ∀ n, (∀ i, i < n → f i ≤ g i) → sumN f n ≤ sumN g n := by
  intro n
  induction n with
  | zero => intro _; exact Nat.le_refl _
  | succ n ih =>
    intro h
    have := ih (fun i hi => h i (by omega))
    have := h n (by omega)
    show sumN f n + f n ≤ sumN g n + g n
    omega
/-- how many there are -/
abbrev cntN (p : Nat → Bool) (n : Nat) : Nat := sumN (fun v => if p v = true then 1 else 0) n
/-- somebody is told by one at most -/
theorem few (fo : Nat → Option Nat) (p : Nat → Bool) (n : Nat) (h : ∃ v, v < n ∧ p v = true) : ∃ v, v < n ∧ p v = true ∧ ∀ x, x < n → ∀ y, y < n → (p x = true ∧ fo x = some v) → (p y = true ∧ fo y = some v) → x = y := by
  refine Classical.byContradiction (fun hc => ?_)
  have two : ∀ v, v < n → p v = true → 2 ≤ sumN (fun u => if p u = true ∧ fo u = some v then 1 else 0) n := by
    intro v hv pv
    refine Nat.not_lt.mp (fun c => hc ⟨v, hv, pv, ?_⟩)
    exact sumN_uniq (p := fun u => p u = true ∧ fo u = some v) n (by omega)
  have low : sumN (fun v => (if p v = true then 1 else 0) + (if p v = true then 1 else 0)) n ≤ sumN (fun v => sumN (fun u => if p v = true ∧ p u = true ∧ fo u = some v then 1 else 0) n) n := by
    refine sumN_mono n (fun v hv => ?_)
    by_cases pv : p v = true
    · rw [if_pos pv]
      refine Nat.le_trans (two v hv pv) (Nat.le_of_eq (sumN_congr n (fun u _ => ?_)))
      by_cases q : p u = true ∧ fo u = some v
      · rw [if_pos q, if_pos ⟨pv, q⟩]
      · rw [if_neg q, if_neg (fun e => q e.2)]
    · rw [if_neg pv]; exact Nat.zero_le _
  have high : sumN (fun v => sumN (fun u => if p v = true ∧ p u = true ∧ fo u = some v then 1 else 0) n) n ≤ cntN p n := by
    rw [sumN_swap (fun v u => if p v = true ∧ p u = true ∧ fo u = some v then 1 else 0) n n]
    refine sumN_mono n (fun u hu => ?_)
    by_cases pu : p u = true
    · rw [if_pos pu]
      refine Nat.le_of_not_lt (fun c => ?_)
      have uq : sumN (fun v => if p v = true ∧ p u = true ∧ fo u = some v then 1 else 0) n ≤ 1 := by
        cases hf : fo u with
        | none => rw [sumN_congr (g := fun _ => 0) n (fun v _ => if_neg (fun e => by cases e.2.2)), sumN_zero]; omega
        | some f =>
          refine Nat.le_trans (sumN_mono (g := fun v => if (if f < n then some f else none : Option Nat) = some v then 1 else 0) n (fun v hv => ?_)) ?_
          · by_cases e : f = v
            · subst e; rw [if_pos hv, if_pos rfl]; split <;> omega
            · rw [if_neg (fun q => e (Option.some.inj q.2.2))]; exact Nat.zero_le _
          · rw [sumN_one (fun _ => 1) (if f < n then some f else none) n (fun g hg => by
              by_cases c : f < n
              · rw [if_pos c] at hg; cases hg; exact c
              · rw [if_neg c] at hg; cases hg)]
            split <;> omega
      omega
    · rw [if_neg pu, sumN_congr (g := fun _ => 0) n (fun v _ => if_neg (fun e => pu e.2.1)), sumN_zero]; exact Nat.le_refl 0
  have dbl : sumN (fun v => (if p v = true then 1 else 0) + (if p v = true then 1 else 0)) n = cntN p n + cntN p n := sumN_add _ _ n
  obtain ⟨v, hv, pv⟩ := h
  have := sumN_pos (p := fun v => p v = true) n v hv pv
  have e : cntN p n = sumN (fun u => if p u = true then 1 else 0) n := rfl
  omega
/-- a colour other than two -/
theorem third (a b : Nat) : ∃ c, c < 3 ∧ c ≠ a ∧ c ≠ b := by
  by_cases h0 : 0 ≠ a ∧ 0 ≠ b
  · exact ⟨0, by omega, h0.1, h0.2⟩
  · by_cases h1 : 1 ≠ a ∧ 1 ≠ b
    · exact ⟨1, by omega, h1.1, h1.2⟩
    · exact ⟨2, by omega, by omega, by omega⟩
theorem cnt_less (p : Nat → Bool) (v : Nat) : ∀ n, v < n → p v = true → cntN (fun x => p x && !decide (x = v)) n + 1 = cntN p n := by
  intro n
  induction n with
  | zero => intro h; omega
  | succ n ih =>
    intro hv pv
    show (cntN (fun x => p x && !decide (x = v)) n + if (p n && !decide (n = v)) = true then 1 else 0) + 1 = cntN p n + if p n = true then 1 else 0
    by_cases e : n = v
    · subst e
      rw [if_neg (by simp), if_pos pv]
      have : cntN (fun x => p x && !decide (x = n)) n = cntN p n := sumN_congr n (fun i hi => by
        have : i ≠ n := by omega
        simp [this])
      omega
    · have := ih (by omega) pv
      have e2 : ((p n && !decide (n = v)) = true) ↔ p n = true := by simp [e]
      by_cases pn : p n = true
      · rw [if_pos (e2.mpr pn), if_pos pn]; omega
      · rw [if_neg (fun q => pn (e2.mp q)), if_neg pn]; omega
/-- three colours -/
theorem colours (fo : Nat → Option Nat) (n : Nat) (hself : ∀ i, fo i ≠ some i) : ∀ k (p : Nat → Bool), cntN p n = k → ∃ col : Nat → Nat, (∀ x, col x < 3) ∧ ∀ x, x < n → ∀ y, y < n → p x = true → p y = true → fo x = some y → col x ≠ col y := by
  intro k
  induction k with
  | zero =>
    intro p hp
    refine ⟨fun _ => 0, fun _ => Nat.zero_lt_succ 2, fun x hx y hy px => ?_⟩
    have := sumN_pos (p := fun v => p v = true) n x hx px
    have e : cntN p n = sumN (fun u => if p u = true then 1 else 0) n := rfl
    omega
  | succ k ih =>
    intro p hp
    have hex : ∃ v, v < n ∧ p v = true := by
      refine Classical.byContradiction (fun hc => ?_)
      have : cntN p n = 0 := by
        show sumN _ n = 0
        rw [sumN_congr (g := fun _ => 0) n (fun v hv => if_neg (fun e => hc ⟨v, hv, e⟩)), sumN_zero]
      omega
    obtain ⟨v, hv, pv, one⟩ := few fo p n hex
    obtain ⟨col, c1, c2⟩ := ih (fun x => p x && !decide (x = v)) (by have := cnt_less p v n hv pv; omega)
    -- the two neighbours' colours
    have hu : ∃ a, ∀ x, x < n → p x = true → fo x = some v → col x = a := by
      by_cases hx : ∃ x, x < n ∧ p x = true ∧ fo x = some v
      · obtain ⟨x, h1, h2, h3⟩ := hx
        exact ⟨col x, fun y h4 h5 h6 => by rw [one x h1 y h4 ⟨h2, h3⟩ ⟨h5, h6⟩]⟩
      · exact ⟨0, fun y h4 h5 h6 => absurd ⟨y, h4, h5, h6⟩ hx⟩
    have hw : ∃ b, ∀ y, fo v = some y → col y = b := by
      cases hf : fo v with
      | none => exact ⟨0, fun y e => by cases e⟩
      | some f => exact ⟨col f, fun y e => by cases e; rfl⟩
    obtain ⟨a, ha⟩ := hu
    obtain ⟨b, hb⟩ := hw
    obtain ⟨c, hc, ca, cb⟩ := third a b
    refine ⟨fun x => if x = v then c else col x, fun x => ?_, fun x hx y hy px py hf => ?_⟩
    · show (if x = v then c else col x) < 3
      split
      · exact hc
      · exact c1 x
    · show (if x = v then c else col x) ≠ (if y = v then c else col y)
      by_cases ex : x = v
      · subst ex
        have ey : y ≠ x := fun e => hself x (by rw [hf, e])
        rw [if_pos rfl, if_neg ey, hb y hf]; exact cb
      · by_cases ey : y = v
        · subst ey
          rw [if_neg ex, if_pos rfl, ha x hx px hf]; exact Ne.symm ca
        · rw [if_neg ex, if_neg ey]
          exact c2 x hx y hy (by simp [px, ex]) (by simp [py, ey]) hf
