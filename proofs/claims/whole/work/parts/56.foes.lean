/-! QUARRELS. -/
def okF (A : Nat → Int32) : Prop := ∀ i, i < nn A → nm A i 4 = -1 ∨ ∃ f, f < nn A ∧ f ≠ i ∧ nm A i 4 = nI f
def foeO (A : Nat → Int32) (i : Nat) : Option Nat := if nm A i 4 < 0 then none else some (nm A i 4).toNatClampNeg
def sumN (f : Nat → Nat) : Nat → Nat
  | 0 => 0
  | k + 1 => sumN f k + f k
theorem sumN_add (f g : Nat → Nat) : ∀ n, sumN (fun i => f i + g i) n = sumN f n + sumN g n := by
  intro n
  induction n with
  | zero => rfl
  | succ n ih => simp only [sumN, ih]; omega
theorem sumN_congr {f g : Nat → Nat} : ∀ n, (∀ i, i < n → f i = g i) → sumN f n = sumN g n := by
  intro n
  induction n with
  | zero => intro _; rfl
  | succ n ih => intro h; simp only [sumN, ih (fun i hi => h i (by omega)), h n (by omega)]
theorem sumN_zero : ∀ n, sumN (fun _ => 0) n = 0 := by
  intro n
  induction n with
  | zero => rfl
  | succ n ih => simp only [sumN, ih]
/-- a square's sum by its triangle -/
theorem sumN_tri (X : Nat → Nat → Nat) : ∀ n, sumN (fun i => sumN (fun j => X i j) n) n = sumN (fun a => sumN (fun b => X a b + X b a) a + X a a) n := by
  intro n
  induction n with
  | zero => rfl
  | succ n ih =>
    have h1 : sumN (fun i => sumN (fun j => X i j) (n + 1)) n = sumN (fun i => sumN (fun j => X i j) n) n + sumN (fun i => X i n) n := by
      rw [← sumN_add]; rfl
    show sumN (fun i => sumN (fun j => X i j) (n + 1)) n + (sumN (fun j => X n j) n + X n n) = sumN (fun a => sumN (fun b => X a b + X b a) a + X a a) n + (sumN (fun b => X n b + X b n) n + X n n)
    rw [h1, ih, sumN_add (fun b => X n b) (fun b => X b n) n]
    omega
/-- at most one is hit -/
theorem sumN_one (c : Nat → Nat) (o : Option Nat) : ∀ n, (∀ f, o = some f → f < n) → sumN (fun j => if o = some j then c j else 0) n = match o with | none => 0 | some f => c f := by
  intro n
  cases o with
  | none => intro _; simp [sumN_zero]
  | some f =>
    intro h
    have hf := h f rfl
    have key : ∀ n, sumN (fun j => if (some f : Option Nat) = some j then c j else 0) n = if f < n then c f else 0 := by
      intro n
      induction n with
      | zero => rfl
      | succ n ih =>
        simp only [sumN, ih]
        by_cases h1 : f < n
        · rw [if_pos h1, if_neg (by intro e; cases e; omega), if_pos (by omega)]; rfl
        · by_cases h2 : f = n
          · subst h2; rw [if_neg (by omega), if_pos rfl, if_pos (by omega), Nat.zero_add]
          · rw [if_neg h1, if_neg (by intro e; cases e; omega), if_neg (by omega)]
    rw [key, if_pos hf]
def hitN (A : Nat → Int32) (m i : Nat) : Nat := match foeO A i with
  | none => 0
  | some f => if m.testBit i = true ∧ m.testBit f = true ∧ (i < f ∨ foeO A f ≠ some i) then 1 else 0
def pairsN (A : Nat → Int32) (m : Nat) : Nat := sumN (hitN A m) (nn A)
def qu (A : Nat → Int32) (m a b : Nat) : Nat := if m.testBit a = true ∧ m.testBit b = true ∧ (foeO A a = some b ∨ foeO A b = some a) then 1 else 0
def qN (A : Nat → Int32) (m : Nat) : Nat := sumN (fun a => sumN (fun b => qu A m a b) a) (nn A)
theorem foeO_lt {A : Nat → Int32} (hF : okF A) (hn : okN A) {i f : Nat} (hi : i < nn A) (h : foeO A i = some f) : f < nn A ∧ f ≠ i ∧ nm A i 4 = nI f := by
  unfold foeO at h
  rcases hF i hi with e | ⟨g, h1, h2, e⟩
  · rw [e] at h; cases h
  · rw [e, if_neg (nI_pos (by have := hn.2; omega)), nI_clamp (by have := hn.2; omega)] at h
    cases h; exact ⟨h1, h2, e⟩
theorem foeO_none {A : Nat → Int32} (hF : okF A) (hn : okN A) {i : Nat} (hi : i < nn A) (h : foeO A i = none) : nm A i 4 = -1 := by
  unfold foeO at h
  rcases hF i hi with e | ⟨g, h1, h2, e⟩
  · exact e
  · rw [e, if_neg (nI_pos (by have := hn.2; omega))] at h; cases h
theorem pairs_eq {A : Nat → Int32} (hF : okF A) (hn : okN A) (m : Nat) : pairsN A m = qN A m := by
  have h1 : pairsN A m = sumN (fun i => sumN (fun j => if foeO A i = some j then (if m.testBit i = true ∧ m.testBit j = true ∧ (i < j ∨ foeO A j ≠ some i) then 1 else 0) else 0) (nn A)) (nn A) := by
    refine sumN_congr _ (fun i hi => ?_)
    rw [sumN_one _ (foeO A i) (nn A) (fun f hf => (foeO_lt hF hn hi hf).1)]
    unfold hitN
    cases foeO A i <;> rfl
  rw [h1, sumN_tri]
  refine sumN_congr _ (fun a ha => ?_)
  rw [if_neg (fun e => (foeO_lt hF hn ha e).2.1 rfl), Nat.add_zero]
  refine sumN_congr _ (fun b hb => ?_)
  have hb2 : b < nn A := by omega
  unfold qu
  have c1 : ¬ a < b := by omega
  by_cases h2 : foeO A a = some b <;> by_cases h3 : foeO A b = some a <;> by_cases h4 : m.testBit a = true <;> by_cases h5 : m.testBit b = true <;> simp [h2, h3, h4, h5, c1, hb]
theorem nI_e1 {a b : Nat} (ha : a < 8) (hb : b < 8) : (nI a = nI b) ↔ a = b := nI_eq (by omega) (by omega)
theorem m_quarrel {M : zM} {a b : Nat} (hF : okF (M 48)) (hn : okN (M 48)) (ha : a < nn (M 48)) (hb : b < nn (M 48)) : f_X6_doQuarrel (nI a) (nI b) M = some (if foeO (M 48) a = some b ∨ foeO (M 48) b = some a then 1 else 0) := by
  have h8 := hn.2
  have e1 : f_X6_nameIs (nI a) 4 M = some (nm (M 48) a 4) := m_nameIs (f := 4) (by omega) (by omega)
  have e2 : f_X6_nameIs (nI b) 4 M = some (nm (M 48) b 4) := m_nameIs (f := 4) (by omega) (by omega)
  have key : ∀ {x y : Nat}, x < nn (M 48) → y < nn (M 48) → ((nm (M 48) x 4 = nI y) ↔ foeO (M 48) x = some y) := by
    intro x y hx hy
    constructor
    · intro e
      unfold foeO
      rw [e, if_neg (nI_pos (by omega)), nI_clamp (by omega)]
    · intro e
      exact (foeO_lt hF hn hx e).2.2
  unfold f_X6_doQuarrel
  rw [e1, Option.bind_some]
  by_cases h1 : foeO (M 48) a = some b
  · rw [if_pos ((key ha hb).mpr h1), if_pos (Or.inl h1)]
  · rw [if_neg (fun e => h1 ((key ha hb).mp e)), e2, Option.bind_some]
    by_cases h2 : foeO (M 48) b = some a
    · rw [if_pos ((key hb ha).mpr h2), if_pos (Or.inr h2)]
    · rw [if_neg (fun e => h2 ((key hb ha).mp e)), if_neg (fun e => e.elim h1 h2)]
theorem m_quarrelsIn {M : zM} {m : Nat} (hm : m < 256) (hF : okF (M 48)) (hn : okN (M 48)) : f_X6_quarrelsIn (nI m) M = some (nI (qN (M 48) m)) := by
  have h8 := hn.2
  unfold f_X6_quarrelsIn qN
  refine zIter_steps (fun k => (nI (sumN (fun a => sumN (fun b => qu (M 48) m a b) a) k), nI k)) (nn (M 48)) 1000 _ (by omega) (fun a ha => ?_) ?_
  · rw [f_X6_quarrelsIn_l4, m_names hn, Option.bind_some, if_neg (nI_ge ha (by omega))]
    refine zIter_steps (fun b => (nI (sumN (fun a => sumN (fun b => qu (M 48) m a b) a) a + sumN (fun b => qu (M 48) m a b) b), nI b)) a 1000 _ (by omega) (fun b hb => ?_) ?_
    · have j0 : ∀ x, f_X6_quarrelsIn_j55 (nI m) (nI a) (nI b) x M = some (.inl (x, nI (b + 1))) := fun x => by
        unfold f_X6_quarrelsIn_j55
        rw [Int32.add_zero, nI_1]; rfl
      rw [f_X6_quarrelsIn_l17, if_neg (nI_ge hb (by omega)), m_has hm (by omega), Option.bind_some]
      show _ = some (Sum.inl (nI (_ + (sumN (fun b => qu (M 48) m a b) b + qu (M 48) m a b)), _))
      unfold qu
      by_cases h4 : m.testBit a = true
      · rw [if_pos h4, if_neg (by decide), m_has hm (by omega), Option.bind_some]
        by_cases h5 : m.testBit b = true
        · rw [if_pos h5, if_neg (by decide), m_quarrel hF hn ha (by omega), Option.bind_some]
          by_cases h6 : foeO (M 48) a = some b ∨ foeO (M 48) b = some a
          · rw [if_pos h6, if_neg (by decide), if_pos ⟨h4, h5, h6⟩, nI_1, Option.bind_some, nI_1, Option.bind_some, Nat.add_assoc]
          · rw [if_neg h6, if_pos rfl, if_neg (fun e => h6 e.2.2), j0]; rfl
        · rw [if_neg h5, if_pos rfl, if_neg (fun e => h5 e.2.1), j0]; rfl
      · rw [if_neg h4, if_pos rfl, if_neg (fun e => h4 e.1), j0]; rfl
    · rw [f_X6_quarrelsIn_l17, if_pos (nI_le (Nat.le_refl _) (by omega)), nI_1]
      rfl
  · rw [f_X6_quarrelsIn_l4, m_names hn, Option.bind_some, if_pos (nI_le (Nat.le_refl _) (by omega))]
theorem h_pairsIn {M : zM} {t m : Nat} (h : isH t) (hm : m < 256) (hF : okF (hrow M t)) (hn : okN (hrow M t)) : f_X0_pairsIn t (nI m) M = some (nI (pairsN (hrow M t) m)) := by
  obtain ⟨-, -, -, -, h5, -⟩ := shA h
  have h8 := hn.2
  have e1 : M t 0 = nI (nn (hrow M t)) := hn.1
  have ef : ∀ i, i < 8 → M (t + 5) i = nm (hrow M t) i 4 := fun i hi => (hrow_name M t hi (show 4 < 5 by omega)).symm
  generalize hA : hrow M t = A at *
  unfold f_X0_pairsIn pairsN
  refine zIter_steps (fun k => (nI (sumN (hitN A m) k), nI k)) (nn A) 1000 _ (by omega) (fun i hi => ?_) ?_
  · have e0 : nI i + 1 = nI (i + 1) := nI_1 i
    rw [f_X0_pairsIn_l4, e1, if_neg (nI_ge hi (by omega)), rd h5 (by omega), Option.bind_some, bit_c m hm i (by omega), ef i (by omega), e0]
    show _ = some (Sum.inl (nI (sumN (hitN A m) i + hitN A m i), _))
    unfold hitN
    cases hf : foeO A i with
    | none =>
      rw [foeO_none hF hn hi hf]
      by_cases hb : m.testBit i = true
      · rw [if_pos hb, if_pos rfl, if_pos (by decide)]; rfl
      · rw [if_neg hb, if_neg (by decide)]; rfl
    | some f =>
      obtain ⟨f1, f2, f3⟩ := foeO_lt hF hn hi hf
      rw [f3]
      show _ = some (Sum.inl (nI (_ + if _ then 1 else 0), _))
      by_cases hb : m.testBit i = true
      · rw [if_pos hb, if_pos rfl, if_neg (nI_pos (by omega)), if_neg (nI_ge f1 (by omega)), bit_c m hm f (by omega)]
        by_cases hb2 : m.testBit f = true
        · rw [if_pos hb2, if_pos rfl]
          by_cases hlt : i < f
          · rw [if_pos (nI_lt hlt (by omega)), if_pos ⟨hb, hb2, Or.inl hlt⟩, nI_1]; rfl
          · rw [if_neg (nI_nlt (by omega) (by omega)), rd h5 (by omega), Option.bind_some, ef f (by omega)]
            cases hg : foeO A f with
            | none =>
              rw [foeO_none hF hn f1 hg, if_neg (fun e => by have := nI_pos (n := i) (by omega); rw [← e] at this; exact this (by decide)), if_pos ⟨hb, hb2, Or.inr (by intro e; cases e)⟩, nI_1]; rfl
            | some g =>
              obtain ⟨g1, g2, g3⟩ := foeO_lt hF hn f1 hg
              rw [g3]
              by_cases hgi : g = i
              · subst hgi
                rw [if_pos rfl, if_neg (fun e => e.2.2.elim hlt (fun e => e rfl))]; rfl
              · rw [if_neg (fun e => hgi ((nI_e1 (by omega) (by omega)).mp e)), if_pos ⟨hb, hb2, Or.inr (by intro e; cases e; exact hgi rfl)⟩, nI_1]; rfl
        · rw [if_neg hb2, if_neg (by decide), if_neg (fun e => hb2 e.2.1)]; rfl
      · rw [if_neg hb, if_neg (by decide), if_neg (fun e => hb e.1)]; rfl
  · rw [f_X0_pairsIn_l4, e1, if_pos (nI_le (Nat.le_refl _) (by omega))]
