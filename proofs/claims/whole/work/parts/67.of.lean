/-! NAMES AND PERSONS LOOKED AT AND CHANGED. -/
def orM (p : Nat → Bool) : Nat → Nat
  | 0 => 0
  | k + 1 => if p k then orM p k ||| 2 ^ k else orM p k
theorem orM_bit (p : Nat → Bool) : ∀ n j, (orM p n).testBit j = (decide (j < n) && p j) := by
  intro n
  induction n with
  | zero => intro j; simp [orM]
  | succ n ih =>
    intro j
    have key : (orM p (n + 1)).testBit j = ((orM p n).testBit j || (p n && decide (n = j))) := by
      show (if p n then orM p n ||| 2 ^ n else orM p n).testBit j = _
      by_cases c : p n
      · rw [if_pos c, Nat.testBit_or, Nat.testBit_two_pow, c, Bool.true_and]
      · rw [if_neg c, eq_false_of_ne_true c, Bool.false_and, Bool.or_false]
    rw [key, ih]
    by_cases c : n = j
    · subst c
      rw [decide_eq_false (Nat.lt_irrefl n), decide_eq_true (Nat.lt_succ_self n), decide_eq_true rfl, Bool.false_and, Bool.false_or, Bool.and_true, Bool.true_and]
    · rw [decide_eq_false c, Bool.and_false, Bool.or_false]
      by_cases d : j < n
      · rw [decide_eq_true d, decide_eq_true (by omega : j < n + 1)]
      · rw [decide_eq_false d, decide_eq_false (by omega : ¬ j < n + 1)]
theorem orM_lt (p : Nat → Bool) : ∀ n, orM p n < 2 ^ n := by
  intro n
  induction n with
  | zero => exact Nat.one_pos
  | succ n ih =>
    have h1 : (2 : Nat) ^ n < 2 ^ (n + 1) := Nat.pow_lt_pow_right (by omega) (by omega)
    show (if p n then orM p n ||| 2 ^ n else orM p n) < _
    split
    · exact Nat.or_lt_two_pow (by omega) h1
    · omega
theorem orM_256 (p : Nat → Bool) {n : Nat} (h : n ≤ 8) : orM p n < 256 := Nat.lt_of_lt_of_le (orM_lt p n) (Nat.pow_le_pow_right (n := 2) (by omega) h)
def foeM (A : Nat → Int32) (i : Nat) : Nat := orM (fun j => decide (j ≠ i ∧ (nm A i 4 = nI j ∨ nm A j 4 = nI i))) (nn A)
theorem m_doQuarrel {M : zM} {i j : Nat} (hi : i < 8) (hj : j < 8) : f_X6_doQuarrel (nI i) (nI j) M = some (if nm (M 48) i 4 = nI j then 1 else if nm (M 48) j 4 = nI i then 1 else 0) := by
  unfold f_X6_doQuarrel
  rw [show f_X6_nameIs (nI i) 4 M = some (nm (M 48) i 4) from m_nameIs hi (f := 4) (by omega), show f_X6_nameIs (nI j) 4 M = some (nm (M 48) j 4) from m_nameIs hj (f := 4) (by omega), Option.bind_some, Option.bind_some, if_some, if_some]
theorem m_foesOf {M : zM} {i : Nat} (hn : okN (M 48)) (hi : i < 8) : f_X6_foesOf (nI i) M = some (nI (foeM (M 48) i)) := by
  unfold f_X6_foesOf foeM
  generalize hp : (fun j => decide (j ≠ i ∧ (nm (M 48) i 4 = nI j ∨ nm (M 48) j 4 = nI i))) = p
  have z1 : zrd M 48 1 = some (nI (nn (M 48))) := by rw [← hn.1]; exact rd48 (j := 1) (by omega)
  have hn8 := hn.2
  refine zIter_steps (fun k => (nI (orM p k), nI k)) (nn (M 48)) 1000 _ (by omega) (fun k hk => ?_) ?_
  · have hpk : p k = decide (k ≠ i ∧ (nm (M 48) i 4 = nI k ∨ nm (M 48) k 4 = nI i)) := by rw [← hp]
    have s1 : orM p (k + 1) = if p k then orM p k ||| 2 ^ k else orM p k := rfl
    rw [f_X6_foesOf_l4, z1, Option.bind_some, if_neg (nI_ge hk (by omega))]
    by_cases c : k = i
    · have : p k = false := by rw [hpk]; exact decide_eq_false (fun q => q.1 c)
      rw [if_pos (by rw [c])]
      unfold f_X6_foesOf_j35
      rw [m_or0, Option.bind_some, nI_1, s1, this]; rfl
    · rw [if_neg (fun q => c ((nI_eq (by omega) (by omega)).mp q)), m_doQuarrel hi (by omega), Option.bind_some]
      by_cases d : nm (M 48) i 4 = nI k ∨ nm (M 48) k 4 = nI i
      · have : p k = true := by rw [hpk]; exact decide_eq_true ⟨c, d⟩
        have e1 : (if nm (M 48) i 4 = nI k then (1 : Int32) else if nm (M 48) k 4 = nI i then 1 else 0) = 1 := by
          rcases d with d | d
          · rw [if_pos d]
          · rw [if_pos d, ite_self]
        rw [e1, if_neg (by decide), m_or1 _ (orM_256 p (by omega)) _ (by omega), nI_1, s1, this]; rfl
      · have : p k = false := by rw [hpk]; exact decide_eq_false (fun q => d q.2)
        rw [if_neg (fun q => d (Or.inl q)), if_neg (fun q => d (Or.inr q)), if_pos rfl]
        unfold f_X6_foesOf_j35
        rw [m_or0, Option.bind_some, nI_1, s1, this]; rfl
  · rw [f_X6_foesOf_l4, z1, Option.bind_some, if_pos (nI_le (Nat.le_refl _) (by omega))]
theorem bit_one : ∀ k, k < 8 → (1 : Int32) <<< (nI k &&& 31) = nI (2 ^ k) := by decide +kernel
theorem h_foesOf {M : zM} {t i : Nat} (h : isH t) (hn : okN (hrow M t)) (hF : okF (hrow M t)) (hi : i < nn (hrow M t)) : f_X0_foesOf t (nI i) M = some (nI (foeM (hrow M t) i)) := by
  have h5 := (shA h).2.2.2.2.1
  have hn8 := hn.2
  have e0 : M t 0 = nI (nn (hrow M t)) := by rw [← hn.1]; rfl
  have e5 : ∀ j, j < 8 → zrd M (t + 5) (nI j) = some (nm (hrow M t) j 4) := fun j hj => by
    rw [rd h5 hj]; exact congrArg some (hrow_name M t hj (f := 4) (by omega)).symm
  generalize hA : hrow M t = A at *
  generalize hp : (fun j => decide (nm A j 4 = nI i)) = p
  have loop : ∀ c0, c0 < 256 → f_X0_foesOf_j21 t (nI i) (nI c0) M = some (nI (c0 ||| orM p (nn A))) := by
    intro c0 hc0
    unfold f_X0_foesOf_j21
    have start : (nI c0, (0 : Int32)) = (fun k => (nI (c0 ||| orM p k), nI k)) 0 := by
      show _ = (nI (c0 ||| 0), _)
      rw [Nat.or_zero]; rfl
    rw [start]
    refine zIter_steps (fun k => (nI (c0 ||| orM p k), nI k)) (nn A) 1000 _ (by omega) (fun k hk => ?_) ?_
    · have hpk : p k = decide (nm A k 4 = nI i) := by rw [← hp]
      have s1 : orM p (k + 1) = if p k then orM p k ||| 2 ^ k else orM p k := rfl
      rw [f_X0_foesOf_l24, e0, if_neg (nI_ge hk (by omega)), e5 k (by omega), Option.bind_some]
      by_cases c : nm A k 4 = nI i
      · have : p k = true := by rw [hpk]; exact decide_eq_true c
        have hlt : c0 ||| orM p k < 256 := Nat.or_lt_two_pow (n := 8) hc0 (orM_256 p (by omega))
        rw [if_pos c, m_or1 _ hlt _ (by omega), nI_1, s1, this, Nat.or_assoc]; rfl
      · have : p k = false := by rw [hpk]; exact decide_eq_false c
        rw [if_neg c, nI_1, s1, this]; rfl
    · rw [f_X0_foesOf_l24, e0, if_pos (nI_le (Nat.le_refl _) (by omega))]
  have fin : ∀ c0, (∀ j, c0.testBit j = decide (nm A i 4 = nI j ∧ j < 8)) → c0 ||| orM p (nn A) = foeM A i := by
    intro c0 hc
    refine Nat.eq_of_testBit_eq (fun j => ?_)
    unfold foeM
    rw [Nat.testBit_or, orM_bit, orM_bit, hc, ← hp]
    show (_ || (_ && decide (nm A j 4 = nI i))) = (_ && decide (j ≠ i ∧ (nm A i 4 = nI j ∨ nm A j 4 = nI i)))
    by_cases hj : j < nn A
    · rw [decide_eq_true hj, Bool.true_and, Bool.true_and]
      have hjj : nm A j 4 ≠ nI j := by
        rcases hF j hj with q | ⟨f, q1, q2, q3⟩
        · rw [q]; exact fun c => by have := congrArg (fun x : Int32 => decide (x < 0)) c; rw [decide_eq_false (nI_pos (by omega))] at this; exact absurd this (by decide)
        · rw [q3]; exact fun c => q2 ((nI_eq (by omega) (by omega)).mp c)
      by_cases a : nm A i 4 = nI j
      · have : j ≠ i := fun c => by subst c; exact hjj a
        rw [decide_eq_true (⟨a, by omega⟩ : _ ∧ _), Bool.true_or, decide_eq_true ⟨this, Or.inl a⟩]
      · rw [decide_eq_false (fun q : _ ∧ _ => a q.1), Bool.false_or]
        by_cases b : nm A j 4 = nI i
        · have : j ≠ i := fun c => by subst c; exact hjj b
          rw [decide_eq_true b, decide_eq_true ⟨this, Or.inr b⟩]
        · rw [decide_eq_false b, decide_eq_false (fun q => q.2.elim a b)]
    · rw [decide_eq_false hj, Bool.false_and, Bool.false_and, Bool.or_false]
      refine decide_eq_false (fun q => ?_)
      rcases hF i hi with w | ⟨f, q1, q2, q3⟩
      · rw [w] at q; exact absurd (congrArg (fun x : Int32 => decide (x < 0)) q.1) (by
          show ¬ decide ((-1 : Int32) < 0) = decide (nI j < 0)
          rw [decide_eq_false (nI_pos (by omega) : ¬ nI j < 0)]; decide)
      · have := (nI_eq (by omega) (by omega)).mp (q3.symm.trans q.1); omega
  unfold f_X0_foesOf
  rw [e5 i (by omega), Option.bind_some]
  rcases hF i hi with w | ⟨f, q1, q2, q3⟩
  · rw [w, if_pos (by decide), show (0 : Int32) = nI 0 from rfl, loop 0 (by omega), fin 0 (fun j => ?_)]
    rw [Nat.zero_testBit, w]
    refine (decide_eq_false (fun q => ?_)).symm
    exact absurd (congrArg (fun x : Int32 => decide (x < 0)) q.1) (by
      show ¬ decide ((-1 : Int32) < 0) = decide (nI j < 0)
      rw [decide_eq_false (nI_pos (by omega) : ¬ nI j < 0)]; decide)
  · have hf8 : f < 8 := by omega
    rw [q3, if_neg (nI_pos (by omega)), Option.bind_some, bit_one f hf8, loop _ (Nat.pow_lt_pow_right (a := 2) (n := 8) (by omega) hf8), fin _ (fun j => ?_)]
    rw [Nat.testBit_two_pow, q3]
    by_cases c : f = j
    · subst c; rw [decide_eq_true rfl, decide_eq_true ⟨rfl, hf8⟩]
    · rw [decide_eq_false c]
      exact (decide_eq_false (fun q => c ((nI_eq (by omega) (by omega)).mp q.1))).symm
theorem pe_of (x y : Int32) : PE (f_X5_of x y) (f_X6_of x y) := by
  intro M D hD h
  have eN := RR_names h
  have hn := h.2.1.1
  have hn1 : okN (hrow M 1) := by rw [← h.1]; exact hn
  have hF1 : okF (hrow M 1) := by rw [← h.1]; exact h.2.1.2.2.1
  by_cases hx : isNm (M 48) x
  · obtain ⟨i, hi, rfl⟩ := (isNm_iff hn).mp hx
    have hi8 : i < 8 := by have := hn.2; omega
    by_cases hy : inB y 0 8
    · rcases in_8 hy with rfl | rfl | rfl | rfl | rfl | rfl | rfl | rfl | rfl
      · refine pe_same h (M (1 + 1 + 0) i) ?_ ?_
        · unfold f_X5_of
          rw [f_isName_eq, Option.bind_some, eN, wi_t hx, if_neg (by decide), if_pos rfl, rd (n := 8) rfl hi8]; rfl
        · unfold f_X6_of
          rw [m_isName_eq, Option.bind_some, wi_t hx, if_neg (by decide), m_within_eq, Option.bind_some, wi_t hy, if_neg (by decide), if_neg (by decide), if_neg (by decide), if_neg (by decide), if_neg (by decide), show f_X6_nameIs (nI i) 0 M = some (nm (M 48) i 0) from m_nameIs hi8 (f := 0) (by omega), h.1]
          exact congrArg (fun v => some (v, M)) (hrow_name M 1 hi8 (f := 0) (by omega))
      · refine pe_same h (M (1 + 1 + 1) i) ?_ ?_
        · unfold f_X5_of
          rw [f_isName_eq, Option.bind_some, eN, wi_t hx, if_neg (by decide), if_neg (by decide), if_pos rfl, rd (n := 8) rfl hi8]; rfl
        · unfold f_X6_of
          rw [m_isName_eq, Option.bind_some, wi_t hx, if_neg (by decide), m_within_eq, Option.bind_some, wi_t hy, if_neg (by decide), if_neg (by decide), if_neg (by decide), if_neg (by decide), if_neg (by decide), show f_X6_nameIs (nI i) 1 M = some (nm (M 48) i 1) from m_nameIs hi8 (f := 1) (by omega), h.1]
          exact congrArg (fun v => some (v, M)) (hrow_name M 1 hi8 (f := 1) (by omega))
      · refine pe_same h (M (1 + 1 + 2) i) ?_ ?_
        · unfold f_X5_of
          rw [f_isName_eq, Option.bind_some, eN, wi_t hx, if_neg (by decide), if_neg (by decide), if_neg (by decide), if_pos rfl, rd (n := 8) rfl hi8]; rfl
        · unfold f_X6_of
          rw [m_isName_eq, Option.bind_some, wi_t hx, if_neg (by decide), m_within_eq, Option.bind_some, wi_t hy, if_neg (by decide), if_neg (by decide), if_neg (by decide), if_neg (by decide), if_neg (by decide), show f_X6_nameIs (nI i) 2 M = some (nm (M 48) i 2) from m_nameIs hi8 (f := 2) (by omega), h.1]
          exact congrArg (fun v => some (v, M)) (hrow_name M 1 hi8 (f := 2) (by omega))
      · refine pe_same h (M (1 + 1 + 3) i) ?_ ?_
        · unfold f_X5_of
          rw [f_isName_eq, Option.bind_some, eN, wi_t hx, if_neg (by decide), if_neg (by decide), if_neg (by decide), if_neg (by decide), if_pos rfl, rd (n := 8) rfl hi8]; rfl
        · unfold f_X6_of
          rw [m_isName_eq, Option.bind_some, wi_t hx, if_neg (by decide), m_within_eq, Option.bind_some, wi_t hy, if_neg (by decide), if_neg (by decide), if_neg (by decide), if_neg (by decide), if_neg (by decide), show f_X6_nameIs (nI i) 3 M = some (nm (M 48) i 3) from m_nameIs hi8 (f := 3) (by omega), h.1]
          exact congrArg (fun v => some (v, M)) (hrow_name M 1 hi8 (f := 3) (by omega))
      · refine pe_same h (M (1 + 1 + 4) i) ?_ ?_
        · unfold f_X5_of
          rw [f_isName_eq, Option.bind_some, eN, wi_t hx, if_neg (by decide), if_neg (by decide), if_neg (by decide), if_neg (by decide), if_neg (by decide), if_pos rfl, rd (n := 8) rfl hi8]; rfl
        · unfold f_X6_of
          rw [m_isName_eq, Option.bind_some, wi_t hx, if_neg (by decide), m_within_eq, Option.bind_some, wi_t hy, if_neg (by decide), if_neg (by decide), if_neg (by decide), if_neg (by decide), if_neg (by decide), show f_X6_nameIs (nI i) 4 M = some (nm (M 48) i 4) from m_nameIs hi8 (f := 4) (by omega), h.1]
          exact congrArg (fun v => some (v, M)) (hrow_name M 1 hi8 (f := 4) (by omega))
      · refine pe_same h (dueA (hrow M 1) i) ?_ ?_
        · unfold f_X5_of
          rw [f_isName_eq, Option.bind_some, eN, wi_t hx, if_neg (by decide), if_neg (by decide), if_neg (by decide), if_neg (by decide), if_neg (by decide), if_neg (by decide), if_pos rfl, h_due isH_1 hi8]; rfl
        · unfold f_X6_of
          rw [m_isName_eq, Option.bind_some, wi_t hx, if_neg (by decide), m_within_eq, Option.bind_some, wi_t hy, if_neg (by decide), if_pos rfl, m_due hi8, h.1]; rfl
      · refine pe_same h (fadeF (nm (hrow M 1) i 0)) ?_ ?_
        · unfold f_X5_of
          rw [f_isName_eq, Option.bind_some, eN, wi_t hx, if_neg (by decide), if_neg (by decide), if_neg (by decide), if_neg (by decide), if_neg (by decide), if_neg (by decide), if_neg (by decide), if_pos rfl, rd (n := 8) rfl hi8, Option.bind_some, f_fades_eq, Option.bind_some]
          exact congrArg (fun v => some (fadeF v, M)) (hrow_name M 1 hi8 (f := 0) (by omega)).symm
        · unfold f_X6_of
          rw [m_isName_eq, Option.bind_some, wi_t hx, if_neg (by decide), m_within_eq, Option.bind_some, wi_t hy, if_neg (by decide), if_neg (by decide), if_pos rfl, m_fades hi8, h.1]; rfl
      · refine pe_same h (if (if 50 ≤ nm (hrow M 1) i 2 then (0 : Int32) else 1) = 0 then 0 else 1) ?_ ?_
        · unfold f_X5_of
          rw [f_isName_eq, Option.bind_some, eN, wi_t hx, if_neg (by decide), if_neg (by decide), if_neg (by decide), if_neg (by decide), if_neg (by decide), if_neg (by decide), if_neg (by decide), if_neg (by decide), if_pos rfl, h_hangs isH_1 hi8, Option.bind_some]
          split <;> rfl
        · unfold f_X6_of
          rw [m_isName_eq, Option.bind_some, wi_t hx, if_neg (by decide), m_within_eq, Option.bind_some, wi_t hy, if_neg (by decide), if_neg (by decide), if_neg (by decide), if_pos rfl, m_hangs hi8, h.1, Option.bind_some]
          split <;> rfl
      · refine pe_same h (nI (foeM (hrow M 1) i)) ?_ ?_
        · unfold f_X5_of
          rw [f_isName_eq, Option.bind_some, eN, wi_t hx, if_neg (by decide), if_neg (by decide), if_neg (by decide), if_neg (by decide), if_neg (by decide), if_neg (by decide), if_neg (by decide), if_neg (by decide), if_neg (by decide), if_pos rfl, h_foesOf isH_1 hn1 hF1 (by rw [← h.1]; exact hi)]; rfl
        · unfold f_X6_of
          rw [m_isName_eq, Option.bind_some, wi_t hx, if_neg (by decide), m_within_eq, Option.bind_some, wi_t hy, if_neg (by decide), if_neg (by decide), if_neg (by decide), if_neg (by decide), if_pos rfl, m_foesOf hn hi8, h.1]; rfl
    · have nn' : ∀ v : Int32, inB v 0 8 → ¬ y = v := fun v hv c => hy (by rw [c]; exact hv)
      refine pe_find h 0 (by omega) ?_ (fun M1 hf => ?_)
      · unfold f_X5_of
        rw [f_isName_eq, Option.bind_some, eN, wi_t hx, if_neg (by decide), if_neg (nn' 0 ⟨by decide, by decide⟩), if_neg (nn' 1 ⟨by decide, by decide⟩), if_neg (nn' 2 ⟨by decide, by decide⟩), if_neg (nn' 3 ⟨by decide, by decide⟩), if_neg (nn' 4 ⟨by decide, by decide⟩), if_neg (nn' 5 ⟨by decide, by decide⟩), if_neg (nn' 6 ⟨by decide, by decide⟩), if_neg (nn' 7 ⟨by decide, by decide⟩), if_neg (nn' 8 ⟨by decide, by decide⟩), bind_pair]; rfl
      · unfold f_X6_of f_X6_of_j18
        rw [m_isName_eq, Option.bind_some, hf 48 (by omega), wi_t hx, if_neg (by decide), m_within_eq, Option.bind_some, wi_f hy, if_pos rfl, bind_pair]; rfl
  · refine pe_find h 0 (by omega) ?_ (fun M1 hf => ?_)
    · unfold f_X5_of
      rw [f_isName_eq, Option.bind_some, eN, wi_f hx, if_pos rfl, bind_pair]; rfl
    · unfold f_X6_of f_X6_of_j18
      rw [m_isName_eq, Option.bind_some, hf 48 (by omega), wi_f hx, if_pos rfl, bind_pair]; rfl
