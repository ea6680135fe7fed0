/-! TOKENS, as both read them. A tape of T bytes f; the token that is read from e on begins at b, ends at e', is of the sort s (0 end, 1 word, 2 number, 3 sign, 4 another), and has the value v. -/
abbrev ltN (x : Nat) : Prop := 97 ≤ x ∧ x ≤ 122
abbrev dgN (x : Nat) : Prop := 48 ≤ x ∧ x ≤ 57
def nvN (f : Nat → Nat) (b : Nat) : Nat → Nat
  | 0 => 0
  | k + 1 => min 10000 (10 * nvN f b k + (f (b + k) - 48))
theorem nvN_le (f : Nat → Nat) (b : Nat) : ∀ k, nvN f b k ≤ 10000 := by
  intro k
  cases k with
  | zero => exact Nat.zero_le _
  | succ k => exact Nat.min_le_left _ _
def TK (f : Nat → Nat) (T e b e' s v : Nat) : Prop :=
  e ≤ b ∧ b ≤ e' ∧ e' ≤ T ∧ (∀ j, e ≤ j → j < b → f j = 32) ∧ (b < T → f b ≠ 32) ∧ ((s = 0 ∧ b = T ∧ e' = T ∧ v = 0) ∨ (s = 1 ∧ b < e' ∧ (∀ j, b ≤ j → j < e' → ltN (f j)) ∧ (e' < T → ¬ ltN (f e')) ∧ v = 0) ∨ (s = 2 ∧ b < e' ∧ (∀ j, b ≤ j → j < e' → dgN (f j)) ∧ (e' < T → ¬ dgN (f e')) ∧ v = nvN f b (e' - b)) ∨ ((s = 3 ∨ s = 4) ∧ b < T ∧ e' = b + 1 ∧ ¬ ltN (f b) ∧ ¬ dgN (f b) ∧ (s = 3 ↔ f b = 59) ∧ v = 0))
theorem tk_run {f : Nat → Nat} {T b : Nat} (P : Nat → Prop) (hb : b < T) (hp : P (f b)) : ∃ e', b < e' ∧ e' ≤ T ∧ (∀ j, b ≤ j → j < e' → P (f j)) ∧ (e' < T → ¬ P (f e')) := by
  obtain ⟨m, h1, h2, h3⟩ := least (fun k => ¬ P (f (b + k))) (T - b)
  have m0 : m ≠ 0 := fun e => by
    subst e
    exact (h3.resolve_left (by omega)) hp
  refine ⟨b + m, by omega, by omega, fun j a c => ?_, fun c => h3.resolve_left (by omega)⟩
  have := h2 (j - b) (by omega)
  rw [show b + (j - b) = j by omega] at this
  exact Classical.byContradiction this
theorem tk_ex (f : Nat → Nat) {T e : Nat} (h : e ≤ T) : ∃ q : Nat × Nat × Nat × Nat, TK f T e q.1 q.2.1 q.2.2.1 q.2.2.2 := by
  obtain ⟨m, h1, h2, h3⟩ := least (fun k => ¬ f (e + k) = 32) (T - e)
  have sp : ∀ j, e ≤ j → j < e + m → f j = 32 := fun j a c => by
    have := h2 (j - e) (by omega)
    rw [show e + (j - e) = j by omega] at this
    exact Classical.byContradiction this
  by_cases hb : e + m < T
  · have hn : f (e + m) ≠ 32 := h3.resolve_left (by omega)
    by_cases l : ltN (f (e + m))
    · obtain ⟨e', r1, r2, r3, r4⟩ := tk_run ltN hb l
      exact ⟨(e + m, e', 1, 0), by show e ≤ e + m; omega, by show e + m ≤ e'; omega, r2, sp, fun _ => hn, Or.inr (Or.inl ⟨rfl, r1, r3, r4, rfl⟩)⟩
    · by_cases d : dgN (f (e + m))
      · obtain ⟨e', r1, r2, r3, r4⟩ := tk_run dgN hb d
        exact ⟨(e + m, e', 2, nvN f (e + m) (e' - (e + m))), by show e ≤ e + m; omega, by show e + m ≤ e'; omega, r2, sp, fun _ => hn, Or.inr (Or.inr (Or.inl ⟨rfl, r1, r3, r4, rfl⟩))⟩
      · by_cases c : f (e + m) = 59
        · exact ⟨(e + m, e + m + 1, 3, 0), by show e ≤ e + m; omega, by show e + m ≤ e + m + 1; omega, by show e + m + 1 ≤ T; omega, sp, fun _ => hn, Or.inr (Or.inr (Or.inr ⟨Or.inl rfl, hb, rfl, l, d, ⟨fun _ => c, fun _ => rfl⟩, rfl⟩))⟩
        · exact ⟨(e + m, e + m + 1, 4, 0), by show e ≤ e + m; omega, by show e + m ≤ e + m + 1; omega, by show e + m + 1 ≤ T; omega, sp, fun _ => hn, Or.inr (Or.inr (Or.inr ⟨Or.inr rfl, hb, rfl, l, d, ⟨fun q => (by cases q), fun q => absurd q c⟩, rfl⟩))⟩
  · have eT : e + m = T := by omega
    rw [eT] at sp
    exact ⟨(T, T, 0, 0), h, Nat.le_refl _, Nat.le_refl _, sp, fun q => by have q' : T < T := q; omega, Or.inl ⟨rfl, rfl, rfl, rfl⟩⟩
noncomputable def tok (f : Nat → Nat) (T e : Nat) : Nat × Nat × Nat × Nat := @dite _ (∃ q : Nat × Nat × Nat × Nat, TK f T e q.1 q.2.1 q.2.2.1 q.2.2.2) (Classical.propDecidable _) (fun h => Classical.choose h) (fun _ => (0, 0, 0, 0))
noncomputable def tb (f : Nat → Nat) (T e : Nat) : Nat := (tok f T e).1
noncomputable def te (f : Nat → Nat) (T e : Nat) : Nat := (tok f T e).2.1
noncomputable def ts (f : Nat → Nat) (T e : Nat) : Nat := (tok f T e).2.2.1
noncomputable def tv (f : Nat → Nat) (T e : Nat) : Nat := (tok f T e).2.2.2
theorem tok_TK (f : Nat → Nat) {T e : Nat} (h : e ≤ T) : TK f T e (tb f T e) (te f T e) (ts f T e) (tv f T e) := by
  have hx := tk_ex f h
  have e1 : tok f T e = Classical.choose hx := by
    unfold tok
    rw [dif_pos hx]
  unfold tb te ts tv
  rw [e1]
  exact Classical.choose_spec hx
-- words
def mtW (f : Nat → Nat) (b l w : Nat) : Prop := l = zLen.getD w 0 ∧ ∀ i, i < l → nI (f (b + i)) = (zByt.getD w []).getD i 0
theorem wd_apart : ∀ w, w < 13 → ∀ u, u < 13 → w ≠ u → zLen.getD w 0 ≠ zLen.getD u 0 ∨ ∃ i, i < zLen.getD w 0 ∧ (zByt.getD w []).getD i 0 ≠ (zByt.getD u []).getD i 0 := by decide +kernel
theorem mt_uniq {f : Nat → Nat} {b l w u : Nat} (hw : w < 13) (hu : u < 13) (h1 : mtW f b l w) (h2 : mtW f b l u) : w = u := by
  refine Classical.byContradiction (fun c => ?_)
  rcases wd_apart w hw u hu c with e | ⟨i, hi, e⟩
  · exact e (h1.1.symm.trans h2.1)
  · rw [← h1.1] at hi
    exact e ((h1.2 i hi).symm.trans (h2.2 i hi))
noncomputable def wdN (f : Nat → Nat) (b l : Nat) : Nat := @dite _ (∃ w, w < 13 ∧ mtW f b l w) (Classical.propDecidable _) (fun h => Classical.choose h) (fun _ => 13)
theorem wdN_iff {f : Nat → Nat} {b l w : Nat} (hw : w < 13) : wdN f b l = w ↔ mtW f b l w := by
  unfold wdN
  by_cases h : ∃ w, w < 13 ∧ mtW f b l w
  · rw [dif_pos h]
    have hs := Classical.choose_spec h
    constructor
    · intro e; rw [← e]; exact hs.2
    · intro e; exact mt_uniq hs.1 hw hs.2 e
  · rw [dif_neg h]
    constructor
    · intro e; omega
    · intro e; exact absurd ⟨w, hw, e⟩ h
noncomputable def tw (f : Nat → Nat) (T e : Nat) : Nat := if ts f T e = 1 then wdN f (tb f T e) (te f T e - tb f T e) else 13
theorem tw_iff {f : Nat → Nat} {T e w : Nat} (hw : w < 13) : tw f T e = w ↔ (ts f T e = 1 ∧ mtW f (tb f T e) (te f T e - tb f T e) w) := by
  unfold tw
  by_cases h : ts f T e = 1
  · rw [if_pos h, wdN_iff hw]
    exact ⟨fun q => ⟨h, q⟩, fun q => q.2⟩
  · rw [if_neg h]
    constructor
    · intro q; omega
    · intro q; exact absurd q.1 h
theorem te_le (f : Nat → Nat) {T e : Nat} (h : e ≤ T) : te f T e ≤ T := (tok_TK f h).2.2.1
theorem te_ge (f : Nat → Nat) {T e : Nat} (h : e ≤ T) : e ≤ te f T e := by
  have := tok_TK f h
  exact Nat.le_trans this.1 this.2.1
theorem te_gt (f : Nat → Nat) {T e : Nat} (h : e ≤ T) (hs : ts f T e ≠ 0) : e < te f T e := by
  obtain ⟨h1, h2, h3, h4, h5, h6⟩ := tok_TK f h
  rcases h6 with ⟨q, -⟩ | ⟨-, q, -⟩ | ⟨-, q, -⟩ | ⟨-, -, q, -⟩
  · exact absurd q hs
  · omega
  · omega
  · omega
theorem tv_le (f : Nat → Nat) {T e : Nat} (h : e ≤ T) : tv f T e ≤ 10000 := by
  obtain ⟨h1, h2, h3, h4, h5, h6⟩ := tok_TK f h
  rcases h6 with ⟨-, -, -, q⟩ | ⟨-, -, -, -, q⟩ | ⟨-, -, -, -, q⟩ | ⟨-, -, -, -, -, -, q⟩
  · omega
  · omega
  · rw [q]; exact nvN_le _ _ _
  · omega
theorem ts_lt (f : Nat → Nat) {T e : Nat} (h : e ≤ T) : ts f T e < 5 := by
  obtain ⟨h1, h2, h3, h4, h5, h6⟩ := tok_TK f h
  omega
-- bytes
def byI (f : Nat → Nat) (T j : Nat) : Int32 := if j < T then nI (f j) else -1
def TPc (f : Nat → Nat) (T : Nat) (M : zM) : Prop := T ≤ 120 ∧ M 34 1 = nI T ∧ ∀ i, i < 120 → M 35 i = nI (f i) ∧ f i < 256
def TPm (f : Nat → Nat) (T : Nat) (M : zM) : Prop := T ≤ 120 ∧ M 47 8 = nI T ∧ ∀ i, i < 120 → M 54 i = nI (f i) ∧ f i < 256
theorem c_byteAt {f : Nat → Nat} {T j : Nat} {M : zM} (h : TPc f T M) (hj : j ≤ 120) : f_X4_byteAt (nI j) M = some (byI f T j) := by
  have h120 := h.1
  unfold f_X4_byteAt byI
  rw [if_neg (nI_pos (by omega)), h.2.1]
  by_cases c : j < T
  · rw [if_neg (nI_ge c (by omega)), if_pos c, rd (n := 120) rfl (by omega), Option.bind_some, (h.2.2 j (by omega)).1]
  · rw [if_pos (nI_le (by omega) (by omega)), if_neg c]
theorem m_byteAt {f : Nat → Nat} {T j : Nat} {M : zM} (h : TPm f T M) (hj : j ≤ 120) : f_X6_byteAt (nI j) M = some (byI f T j) := by
  have h120 := h.1
  unfold f_X6_byteAt byI
  rw [h.2.1]
  by_cases c : j < T
  · rw [if_neg (nI_ge c (by omega)), if_pos c, rd (n := 120) rfl (by omega), Option.bind_some, (h.2.2 j (by omega)).1]
  · rw [if_pos (nI_le (by omega) (by omega)), if_neg c]
theorem by_lt {f : Nat → Nat} {T j : Nat} (hf : j < T → f j < 256) : (if byI f T j < 97 then (0 : Int32) else if 122 < byI f T j then 0 else 1) = if j < T ∧ ltN (f j) then 1 else 0 := by
  unfold byI
  by_cases c : j < T
  · rw [if_pos c]
    have := hf c
    by_cases a : f j < 97
    · rw [if_pos (show nI (f j) < 97 from nI_lt (b := 97) a (by omega)), if_neg (fun q => by have := q.2.1; omega)]
    · rw [if_neg (show ¬ nI (f j) < 97 from nI_nlt (b := 97) (by omega) (by omega))]
      by_cases b : 122 < f j
      · rw [if_pos (show 122 < nI (f j) from nI_lt (a := 122) b (by omega)), if_neg (fun q => by have := q.2.2; omega)]
      · rw [if_neg (show ¬ 122 < nI (f j) from nI_nlt (a := 122) (by omega) (by omega)), if_pos ⟨c, by omega, by omega⟩]
  · rw [if_neg c, if_pos (by decide), if_neg (fun q => c q.1)]
theorem by_dg {f : Nat → Nat} {T j : Nat} (hf : j < T → f j < 256) : (if byI f T j < 48 then (0 : Int32) else if 57 < byI f T j then 0 else 1) = if j < T ∧ dgN (f j) then 1 else 0 := by
  unfold byI
  by_cases c : j < T
  · rw [if_pos c]
    have := hf c
    by_cases a : f j < 48
    · rw [if_pos (show nI (f j) < 48 from nI_lt (b := 48) a (by omega)), if_neg (fun q => by have := q.2.1; omega)]
    · rw [if_neg (show ¬ nI (f j) < 48 from nI_nlt (b := 48) (by omega) (by omega))]
      by_cases b : 57 < f j
      · rw [if_pos (show 57 < nI (f j) from nI_lt (a := 57) b (by omega)), if_neg (fun q => by have := q.2.2; omega)]
      · rw [if_neg (show ¬ 57 < nI (f j) from nI_nlt (a := 57) (by omega) (by omega)), if_pos ⟨c, by omega, by omega⟩]
  · rw [if_neg c, if_pos (by decide), if_neg (fun q => c q.1)]
theorem by_eq {f : Nat → Nat} {T j c : Nat} (hf : j < T → f j < 256) (hc : c < 256) : (byI f T j = nI c) ↔ j < T ∧ f j = c := by
  unfold byI
  by_cases h : j < T
  · have := hf h
    rw [if_pos h, nI_eq (by omega) (by omega)]
    exact ⟨fun q => ⟨h, q⟩, fun q => q.2⟩
  · rw [if_neg h]
    exact ⟨fun q => absurd q (neg_nI (by omega)), fun q => absurd q.1 h⟩
theorem by_m1 {f : Nat → Nat} {T j : Nat} (hf : j < T → f j < 256) : (byI f T j = -1) ↔ ¬ j < T := by
  unfold byI
  by_cases h : j < T
  · have := hf h
    rw [if_pos h]
    exact ⟨fun q => absurd q.symm (neg_nI (by omega)), fun q => absurd h q⟩
  · rw [if_neg h]
    exact ⟨fun _ => h, fun _ => rfl⟩
theorem f_isLetter_eq (x : Int32) (M : zM) : f_X2_isLetter x M = some (if x < 97 then 0 else if 122 < x then 0 else 1) := by
  unfold f_X2_isLetter; simp only [if_some]
theorem f_isDigit_eq (x : Int32) (M : zM) : f_X2_isDigit x M = some (if x < 48 then 0 else if 57 < x then 0 else 1) := by
  unfold f_X2_isDigit; simp only [if_some]
theorem dig_c {a x : Nat} (ha : a ≤ 10000) (hx : dgN x) : (nI a * 10 + nI x) - 48 = nI (10 * a + (x - 48)) := by
  rw [show nI a * 10 = nI (a * 10) from pk_mul a 10, nI_add, show (48 : Int32) = nI 48 from rfl, nI_sub (by have := hx.1; omega)]
  congr 1
  have := hx.1; omega
theorem min_c {a : Nat} (ha : a < 1000000) : (if nI a < 10000 then nI a else 10000) = nI (min 10000 a) := by
  by_cases h : a < 10000
  · rw [if_pos (show nI a < 10000 from nI_lt (b := 10000) h (by omega)), Nat.min_eq_right (by omega)]
  · rw [if_neg (show ¬ nI a < 10000 from nI_nlt (b := 10000) (by omega) (by omega)), Nat.min_eq_left (by omega)]; rfl
