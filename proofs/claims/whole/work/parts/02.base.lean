/-! THE PURE MACHINE. A world of numbered cells of a fixed shape: what a cell is (an int array, an object with its fields, a row of references) never changes behind the constructors; what it holds is M : cell -> place -> Int32. A contract says: with memory M the method answers v, and leaves M'. -/
abbrev zM : Type := Nat → Nat → Int32
/-- the shape of a cell: an int array of n; an object of a class with its fields (none: a number; some r: the cell r for ever; some 900: null, or the tape); a row of references -/
abbrev zSh : Type := Nat ⊕ ((Nat × List (Option Nat)) ⊕ (Nat × List Nat))
def zHouse (t : Nat) : zSh := .inr (.inl (0, [none, some (t+1), some (t+2), some (t+3), some (t+4), some (t+5), some (t+6), some (t+7), some (t+8), none, none, none, none, some (t+9), some (t+10)]))
def zSheet (t : Nat) : zSh := .inr (.inl (2, [some (t+1), none, none]))
/-- the shapes: the class's cells 0 to 46, the reference's 47 to 60 -/
def sh : Nat → zSh
  | 0 => .inr (.inl (4, [some 1, some 12, some 23, some 34, some 36, some 37, some 38, none]))
  | 1 => zHouse 1
  | 2 => .inl 8
  | 3 => .inl 8
  | 4 => .inl 8
  | 5 => .inl 8
  | 6 => .inl 8
  | 7 => .inl 6
  | 8 => .inl 6
  | 9 => .inl 10
  | 10 => .inl 6
  | 11 => .inl 6
  | 12 => zHouse 12
  | 13 => .inl 8
  | 14 => .inl 8
  | 15 => .inl 8
  | 16 => .inl 8
  | 17 => .inl 8
  | 18 => .inl 6
  | 19 => .inl 6
  | 20 => .inl 10
  | 21 => .inl 6
  | 22 => .inl 6
  | 23 => zHouse 23
  | 24 => .inl 8
  | 25 => .inl 8
  | 26 => .inl 8
  | 27 => .inl 8
  | 28 => .inl 8
  | 29 => .inl 6
  | 30 => .inl 6
  | 31 => .inl 10
  | 32 => .inl 6
  | 33 => .inl 6
  | 34 => .inr (.inl (3, [some 35, none]))
  | 35 => .inl 120
  | 36 => .inr (.inl (1, [some 900, none, none, none, none]))
  | 37 => .inr (.inr (1, [39, 41, 43, 45]))
  | 38 => .inl 7
  | 39 => zSheet 39
  | 40 => .inl 40
  | 41 => zSheet 41
  | 42 => .inl 40
  | 43 => zSheet 43
  | 44 => .inl 40
  | 45 => zSheet 45
  | 46 => .inl 40
  | 47 => .inr (.inl (5, [some 48, some 49, some 50, none, some 51, some 52, some 53, some 54, none, none, none, none, none, none, some 55, some 56, none, none, some 57, some 58, some 59, some 60]))
  | 48 => .inl 67
  | 49 => .inl 67
  | 50 => .inl 67
  | 51 => .inl 8
  | 52 => .inl 6
  | 53 => .inl 256
  | 54 => .inl 120
  | 55 => .inr (.inr (2, [1000, 1001, 1002, 1003, 1004, 1005, 1006]))
  | 56 => .inl 480
  | 57 => .inl 4
  | 58 => .inl 4
  | 59 => .inl 160
  | 60 => .inl 40
  | _ => .inl 0
def isH (t : Nat) : Prop := t = 1 ∨ t = 12 ∨ t = 23
def isS (t : Nat) : Prop := t = 39 ∨ t = 41 ∨ t = 43 ∨ t = 45
theorem shH {t : Nat} (h : isH t) : sh t = zHouse t := by rcases h with rfl | rfl | rfl <;> rfl
theorem shS {t : Nat} (h : isS t) : sh t = zSheet t := by rcases h with rfl | rfl | rfl | rfl <;> rfl
theorem isH_1 : isH 1 := Or.inl rfl
theorem isH_12 : isH 12 := Or.inr (Or.inl rfl)
theorem isH_23 : isH 23 := Or.inr (Or.inr rfl)
abbrev NC : Nat := 61
theorem isH_lt {t : Nat} (h : isH t) : t < NC := by rcases h with rfl | rfl | rfl <;> decide
theorem isS_lt {t : Nat} (h : isS t) : t < NC := by rcases h with rfl | rfl | rfl | rfl <;> decide
def zU (M : zM) (k j : Nat) (v : Int32) : zM := fun a => if a = k then upd (M k) j v else M a
/-- rows copied: n numbers of cell a from sp on into cell b from dp on -/
def zCp (M : zM) (a b sp dp n : Nat) : zM := fun q => if q = b then va_cpy (M a) (M b) sp dp n else M q
def zrd (M : zM) (k : Nat) (i : Int32) : Option Int32 := match sh k with
  | .inl n => if i < 0 ∨ n ≤ i.toNatClampNeg then none else some (M k i.toNatClampNeg)
  | _ => none
def zwr (M : zM) (k : Nat) (i v : Int32) : Option zM := match sh k with
  | .inl n => if i < 0 ∨ n ≤ i.toNatClampNeg then none else some (zU M k i.toNatClampNeg v)
  | _ => none
def zrr (k : Nat) (i : Int32) : Option Nat := match sh k with
  | .inr (.inr rs) => if i < 0 ∨ rs.2.length ≤ i.toNatClampNeg then none else rs.2[i.toNatClampNeg]?
  | _ => none
def zcp (M : zM) (a : Nat) (sp : Int32) (b : Nat) (dp n : Int32) : Option zM := match sh a, sh b with
  | .inl na, .inl nb => if sp < 0 ∨ dp < 0 ∨ n < 0 ∨ na < sp.toNatClampNeg + n.toNatClampNeg ∨ nb < dp.toNatClampNeg + n.toNatClampNeg then none else some (zCp M a b sp.toNatClampNeg dp.toNatClampNeg n.toNatClampNeg)
  | _, _ => none
/-- a boolean: 0 or 1 -/
def zbo (v : Int32) : Option Int32 := if v = 0 ∨ v = 1 then some v else none
def zdv (a b : Int32) : Option Int32 := if b = 0 then none else some (a / b)
def zrm (a b : Int32) : Option Int32 := if b = 0 then none else some (a - a / b * b)
def zIter {σ ρ : Type} (b : σ → Option (σ ⊕ ρ)) : Nat → σ → Option ρ
  | 0, _ => none
  | n + 1, s => (b s).bind fun y => match y with
    | .inl s' => zIter b n s'
    | .inr r => some r
/-- what follows a round of a loop -/
def zK' {σ ρ τ : Type} (b : σ → Option (σ ⊕ ρ)) (n : Nat) (K : ρ → Option τ) : σ ⊕ ρ → Option τ
  | .inl s' => (zIter b n s').bind K
  | .inr r => K r
theorem zIter_succ {σ ρ τ : Type} {b : σ → Option (σ ⊕ ρ)} {n : Nat} {s : σ} {K : ρ → Option τ} {y : τ} (h : (zIter b (n + 1) s).bind K = some y) : (b s).bind (zK' b n K) = some y := by
  unfold zIter at h
  cases hb : b s with
  | none => rw [hb] at h; cases h
  | some z =>
    rw [hb] at h
    cases z with
    | inl s' => exact h
    | inr r => exact h
/-- a loop: for every fuel and every state, by induction on the fuel -/
theorem zIter_loop {σ ρ τ : Type} {b : σ → Option (σ ⊕ ρ)} {K : ρ → Option τ} {y : τ} (P : σ → Prop) (hs : ∀ (n : Nat) (s : σ), (∀ s', (zIter b n s').bind K = some y → P s') → (b s).bind (zK' b n K) = some y → P s) : ∀ (n : Nat) (s : σ), (zIter b n s).bind K = some y → P s := by
  intro n
  induction n with
  | zero => intro s h; cases h
  | succ n ih => intro s h; exact hs n s ih (zIter_succ h)
theorem zB_bind {α β τ : Type} {o : Option α} {f : α → Option β} {K : β → Option τ} {y : τ} (h : (o.bind f).bind K = some y) : ∃ v, o = some v ∧ (f v).bind K = some y := by
  cases o with
  | none => cases h
  | some v => exact ⟨v, rfl, h⟩
theorem zB_tail {β τ : Type} {o : Option β} {K : β → Option τ} {y : τ} (h : o.bind K = some y) : ∃ v, o = some v ∧ K v = some y := by
  cases o with
  | none => cases h
  | some v => exact ⟨v, rfl, h⟩
theorem zB_pos {β τ : Type} {c : Prop} [Decidable c] {a b : Option β} {K : β → Option τ} {y : τ} (hc : c) (h : (if c then a else b).bind K = some y) : a.bind K = some y := by rwa [if_pos hc] at h
theorem zB_neg {β τ : Type} {c : Prop} [Decidable c] {a b : Option β} {K : β → Option τ} {y : τ} (hc : ¬ c) (h : (if c then a else b).bind K = some y) : b.bind K = some y := by rwa [if_neg hc] at h
-- the cells as the kit's worlds have them
def zfld (ad : Nat → Nat) (M : zM) (k j : Nat) : Option Nat → Value
  | none => .int (M k j)
  | some r => if r = 900 then (if M k j = 0 then .null else .ref (ad 34)) else .ref (ad r)
def zfl (ad : Nat → Nat) (M : zM) (k : Nat) : Nat → List (Option Nat) → List Value
  | _, [] => []
  | j, o :: l => zfld ad M k j o :: zfl ad M k (j + 1) l
theorem zfl_at (ad : Nat → Nat) (M : zM) (k : Nat) : ∀ (l : List (Option Nat)) (j0 j : Nat), (zfl ad M k j0 l)[j]? = (l[j]?).map (zfld ad M k (j0 + j)) := by
  intro l
  induction l with
  | nil => intro j0 j; simp [zfl]
  | cons o l ih =>
    intro j0 j
    cases j with
    | zero => simp [zfl]
    | succ j => simp only [zfl, List.getElem?_cons_succ, ih]; rw [show j0 + 1 + j = j0 + (j + 1) by omega]
theorem zfl_len (ad : Nat → Nat) (M : zM) (k : Nat) : ∀ (l : List (Option Nat)) (j0 : Nat), (zfl ad M k j0 l).length = l.length := by
  intro l
  induction l with
  | nil => intro j0; rfl
  | cons o l ih => intro j0; simp [zfl, ih]
theorem zU_same (M : zM) (k j : Nat) (v : Int32) : zU M k j v k j = v := by simp [zU, upd]
theorem zU_row (M : zM) (k j : Nat) (v : Int32) : zU M k j v k = upd (M k) j v := by simp [zU]
theorem zU_off {M : zM} {k j : Nat} {v : Int32} {k' : Nat} (h : k' ≠ k) : zU M k j v k' = M k' := by simp [zU, h]
theorem zfl_set {ad : Nat → Nat} {M : zM} {k j : Nat} {v : Int32} {l : List (Option Nat)} (hl : l[j]? = some none) : (zfl ad M k 0 l).set j (.int v) = zfl ad (zU M k j v) k 0 l := by
  apply List.ext_getElem?
  intro i
  rw [List.getElem?_set, zfl_at, zfl_at]
  have hlt : j < l.length := (List.getElem?_eq_some_iff.mp hl).1
  by_cases hi : j = i
  · subst hi
    rw [if_pos rfl, zfl_len, if_pos hlt, hl]
    simp [zfld, zU, upd]
  · rw [if_neg hi]
    congr 1
    funext o
    cases o with
    | none => simp [zfld, zU, upd, Ne.symm hi]
    | some r => simp [zfld, zU, upd, Ne.symm hi]
/-- the reader's tape, from null to the tape -/
theorem zfl_setR {ad : Nat → Nat} {M : zM} {k j : Nat} {l : List (Option Nat)} (hl : l[j]? = some (some 900)) : (zfl ad M k 0 l).set j (.ref (ad 34)) = zfl ad (zU M k j 1) k 0 l := by
  apply List.ext_getElem?
  intro i
  rw [List.getElem?_set, zfl_at, zfl_at]
  have hlt : j < l.length := (List.getElem?_eq_some_iff.mp hl).1
  by_cases hi : j = i
  · subst hi
    rw [if_pos rfl, zfl_len, if_pos hlt, hl]
    simp [zfld, zU, upd]
  · rw [if_neg hi]
    congr 1
    funext o
    cases o with
    | none => simp [zfld, zU, upd, Ne.symm hi]
    | some r => simp [zfld, zU, upd, Ne.symm hi]
abbrev zG : Type := va_G × ClassId × (Nat → ClassId)
def zE (G : zG) (ad : Nat → Nat) (M : zM) (k : Nat) : va_E := match sh k with
  | .inl n => .inl (G.2.1, n, .inl (M k))
  | .inr (.inl q) => .inr (q.1, zfl ad M k 0 q.2)
  | .inr (.inr rs) => .inl (G.2.2 rs.1, rs.2.length, .inr (.inr (.inr (.inr fun j => (rs.2[j]?).map ad))))
def zW (G : zG) (ad : Nat → Nat) (M : zM) : va_W := (List.range NC).map fun k => (ad k, zE G ad M k)
theorem zW_at {G : zG} {ad : Nat → Nat} {M : zM} {k : Nat} (hk : k < NC) : (zW G ad M)[k]? = some (ad k, zE G ad M k) := by
  unfold zW
  rw [List.getElem?_map, List.getElem?_range hk]
  rfl
theorem zE_off {G : zG} {ad : Nat → Nat} {M M' : zM} {k : Nat} (h : M' k = M k) : zE G ad M' k = zE G ad M k := by
  have hf : ∀ (l : List (Option Nat)) (j : Nat), zfl ad M' k j l = zfl ad M k j l := by
    intro l
    induction l with
    | nil => intro j; rfl
    | cons o l ih => intro j; cases o <;> simp [zfl, zfld, ih, h]
  unfold zE
  cases sh k with
  | inl n => simp [h]
  | inr q => cases q with
    | inl q => simp [hf]
    | inr rs => rfl
theorem zW_set {G : zG} {ad : Nat → Nat} {M M' : zM} {k : Nat} {e' : va_E} (hk : k < NC) (he : e' = zE G ad M' k) (ho : ∀ q, q ≠ k → M' q = M q) : (zW G ad M).set k (ad k, e') = zW G ad M' := by
  subst he
  apply List.ext_getElem?
  intro i
  rw [List.getElem?_set]
  by_cases hi : k = i
  · subst hi
    rw [if_pos rfl, zW_at hk, if_pos]
    unfold zW; simp; exact hk
  · rw [if_neg hi]
    by_cases hl : i < NC
    · rw [zW_at hl, zW_at hl, zE_off (ho i (Ne.symm hi))]
    · unfold zW; rw [List.getElem?_eq_none (by simp; omega), List.getElem?_eq_none (by simp; omega)]
/-- which cells a method may change: the world's, and those that are made -/
def zA (ad : Nat → Nat) (sz : Nat) : Nat → Prop := fun q => (∃ k, k < NC ∧ q = ad k) ∨ sz ≤ q
theorem zA_in {ad : Nat → Nat} {sz k : Nat} (hk : k < NC) : zA ad sz (ad k) := Or.inl ⟨k, hk, rfl⟩
theorem zA_mono {ad : Nat → Nat} {sz sz' : Nat} (h : sz ≤ sz') : ∀ q, zA ad sz' q → zA ad sz q := fun _ hq => hq.elim Or.inl (fun h' => Or.inr (Nat.le_trans h h'))
/-- the addresses are apart -/
def zInj (ad : Nat → Nat) : Prop := ∀ i j, i < NC → j < NC → ad i = ad j → i = j
theorem zD {G : zG} {ad : Nat → Nat} {M : zM} {sz : Nat} (h : zInj ad) : va_D (zA ad sz) (zW G ad M) := by
  have lt : ∀ {k : Nat} {q : Nat × va_E}, (zW G ad M)[k]? = some q → k < NC ∧ q.1 = ad k := by
    intro k q hq
    have hk : k < NC := by
      have := (List.getElem?_eq_some_iff.mp hq).1
      simpa [zW] using this
    rw [zW_at hk] at hq
    cases hq
    exact ⟨hk, rfl⟩
  refine ⟨fun i j p q hp hq e => ?_, fun k q hq => ?_⟩
  · obtain ⟨h1, h2⟩ := lt hp
    obtain ⟨h3, h4⟩ := lt hq
    exact h i j h1 h3 (by rw [← h2, ← h4, e])
  · obtain ⟨h1, h2⟩ := lt hq
    rw [h2]
    exact zA_in h1
-- values: references are numbers of cells
def cv (ad : Nat → Nat) : Value → Value
  | .ref k => .ref (ad k)
  | v => v
theorem cv_cat (ad : Nat → Nat) (v : Value) : (cv ad v).category = v.category := by cases v <;> rfl
-- the classes
abbrev zCl : List vw_C := [(RX0, TX0, 15), (RX2, TX2, 5), (RX3, TX3, 3), (RX4, TX4, 2), (RX5, TX5, 8), (RX6, TX6, 22)]
abbrev zTy (G : zG) : List (ClassId × FieldType) := [(G.2.1, .int), (G.2.2 1, .object "NameRail$Sheet"), (G.2.2 2, .object "java/lang/String")]
/-- the good words of the tables -/
def zTB : List Cond := lw_tbl.filter goodWord
theorem zw {w : Cond} (i : Nat) (h : (lw_tbl[i]? == some w && goodWord w) = true) : w ∈ zTB := by
  simp only [Bool.and_eq_true, beq_iff_eq] at h
  exact List.mem_filter.mpr ⟨List.mem_of_getElem? h.1, h.2⟩
theorem zTB_good (w : Cond) (h : w ∈ zTB) : w ∈ lw_tbl ∧ goodWord w = true := List.mem_filter.mp h
theorem zTB_goodIn {c : Cond} {ws : List Cond} (hw : c ∈ zTB) (hs : ∀ w ∈ ws, w ∈ zTB) : GoodIn zTB (c :: ws) := by
  intro w h
  rcases List.mem_cons.mp h with rfl | h
  · exact ⟨hw, good_of_word (zTB_good _ hw).2⟩
  · exact ⟨hs _ h, good_of_word (zTB_good _ (hs _ h)).2⟩
