/-! WHAT THE GENERATED WALKS USE. -/
theorem zIter_loop' {σ ρ τ : Type} {b : σ → Option (σ ⊕ ρ)} {K : ρ → Option τ} {y : τ} (P : σ → Prop) (hs : ∀ (K1 : σ ⊕ ρ → Option τ) (s : σ), (∀ s', K1 (.inl s') = some y → P s') → (∀ z, K1 (.inr z) = some y → K z = some y) → (b s).bind K1 = some y → P s) : ∀ (n : Nat) (s : σ), (zIter b n s).bind K = some y → P s :=
  zIter_loop P (fun n s ih h => hs (zK' b n K) s ih (fun _ h => h) h)
theorem zB_ite {β τ : Type} {c : Prop} [Decidable c] {a b : Option β} {K : β → Option τ} {y : τ} (h : (if c then a else b).bind K = some y) : (c ∧ a.bind K = some y) ∨ (¬ c ∧ b.bind K = some y) := by
  by_cases hc : c
  · exact Or.inl ⟨hc, zB_pos hc h⟩
  · exact Or.inr ⟨hc, zB_neg hc h⟩
theorem zB_lift {α σ τ : Type} {o : Option α} {K1 : σ ⊕ α → Option τ} {K : α → Option τ} {y : τ} (c0 : ∀ z, K1 (.inr z) = some y → K z = some y) (h : (o.bind fun z => some (Sum.inr z)).bind K1 = some y) : o.bind K = some y := by
  cases o with
  | none => cases h
  | some v => exact c0 v h
theorem zB_top {α : Type} {o : Option α} {y : α} (h : o = some y) : o.bind some = some y := by subst h; rfl
theorem zB_let {α β τ : Type} {v : α} {f : α → Option β} {K : β → Option τ} {y : τ} (h : ((some v).bind f).bind K = some y) : ∃ w, v = w ∧ (f w).bind K = some y := ⟨v, rfl, h⟩
theorem z_out {x : Int32} {lo hi : Int} (h : ∀ i : Int, lo ≤ i → i ≤ hi → ¬ x = Int32.ofInt i) : x.toInt < lo ∨ hi < x.toInt := by
  by_cases h1 : x.toInt < lo
  · exact Or.inl h1
  · by_cases h2 : hi < x.toInt
    · exact Or.inr h2
    · exact absurd (Int32.ofInt_toInt x).symm (h x.toInt (Int.not_lt.mp h1) (Int.not_lt.mp h2))
theorem z_look {x : Int32} {d : Int} : ∀ {ps : List (Int × Int)}, (∀ p ∈ ps, ¬ x = Int32.ofInt p.1) → Op.lookupswitch.offset ps d x.toInt = d := by
  intro ps
  induction ps with
  | nil => intro _; rfl
  | cons p ps ih =>
    intro h
    obtain ⟨a, o⟩ := p
    rw [Op.lookupswitch.offset_cons, if_neg, ih (fun p hp => h p (List.mem_cons_of_mem _ hp))]
    intro e
    exact h (a, o) List.mem_cons_self (by rw [e]; exact (Int32.ofInt_toInt x).symm)
section ZX
variable {E : zEv} {cc : ByteArray} {nL pc fr lo : Nat} {own : String} {L : List (Nat × Value)} {S : List Value} {M : zM}
/-- a number gets a name -/
theorem V_nm {a b : Int32} (e : a = b) (k : VV E nL pc L (.int b :: S) M) : VV E nL pc L (.int a :: S) M := by subst e; exact k
theorem V_nml {a b : Int64} (e : a = b) (k : VV E nL pc L (.long b :: S) M) : VV E nL pc L (.long a :: S) M := by subst e; exact k
theorem V_nmM {M' : zM} (e : M = M') (k : VV E nL pc L S M') : VV E nL pc L S M := by subst e; exact k
theorem V_ldcw {index : Nat} (v : Int32) (Z : zC E cc nL own fr lo) (hw : Cond.constant own index v ∈ zTB) (hd : decode cc pc = .ok (.ldc_w index, 3)) (k : VV E nL (pc + 3) L (.int v :: S) M) : VV E nL pc L S M := fun H locs ls hP hS hl => lv_ldcw Z.1 Z.2.1 Z.2.2.2.1 (Z.2.2.2.2.1 _ hw) hd (k H locs ls hP hS hl)
theorem V_tabE {x : Int32} (i : Int32) {dflt lo2 hi off : Int} {offs : Array Int} {len : Nat} (tgt : Nat) (Z : zC E cc nL own fr lo) (e : x = i) (hd : decode cc pc = .ok (.tableswitch dflt lo2 hi offs, len)) (h : (decide (¬ i.toInt < lo2) && decide (¬ hi < i.toInt) && (offs[(i.toInt - lo2).toNat]? == some off) && decide ((pc : Int) + off = (tgt : Int))) = true) (k : VV E nL tgt L S M) : VV E nL pc L (.int x :: S) M := by
  subst e
  exact V_tabIn tgt Z hd h k
theorem V_lookE {x : Int32} (i : Int32) {dflt : Int} {ps : Array (Int × Int)} {len : Nat} (tgt : Nat) (Z : zC E cc nL own fr lo) (e : x = i) (hd : decode cc pc = .ok (.lookupswitch dflt ps, len)) (h : ((ps.toList.zip (ps.toList.drop 1)).all (fun (a, next) => a.1 < next.1) && decide ((pc : Int) + Op.lookupswitch.offset ps.toList dflt i.toInt = (tgt : Int))) = true) (k : VV E nL tgt L S M) : VV E nL pc L (.int x :: S) M := by
  subst e
  simp only [Bool.and_eq_true, decide_eq_true_eq] at h
  exact V_look tgt Z hd h.1 rfl h.2 k
theorem V_lookD {x : Int32} {dflt : Int} {ps : Array (Int × Int)} {len : Nat} (tgt : Nat) (Z : zC E cc nL own fr lo) (hd : decode cc pc = .ok (.lookupswitch dflt ps, len)) (hx : ∀ p ∈ ps.toList, ¬ x = Int32.ofInt p.1) (h : ((ps.toList.zip (ps.toList.drop 1)).all (fun (a, next) => a.1 < next.1) && decide ((pc : Int) + dflt = (tgt : Int))) = true) (k : VV E nL tgt L S M) : VV E nL pc L (.int x :: S) M := by
  simp only [Bool.and_eq_true, decide_eq_true_eq] at h
  exact V_look tgt Z hd h.1 (z_look hx) h.2 k
theorem V_iretP {x y : Int32} (Z : zC E cc nL own fr lo) (hE : zEnd E (some .int) (some (.int y)) M) (h : some x = some y) (hd : decode cc pc = .ok (.ireturn, 1)) : VV E nL pc L [.int x] M := by cases h; exact V_iret Z hE hd
theorem V_iretM {x : Int32} {y : Int32 × zM} (Z : zC E cc nL own fr lo) (hE : zEnd E (some .int) (some (.int y.1)) y.2) (h : some (x, M) = some y) (hd : decode cc pc = .ok (.ireturn, 1)) : VV E nL pc L [.int x] M := by cases h; exact V_iret Z hE hd
theorem V_zretP {x y : Int32} (Z : zC E cc nL own fr lo) (hE : zEnd E (some .boolean) (some (.int y)) M) (h : some x = some y) (hb : zbo x = some x) (hd : decode cc pc = .ok (.ireturn, 1)) : VV E nL pc L [.int x] M := by cases h; exact V_zret Z hb hE hd
theorem V_zretM {x : Int32} {y : Int32 × zM} (Z : zC E cc nL own fr lo) (hE : zEnd E (some .boolean) (some (.int y.1)) y.2) (h : some (x, M) = some y) (hb : zbo x = some x) (hd : decode cc pc = .ok (.ireturn, 1)) : VV E nL pc L [.int x] M := by cases h; exact V_zret Z hb hE hd
theorem V_lretM {x : Int64} {y : Int64 × zM} (Z : zC E cc nL own fr lo) (hE : zEnd E (some .long) (some (.long y.1)) y.2) (h : some (x, M) = some y) (hd : decode cc pc = .ok (.lreturn, 1)) : VV E nL pc L [.long x] M := by cases h; exact V_lret Z hE hd
theorem V_vretM {y : zM} (Z : zC E cc nL own fr lo) (hE : zEnd E none none y) (h : some M = some y) (hd : decode cc pc = .ok (.return_, 1)) : VV E nL pc L [] M := by cases h; exact V_vret Z hE hd
end ZX
theorem zbo_v {v w : Int32} (h : zbo v = some w) : v = w ∧ zbo w = some w := by
  have := h
  unfold zbo at this
  split at this
  · cases this; exact ⟨rfl, h⟩
  · cases this
theorem zrr_S {q : Nat} {i : Int32} (h : zrr 37 i = some q) : isS q := by
  obtain ⟨rs, h1, h2, h3⟩ := zrr_spec h
  cases h1
  have : q ∈ [39, 41, 43, 45] := List.mem_of_getElem? h3
  simpa [isS] using this
/-- the length of a string constant, a character of it -/
def zsl (w : Nat) : Int32 := nI (zLen.getD w 0)
def zsc (w : Nat) (i : Int32) : Option Int32 := if i < 0 ∨ zLen.getD w 0 ≤ i.toNatClampNeg then none else some ((zByt.getD w []).getD i.toNatClampNeg 0)
theorem zrr_W {q : Nat} {i : Int32} (h : zrr 55 i = some q) : ∃ w, w < 13 ∧ q = 1000 + w := by
  obtain ⟨rs, h1, h2, h3⟩ := zrr_spec h
  cases h1
  have : q ∈ [1000, 1001, 1002, 1003, 1004, 1005, 1006] := List.mem_of_getElem? h3
  simp only [List.mem_cons, List.not_mem_nil, or_false] at this
  exact ⟨q - 1000, by omega, by omega⟩
