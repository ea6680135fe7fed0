/-! THE LAW'S START. -/
theorem w78 : Cond.classLink "NameRailLaw" 7 "NameRail" ∈ zTB := zw 78 (by decide +kernel)
theorem w79 : Cond.instantiable "NameRail" 8 ∈ zTB := zw 79 (by decide +kernel)
theorem w80 : Cond.methodLink "NameRailLaw" 9 ⟨"NameRail", "<init>", "()V"⟩ ∈ zTB := zw 80 (by decide +kernel)
theorem w81 : Cond.instanceMethod ⟨"NameRail", "<init>", "()V"⟩ ∈ zTB := zw 81 (by decide +kernel)
theorem w82 : Cond.code ⟨"NameRail", "<init>", "()V"⟩ prog_1_method_1_code 2 (none : Option FieldType) ∈ zTB := zw 82 (by decide +kernel)
theorem w751 : Cond.classLink "NameRailLaw" 10 "NameRailModel" ∈ zTB := zw 751 (by decide +kernel)
theorem w752 : Cond.instantiable "NameRailModel" 22 ∈ zTB := zw 752 (by decide +kernel)
theorem w753 : Cond.methodLink "NameRailLaw" 12 ⟨"NameRailModel", "<init>", "()V"⟩ ∈ zTB := zw 753 (by decide +kernel)
theorem w754 : Cond.instanceMethod ⟨"NameRailModel", "<init>", "()V"⟩ ∈ zTB := zw 754 (by decide +kernel)
theorem w755 : Cond.code ⟨"NameRailModel", "<init>", "()V"⟩ prog_8_method_1_code 2 (none : Option FieldType) ∈ zTB := zw 755 (by decide +kernel)
/-- the memory that the constructors leave -/
def zM0 : zM := fun k => match k with
  | 1 => (fun j => if j = 12 then 1 else 0)
  | 7 => (upd (upd (upd (upd (upd (upd (fun _ => 0) 0 100) 1 100) 2 100) 3 100) 4 100) 5 100)
  | 8 => (upd (upd (upd (upd (upd (upd (fun _ => 0) 0 (-1)) 1 (-1)) 2 (-1)) 3 (-1)) 4 (-1)) 5 (-1))
  | 9 => (upd (upd (upd (upd (upd (upd (upd (upd (upd (upd (fun _ => 0) 0 (-1)) 1 (-1)) 2 (-1)) 3 (-1)) 4 (-1)) 5 (-1)) 6 (-1)) 7 (-1)) 8 (-1)) 9 (-1))
  | 12 => (fun j => if j = 12 then 1 else 0)
  | 18 => (upd (upd (upd (upd (upd (upd (fun _ => 0) 0 100) 1 100) 2 100) 3 100) 4 100) 5 100)
  | 19 => (upd (upd (upd (upd (upd (upd (fun _ => 0) 0 (-1)) 1 (-1)) 2 (-1)) 3 (-1)) 4 (-1)) 5 (-1))
  | 20 => (upd (upd (upd (upd (upd (upd (upd (upd (upd (upd (fun _ => 0) 0 (-1)) 1 (-1)) 2 (-1)) 3 (-1)) 4 (-1)) 5 (-1)) 6 (-1)) 7 (-1)) 8 (-1)) 9 (-1))
  | 23 => (fun j => if j = 12 then 1 else 0)
  | 29 => (upd (upd (upd (upd (upd (upd (fun _ => 0) 0 100) 1 100) 2 100) 3 100) 4 100) 5 100)
  | 30 => (upd (upd (upd (upd (upd (upd (fun _ => 0) 0 (-1)) 1 (-1)) 2 (-1)) 3 (-1)) 4 (-1)) 5 (-1))
  | 31 => (upd (upd (upd (upd (upd (upd (upd (upd (upd (upd (fun _ => 0) 0 (-1)) 1 (-1)) 2 (-1)) 3 (-1)) 4 (-1)) 5 (-1)) 6 (-1)) 7 (-1)) 8 (-1)) 9 (-1))
  | 48 => (upd (upd (upd (upd (upd (upd (upd (upd (upd (upd (upd (upd (upd (upd (upd (upd (upd (upd (upd (upd (upd (upd (upd (fun _ => 0) 2 1) 5 (-1)) 6 (-1)) 7 (-1)) 8 (-1)) 9 (-1)) 10 (-1)) 11 (-1)) 12 (-1)) 13 (-1)) 14 (-1)) 55 100) 61 (-1)) 56 100) 62 (-1)) 57 100) 63 (-1)) 58 100) 64 (-1)) 59 100) 65 (-1)) 60 100) 66 (-1))
  | _ => fun _ => 0
def zRi : List Nat := [70, 78, 80, 82, 84, 86, 88, 102, 107, 115, 117, 123, 128]
def zTm (i : Nat) : Term := .string "NameRail$Reader" (zRi.getD i 0)
abbrev zGv : Cond := Jvm.Cond.and given_1 narrow_1
theorem zs_ex : ∀ i, i < 13 → Cond.exactly (zTm i) "java/lang/String" ∈ flatC zGv := by decide +kernel
theorem zs_co : ∀ i, i < 13 → Cond.eq (.field (zTm i) "java/lang/String" "coder" "B") (.int 0) ∈ flatC zGv := by decide +kernel
theorem zs_ar : ∀ i, i < 13 → Cond.arrayOf (.field (zTm i) "java/lang/String" "value" "[B") .byte ∈ flatC zGv := by decide +kernel
theorem zs_le : ∀ i, i < 13 → Cond.eq (.length (.field (zTm i) "java/lang/String" "value" "[B")) (.int (Int32.ofNat (zLen.getD i 0))) ∈ flatC zGv := by decide +kernel
theorem zs_el : ∀ i, i < 13 → ∀ j, j < zLen.getD i 0 → Cond.eq (.elem (.field (zTm i) "java/lang/String" "value" "[B") (.int (Int32.ofNat j))) (.int ((zByt.getD i []).getD j 0)) ∈ flatC zGv := by decide +kernel
theorem zs_ref : ∀ q ∈ zStrs, Cond.stringRef q.1 q.2.1 q.2.2.1 ∈ lw_tbl ∧ q.2.2.2 < 13 ∧ ((Term.string q.1 q.2.1 = zTm q.2.2.2) ∨ Cond.eq (zTm q.2.2.2) (.string q.1 q.2.1) ∈ flatC zGv) := by decide +kernel
theorem zs_ns : ∀ q ∈ zNs, Cond.methodLinkNest q.1 q.2.1 q.2.2.1 q.2.2.2 ∈ lw_tbl := by decide +kernel
theorem zs_apart : ∀ i, i < 13 → ∀ j, j < 13 → zLen.getD i 0 = zLen.getD j 0 → (∀ k, k < zLen.getD i 0 → (zByt.getD i []).getD k 0 = (zByt.getD j []).getD k 0) → i = j := by decide +kernel
/-- the strings of the start -/
theorem z_strs {args : Array Value} {s : State} {A : Nat → Prop} (hg : zGv.before args s = true) (hA : ∀ a : Nat, a < s.heap.size → ¬ A a) : ∃ ad : Nat → Nat, vk_S 13 zLen zByt (fun i => ad (1000 + i)) (fun i => ad (2000 + i)) A s s.heap ∧ ∀ i, i < 13 → (zTm i).eval args s none [] s = some (.ref (ad (1000 + i))) := by
  have hq := flat_of_before _ hg
  have h0 : ∀ i : Nat, ∃ q : Nat × Nat, i < 13 → (zTm i).eval args s none [] s = some (.ref q.1) ∧ va_O "java/lang/String" q.1 A s s.heap ∧ va_OF "java/lang/String" "coder" "B" (.int 0) q.1 A s s.heap ∧ va_OF "java/lang/String" "value" "[B" (.ref q.2) q.1 A s s.heap ∧ va_T .byte q.2 (zLen.getD i 0) (fun j => .int ((zByt.getD i []).getD j 0)) A s s.heap := by
    intro i
    by_cases hi : i < 13
    · obtain ⟨adK, adV, hS, hev⟩ := vk_Sof (args := args) (s := s) (N := 1) (tm := fun _ => zTm i) (len := [zLen.getD i 0]) (byt := [zByt.getD i []]) (A := A) (fun k hk => by
          have : k = 0 := by omega
          subst this
          exact Nat.lt_trans (zByt_ok i hi).1 (by decide)) (fun k hk => hq _ (zs_ex i hi)) (fun k hk => hq _ (zs_co i hi)) (fun k hk => hq _ (zs_ar i hi)) (fun k hk => by
          have : k = 0 := by omega
          subst this
          exact hq _ (zs_le i hi)) (fun k hk j hj => by
          have : k = 0 := by omega
          subst this
          exact hq _ (zs_el i hi j hj)) (fun a b ha hb hab => by omega) hA
      exact ⟨(adK 0, adV 0), fun _ => ⟨hev 0 (by omega), hS.1 0 (by omega)⟩⟩
    · exact ⟨(0, 0), fun h => absurd h hi⟩
  obtain ⟨ad, had⟩ := Classical.axiomOfChoice h0
  have e1 : ∀ i, i < 13 → (if 1000 ≤ 1000 + i ∧ 1000 + i < 1013 then (ad (1000 + i - 1000)).1 else if 2000 ≤ 1000 + i then (ad (1000 + i - 2000)).2 else 0) = (ad i).1 := fun i hi => by rw [if_pos (by omega), Nat.add_sub_cancel_left]
  have e2 : ∀ i, (if 1000 ≤ 2000 + i ∧ 2000 + i < 1013 then (ad (2000 + i - 1000)).1 else if 2000 ≤ 2000 + i then (ad (2000 + i - 2000)).2 else 0) = (ad i).2 := fun i => by rw [if_neg (by omega), if_pos (by omega), Nat.add_sub_cancel_left]
  refine ⟨fun k => if 1000 ≤ k ∧ k < 1013 then (ad (k - 1000)).1 else if 2000 ≤ k then (ad (k - 2000)).2 else 0, ⟨fun i hi => ?_, fun i j hi hj e => ?_⟩, fun i hi => ?_⟩
  · show va_O _ (if _ then _ else _) _ _ _ ∧ _
    simp only [e1 i hi, e2 i]
    exact (had i hi).2
  · simp only [e1 i hi, e1 j hj] at e
    have ev : (zTm i).eval args s none [] s = (zTm j).eval args s none [] s := by rw [(had i hi).1, (had j hj).1, e]
    have evf : ∀ o n d, (Term.field (zTm i) o n d).eval args s none [] s = (Term.field (zTm j) o n d).eval args s none [] s := fun o n d => by simp only [Term.eval, ev]
    have evl : (Term.length (.field (zTm i) "java/lang/String" "value" "[B")).eval args s none [] s = (Term.length (.field (zTm j) "java/lang/String" "value" "[B")).eval args s none [] s := by
      have := evf "java/lang/String" "value" "[B"
      simp only [Term.eval] at this ⊢
      rw [this]
    have eve : ∀ k, (Term.elem (.field (zTm i) "java/lang/String" "value" "[B") (.int k)).eval args s none [] s = (Term.elem (.field (zTm j) "java/lang/String" "value" "[B") (.int k)).eval args s none [] s := fun k => by
      have := evf "java/lang/String" "value" "[B"
      simp only [Term.eval] at this ⊢
      rw [this]
    have hl : Int32.ofNat (zLen.getD i 0) = Int32.ofNat (zLen.getD j 0) := by
      have h1 := va_eqt (hq _ (zs_le i hi))
      have h2 := va_eqt (hq _ (zs_le j hj))
      rw [evl, h2] at h1
      exact (Value.int.inj (Option.some.inj h1)).symm
    have hl2 : zLen.getD i 0 = zLen.getD j 0 := (nI_eq (Nat.lt_trans (zByt_ok i hi).1 (by decide)) (Nat.lt_trans (zByt_ok j hj).1 (by decide))).mp hl
    refine zs_apart i hi j hj hl2 (fun k hk => ?_)
    have h1 := va_eqt (hq _ (zs_el i hi k hk))
    have h2 := va_eqt (hq _ (zs_el j hj k (by rw [← hl2]; exact hk)))
    rw [eve, h2] at h1
    exact (Value.int.inj (Option.some.inj h1)).symm
  · show _ = some (Value.ref (if _ then _ else _))
    rw [e1 i hi]
    exact (had i hi).1

/-- the addresses of the world, the strings', the script's -/
def zAd (l : List Nat) (ad0 : Nat → Nat) (k : Nat) : Nat := if k < 61 then l.getD k 0 else ad0 k
/-- the law's loop on the pure machine: all that is left -/
def zPure : Prop := ∀ (xs : Nat → Int32) (n : Nat), n ≤ 3072 → zIter (f_law_l xs n) 1000 (0, zM0) = some 1

theorem z_up4 (a b c d : Nat) (x : Nat → Nat) (h0 : x 39 = a) (h1 : x 41 = b) (h2 : x 43 = c) (h3 : x 45 = d) : (fun j => (([39, 41, 43, 45] : List Nat)[j]?).map x) = va_up (va_up (va_up (va_up (fun _ => none) 0 (some a)) 1 (some b)) 2 (some c)) 3 (some d) := by
  subst h0; subst h1; subst h2; subst h3
  funext j
  match j with
  | 0 => rfl
  | 1 => rfl
  | 2 => rfl
  | 3 => rfl
  | j + 4 => simp [va_up]
theorem z_up7 (x : Nat → Nat) : (fun j => (([1000, 1001, 1002, 1003, 1004, 1005, 1006] : List Nat)[j]?).map x) = (va_up (va_up (va_up (va_up (va_up (va_up (va_up (fun _ => none) 0 (some (x (1000 + 0)))) 1 (some (x (1000 + 1)))) 2 (some (x (1000 + 2)))) 3 (some (x (1000 + 3)))) 4 (some (x (1000 + 4)))) 5 (some (x (1000 + 5)))) 6 (some (x (1000 + 6)))) := by
  funext j
  match j with
  | 0 => rfl
  | 1 => rfl
  | 2 => rfl
  | 3 => rfl
  | 4 => rfl
  | 5 => rfl
  | 6 => rfl
  | j + 7 => simp [va_up]
set_option maxHeartbeats 8000000 in
set_option maxRecDepth 40000 in
theorem z_wEq (ad0 : Nat → Nat) (dC : Nat → ClassId) (dI : Nat → Nat → Nat) (cI cS cT : ClassId) (x1 x2 : Nat) (q1 q2 : Nat → Nat) : zW ((dC, dI), cI, fun t => if t = 1 then cS else cT) (zAd [x1, (q1 0), (q1 1), (q1 2), (q1 3), (q1 4), (q1 5), (q1 6), (q1 7), (q1 8), (q1 9), (q1 10), (q1 11), (q1 12), (q1 13), (q1 14), (q1 15), (q1 16), (q1 17), (q1 18), (q1 19), (q1 20), (q1 21), (q1 22), (q1 23), (q1 24), (q1 25), (q1 26), (q1 27), (q1 28), (q1 29), (q1 30), (q1 31), (q1 32), (q1 33), (q1 34), (q1 35), (q1 36), (q1 37), (q1 38), (q1 39), (q1 40), (q1 41), (q1 42), (q1 43), (q1 44), (q1 45), x2, (q2 0), (q2 1), (q2 2), (q2 3), (q2 4), (q2 5), (q2 6), (q2 7), (q2 8), (q2 9), (q2 10), (q2 11), (q2 12)] ad0) zM0 = [(x1, .inr (4, [.ref (q1 0), .ref (q1 11), .ref (q1 22), .ref (q1 33), .ref (q1 35), .ref (q1 36), .ref (q1 37), .int 0])), ((q1 0), .inr (0, [.int 0, .ref (q1 1), .ref (q1 2), .ref (q1 3), .ref (q1 4), .ref (q1 5), .ref (q1 6), .ref (q1 7), .ref (q1 8), .int 0, .int 0, .int 0, .int 1, .ref (q1 9), .ref (q1 10)])), ((q1 1), .inl (cI, 8, .inl (fun _ => 0))), ((q1 2), .inl (cI, 8, .inl (fun _ => 0))), ((q1 3), .inl (cI, 8, .inl (fun _ => 0))), ((q1 4), .inl (cI, 8, .inl (fun _ => 0))), ((q1 5), .inl (cI, 8, .inl (fun _ => 0))), ((q1 6), .inl (cI, 6, .inl (upd (upd (upd (upd (upd (upd (fun _ => 0) 0 100) 1 100) 2 100) 3 100) 4 100) 5 100))), ((q1 7), .inl (cI, 6, .inl (upd (upd (upd (upd (upd (upd (fun _ => 0) 0 (-1)) 1 (-1)) 2 (-1)) 3 (-1)) 4 (-1)) 5 (-1)))), ((q1 8), .inl (cI, 10, .inl (upd (upd (upd (upd (upd (upd (upd (upd (upd (upd (fun _ => 0) 0 (-1)) 1 (-1)) 2 (-1)) 3 (-1)) 4 (-1)) 5 (-1)) 6 (-1)) 7 (-1)) 8 (-1)) 9 (-1)))), ((q1 9), .inl (cI, 6, .inl (fun _ => 0))), ((q1 10), .inl (cI, 6, .inl (fun _ => 0))), ((q1 11), .inr (0, [.int 0, .ref (q1 12), .ref (q1 13), .ref (q1 14), .ref (q1 15), .ref (q1 16), .ref (q1 17), .ref (q1 18), .ref (q1 19), .int 0, .int 0, .int 0, .int 1, .ref (q1 20), .ref (q1 21)])), ((q1 12), .inl (cI, 8, .inl (fun _ => 0))), ((q1 13), .inl (cI, 8, .inl (fun _ => 0))), ((q1 14), .inl (cI, 8, .inl (fun _ => 0))), ((q1 15), .inl (cI, 8, .inl (fun _ => 0))), ((q1 16), .inl (cI, 8, .inl (fun _ => 0))), ((q1 17), .inl (cI, 6, .inl (upd (upd (upd (upd (upd (upd (fun _ => 0) 0 100) 1 100) 2 100) 3 100) 4 100) 5 100))), ((q1 18), .inl (cI, 6, .inl (upd (upd (upd (upd (upd (upd (fun _ => 0) 0 (-1)) 1 (-1)) 2 (-1)) 3 (-1)) 4 (-1)) 5 (-1)))), ((q1 19), .inl (cI, 10, .inl (upd (upd (upd (upd (upd (upd (upd (upd (upd (upd (fun _ => 0) 0 (-1)) 1 (-1)) 2 (-1)) 3 (-1)) 4 (-1)) 5 (-1)) 6 (-1)) 7 (-1)) 8 (-1)) 9 (-1)))), ((q1 20), .inl (cI, 6, .inl (fun _ => 0))), ((q1 21), .inl (cI, 6, .inl (fun _ => 0))), ((q1 22), .inr (0, [.int 0, .ref (q1 23), .ref (q1 24), .ref (q1 25), .ref (q1 26), .ref (q1 27), .ref (q1 28), .ref (q1 29), .ref (q1 30), .int 0, .int 0, .int 0, .int 1, .ref (q1 31), .ref (q1 32)])), ((q1 23), .inl (cI, 8, .inl (fun _ => 0))), ((q1 24), .inl (cI, 8, .inl (fun _ => 0))), ((q1 25), .inl (cI, 8, .inl (fun _ => 0))), ((q1 26), .inl (cI, 8, .inl (fun _ => 0))), ((q1 27), .inl (cI, 8, .inl (fun _ => 0))), ((q1 28), .inl (cI, 6, .inl (upd (upd (upd (upd (upd (upd (fun _ => 0) 0 100) 1 100) 2 100) 3 100) 4 100) 5 100))), ((q1 29), .inl (cI, 6, .inl (upd (upd (upd (upd (upd (upd (fun _ => 0) 0 (-1)) 1 (-1)) 2 (-1)) 3 (-1)) 4 (-1)) 5 (-1)))), ((q1 30), .inl (cI, 10, .inl (upd (upd (upd (upd (upd (upd (upd (upd (upd (upd (fun _ => 0) 0 (-1)) 1 (-1)) 2 (-1)) 3 (-1)) 4 (-1)) 5 (-1)) 6 (-1)) 7 (-1)) 8 (-1)) 9 (-1)))), ((q1 31), .inl (cI, 6, .inl (fun _ => 0))), ((q1 32), .inl (cI, 6, .inl (fun _ => 0))), ((q1 33), .inr (3, [.ref (q1 34), .int 0])), ((q1 34), .inl (cI, 120, .inl (fun _ => 0))), ((q1 35), .inr (1, [.null, .int 0, .int 0, .int 0, .int 0])), ((q1 36), .inl (cS, 4, .inr (.inr (.inr (.inr (va_up (va_up (va_up (va_up (fun _ => none) 0 (some (q1 38))) 1 (some (q1 40))) 2 (some (q1 42))) 3 (some (q1 44)))))))), ((q1 37), .inl (cI, 7, .inl (fun _ => 0))), ((q1 38), .inr (2, [.ref (q1 39), .int 0, .int 0])), ((q1 39), .inl (cI, 40, .inl (fun _ => 0))), ((q1 40), .inr (2, [.ref (q1 41), .int 0, .int 0])), ((q1 41), .inl (cI, 40, .inl (fun _ => 0))), ((q1 42), .inr (2, [.ref (q1 43), .int 0, .int 0])), ((q1 43), .inl (cI, 40, .inl (fun _ => 0))), ((q1 44), .inr (2, [.ref (q1 45), .int 0, .int 0])), ((q1 45), .inl (cI, 40, .inl (fun _ => 0))), (x2, .inr (5, [.ref (q2 0), .ref (q2 1), .ref (q2 2), .int 0, .ref (q2 3), .ref (q2 4), .ref (q2 5), .ref (q2 6), .int 0, .int 0, .int 0, .int 0, .int 0, .int 0, .ref (q2 7), .ref (q2 8), .int 0, .int 0, .ref (q2 9), .ref (q2 10), .ref (q2 11), .ref (q2 12)])), ((q2 0), .inl (cI, 67, .inl (upd (upd (upd (upd (upd (upd (upd (upd (upd (upd (upd (upd (upd (upd (upd (upd (upd (upd (upd (upd (upd (upd (upd (fun _ => 0) 2 1) 5 (-1)) 6 (-1)) 7 (-1)) 8 (-1)) 9 (-1)) 10 (-1)) 11 (-1)) 12 (-1)) 13 (-1)) 14 (-1)) 55 100) 61 (-1)) 56 100) 62 (-1)) 57 100) 63 (-1)) 58 100) 64 (-1)) 59 100) 65 (-1)) 60 100) 66 (-1)))), ((q2 1), .inl (cI, 67, .inl (fun _ => 0))), ((q2 2), .inl (cI, 67, .inl (fun _ => 0))), ((q2 3), .inl (cI, 8, .inl (fun _ => 0))), ((q2 4), .inl (cI, 6, .inl (fun _ => 0))), ((q2 5), .inl (cI, 256, .inl (fun _ => 0))), ((q2 6), .inl (cI, 120, .inl (fun _ => 0))), ((q2 7), .inl (cT, 7, .inr (.inr (.inr (.inr (va_up (va_up (va_up (va_up (va_up (va_up (va_up (fun _ => none) 0 (some (ad0 (1000 + 0)))) 1 (some (ad0 (1000 + 1)))) 2 (some (ad0 (1000 + 2)))) 3 (some (ad0 (1000 + 3)))) 4 (some (ad0 (1000 + 4)))) 5 (some (ad0 (1000 + 5)))) 6 (some (ad0 (1000 + 6))))))))), ((q2 8), .inl (cI, 480, .inl (fun _ => 0))), ((q2 9), .inl (cI, 4, .inl (fun _ => 0))), ((q2 10), .inl (cI, 4, .inl (fun _ => 0))), ((q2 11), .inl (cI, 160, .inl (fun _ => 0))), ((q2 12), .inl (cI, 40, .inl (fun _ => 0)))] := by
  have e37 : zE ((dC, dI), cI, fun t => if t = 1 then cS else cT) (zAd [x1, (q1 0), (q1 1), (q1 2), (q1 3), (q1 4), (q1 5), (q1 6), (q1 7), (q1 8), (q1 9), (q1 10), (q1 11), (q1 12), (q1 13), (q1 14), (q1 15), (q1 16), (q1 17), (q1 18), (q1 19), (q1 20), (q1 21), (q1 22), (q1 23), (q1 24), (q1 25), (q1 26), (q1 27), (q1 28), (q1 29), (q1 30), (q1 31), (q1 32), (q1 33), (q1 34), (q1 35), (q1 36), (q1 37), (q1 38), (q1 39), (q1 40), (q1 41), (q1 42), (q1 43), (q1 44), (q1 45), x2, (q2 0), (q2 1), (q2 2), (q2 3), (q2 4), (q2 5), (q2 6), (q2 7), (q2 8), (q2 9), (q2 10), (q2 11), (q2 12)] ad0) zM0 37 = .inl (cS, 4, .inr (.inr (.inr (.inr (va_up (va_up (va_up (va_up (fun _ => none) 0 (some (q1 38))) 1 (some (q1 40))) 2 (some (q1 42))) 3 (some (q1 44))))))) := by
    show (Sum.inl (cS, 4, .inr (.inr (.inr (.inr (fun j => (([39, 41, 43, 45] : List Nat)[j]?).map _))))) : va_E) = _
    rw [z_up4 _ _ _ _ _ rfl rfl rfl rfl]
    rfl
  have e55 : zE ((dC, dI), cI, fun t => if t = 1 then cS else cT) (zAd [x1, (q1 0), (q1 1), (q1 2), (q1 3), (q1 4), (q1 5), (q1 6), (q1 7), (q1 8), (q1 9), (q1 10), (q1 11), (q1 12), (q1 13), (q1 14), (q1 15), (q1 16), (q1 17), (q1 18), (q1 19), (q1 20), (q1 21), (q1 22), (q1 23), (q1 24), (q1 25), (q1 26), (q1 27), (q1 28), (q1 29), (q1 30), (q1 31), (q1 32), (q1 33), (q1 34), (q1 35), (q1 36), (q1 37), (q1 38), (q1 39), (q1 40), (q1 41), (q1 42), (q1 43), (q1 44), (q1 45), x2, (q2 0), (q2 1), (q2 2), (q2 3), (q2 4), (q2 5), (q2 6), (q2 7), (q2 8), (q2 9), (q2 10), (q2 11), (q2 12)] ad0) zM0 55 = .inl (cT, 7, .inr (.inr (.inr (.inr (va_up (va_up (va_up (va_up (va_up (va_up (va_up (fun _ => none) 0 (some (ad0 (1000 + 0)))) 1 (some (ad0 (1000 + 1)))) 2 (some (ad0 (1000 + 2)))) 3 (some (ad0 (1000 + 3)))) 4 (some (ad0 (1000 + 4)))) 5 (some (ad0 (1000 + 5)))) 6 (some (ad0 (1000 + 6)))))))) := by
    show (Sum.inl (cT, 7, .inr (.inr (.inr (.inr (fun j => (([1000, 1001, 1002, 1003, 1004, 1005, 1006] : List Nat)[j]?).map _))))) : va_E) = _
    rw [z_up7]
    rfl
  apply List.ext_getElem?
  intro k
  by_cases hk : k < 61
  · rw [zW_at hk]
    match k, hk with
    | 0, _ => rfl
    | 1, _ => rfl
    | 2, _ => rfl
    | 3, _ => rfl
    | 4, _ => rfl
    | 5, _ => rfl
    | 6, _ => rfl
    | 7, _ => rfl
    | 8, _ => rfl
    | 9, _ => rfl
    | 10, _ => rfl
    | 11, _ => rfl
    | 12, _ => rfl
    | 13, _ => rfl
    | 14, _ => rfl
    | 15, _ => rfl
    | 16, _ => rfl
    | 17, _ => rfl
    | 18, _ => rfl
    | 19, _ => rfl
    | 20, _ => rfl
    | 21, _ => rfl
    | 22, _ => rfl
    | 23, _ => rfl
    | 24, _ => rfl
    | 25, _ => rfl
    | 26, _ => rfl
    | 27, _ => rfl
    | 28, _ => rfl
    | 29, _ => rfl
    | 30, _ => rfl
    | 31, _ => rfl
    | 32, _ => rfl
    | 33, _ => rfl
    | 34, _ => rfl
    | 35, _ => rfl
    | 36, _ => rfl
    | 37, _ => rw [e37]; rfl
    | 38, _ => rfl
    | 39, _ => rfl
    | 40, _ => rfl
    | 41, _ => rfl
    | 42, _ => rfl
    | 43, _ => rfl
    | 44, _ => rfl
    | 45, _ => rfl
    | 46, _ => rfl
    | 47, _ => rfl
    | 48, _ => rfl
    | 49, _ => rfl
    | 50, _ => rfl
    | 51, _ => rfl
    | 52, _ => rfl
    | 53, _ => rfl
    | 54, _ => rfl
    | 55, _ => rw [e55]; rfl
    | 56, _ => rfl
    | 57, _ => rfl
    | 58, _ => rfl
    | 59, _ => rfl
    | 60, _ => rfl
    | k + 61, hk => omega
  · rw [List.getElem?_eq_none (by unfold zW; rw [List.length_map, List.length_range]; show 61 ≤ k; omega), List.getElem?_eq_none (by simp; omega)]

set_option maxHeartbeats 8000000 in
set_option maxRecDepth 40000 in
theorem z_start {p : Program} {e : Env} {s : State} {m : MethodId} {below : List Frame} {meth : Method} {c : Code} (l : Launch) {b L : Nat} {xs : Nat → Int32} (hL : L ≤ 3072) (C0 : lw_At p s m meth c b L xs) (hpure : zPure) : W p l e room_1 s m #[Value.ref b] below meth c s.heap [] 0 0 (lw_Z below #[Value.ref b] s) (entryFrame m ([Value.ref b] : List Value).toArray 4) := by
  obtain ⟨hx, hb, hr, hml, hown, hts0, hX, hbl, hlocks, hgv⟩ := id C0
  have hts : ∀ w ∈ zTB, w.before #[Value.ref b] s = true := fun w hw => hts0 w (zTB_good w hw).1
  have hgf := flat_of_before _ hgv
  have hAn : ∀ a : Nat, a < s.heap.size → ¬ (fun q : Nat => s.heap.size ≤ q) a := fun a h => Nat.not_le.mpr h
  obtain ⟨ads, hSt, hev⟩ := z_strs (A := fun q : Nat => s.heap.size ≤ q) hgv hAn
  have hZc : va_Z "java/lang/String" "COMPACT_STRINGS" "Z" (.int 1) (fun q : Nat => s.heap.size ≤ q) s s.heap := va_Zof (hts0 (.laysStatic "java/lang/String" "COMPACT_STRINGS" "Z") (List.mem_of_getElem? (i := 611) (by decide +kernel))) (hts _ w74) (va_eqt (hgf _ (by decide +kernel))) hAn
  have hZs : va_Zq "jdk/internal/util/Preconditions" "SIOOBE_FORMATTER" "Ljava/util/function/BiFunction;" (fun q : Nat => s.heap.size ≤ q) s s.heap := va_Zqof (hts0 (.laysStatic "jdk/internal/util/Preconditions" "SIOOBE_FORMATTER" "Ljava/util/function/BiFunction;") (List.mem_of_getElem? (i := 627) (by decide +kernel))) (hts _ w76) (hgf _ (by decide +kernel)) hAn
  obtain ⟨ad0, had1, had2, hadS, hadb⟩ : ∃ ad0 : Nat → Nat, (∀ i, i < 13 → ad0 (1000 + i) = ads (1000 + i)) ∧ (∀ i, i < 13 → ad0 (2000 + i) = ads (2000 + i)) ∧ (va_Z "jdk/internal/util/Preconditions" "SIOOBE_FORMATTER" "Ljava/util/function/BiFunction;" .null (fun q : Nat => s.heap.size ≤ q) s s.heap ∨ va_Z "jdk/internal/util/Preconditions" "SIOOBE_FORMATTER" "Ljava/util/function/BiFunction;" (.ref (ad0 3000)) (fun q : Nat => s.heap.size ≤ q) s s.heap) ∧ ad0 4000 = b := by
    rcases hZs with h | ⟨t, h⟩
    · exact ⟨fun k => if k = 4000 then b else ads k, fun i hi => if_neg (show ¬ (1000 + i = 4000) by omega), fun i hi => if_neg (show ¬ (2000 + i = 4000) by omega), Or.inl h, if_pos rfl⟩
    · exact ⟨fun k => if k = 4000 then b else if k = 3000 then t else ads k, fun i hi => (if_neg (show ¬ (1000 + i = 4000) by omega)).trans (if_neg (show ¬ (1000 + i = 3000) by omega)), fun i hi => (if_neg (show ¬ (2000 + i = 4000) by omega)).trans (if_neg (show ¬ (2000 + i = 3000) by omega)), Or.inr h, if_pos rfl⟩
  have hSt : vk_S 13 zLen zByt (fun i => ad0 (1000 + i)) (fun i => ad0 (2000 + i)) (fun q : Nat => s.heap.size ≤ q) s s.heap := ⟨fun i hi => by
    show va_O _ (ad0 (1000 + i)) _ _ _ ∧ va_OF _ _ _ _ (ad0 (1000 + i)) _ _ _ ∧ va_OF _ _ _ (.ref (ad0 (2000 + i))) (ad0 (1000 + i)) _ _ _ ∧ va_T _ (ad0 (2000 + i)) _ _ _ _ _
    rw [had1 i hi, had2 i hi]
    exact hSt.1 i hi, fun i j hi hj e => hSt.2 i j hi hj (by
    have e : ad0 (1000 + i) = ad0 (1000 + j) := e
    rw [had1 i hi, had1 j hj] at e
    exact e)⟩
  have hRf : ∀ q ∈ zStrs, vk_R q.1 q.2.1 q.2.2.1 (ad0 (1000 + q.2.2.2)) s := fun q hq => by
    obtain ⟨h1, h2, h3⟩ := zs_ref q hq
    refine vk_R.of (hts0 _ h1) ?_
    rw [had1 _ h2]
    rcases h3 with h3 | h3
    · rw [h3]; exact hev _ h2
    · exact va_eqR (hgf _ h3) (hev _ h2)
  have hNs : ∀ q ∈ zNs, va_Nw (.methodLinkNest q.1 q.2.1 q.2.2.1 q.2.2.2) s := fun q hq => va_Nw.of rfl (hts0 _ (zs_ns q hq))

  obtain ⟨c0, iS0, hKn0⟩ := u_known (C := RX0) (T := TX0) (N := 15) (n := 15) hts zc0.2.1 (hts _ w87)
  obtain ⟨c1, iS1, hKn1⟩ := u_known (C := RX2) (T := TX2) (N := 5) (n := 5) hts zc1.2.1 (hts _ w173)
  obtain ⟨c2, iS2, hKn2⟩ := u_known (C := RX3) (T := TX3) (N := 3) (n := 3) hts zc2.2.1 (hts _ w196)
  obtain ⟨c3, iS3, hKn3⟩ := u_known (C := RX4) (T := TX4) (N := 2) (n := 2) hts zc3.2.1 (hts _ w159)
  obtain ⟨c4, iS4, hKn4⟩ := u_known (C := RX5) (T := TX5) (N := 8) (n := 8) hts zc4.2.1 (hts _ w79)
  obtain ⟨c5, iS5, hKn5⟩ := u_known (C := RX6) (T := TX6) (N := 22) (n := 22) hts zc5.2.1 (hts _ w752)
  obtain ⟨dC, dI, hKc⟩ : ∃ (dC : Nat → ClassId) (dI : Nat → Nat → Nat), ∀ (k : Nat) (q : vw_C), zCl[k]? = some q → u_Kn s q.1 q.2.1 q.2.2 (dC k) (dI k) := by
    refine ⟨fun k => match k with | 0 => c0 | 1 => c1 | 2 => c2 | 3 => c3 | 4 => c4 | _ => c5, fun k => match k with | 0 => iS0 | 1 => iS1 | 2 => iS2 | 3 => iS3 | 4 => iS4 | _ => iS5, ?_⟩
    intro k q hq
    match k, hq with
    | 0, hq => cases hq; exact hKn0
    | 1, hq => cases hq; exact hKn1
    | 2, hq => cases hq; exact hKn2
    | 3, hq => cases hq; exact hKn3
    | 4, hq => cases hq; exact hKn4
    | 5, hq => cases hq; exact hKn5
    | k + 6, hq => simp [zCl] at hq
  have hK : va_K (dC, dI) zCl [] s := ⟨hKc, fun k q h => by simp at h⟩
  have hP : va_P (dC, dI) zCl [] s.heap := fun k q h => by simp at h
  have hD : va_D (fun q : Nat => s.heap.size ≤ q) [] := ⟨fun i j p q h => by simp at h, fun k q h => by simp at h⟩
  have hl := lv_entry ([.ref b]) (n := 4) (Nat.le_of_ble_eq_true rfl)
  rw [lg_entry_eq]
  have cI9 : ClassId := c0
  have Z : zN (p, l, e, room_1, s, m, #[Value.ref b], below, meth, c, lw_Z below #[Value.ref b] s, (((dC, dI), cI9, fun _ => cI9) : zG), ad0, 0, 0) (fun q : Nat => s.heap.size ≤ q) code 4 R_law := ⟨hx, hb, hml, hown, hts, fun q h => h, hRf, hNs, hSt, va_AO.of (hts0 _ (List.mem_of_getElem? (i := 195) (by decide +kernel))), va_AO.of (hts0 _ (List.mem_of_getElem? (i := 758) (by decide +kernel)))⟩
  suffices K : VN (p, l, e, room_1, s, m, #[Value.ref b], below, meth, c, lw_Z below #[Value.ref b] s, (((dC, dI), cI9, fun _ => cI9) : zG), ad0, 0, 0) (fun q : Nat => s.heap.size ≤ q) 4 [] [] 0 0 0 [(0, .ref b)] [] from K hK s.heap [] _ hP hD va_S.rf hl
  refine N_new [.null, .null, .null, .null, .null, .null, .null, .int 0] Z zc4 w78 w79 w64 zfs4 (Nat.le_of_ble_eq_true rfl) (Nat.le_of_ble_eq_true rfl) (show decode code 0 = .ok (.new 7, 3) by decide +kernel) (fun x1 => ?_)
  refine N_dup rfl Z (show decode code 3 = .ok (.dup, 1) by decide +kernel) ?_
  refine N_callI (pre := []) Z in_X5_init ⟨w82, w64, ⟨by decide, by decide⟩, by decide +kernel⟩ rfl w80 w81 (show decode code 4 = .ok (.invokespecial 9, 3) by decide +kernel) ⟨Nat.le_of_ble_eq_true rfl, Nat.le_of_ble_eq_true rfl, Nat.le_of_ble_eq_true rfl, Nat.le_of_ble_eq_true rfl, Nat.le_of_ble_eq_true rfl⟩ (fun q1 cI cS => ?_)
  change VN _ _ 4 [(cI, .int), (cS, .object "NameRail$Sheet")] [(x1, .inr (4, [.ref (q1 0), .ref (q1 11), .ref (q1 22), .ref (q1 33), .ref (q1 35), .ref (q1 36), .ref (q1 37), .int 0])), ((q1 0), .inr (0, [.int 0, .ref (q1 1), .ref (q1 2), .ref (q1 3), .ref (q1 4), .ref (q1 5), .ref (q1 6), .ref (q1 7), .ref (q1 8), .int 0, .int 0, .int 0, .int 1, .ref (q1 9), .ref (q1 10)])), ((q1 1), .inl (cI, 8, .inl (fun _ => 0))), ((q1 2), .inl (cI, 8, .inl (fun _ => 0))), ((q1 3), .inl (cI, 8, .inl (fun _ => 0))), ((q1 4), .inl (cI, 8, .inl (fun _ => 0))), ((q1 5), .inl (cI, 8, .inl (fun _ => 0))), ((q1 6), .inl (cI, 6, .inl (upd (upd (upd (upd (upd (upd (fun _ => 0) 0 100) 1 100) 2 100) 3 100) 4 100) 5 100))), ((q1 7), .inl (cI, 6, .inl (upd (upd (upd (upd (upd (upd (fun _ => 0) 0 (-1)) 1 (-1)) 2 (-1)) 3 (-1)) 4 (-1)) 5 (-1)))), ((q1 8), .inl (cI, 10, .inl (upd (upd (upd (upd (upd (upd (upd (upd (upd (upd (fun _ => 0) 0 (-1)) 1 (-1)) 2 (-1)) 3 (-1)) 4 (-1)) 5 (-1)) 6 (-1)) 7 (-1)) 8 (-1)) 9 (-1)))), ((q1 9), .inl (cI, 6, .inl (fun _ => 0))), ((q1 10), .inl (cI, 6, .inl (fun _ => 0))), ((q1 11), .inr (0, [.int 0, .ref (q1 12), .ref (q1 13), .ref (q1 14), .ref (q1 15), .ref (q1 16), .ref (q1 17), .ref (q1 18), .ref (q1 19), .int 0, .int 0, .int 0, .int 1, .ref (q1 20), .ref (q1 21)])), ((q1 12), .inl (cI, 8, .inl (fun _ => 0))), ((q1 13), .inl (cI, 8, .inl (fun _ => 0))), ((q1 14), .inl (cI, 8, .inl (fun _ => 0))), ((q1 15), .inl (cI, 8, .inl (fun _ => 0))), ((q1 16), .inl (cI, 8, .inl (fun _ => 0))), ((q1 17), .inl (cI, 6, .inl (upd (upd (upd (upd (upd (upd (fun _ => 0) 0 100) 1 100) 2 100) 3 100) 4 100) 5 100))), ((q1 18), .inl (cI, 6, .inl (upd (upd (upd (upd (upd (upd (fun _ => 0) 0 (-1)) 1 (-1)) 2 (-1)) 3 (-1)) 4 (-1)) 5 (-1)))), ((q1 19), .inl (cI, 10, .inl (upd (upd (upd (upd (upd (upd (upd (upd (upd (upd (fun _ => 0) 0 (-1)) 1 (-1)) 2 (-1)) 3 (-1)) 4 (-1)) 5 (-1)) 6 (-1)) 7 (-1)) 8 (-1)) 9 (-1)))), ((q1 20), .inl (cI, 6, .inl (fun _ => 0))), ((q1 21), .inl (cI, 6, .inl (fun _ => 0))), ((q1 22), .inr (0, [.int 0, .ref (q1 23), .ref (q1 24), .ref (q1 25), .ref (q1 26), .ref (q1 27), .ref (q1 28), .ref (q1 29), .ref (q1 30), .int 0, .int 0, .int 0, .int 1, .ref (q1 31), .ref (q1 32)])), ((q1 23), .inl (cI, 8, .inl (fun _ => 0))), ((q1 24), .inl (cI, 8, .inl (fun _ => 0))), ((q1 25), .inl (cI, 8, .inl (fun _ => 0))), ((q1 26), .inl (cI, 8, .inl (fun _ => 0))), ((q1 27), .inl (cI, 8, .inl (fun _ => 0))), ((q1 28), .inl (cI, 6, .inl (upd (upd (upd (upd (upd (upd (fun _ => 0) 0 100) 1 100) 2 100) 3 100) 4 100) 5 100))), ((q1 29), .inl (cI, 6, .inl (upd (upd (upd (upd (upd (upd (fun _ => 0) 0 (-1)) 1 (-1)) 2 (-1)) 3 (-1)) 4 (-1)) 5 (-1)))), ((q1 30), .inl (cI, 10, .inl (upd (upd (upd (upd (upd (upd (upd (upd (upd (upd (fun _ => 0) 0 (-1)) 1 (-1)) 2 (-1)) 3 (-1)) 4 (-1)) 5 (-1)) 6 (-1)) 7 (-1)) 8 (-1)) 9 (-1)))), ((q1 31), .inl (cI, 6, .inl (fun _ => 0))), ((q1 32), .inl (cI, 6, .inl (fun _ => 0))), ((q1 33), .inr (3, [.ref (q1 34), .int 0])), ((q1 34), .inl (cI, 120, .inl (fun _ => 0))), ((q1 35), .inr (1, [.null, .int 0, .int 0, .int 0, .int 0])), ((q1 36), .inl (cS, 4, .inr (.inr (.inr (.inr (va_up (va_up (va_up (va_up (fun _ => none) 0 (some (q1 38))) 1 (some (q1 40))) 2 (some (q1 42))) 3 (some (q1 44)))))))), ((q1 37), .inl (cI, 7, .inl (fun _ => 0))), ((q1 38), .inr (2, [.ref (q1 39), .int 0, .int 0])), ((q1 39), .inl (cI, 40, .inl (fun _ => 0))), ((q1 40), .inr (2, [.ref (q1 41), .int 0, .int 0])), ((q1 41), .inl (cI, 40, .inl (fun _ => 0))), ((q1 42), .inr (2, [.ref (q1 43), .int 0, .int 0])), ((q1 43), .inl (cI, 40, .inl (fun _ => 0))), ((q1 44), .inr (2, [.ref (q1 45), .int 0, .int 0])), ((q1 45), .inl (cI, 40, .inl (fun _ => 0)))] 47 585 7 [(0, Value.ref b)] [Value.ref x1]
  refine N_astore_n [(1, Value.ref x1), (0, Value.ref b)] Z (by decide) rfl rfl (show decode code 7 = .ok (.astore_n 1, 1) by decide +kernel) ?_
  refine N_new [.null, .null, .null, .int 0, .null, .null, .null, .null, .int 0, .int 0, .int 0, .int 0, .int 0, .int 0, .null, .null, .int 0, .int 0, .null, .null, .null, .null] Z zc5 w751 w752 w69 zfs5 (Nat.le_of_ble_eq_true rfl) (Nat.le_of_ble_eq_true rfl) (show decode code 8 = .ok (.new 10, 3) by decide +kernel) (fun x2 => ?_)
  refine N_dup rfl Z (show decode code 11 = .ok (.dup, 1) by decide +kernel) ?_
  refine N_callI Z in_X6_init ⟨w755, w69, ⟨by decide, by decide⟩, by decide +kernel⟩ rfl w753 w754 (show decode code 12 = .ok (.invokespecial 12, 3) by decide +kernel) ⟨Nat.le_of_ble_eq_true rfl, Nat.le_of_ble_eq_true rfl, Nat.le_of_ble_eq_true rfl, Nat.le_of_ble_eq_true rfl, Nat.le_of_ble_eq_true rfl⟩ (fun q2 cI2 cT => ?_)
  change VN _ _ 4 [(cI, .int), (cS, .object "NameRail$Sheet"), (cI2, .int), (cT, .object "java/lang/String")] [(x1, .inr (4, [.ref (q1 0), .ref (q1 11), .ref (q1 22), .ref (q1 33), .ref (q1 35), .ref (q1 36), .ref (q1 37), .int 0])), ((q1 0), .inr (0, [.int 0, .ref (q1 1), .ref (q1 2), .ref (q1 3), .ref (q1 4), .ref (q1 5), .ref (q1 6), .ref (q1 7), .ref (q1 8), .int 0, .int 0, .int 0, .int 1, .ref (q1 9), .ref (q1 10)])), ((q1 1), .inl (cI, 8, .inl (fun _ => 0))), ((q1 2), .inl (cI, 8, .inl (fun _ => 0))), ((q1 3), .inl (cI, 8, .inl (fun _ => 0))), ((q1 4), .inl (cI, 8, .inl (fun _ => 0))), ((q1 5), .inl (cI, 8, .inl (fun _ => 0))), ((q1 6), .inl (cI, 6, .inl (upd (upd (upd (upd (upd (upd (fun _ => 0) 0 100) 1 100) 2 100) 3 100) 4 100) 5 100))), ((q1 7), .inl (cI, 6, .inl (upd (upd (upd (upd (upd (upd (fun _ => 0) 0 (-1)) 1 (-1)) 2 (-1)) 3 (-1)) 4 (-1)) 5 (-1)))), ((q1 8), .inl (cI, 10, .inl (upd (upd (upd (upd (upd (upd (upd (upd (upd (upd (fun _ => 0) 0 (-1)) 1 (-1)) 2 (-1)) 3 (-1)) 4 (-1)) 5 (-1)) 6 (-1)) 7 (-1)) 8 (-1)) 9 (-1)))), ((q1 9), .inl (cI, 6, .inl (fun _ => 0))), ((q1 10), .inl (cI, 6, .inl (fun _ => 0))), ((q1 11), .inr (0, [.int 0, .ref (q1 12), .ref (q1 13), .ref (q1 14), .ref (q1 15), .ref (q1 16), .ref (q1 17), .ref (q1 18), .ref (q1 19), .int 0, .int 0, .int 0, .int 1, .ref (q1 20), .ref (q1 21)])), ((q1 12), .inl (cI, 8, .inl (fun _ => 0))), ((q1 13), .inl (cI, 8, .inl (fun _ => 0))), ((q1 14), .inl (cI, 8, .inl (fun _ => 0))), ((q1 15), .inl (cI, 8, .inl (fun _ => 0))), ((q1 16), .inl (cI, 8, .inl (fun _ => 0))), ((q1 17), .inl (cI, 6, .inl (upd (upd (upd (upd (upd (upd (fun _ => 0) 0 100) 1 100) 2 100) 3 100) 4 100) 5 100))), ((q1 18), .inl (cI, 6, .inl (upd (upd (upd (upd (upd (upd (fun _ => 0) 0 (-1)) 1 (-1)) 2 (-1)) 3 (-1)) 4 (-1)) 5 (-1)))), ((q1 19), .inl (cI, 10, .inl (upd (upd (upd (upd (upd (upd (upd (upd (upd (upd (fun _ => 0) 0 (-1)) 1 (-1)) 2 (-1)) 3 (-1)) 4 (-1)) 5 (-1)) 6 (-1)) 7 (-1)) 8 (-1)) 9 (-1)))), ((q1 20), .inl (cI, 6, .inl (fun _ => 0))), ((q1 21), .inl (cI, 6, .inl (fun _ => 0))), ((q1 22), .inr (0, [.int 0, .ref (q1 23), .ref (q1 24), .ref (q1 25), .ref (q1 26), .ref (q1 27), .ref (q1 28), .ref (q1 29), .ref (q1 30), .int 0, .int 0, .int 0, .int 1, .ref (q1 31), .ref (q1 32)])), ((q1 23), .inl (cI, 8, .inl (fun _ => 0))), ((q1 24), .inl (cI, 8, .inl (fun _ => 0))), ((q1 25), .inl (cI, 8, .inl (fun _ => 0))), ((q1 26), .inl (cI, 8, .inl (fun _ => 0))), ((q1 27), .inl (cI, 8, .inl (fun _ => 0))), ((q1 28), .inl (cI, 6, .inl (upd (upd (upd (upd (upd (upd (fun _ => 0) 0 100) 1 100) 2 100) 3 100) 4 100) 5 100))), ((q1 29), .inl (cI, 6, .inl (upd (upd (upd (upd (upd (upd (fun _ => 0) 0 (-1)) 1 (-1)) 2 (-1)) 3 (-1)) 4 (-1)) 5 (-1)))), ((q1 30), .inl (cI, 10, .inl (upd (upd (upd (upd (upd (upd (upd (upd (upd (upd (fun _ => 0) 0 (-1)) 1 (-1)) 2 (-1)) 3 (-1)) 4 (-1)) 5 (-1)) 6 (-1)) 7 (-1)) 8 (-1)) 9 (-1)))), ((q1 31), .inl (cI, 6, .inl (fun _ => 0))), ((q1 32), .inl (cI, 6, .inl (fun _ => 0))), ((q1 33), .inr (3, [.ref (q1 34), .int 0])), ((q1 34), .inl (cI, 120, .inl (fun _ => 0))), ((q1 35), .inr (1, [.null, .int 0, .int 0, .int 0, .int 0])), ((q1 36), .inl (cS, 4, .inr (.inr (.inr (.inr (va_up (va_up (va_up (va_up (fun _ => none) 0 (some (q1 38))) 1 (some (q1 40))) 2 (some (q1 42))) 3 (some (q1 44)))))))), ((q1 37), .inl (cI, 7, .inl (fun _ => 0))), ((q1 38), .inr (2, [.ref (q1 39), .int 0, .int 0])), ((q1 39), .inl (cI, 40, .inl (fun _ => 0))), ((q1 40), .inr (2, [.ref (q1 41), .int 0, .int 0])), ((q1 41), .inl (cI, 40, .inl (fun _ => 0))), ((q1 42), .inr (2, [.ref (q1 43), .int 0, .int 0])), ((q1 43), .inl (cI, 40, .inl (fun _ => 0))), ((q1 44), .inr (2, [.ref (q1 45), .int 0, .int 0])), ((q1 45), .inl (cI, 40, .inl (fun _ => 0))), (x2, .inr (5, [.ref (q2 0), .ref (q2 1), .ref (q2 2), .int 0, .ref (q2 3), .ref (q2 4), .ref (q2 5), .ref (q2 6), .int 0, .int 0, .int 0, .int 0, .int 0, .int 0, .ref (q2 7), .ref (q2 8), .int 0, .int 0, .ref (q2 9), .ref (q2 10), .ref (q2 11), .ref (q2 12)])), ((q2 0), .inl (cI2, 67, .inl (upd (upd (upd (upd (upd (upd (upd (upd (upd (upd (upd (upd (upd (upd (upd (upd (upd (upd (upd (upd (upd (upd (upd (fun _ => 0) 2 1) 5 (-1)) 6 (-1)) 7 (-1)) 8 (-1)) 9 (-1)) 10 (-1)) 11 (-1)) 12 (-1)) 13 (-1)) 14 (-1)) 55 100) 61 (-1)) 56 100) 62 (-1)) 57 100) 63 (-1)) 58 100) 64 (-1)) 59 100) 65 (-1)) 60 100) 66 (-1)))), ((q2 1), .inl (cI2, 67, .inl (fun _ => 0))), ((q2 2), .inl (cI2, 67, .inl (fun _ => 0))), ((q2 3), .inl (cI2, 8, .inl (fun _ => 0))), ((q2 4), .inl (cI2, 6, .inl (fun _ => 0))), ((q2 5), .inl (cI2, 256, .inl (fun _ => 0))), ((q2 6), .inl (cI2, 120, .inl (fun _ => 0))), ((q2 7), .inl (cT, 7, .inr (.inr (.inr (.inr (va_up (va_up (va_up (va_up (va_up (va_up (va_up (fun _ => none) 0 (some (ad0 (1000 + 0)))) 1 (some (ad0 (1000 + 1)))) 2 (some (ad0 (1000 + 2)))) 3 (some (ad0 (1000 + 3)))) 4 (some (ad0 (1000 + 4)))) 5 (some (ad0 (1000 + 5)))) 6 (some (ad0 (1000 + 6))))))))), ((q2 8), .inl (cI2, 480, .inl (fun _ => 0))), ((q2 9), .inl (cI2, 4, .inl (fun _ => 0))), ((q2 10), .inl (cI2, 4, .inl (fun _ => 0))), ((q2 11), .inl (cI2, 160, .inl (fun _ => 0))), ((q2 12), .inl (cI2, 40, .inl (fun _ => 0)))] 61 1893 15 [(1, Value.ref x1), (0, Value.ref b)] [Value.ref x2]
  refine N_ty (i := 0) (j := 2) rfl rfl (fun e => ?_)
  subst e
  refine N_tys (tys2 := [(cI, .int), (cS, .object "NameRail$Sheet"), (cT, .object "java/lang/String")]) [0, 1, 3] rfl ?_
  refine N_astore_n [(2, Value.ref x2), (1, Value.ref x1), (0, Value.ref b)] Z (by decide) rfl rfl (show decode code 15 = .ok (.astore_n 2, 1) by decide +kernel) ?_
  refine N_iconst 0 (by decide) Z (show decode code 16 = .ok (.iconst 0, 1) by decide +kernel) ?_
  refine N_istore_n [(3, Value.int 0), (2, Value.ref x2), (1, Value.ref x1), (0, Value.ref b)] Z (by decide) rfl rfl (show decode code 17 = .ok (.istore_n 3, 1) by decide +kernel) ?_
  change VN _ _ 4 [(cI, .int), (cS, .object "NameRail$Sheet"), (cT, .object "java/lang/String")] [(x1, .inr (4, [.ref (q1 0), .ref (q1 11), .ref (q1 22), .ref (q1 33), .ref (q1 35), .ref (q1 36), .ref (q1 37), .int 0])), ((q1 0), .inr (0, [.int 0, .ref (q1 1), .ref (q1 2), .ref (q1 3), .ref (q1 4), .ref (q1 5), .ref (q1 6), .ref (q1 7), .ref (q1 8), .int 0, .int 0, .int 0, .int 1, .ref (q1 9), .ref (q1 10)])), ((q1 1), .inl (cI, 8, .inl (fun _ => 0))), ((q1 2), .inl (cI, 8, .inl (fun _ => 0))), ((q1 3), .inl (cI, 8, .inl (fun _ => 0))), ((q1 4), .inl (cI, 8, .inl (fun _ => 0))), ((q1 5), .inl (cI, 8, .inl (fun _ => 0))), ((q1 6), .inl (cI, 6, .inl (upd (upd (upd (upd (upd (upd (fun _ => 0) 0 100) 1 100) 2 100) 3 100) 4 100) 5 100))), ((q1 7), .inl (cI, 6, .inl (upd (upd (upd (upd (upd (upd (fun _ => 0) 0 (-1)) 1 (-1)) 2 (-1)) 3 (-1)) 4 (-1)) 5 (-1)))), ((q1 8), .inl (cI, 10, .inl (upd (upd (upd (upd (upd (upd (upd (upd (upd (upd (fun _ => 0) 0 (-1)) 1 (-1)) 2 (-1)) 3 (-1)) 4 (-1)) 5 (-1)) 6 (-1)) 7 (-1)) 8 (-1)) 9 (-1)))), ((q1 9), .inl (cI, 6, .inl (fun _ => 0))), ((q1 10), .inl (cI, 6, .inl (fun _ => 0))), ((q1 11), .inr (0, [.int 0, .ref (q1 12), .ref (q1 13), .ref (q1 14), .ref (q1 15), .ref (q1 16), .ref (q1 17), .ref (q1 18), .ref (q1 19), .int 0, .int 0, .int 0, .int 1, .ref (q1 20), .ref (q1 21)])), ((q1 12), .inl (cI, 8, .inl (fun _ => 0))), ((q1 13), .inl (cI, 8, .inl (fun _ => 0))), ((q1 14), .inl (cI, 8, .inl (fun _ => 0))), ((q1 15), .inl (cI, 8, .inl (fun _ => 0))), ((q1 16), .inl (cI, 8, .inl (fun _ => 0))), ((q1 17), .inl (cI, 6, .inl (upd (upd (upd (upd (upd (upd (fun _ => 0) 0 100) 1 100) 2 100) 3 100) 4 100) 5 100))), ((q1 18), .inl (cI, 6, .inl (upd (upd (upd (upd (upd (upd (fun _ => 0) 0 (-1)) 1 (-1)) 2 (-1)) 3 (-1)) 4 (-1)) 5 (-1)))), ((q1 19), .inl (cI, 10, .inl (upd (upd (upd (upd (upd (upd (upd (upd (upd (upd (fun _ => 0) 0 (-1)) 1 (-1)) 2 (-1)) 3 (-1)) 4 (-1)) 5 (-1)) 6 (-1)) 7 (-1)) 8 (-1)) 9 (-1)))), ((q1 20), .inl (cI, 6, .inl (fun _ => 0))), ((q1 21), .inl (cI, 6, .inl (fun _ => 0))), ((q1 22), .inr (0, [.int 0, .ref (q1 23), .ref (q1 24), .ref (q1 25), .ref (q1 26), .ref (q1 27), .ref (q1 28), .ref (q1 29), .ref (q1 30), .int 0, .int 0, .int 0, .int 1, .ref (q1 31), .ref (q1 32)])), ((q1 23), .inl (cI, 8, .inl (fun _ => 0))), ((q1 24), .inl (cI, 8, .inl (fun _ => 0))), ((q1 25), .inl (cI, 8, .inl (fun _ => 0))), ((q1 26), .inl (cI, 8, .inl (fun _ => 0))), ((q1 27), .inl (cI, 8, .inl (fun _ => 0))), ((q1 28), .inl (cI, 6, .inl (upd (upd (upd (upd (upd (upd (fun _ => 0) 0 100) 1 100) 2 100) 3 100) 4 100) 5 100))), ((q1 29), .inl (cI, 6, .inl (upd (upd (upd (upd (upd (upd (fun _ => 0) 0 (-1)) 1 (-1)) 2 (-1)) 3 (-1)) 4 (-1)) 5 (-1)))), ((q1 30), .inl (cI, 10, .inl (upd (upd (upd (upd (upd (upd (upd (upd (upd (upd (fun _ => 0) 0 (-1)) 1 (-1)) 2 (-1)) 3 (-1)) 4 (-1)) 5 (-1)) 6 (-1)) 7 (-1)) 8 (-1)) 9 (-1)))), ((q1 31), .inl (cI, 6, .inl (fun _ => 0))), ((q1 32), .inl (cI, 6, .inl (fun _ => 0))), ((q1 33), .inr (3, [.ref (q1 34), .int 0])), ((q1 34), .inl (cI, 120, .inl (fun _ => 0))), ((q1 35), .inr (1, [.null, .int 0, .int 0, .int 0, .int 0])), ((q1 36), .inl (cS, 4, .inr (.inr (.inr (.inr (va_up (va_up (va_up (va_up (fun _ => none) 0 (some (q1 38))) 1 (some (q1 40))) 2 (some (q1 42))) 3 (some (q1 44)))))))), ((q1 37), .inl (cI, 7, .inl (fun _ => 0))), ((q1 38), .inr (2, [.ref (q1 39), .int 0, .int 0])), ((q1 39), .inl (cI, 40, .inl (fun _ => 0))), ((q1 40), .inr (2, [.ref (q1 41), .int 0, .int 0])), ((q1 41), .inl (cI, 40, .inl (fun _ => 0))), ((q1 42), .inr (2, [.ref (q1 43), .int 0, .int 0])), ((q1 43), .inl (cI, 40, .inl (fun _ => 0))), ((q1 44), .inr (2, [.ref (q1 45), .int 0, .int 0])), ((q1 45), .inl (cI, 40, .inl (fun _ => 0))), (x2, .inr (5, [.ref (q2 0), .ref (q2 1), .ref (q2 2), .int 0, .ref (q2 3), .ref (q2 4), .ref (q2 5), .ref (q2 6), .int 0, .int 0, .int 0, .int 0, .int 0, .int 0, .ref (q2 7), .ref (q2 8), .int 0, .int 0, .ref (q2 9), .ref (q2 10), .ref (q2 11), .ref (q2 12)])), ((q2 0), .inl (cI, 67, .inl (upd (upd (upd (upd (upd (upd (upd (upd (upd (upd (upd (upd (upd (upd (upd (upd (upd (upd (upd (upd (upd (upd (upd (fun _ => 0) 2 1) 5 (-1)) 6 (-1)) 7 (-1)) 8 (-1)) 9 (-1)) 10 (-1)) 11 (-1)) 12 (-1)) 13 (-1)) 14 (-1)) 55 100) 61 (-1)) 56 100) 62 (-1)) 57 100) 63 (-1)) 58 100) 64 (-1)) 59 100) 65 (-1)) 60 100) 66 (-1)))), ((q2 1), .inl (cI, 67, .inl (fun _ => 0))), ((q2 2), .inl (cI, 67, .inl (fun _ => 0))), ((q2 3), .inl (cI, 8, .inl (fun _ => 0))), ((q2 4), .inl (cI, 6, .inl (fun _ => 0))), ((q2 5), .inl (cI, 256, .inl (fun _ => 0))), ((q2 6), .inl (cI, 120, .inl (fun _ => 0))), ((q2 7), .inl (cT, 7, .inr (.inr (.inr (.inr (va_up (va_up (va_up (va_up (va_up (va_up (va_up (fun _ => none) 0 (some (ad0 (1000 + 0)))) 1 (some (ad0 (1000 + 1)))) 2 (some (ad0 (1000 + 2)))) 3 (some (ad0 (1000 + 3)))) 4 (some (ad0 (1000 + 4)))) 5 (some (ad0 (1000 + 5)))) 6 (some (ad0 (1000 + 6))))))))), ((q2 8), .inl (cI, 480, .inl (fun _ => 0))), ((q2 9), .inl (cI, 4, .inl (fun _ => 0))), ((q2 10), .inl (cI, 4, .inl (fun _ => 0))), ((q2 11), .inl (cI, 160, .inl (fun _ => 0))), ((q2 12), .inl (cI, 40, .inl (fun _ => 0)))] 61 1893 18 [(3, Value.int 0), (2, Value.ref x2), (1, Value.ref x1), (0, Value.ref b)] []
  intro hK H locs ls hP hD hS hl
  obtain ⟨al, hal⟩ : ∃ al : List Nat, al = [x1, (q1 0), (q1 1), (q1 2), (q1 3), (q1 4), (q1 5), (q1 6), (q1 7), (q1 8), (q1 9), (q1 10), (q1 11), (q1 12), (q1 13), (q1 14), (q1 15), (q1 16), (q1 17), (q1 18), (q1 19), (q1 20), (q1 21), (q1 22), (q1 23), (q1 24), (q1 25), (q1 26), (q1 27), (q1 28), (q1 29), (q1 30), (q1 31), (q1 32), (q1 33), (q1 34), (q1 35), (q1 36), (q1 37), (q1 38), (q1 39), (q1 40), (q1 41), (q1 42), (q1 43), (q1 44), (q1 45), x2, (q2 0), (q2 1), (q2 2), (q2 3), (q2 4), (q2 5), (q2 6), (q2 7), (q2 8), (q2 9), (q2 10), (q2 11), (q2 12)] := ⟨_, rfl⟩
  obtain ⟨G, hG⟩ : ∃ G : zG, G = ((dC, dI), cI, fun t => if t = 1 then cS else cT) := ⟨_, rfl⟩
  have hW : zW G (zAd al ad0) zM0 = [(x1, .inr (4, [.ref (q1 0), .ref (q1 11), .ref (q1 22), .ref (q1 33), .ref (q1 35), .ref (q1 36), .ref (q1 37), .int 0])), ((q1 0), .inr (0, [.int 0, .ref (q1 1), .ref (q1 2), .ref (q1 3), .ref (q1 4), .ref (q1 5), .ref (q1 6), .ref (q1 7), .ref (q1 8), .int 0, .int 0, .int 0, .int 1, .ref (q1 9), .ref (q1 10)])), ((q1 1), .inl (cI, 8, .inl (fun _ => 0))), ((q1 2), .inl (cI, 8, .inl (fun _ => 0))), ((q1 3), .inl (cI, 8, .inl (fun _ => 0))), ((q1 4), .inl (cI, 8, .inl (fun _ => 0))), ((q1 5), .inl (cI, 8, .inl (fun _ => 0))), ((q1 6), .inl (cI, 6, .inl (upd (upd (upd (upd (upd (upd (fun _ => 0) 0 100) 1 100) 2 100) 3 100) 4 100) 5 100))), ((q1 7), .inl (cI, 6, .inl (upd (upd (upd (upd (upd (upd (fun _ => 0) 0 (-1)) 1 (-1)) 2 (-1)) 3 (-1)) 4 (-1)) 5 (-1)))), ((q1 8), .inl (cI, 10, .inl (upd (upd (upd (upd (upd (upd (upd (upd (upd (upd (fun _ => 0) 0 (-1)) 1 (-1)) 2 (-1)) 3 (-1)) 4 (-1)) 5 (-1)) 6 (-1)) 7 (-1)) 8 (-1)) 9 (-1)))), ((q1 9), .inl (cI, 6, .inl (fun _ => 0))), ((q1 10), .inl (cI, 6, .inl (fun _ => 0))), ((q1 11), .inr (0, [.int 0, .ref (q1 12), .ref (q1 13), .ref (q1 14), .ref (q1 15), .ref (q1 16), .ref (q1 17), .ref (q1 18), .ref (q1 19), .int 0, .int 0, .int 0, .int 1, .ref (q1 20), .ref (q1 21)])), ((q1 12), .inl (cI, 8, .inl (fun _ => 0))), ((q1 13), .inl (cI, 8, .inl (fun _ => 0))), ((q1 14), .inl (cI, 8, .inl (fun _ => 0))), ((q1 15), .inl (cI, 8, .inl (fun _ => 0))), ((q1 16), .inl (cI, 8, .inl (fun _ => 0))), ((q1 17), .inl (cI, 6, .inl (upd (upd (upd (upd (upd (upd (fun _ => 0) 0 100) 1 100) 2 100) 3 100) 4 100) 5 100))), ((q1 18), .inl (cI, 6, .inl (upd (upd (upd (upd (upd (upd (fun _ => 0) 0 (-1)) 1 (-1)) 2 (-1)) 3 (-1)) 4 (-1)) 5 (-1)))), ((q1 19), .inl (cI, 10, .inl (upd (upd (upd (upd (upd (upd (upd (upd (upd (upd (fun _ => 0) 0 (-1)) 1 (-1)) 2 (-1)) 3 (-1)) 4 (-1)) 5 (-1)) 6 (-1)) 7 (-1)) 8 (-1)) 9 (-1)))), ((q1 20), .inl (cI, 6, .inl (fun _ => 0))), ((q1 21), .inl (cI, 6, .inl (fun _ => 0))), ((q1 22), .inr (0, [.int 0, .ref (q1 23), .ref (q1 24), .ref (q1 25), .ref (q1 26), .ref (q1 27), .ref (q1 28), .ref (q1 29), .ref (q1 30), .int 0, .int 0, .int 0, .int 1, .ref (q1 31), .ref (q1 32)])), ((q1 23), .inl (cI, 8, .inl (fun _ => 0))), ((q1 24), .inl (cI, 8, .inl (fun _ => 0))), ((q1 25), .inl (cI, 8, .inl (fun _ => 0))), ((q1 26), .inl (cI, 8, .inl (fun _ => 0))), ((q1 27), .inl (cI, 8, .inl (fun _ => 0))), ((q1 28), .inl (cI, 6, .inl (upd (upd (upd (upd (upd (upd (fun _ => 0) 0 100) 1 100) 2 100) 3 100) 4 100) 5 100))), ((q1 29), .inl (cI, 6, .inl (upd (upd (upd (upd (upd (upd (fun _ => 0) 0 (-1)) 1 (-1)) 2 (-1)) 3 (-1)) 4 (-1)) 5 (-1)))), ((q1 30), .inl (cI, 10, .inl (upd (upd (upd (upd (upd (upd (upd (upd (upd (upd (fun _ => 0) 0 (-1)) 1 (-1)) 2 (-1)) 3 (-1)) 4 (-1)) 5 (-1)) 6 (-1)) 7 (-1)) 8 (-1)) 9 (-1)))), ((q1 31), .inl (cI, 6, .inl (fun _ => 0))), ((q1 32), .inl (cI, 6, .inl (fun _ => 0))), ((q1 33), .inr (3, [.ref (q1 34), .int 0])), ((q1 34), .inl (cI, 120, .inl (fun _ => 0))), ((q1 35), .inr (1, [.null, .int 0, .int 0, .int 0, .int 0])), ((q1 36), .inl (cS, 4, .inr (.inr (.inr (.inr (va_up (va_up (va_up (va_up (fun _ => none) 0 (some (q1 38))) 1 (some (q1 40))) 2 (some (q1 42))) 3 (some (q1 44)))))))), ((q1 37), .inl (cI, 7, .inl (fun _ => 0))), ((q1 38), .inr (2, [.ref (q1 39), .int 0, .int 0])), ((q1 39), .inl (cI, 40, .inl (fun _ => 0))), ((q1 40), .inr (2, [.ref (q1 41), .int 0, .int 0])), ((q1 41), .inl (cI, 40, .inl (fun _ => 0))), ((q1 42), .inr (2, [.ref (q1 43), .int 0, .int 0])), ((q1 43), .inl (cI, 40, .inl (fun _ => 0))), ((q1 44), .inr (2, [.ref (q1 45), .int 0, .int 0])), ((q1 45), .inl (cI, 40, .inl (fun _ => 0))), (x2, .inr (5, [.ref (q2 0), .ref (q2 1), .ref (q2 2), .int 0, .ref (q2 3), .ref (q2 4), .ref (q2 5), .ref (q2 6), .int 0, .int 0, .int 0, .int 0, .int 0, .int 0, .ref (q2 7), .ref (q2 8), .int 0, .int 0, .ref (q2 9), .ref (q2 10), .ref (q2 11), .ref (q2 12)])), ((q2 0), .inl (cI, 67, .inl (upd (upd (upd (upd (upd (upd (upd (upd (upd (upd (upd (upd (upd (upd (upd (upd (upd (upd (upd (upd (upd (upd (upd (fun _ => 0) 2 1) 5 (-1)) 6 (-1)) 7 (-1)) 8 (-1)) 9 (-1)) 10 (-1)) 11 (-1)) 12 (-1)) 13 (-1)) 14 (-1)) 55 100) 61 (-1)) 56 100) 62 (-1)) 57 100) 63 (-1)) 58 100) 64 (-1)) 59 100) 65 (-1)) 60 100) 66 (-1)))), ((q2 1), .inl (cI, 67, .inl (fun _ => 0))), ((q2 2), .inl (cI, 67, .inl (fun _ => 0))), ((q2 3), .inl (cI, 8, .inl (fun _ => 0))), ((q2 4), .inl (cI, 6, .inl (fun _ => 0))), ((q2 5), .inl (cI, 256, .inl (fun _ => 0))), ((q2 6), .inl (cI, 120, .inl (fun _ => 0))), ((q2 7), .inl (cT, 7, .inr (.inr (.inr (.inr (va_up (va_up (va_up (va_up (va_up (va_up (va_up (fun _ => none) 0 (some (ad0 (1000 + 0)))) 1 (some (ad0 (1000 + 1)))) 2 (some (ad0 (1000 + 2)))) 3 (some (ad0 (1000 + 3)))) 4 (some (ad0 (1000 + 4)))) 5 (some (ad0 (1000 + 5)))) 6 (some (ad0 (1000 + 6))))))))), ((q2 8), .inl (cI, 480, .inl (fun _ => 0))), ((q2 9), .inl (cI, 4, .inl (fun _ => 0))), ((q2 10), .inl (cI, 4, .inl (fun _ => 0))), ((q2 11), .inl (cI, 160, .inl (fun _ => 0))), ((q2 12), .inl (cI, 40, .inl (fun _ => 0)))] := by
    subst hal; subst hG
    exact z_wEq ad0 dC dI cI cS cT x1 x2 q1 q2
  rw [← hW] at hP hD
  have hge : ∀ q, zA (zAd al ad0) s.heap.size q → s.heap.size ≤ q := fun q hq => by
    rcases hq with ⟨k, hk, rfl⟩ | hq
    · exact hD.2 k _ (zW_at hk)
    · exact hq
  have hAw : ∀ q, s.heap.size ≤ q → zA (zAd al ad0) s.heap.size q := fun q h => Or.inr h
  have hinj : zInj (zAd al ad0) := fun i j hi hj e => hD.1 i j _ _ (zW_at hi) (zW_at hj) e
  have hbig : ∀ k, 61 ≤ k → zAd al ad0 k = ad0 k := fun k hk => if_neg (Nat.not_lt.mpr hk)
  have hEx : zExt (zAd al ad0) (zA (zAd al ad0) s.heap.size) s s.heap := by
    refine ⟨?_, hZc.narrow hge, ?_, fun q hq => ?_, hNs⟩
    · refine vk_S.narrow (A := fun q : Nat => s.heap.size ≤ q) ?_ hge
      have f1 : (fun i => zAd al ad0 (1000 + i)) = fun i => ad0 (1000 + i) := funext fun i => hbig _ (by omega)
      have f2 : (fun i => zAd al ad0 (2000 + i)) = fun i => ad0 (2000 + i) := funext fun i => hbig _ (by omega)
      rw [f1, f2]; exact hSt
    · rw [hbig 3000 (by omega)]; exact hadS.imp (fun z => z.narrow hge) (fun z => z.narrow hge)
    · rw [hbig _ (by omega)]; exact hRf q hq
  have h4 : zAd al ad0 4000 = b := by rw [hbig 4000 (by omega)]; exact hadb
  have hlw : zLw (p, l, e, room_1, s, m, #[Value.ref b], below, meth, c, lw_Z below #[Value.ref b] s, G, zAd al ad0, 61, 1893) xs L := by
    refine ⟨?_, ?_, ?_, hge, hb, hr, hlocks, rfl, ?_, ?_, Nat.le_of_ble_eq_true rfl, Nat.le_of_ble_eq_true rfl⟩
    · show va_X (zAd al ad0 4000) L xs s s.heap
      rw [h4]; exact hX
    · show zAd al ad0 4000 < s.heap.size
      rw [h4]; exact hbl
    · show ¬ zA (zAd al ad0) s.heap.size (zAd al ad0 4000)
      rw [h4]; exact fun z => absurd (hge _ z) (Nat.not_le.mpr hbl)
    · show #[Value.ref b] = #[Value.ref (zAd al ad0 4000)]
      rw [h4]
    · show lw_Z below #[Value.ref b] s = lw_Z below #[Value.ref (zAd al ad0 4000)] s
      rw [h4]
  have hKG : va_K G.1 zCl (zTy G) s := by
    subst hG; exact hK
  have Z1 : zC (p, l, e, room_1, s, m, #[Value.ref b], below, meth, c, lw_Z below #[Value.ref b] s, G, zAd al ad0, 61, 1893) code 4 "NameRailLaw" 11 274 := ⟨hx, hb, hml, hown, hts, hKG, hinj, hEx, ⟨Nat.le_of_ble_eq_true rfl, Nat.le_of_ble_eq_true rfl⟩, Nat.le_of_ble_eq_true rfl, Nat.le_of_ble_eq_true rfl⟩
  have hp2 : (zIter (f_law_l xs L) 1000 (0, zM0)).bind some = some 1 := by rw [hpure xs L hL]; rfl
  have fin := ok_law (E := (p, l, e, room_1, s, m, #[Value.ref b], below, meth, c, lw_Z below #[Value.ref b] s, G, zAd al ad0, 61, 1893)) (n := L) Z1 hlw (y := 1) rfl hp2 H locs ls
  refine fin ?_ ⟨hS.1, fun q h1 h2 => hS.2.1 q h1 (fun z => h2 (hAw q z)), fun q hq => hAw _ (hS.2.2 q hq)⟩ ?_
  · subst hG; exact hP
  · have e0 : zL (p, l, e, room_1, s, m, #[Value.ref b], below, meth, c, lw_Z below #[Value.ref b] s, G, zAd al ad0, 61, 1893) [(0, Value.ref 4000), (1, Value.ref 0), (2, Value.ref 47), (3, Value.int 0)] = [(0, .ref b), (1, .ref x1), (2, .ref x2), (3, .int 0)] := by
      show [(0, Value.ref (zAd al ad0 4000)), (1, Value.ref (zAd al ad0 0)), (2, Value.ref (zAd al ad0 47)), (3, Value.int 0)] = _
      rw [h4]; subst hal; rfl
    have e0 := e0
    rw [e0]
    exact lv_sub hl [3, 2, 1, 0] rfl
