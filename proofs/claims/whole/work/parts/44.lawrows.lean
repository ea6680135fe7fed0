/-! THE CLAIM OUT OF ONE WALK OF THE LAW'S BODY. Your part is whole_start (and what it stands on); all else here is the same for every law, but numbers. -/
def R_law : String := "NameRailLaw"
def lw_P (b : Addr) (xs : List Int32) (args : Array Value) (s : State) : Prop := args = #[.ref b] ∧ s.IntsAt b xs ∧ xs.length ≤ 3072 ∧ (Jvm.Cond.and given_1 narrow_1).before args s = true
def lw_Q (_ : Array Value) (s : State) (o : Outcome) (t : State) : Prop := o = .returned (some (.int 1)) ∧ Framed s o t [] 600000 7302250
def lw_Z (below : List Frame) (a : Array Value) (s : State) : State → Prop := fun t => ∃ o, t.status = .running ∧ Ended t below o ∧ lw_Q a s o t
/-- the law's own end, with 1 on the stack, nothing written that was there before, its room as the claim has it -/
theorem lw_ret {p : Program} {l : Launch} {e : Env} {s : State} {m : MethodId} {below : List Frame} {meth : Method} {c : Code} {b : Nat} (hx : p.tables.exec = Jvm.exec) (hb : c.code = code) (hr : meth.sig.returnType = ret) (hlocks : meth.locks = false) {pc : Nat} {H : Heap} {ls : Array Slot} (hdg : decode code pc = .ok (.ireturn, 1)) : W p l e room_1 s m #[Value.ref b] below meth c H [] 600000 7302250 (lw_Z below #[Value.ref b] s) (F0 m pc ls [.int 1]) := by
  intro T hT X
  obtain ⟨fs, hret, hrun, hended, hW, hframe⟩ := X.leave (v := some (.int 1)) (hlocks := hlocks) (fun h => by rw [hr] at h; cases h)
  have hmeth' : T.vm.method? m = some meth := X.method'
  refine ⟨T.setFrames fs, ?_, .returned (some (.int 1)), hrun, hended, rfl, ⟨_, rfl⟩, hW, hframe⟩
  jvm_step X.here [X.here.top, hx, hb, hdg, hmeth', hr, ret, narrow_b1]
  (try refine ⟨rfl, ?_⟩); (try refine ⟨rfl, ?_⟩)
  first | (intro acts; rw [hret _ acts rfl rfl rfl]) | rw [hret _ _ rfl rfl rfl]
  exact Steps.refl _
/-- what holds at the law's entry: the machine, the code, the tables' words (any of lw_tbl by 'hts w (by decide +kernel)'), the script of L ints xs at the cell b, what the Statement gives of the start (any of its parts by flat_of_before) -/
def lw_At (p : Program) (s : State) (m : MethodId) (meth : Method) (c : Code) (b L : Nat) (xs : Nat → Int32) : Prop :=
  p.tables.exec = Jvm.exec ∧ c.code = code ∧ meth.sig.returnType = ret ∧ c.maxLocals = 4 ∧ s.vm.findClass R_law = some m.cls ∧ (∀ w ∈ lw_tbl, w.before #[Value.ref b] s = true) ∧ va_X b L xs s s.heap ∧ b < s.heap.size ∧ meth.locks = false ∧ (Jvm.Cond.and given_1 narrow_1).before #[Value.ref b] s = true
/-! THE LAW'S OWN ROWS: the script, its end, from the constructors' world to the pure machine. -/
theorem z_outL {x : Int32} {lo hi : Int} {l : List Int32} (h : ∀ k ∈ l, ¬ x = k) (hl : (List.range (hi - lo + 1).toNat).all (fun j => l.contains (Int32.ofInt (lo + (j : Int)))) = true) : x.toInt < lo ∨ hi < x.toInt := by
  refine z_out (fun i h1 h2 e => ?_)
  have hj := List.all_eq_true.mp hl (i - lo).toNat (List.mem_range.mpr (by omega))
  have e2 : lo + (((i - lo).toNat : Nat) : Int) = i := by omega
  rw [e2] at hj
  exact h _ (List.contains_iff_mem.mp hj) e
/-- a place of the script -/
def zss (xs : Nat → Int32) (n : Nat) (i : Int32) : Option Int32 := if i < 0 ∨ n ≤ i.toNatClampNeg then none else some (xs i.toNatClampNeg)
/-- what the law's run knows beside zC: its script at the cell 4000, how it ends -/
def zLw (E : zEv) (xs : Nat → Int32) (n : Nat) : Prop :=
  va_X (ead E 4000) n xs (es E) (es E).heap ∧ ead E 4000 < (es E).heap.size ∧ ¬ eA E (ead E 4000) ∧ (∀ q, eA E q → (es E).heap.size ≤ q) ∧ (ec E).code = code ∧ (eme E).sig.returnType = ret ∧ (eme E).locks = false ∧ eR E = room_1 ∧ ea E = #[Value.ref (ead E 4000)] ∧ eQ E = lw_Z (ebl E) #[Value.ref (ead E 4000)] (es E) ∧ ecl E ≤ 600000 ∧ esl E ≤ 7302250
section ZLW
variable {E : zEv} {cc : ByteArray} {nL pc fr lo n : Nat} {own : String} {L : List (Nat × Value)} {S : List Value} {M : zM} {xs : Nat → Int32}
theorem V_slen (Z : zC E cc nL own fr lo) (hsc : zLw E xs n) (hd : decode cc pc = .ok (.arraylength, 1)) (k : VV E nL (pc + 1) L (.int (Int32.ofNat n) :: S) M) : VV E nL pc L (.ref 4000 :: S) M := fun H locs ls hP hS hl => va_slen Z.1 Z.2.1 hsc.1 hsc.2.1 hsc.2.2.1 hS hd (k H locs ls hP hS hl)
theorem V_sld {i v : Int32} (Z : zC E cc nL own fr lo) (hsc : zLw E xs n) (hv : zss xs n i = some v) (hd : decode cc pc = .ok (.iaload, 1)) (k : VV E nL (pc + 1) L (.int v :: S) M) : VV E nL pc L (.int i :: .ref 4000 :: S) M := fun H locs ls hP hS hl => by
  unfold zss at hv
  split at hv
  · cases hv
  · rename_i hin
    cases hv
    exact va_sld Z.1 Z.2.1 hsc.1 hsc.2.1 hsc.2.2.1 hS hin hd (k H locs ls hP hS hl)
theorem V_lawret {x y : Int32} (Z : zC E code nL own fr lo) (hsc : zLw E xs n) (hy : y = 1) (h : some x = some y) (hd : decode code pc = .ok (.ireturn, 1)) : VV E nL pc L [.int x] M := fun H locs ls hP hS hl => by
  subst hy
  cases h
  obtain ⟨hX, hbl, hbA, hge, hcd, hr, hlk, hR, hargs, hQ, hc, hs⟩ := hsc
  rw [hQ, hR, hargs]
  refine va_forget (fun q hq => hge _ (hS.2.2 q hq)) ?_
  refine W.widen hc hs ?_
  exact lw_ret Z.1 hcd hr hlk hd
end ZLW
