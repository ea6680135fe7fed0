/-! CALLS AND RETURNS. -/
/-- how a method ends: with v, and the world at M' -/
def zQc (G : zG) (ad : Nat → Nat) (sz : Nat) (v : Option Value) (M' : zM) : Array Value → State → Outcome → State → Prop := fun _ st oc t => (oc = .returned v ∧ va_P G.1 zCl (zW G ad M') t.heap) ∧ va_F (zA ad sz) st t
/-- how it starts -/
def zPc (G : zG) (ad : Nat → Nat) (sz : Nat) (av : List Value) (M : zM) : Array Value → State → Prop := fun a U => a = (av.map (cv ad)).toArray ∧ U.heap.size = sz ∧ va_P G.1 zCl (zW G ad M) U.heap ∧ va_K G.1 zCl (zTy G) U ∧ zInj ad ∧ zExt ad (zA ad sz) U U.heap
/-- THE CONTRACT: called with av at memory M the method y answers v and leaves M' (fr frames, lo words of locals are enough) -/
def zRuns (y : MethodName) (bytes : ByteArray) (mL : Nat) (ret : Option FieldType) (fr lo : Nat) (av : List Value) (M : zM) (v : Option Value) (M' : zM) : Prop :=
  ∀ (l : Launch) (G : zG) (ad : Nat → Nat) (sz : Nat), Met l y (.code y bytes mL ret :: zTB) ({ frames := fr, cells := 0, slots := 0, locals := lo } : Room) (zPc G ad sz av M) (zQc G ad sz (v.map (cv ad)) M') 0 0 (zA ad sz)
theorem zPc_blind {G : zG} {ad : Nat → Nat} {sz : Nat} {av : List Value} {M : zM} : FrameBlind (zPc G ad sz av M) := fun a U g mk q => ⟨q.1, q.2.1, q.2.2.1, va_K.moved (u := U) (U := U.calling g mk a) (Vm.Alike.refl U.vm) q.2.2.2.1, q.2.2.2.2.1, zExt_same (u := U) (U := U.calling g mk a) rfl q.2.2.2.2.2⟩
/-- how a run ends well -/
def zEnd (E : zEv) (ret : Option FieldType) (v : Option Value) (M' : zM) : Prop :=
  (eme E).sig.returnType = ret ∧ (eme E).locks = false ∧ eQ E = MQ (ebl E) (zQc (eG E) (ead E) (es E).heap.size (v.map (cv (ead E))) M') (ea E) (es E) (ecl E) (esl E) (eA E)
theorem zL_args (ad : Nat → Nat) : ∀ (i : Nat) (av : List Value), lv_args i (av.map (cv ad)) = (lv_args i av).map fun q => (q.1, cv ad q.2) := by
  intro i av
  induction av generalizing i with
  | nil => rfl
  | cons v vs ih => simp only [List.map_cons, lv_args, cv_cat, ih]
theorem zSl_len (ad : Nat → Nat) (av : List Value) : (lg_sl (av.map (cv ad))).length = (lg_sl av).length := by
  induction av with
  | nil => rfl
  | cons v vs ih =>
    have h1 : lg_sl ((v :: vs).map (cv ad)) = (if (cv ad v).category = 2 then [Slot.val (cv ad v), .second] else [Slot.val (cv ad v)]) ++ lg_sl (vs.map (cv ad)) := rfl
    have h2 : lg_sl (v :: vs) = (if v.category = 2 then [Slot.val v, .second] else [Slot.val v]) ++ lg_sl vs := rfl
    rw [h1, h2, List.length_append, List.length_append, ih, cv_cat]
    split <;> rfl
theorem zRuns_of {y : MethodName} {bytes : ByteArray} {mL : Nat} {ret : Option FieldType} {fr lo : Nat} {av : List Value} {M : zM} {v : Option Value} {M' : zM} (hy : plainName y.cls = true) (hlen : (lg_sl av).length ≤ mL) (body : ∀ E : zEv, zC E bytes mL y.cls fr lo → zEnd E ret v M' → VV E mL 0 (lv_args 0 av) [] M) : zRuns y bytes mL ret fr lo av M v M' := by
  intro l G ad sz
  refine Met.ofW (cc := bytes) (maxL := mL) (ret := ret) hy rfl ?_
  intro p e s m args below meth c s₁ B hml hv
  obtain ⟨rfl, hsz, hP, hK, hinj, hX⟩ := hv
  have hts : ∀ w ∈ zTB, w.before ((av.map (cv ad)).toArray) s = true := fun w hw => atoms_spec (ws := .code y bytes mL ret :: zTB) B.pre w (List.mem_cons_of_mem _ hw)
  have hown : s.vm.findClass y.cls = some m.cls := findClass_of_methodNamed B.named
  subst hsz
  have hb := body (p, l, e, ({ frames := fr, cells := 0, slots := 0, locals := lo } : Room), s, m, (av.map (cv ad)).toArray, below, meth, c, MQ below (zQc G ad s.heap.size (v.map (cv ad)) M') (av.map (cv ad)).toArray s 0 0 (zA ad s.heap.size), G, ad, 0, 0)
    ⟨B.exec, B.bytes, hml, hown, hts, hK, hinj, hX, ⟨Nat.le_refl _, Nat.le_refl _⟩, Nat.le_refl _, Nat.le_refl _⟩ ⟨B.returns, B.notSynchronized, rfl⟩
  have hl := lv_entry (av.map (cv ad)) (n := mL) (by rw [zSl_len]; exact hlen)
  rw [lg_entry_eq]
  rw [zL_args] at hl
  exact hb s.heap [] _ hP va_S.rf hl
section ZR
variable {E : zEv} {cc : ByteArray} {nL pc fr lo : Nat} {own : String} {L : List (Nat × Value)} {S : List Value} {M : zM}
theorem V_iret {x : Int32} (Z : zC E cc nL own fr lo) (hE : zEnd E (some .int) (some (.int x)) M) (hd : decode cc pc = .ok (.ireturn, 1)) : VV E nL pc L [.int x] M := fun H locs ls hP hS hl => by
  obtain ⟨hr, hlk, hq⟩ := hE
  rw [hq]
  exact W.iret Z.1 Z.2.1 hr (fun t ht hW => ⟨⟨rfl, by rw [ht]; exact hP⟩, hS.F ht⟩) hS.2.2 hd (hlocks := hlk)
theorem V_zret {x : Int32} (Z : zC E cc nL own fr lo) (h : zbo x = some x) (hE : zEnd E (some .boolean) (some (.int x)) M) (hd : decode cc pc = .ok (.ireturn, 1)) : VV E nL pc L [.int x] M := fun H locs ls hP hS hl => by
  obtain ⟨hr, hlk, hq⟩ := hE
  have h01 : x = 0 ∨ x = 1 := by
    unfold zbo at h
    split at h
    · assumption
    · cases h
  rw [hq]
  exact W.zret Z.1 Z.2.1 hr (by rcases h01 with rfl | rfl <;> rfl) (fun t ht hW => ⟨⟨rfl, by rw [ht]; exact hP⟩, hS.F ht⟩) hS.2.2 hd (hlocks := hlk)
theorem V_lret {x : Int64} (Z : zC E cc nL own fr lo) (hE : zEnd E (some .long) (some (.long x)) M) (hd : decode cc pc = .ok (.lreturn, 1)) : VV E nL pc L [.long x] M := fun H locs ls hP hS hl => by
  obtain ⟨hr, hlk, hq⟩ := hE
  rw [hq]
  exact W.lret Z.1 Z.2.1 hr (fun t ht hW => ⟨⟨rfl, by rw [ht]; exact hP⟩, hS.F ht⟩) hS.2.2 hd (hlocks := hlk)
theorem V_vret (Z : zC E cc nL own fr lo) (hE : zEnd E none none M) (hd : decode cc pc = .ok (.return_, 1)) : VV E nL pc L [] M := fun H locs ls hP hS hl => by
  obtain ⟨hr, hlk, hq⟩ := hE
  rw [hq]
  exact W.vret Z.1 Z.2.1 hr (fun t ht hW => ⟨⟨rfl, by rw [ht]; exact hP⟩, hS.F ht⟩) hS.2.2 hd (hlocks := hlk)
end ZR
section ZCALL
variable {p : Program} {l : Launch} {e : Env} {R : Room} {s : State} {m : MethodId} {args : Array Value} {below : List Frame} {meth : Method} {c : Code} {H : Heap} {locs : List Loc} {cells slots : Nat} {Q : State → Prop}
variable {pc : Nat} {ls : Array Slot} {rest st0 : List Value} {a : Array Value} {A0 A1 : Nat → Prop} {H0 : Heap} {free : Addr → Prop}
theorem z_callg {v : Option Value} {B : State → Prop} (hr : va_Run p l e R s m args below meth c H locs cells slots 0 0 (F0 m pc ls st0) rest (fun st oc t => (oc = .returned v ∧ B t) ∧ va_F A1 st t) free) (hS : va_S A0 H0 H locs) (hA : ∀ q, q < H.size → A1 q → A0 q) (hf : ∀ q, free q → A0 q)
    (kk : ∀ (t : State) (H1 : Heap) (locs1 : List Loc), t.heap = H1 → B t → va_S A0 H0 H1 locs1 → W p l e R s m args below meth c H1 locs1 cells slots Q (F0 m (pc + 3) ls (v.toList ++ rest))) : W p l e R s m args below meth c H locs cells slots Q (F0 m pc ls st0) := by
  intro T hT X
  obtain ⟨v', st₀, t, T', L, h0, X', hL, e1, e2, ⟨⟨hv, hb⟩, hz, hk⟩, st⟩ := hr T hT X
  cases hv
  rw [h0] at hz hk
  obtain ⟨t2, a1, b1⟩ := kk t T'.heap (locs ++ L) e1.symm hb
    ⟨Nat.le_trans hS.1 (by rw [e1]; exact hz), fun q h1 h2 => by rw [e1, hk q (Nat.lt_of_lt_of_le h1 hS.1) (fun z => h2 (hA q (Nat.lt_of_lt_of_le h1 hS.1) z))]; exact hS.2.1 q h1 h2, fun q hq => by
      rcases List.mem_append.mp hq with h | h
      · exact hS.2.2 q h
      · exact hf _ (hL q h)⟩ T' rfl X'
  exact ⟨t2, st t2 a1, b1⟩
end ZCALL
section ZV
variable {E : zEv} {cc : ByteArray} {nL pc fr lo : Nat} {own : String} {L : List (Nat × Value)} {S : List Value} {M : zM}
/-- the callee's start, at the caller's heap -/
theorem z_pre {av : List Value} {H : Heap} {locs : List Loc} (Z : zC E cc nL own fr lo) (hP : va_P (eG E).1 zCl (zW (eG E) (ead E) M) H) (hS : va_S (eA E) (es E).heap H locs) : ∀ U : State, U.heap = H → (es E).WarmedH U.vm → zPc (eG E) (ead E) H.size av M (av.map (cv (ead E))).toArray U := fun U hU hW => by
  obtain ⟨hx, hb, hml, hown, hts, hK, hinj, hX, -⟩ := Z
  refine ⟨rfl, by rw [hU], by rw [hU]; exact hP, va_K.moved hW.alike hK, hinj, ?_⟩
  rw [hU]
  exact zExt_warm hW (zExt_narrow (zExt_kept hX hS.2.1) (zA_mono hS.1))
theorem cv_sum (ad : Nat → Nat) (l : List Value) : ((l.map (cv ad)).map fun v => v.category).sum = (l.map fun v => v.category).sum := by
  rw [List.map_map]
  congr 2
  funext v
  exact cv_cat ad v
/-- what the tables say of a method that is called -/
def zCd (y : MethodName) (bytes : ByteArray) (mL : Nat) (ret : Option FieldType) (n : Nat) : Prop := Cond.code y bytes mL ret ∈ zTB ∧ Cond.initialized y.cls ∈ zTB ∧ (y.cls ≠ "java/lang/invoke/MethodHandle" ∧ y.cls ≠ "java/lang/invoke/VarHandle") ∧ (parseMethodDescriptor y.desc).map (fun d => d.parameters.length) = some n
theorem z_cb {y : MethodName} {bytes : ByteArray} {mL n fr2 lo2 index : Nat} {ret : Option FieldType} (Z : zC E cc nL own fr lo) (hy : zCd y bytes mL ret n) (hl : Cond.methodLink own index y ∈ zTB) (hR : fr2 + 1 ≤ fr ∧ 8 + (mL + 11) + lo2 ≤ lo) : CallB (eR E) (es E) (ea E) own index y bytes mL ret (.code y bytes mL ret :: zTB) ({ frames := fr2, cells := 0, slots := 0, locals := lo2 } : Room) 0 0 n := by
  obtain ⟨h1, h2, h3, h4⟩ := hy
  have hts := Z.2.2.2.2.1
  exact callB_of n hts (zTB_goodIn h1 (fun w h => h)) rfl rfl rfl (hts _ h2) (hts _ hl) ⟨h3.1, h3.2, h4⟩ ⟨Nat.le_trans hR.1 Z.2.2.2.2.2.2.2.2.1.1, Nat.le_trans hR.2 Z.2.2.2.2.2.2.2.2.1.2⟩
theorem z_recv {k ci : Nat} {fl : List (Option Nat)} {C : String} {T : u_T} {N : Nat} {ty : Nat → FieldType} {H : Heap} (Z : zC E cc nL own fr lo) (hP : va_P (eG E).1 zCl (zW (eG E) (ead E) M) H) (hc : zCls ci C T N ty) (hk : k < NC) (hs : sh k = .inr (.inl (ci, fl))) : ∃ cell : Cell, H[ead E k]? = some cell ∧ cell.vm.isStatics = false ∧ (es E).vm.findClass C = some cell.cls := by
  have hz := zW_at (G := eG E) (ad := ead E) (M := M) hk
  rw [zE_obj hs] at hz
  exact va_recv Z.2.2.2.2.2.1 hP (ci := ci) (q0 := k) hc.1 hz
/-- a virtual call (a private method of one's own class among them) -/
theorem V_callV {y : MethodName} {bytes : ByteArray} {mL fr2 lo2 index : Nat} {ret : Option FieldType} {k ci N : Nat} {fl : List (Option Nat)} {T : u_T} {ty : Nat → FieldType} {As rest : List Value} {v : Option Value} {M' : zM} (n : Nat) (Z : zC E cc nL own fr lo) (hr : zRuns y bytes mL ret fr2 lo2 (.ref k :: As) M v M') (hy : zCd y bytes mL ret n) (hc : zCls ci y.cls T N ty) (hk : k < NC) (hs : sh k = .inr (.inl (ci, fl))) (hl : Cond.methodLink own index y ∈ zTB) (hi : Cond.instanceMethod y ∈ zTB) (hsel : Cond.selects y.cls y y ∈ zTB) (hst : S = As.reverse ++ .ref k :: rest) (hd : decode cc pc = .ok (.invokevirtual index, 3)) (hR : (decide (fr2 + 1 ≤ fr) && decide (8 + (mL + 11) + lo2 ≤ lo) && decide (As.length = n) && decide ((rest.map fun v => v.category).sum ≤ 8)) = true) (kk : VV E nL (pc + 3) L (v.toList ++ rest) M') : VV E nL pc L S M := fun H locs ls hP hS hl2 => by
  simp only [Bool.and_eq_true, decide_eq_true_eq] at hR
  subst hst
  have hx := Z.1
  refine z_callg (va_runV (C := y.cls) (As := As.map (cv (ead E))) (b := ead E k) (rest := rest.map (cv (ead E))) (n := n) ⟨Z.1, Z.2.1, Z.2.2.1, Z.2.2.2.1, Z.2.2.2.2.1⟩ (hr (el E) (eG E) (ead E) H.size) ⟨z_cb Z hy hl ⟨hR.1.1.1, hR.1.1.2⟩, Z.2.2.2.2.1 _ hi, Z.2.2.2.2.1 _ hsel⟩ ⟨zPc_blind, z_recv Z hP hc hk hs, z_pre Z hP hS⟩ rfl (by rw [List.length_map]; exact hR.1.2) hl2.1 ?_ ?_ hd ⟨Z.2.2.2.2.2.2.2.2.2.1, Z.2.2.2.2.2.2.2.2.2.2⟩) hS (fun q _ h => zA_mono hS.1 q h) (fun q h => zA_mono hS.1 q h) (fun t H1 locs1 ht hB hS1 => ?_)
  · show List.map (cv (ead E)) (As.reverse ++ .ref k :: rest) = _
    rw [List.map_append, List.map_reverse]
    rfl
  · show 2 * 0 + _ ≤ 8
    rw [cv_sum]
    omega
  · subst ht
    have h2 := kk t.heap locs1 ls hB hS1 hl2
    rw [List.map_append] at h2
    cases v <;> exact h2
/-- a static call -/
theorem V_callS {y : MethodName} {bytes : ByteArray} {mL fr2 lo2 index : Nat} {ret : Option FieldType} {As rest : List Value} {v : Option Value} {M' : zM} (n : Nat) (Z : zC E cc nL own fr lo) (hr : zRuns y bytes mL ret fr2 lo2 As M v M') (hy : zCd y bytes mL ret n) (hl : Cond.methodLink own index y ∈ zTB) (hi : Cond.static y ∈ zTB) (hst : S = As.reverse ++ rest) (hd : decode cc pc = .ok (.invokestatic index, 3)) (hR : (decide (fr2 + 1 ≤ fr) && decide (8 + (mL + 11) + lo2 ≤ lo) && decide (As.length = n) && decide ((rest.map fun v => v.category).sum ≤ 8)) = true) (kk : VV E nL (pc + 3) L (v.toList ++ rest) M') : VV E nL pc L S M := fun H locs ls hP hS hl2 => by
  simp only [Bool.and_eq_true, decide_eq_true_eq] at hR
  subst hst
  refine z_callg (va_runS (As := As.map (cv (ead E))) (rest := rest.map (cv (ead E))) (n := n) ⟨Z.1, Z.2.1, Z.2.2.1, Z.2.2.2.1, Z.2.2.2.2.1⟩ (hr (el E) (eG E) (ead E) H.size) ⟨z_cb Z hy hl ⟨hR.1.1.1, hR.1.1.2⟩, Z.2.2.2.2.1 _ hi⟩ ⟨zPc_blind, z_pre Z hP hS⟩ rfl (by rw [List.length_map]; exact hR.1.2) hl2.1 ?_ ?_ hd ⟨Z.2.2.2.2.2.2.2.2.2.1, Z.2.2.2.2.2.2.2.2.2.2⟩) hS (fun q _ h => zA_mono hS.1 q h) (fun q h => zA_mono hS.1 q h) (fun t H1 locs1 ht hB hS1 => ?_)
  · show List.map (cv (ead E)) (As.reverse ++ rest) = _
    rw [List.map_append, List.map_reverse]
  · show 2 * 0 + _ ≤ 8
    rw [cv_sum]
    omega
  · subst ht
    have h2 := kk t.heap locs1 ls hB hS1 hl2
    rw [List.map_append] at h2
    cases v <;> exact h2
/-- a static call of a nest mate's private method -/
theorem V_callSN {y : MethodName} {bytes : ByteArray} {mL fr2 lo2 index : Nat} {ret : Option FieldType} {As rest : List Value} {v : Option Value} {M' : zM} (n : Nat) (host : String) (Z : zC E cc nL own fr lo) (hr : zRuns y bytes mL ret fr2 lo2 As M v M') (hy : zCd y bytes mL ret n) (hl : (own, index, y, host) ∈ zNs) (hi : Cond.static y ∈ zTB) (hst : S = As.reverse ++ rest) (hd : decode cc pc = .ok (.invokestatic index, 3)) (hR : (decide (fr2 + 1 ≤ fr) && decide (8 + (mL + 11) + lo2 ≤ lo) && decide (As.length = n) && decide ((rest.map fun v => v.category).sum ≤ 8)) = true) (kk : VV E nL (pc + 3) L (v.toList ++ rest) M') : VV E nL pc L S M := fun H locs ls hP hS hl2 => by
  simp only [Bool.and_eq_true, decide_eq_true_eq] at hR
  subst hst
  obtain ⟨h1, h2, h3, h4⟩ := id hy
  have hts := Z.2.2.2.2.1
  have hN : va_Nw (.methodLinkNest own index y host) (es E) := Z.2.2.2.2.2.2.2.1.2.2.2.2 _ hl
  refine z_callg (va_runSN (host := host) (As := As.map (cv (ead E))) (rest := rest.map (cv (ead E))) (n := n) ⟨Z.1, Z.2.1, Z.2.2.1, Z.2.2.2.1, Z.2.2.2.2.1⟩ (hr (el E) (eG E) (ead E) H.size) ⟨va_cnB n hts (zTB_goodIn h1 (fun w h => h)) rfl rfl rfl hN (hts _ h2) ⟨h3.1, h3.2, h4⟩ ⟨Nat.le_trans hR.1.1.1 Z.2.2.2.2.2.2.2.2.1.1, Nat.le_trans hR.1.1.2 Z.2.2.2.2.2.2.2.2.1.2⟩, hts _ hi, trivial⟩ ⟨zPc_blind, z_pre Z hP hS⟩ rfl (by rw [List.length_map]; exact hR.1.2) hl2.1 ?_ ?_ hd ⟨Z.2.2.2.2.2.2.2.2.2.1, Z.2.2.2.2.2.2.2.2.2.2⟩) hS (fun q _ h => zA_mono hS.1 q h) (fun q h => zA_mono hS.1 q h) (fun t H1 locs1 ht hB hS1 => ?_)
  · show List.map (cv (ead E)) (As.reverse ++ rest) = _
    rw [List.map_append, List.map_reverse]
  · show 2 * 0 + _ ≤ 8
    rw [cv_sum]
    omega
  · subst ht
    have h2 := kk t.heap locs1 ls hB hS1 hl2
    rw [List.map_append] at h2
    cases v <;> exact h2
end ZV
section ZN
variable {E : zEv} {cc : ByteArray} {nL pc fr lo : Nat} {own : String} {L : List (Nat × Value)} {S : List Value} {M : zM}
def zMM : List Cond := [.static Lib.Math.min.name, .initialized "java/lang/Math", .code Lib.Math.min.name Lib.Math.min.code 2 (some .int), .static Lib.Math.max.name, .code Lib.Math.max.name Lib.Math.max.code 2 (some .int)]
theorem V_min {index : Nat} {x y : Int32} (Z : zC E cc nL own fr lo) (hl : Cond.methodLink own index Lib.Math.min.name ∈ zTB) (hs : Cond.static Lib.Math.min.name ∈ zTB) (hi : Cond.initialized "java/lang/Math" ∈ zTB) (hc : Cond.code Lib.Math.min.name Lib.Math.min.code 2 (some .int) ∈ zTB) (hd : decode cc pc = .ok (.invokestatic index, 3)) (hR : (decide (1 ≤ fr) && decide ((S.map fun v => v.category).sum + 13 ≤ lo)) = true) (k : VV E nL (pc + 3) L (.int (if y < x then y else x) :: S) M) : VV E nL pc L (.int y :: .int x :: S) M := fun H locs ls hP hS hl2 => by
  simp only [Bool.and_eq_true, decide_eq_true_eq] at hR
  have hts := Z.2.2.2.2.1
  exact va_mmin Z.1 Z.2.1 (Z.2.2.1.trans hl2.1.symm) Z.2.2.2.1 (hts _ hl) (hts _ hs) (hts _ hi) (hts _ hc) (Nat.le_trans hR.1 Z.2.2.2.2.2.2.2.2.1.1) (by rw [cv_sum]; exact Nat.le_trans hR.2 Z.2.2.2.2.2.2.2.2.1.2) Z.2.2.2.2.2.2.2.2.2.1 Z.2.2.2.2.2.2.2.2.2.2 hd (k H locs ls hP hS hl2)
theorem V_max {index : Nat} {x y : Int32} (Z : zC E cc nL own fr lo) (hl : Cond.methodLink own index Lib.Math.max.name ∈ zTB) (hs : Cond.static Lib.Math.max.name ∈ zTB) (hi : Cond.initialized "java/lang/Math" ∈ zTB) (hc : Cond.code Lib.Math.max.name Lib.Math.max.code 2 (some .int) ∈ zTB) (hd : decode cc pc = .ok (.invokestatic index, 3)) (hR : (decide (1 ≤ fr) && decide ((S.map fun v => v.category).sum + 13 ≤ lo)) = true) (k : VV E nL (pc + 3) L (.int (if x < y then y else x) :: S) M) : VV E nL pc L (.int y :: .int x :: S) M := fun H locs ls hP hS hl2 => by
  simp only [Bool.and_eq_true, decide_eq_true_eq] at hR
  have hts := Z.2.2.2.2.1
  exact va_mmax Z.1 Z.2.1 (Z.2.2.1.trans hl2.1.symm) Z.2.2.2.1 (hts _ hl) (hts _ hs) (hts _ hi) (hts _ hc) (Nat.le_trans hR.1 Z.2.2.2.2.2.2.2.2.1.1) (by rw [cv_sum]; exact Nat.le_trans hR.2 Z.2.2.2.2.2.2.2.2.1.2) Z.2.2.2.2.2.2.2.2.2.1 Z.2.2.2.2.2.2.2.2.2.2 hd (k H locs ls hP hS hl2)
theorem zcp_spec {M' : zM} {a b : Nat} {sp dp n : Int32} (h : zcp M a sp b dp n = some M') : ∃ na nb, sh a = .inl na ∧ sh b = .inl nb ∧ ¬ sp < 0 ∧ ¬ dp < 0 ∧ ¬ n < 0 ∧ sp.toNatClampNeg + n.toNatClampNeg ≤ na ∧ dp.toNatClampNeg + n.toNatClampNeg ≤ nb ∧ M' = zCp M a b sp.toNatClampNeg dp.toNatClampNeg n.toNatClampNeg := by
  unfold zcp at h
  split at h
  · rename_i na nb h1 h2
    split at h
    · cases h
    · rename_i hc
      cases h
      simp only [not_or, Nat.not_lt] at hc
      exact ⟨na, nb, h1, h2, hc.1, hc.2.1, hc.2.2.1, hc.2.2.2.1, hc.2.2.2.2, rfl⟩
  · cases h
theorem V_copy {M' : zM} {index a b : Nat} {sp dp n : Int32} (Z : zC E cc nL own fr lo) (h : zcp M a sp b dp n = some M') (ha : a < NC) (hb2 : b < NC) (hl : Cond.methodLink own index arraycopyName ∈ zTB) (hna : Cond.native arraycopyName ∈ zTB) (hs : Cond.static arraycopyName ∈ zTB) (hi : Cond.initialized "java/lang/System" ∈ zTB) (hd : decode cc pc = .ok (.invokestatic index, 3)) (hR : (decide (1 ≤ fr) && decide ((S.map fun v => v.category).sum + (nativeFrameWords "java/lang/System" "arraycopy" 5 + 11) ≤ lo)) = true) (k : VV E nL (pc + 3) L S M') : VV E nL pc L (.int n :: .int dp :: .ref b :: .int sp :: .ref a :: S) M := fun H locs ls hP hS hl2 => by
  simp only [Bool.and_eq_true, decide_eq_true_eq] at hR
  have hts := Z.2.2.2.2.1
  obtain ⟨na, nb, h1, h2, h3, h4, h5, h6, h7, rfl⟩ := zcp_spec h
  have hza := zW_at (G := eG E) (ad := ead E) (M := M) ha
  rw [zE_arr h1] at hza
  have hzb := zW_at (G := eG E) (ad := ead E) (M := M) hb2
  rw [zE_arr h2] at hzb
  refine va_copyi Z.1 Z.2.1 (Z.2.2.1.trans hl2.1.symm) Z.2.2.2.1 (hts _ hl) (hts _ hna) (hts _ hs) (hts _ hi) Z.2.2.2.2.2.1 hP (zD (sz := (es E).heap.size) Z.2.2.2.2.2.2.1) hS a b 0 0 hza hzb rfl rfl rfl h3 h4 h5 h6 h7 (fun _ _ => rfl) (Nat.le_trans hR.1 Z.2.2.2.2.2.2.2.2.1.1) (by rw [cv_sum]; exact Nat.le_trans hR.2 Z.2.2.2.2.2.2.2.2.1.2) hd (fun H1 locs1 hP1 hD1 hS1 => ?_)
  rw [zW_set (M' := zCp M a b sp.toNatClampNeg dp.toNatClampNeg n.toNatClampNeg) hb2 (by rw [zE_arr h2]; simp [zCp]) (fun q hq => by simp [zCp, hq])] at hP1
  exact k H1 locs1 ls hP1 hS1 hl2
end ZN
