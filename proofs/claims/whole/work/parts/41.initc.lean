/-! CONSTRUCTORS: their contracts, calls, ends. -/
/-- what a constructor is told beside its object: the strings, the nest mates, the rows of references -/
def zIx (ad : Nat → Nat) (A : Nat → Prop) (U : State) : Prop := (∀ q ∈ zStrs, vk_R q.1 q.2.1 q.2.2.1 (ad (1000 + q.2.2.2)) U) ∧ (∀ q ∈ zNs, va_Nw (.methodLinkNest q.1 q.2.1 q.2.2.1 q.2.2.2) U) ∧ vk_S 13 zLen zByt (fun i => ad (1000 + i)) (fun i => ad (2000 + i)) A U U.heap ∧ (va_AO "NameRail$Sheet" U ∧ va_AO "java/lang/String" U)
def zIPc (G : zG) (ad : Nat → Nat) (b sz ci : Nat) (fs0 : List Value) : Array Value → State → Prop := fun a U => a = #[Value.ref b] ∧ U.heap.size = sz ∧ va_P G.1 zCl [(b, .inr (ci, fs0))] U.heap ∧ va_K G.1 zCl [] U ∧ zIx ad (va_A [(b, .inr (ci, fs0))] sz) U
abbrev zWO : Type := Nat → (Nat → Nat) → ClassId → ClassId → (Nat → Nat) → va_W
abbrev zTO : Type := ClassId → ClassId → List (ClassId × FieldType)
def zIQ (E : zEv) (A : Nat → Prop) (b mc ms : Nat) (wsO : zWO) (tyO : zTO) : Prop := eQ E = MQ (ebl E) (va_Qv (S := (Nat → Nat) × ClassId × ClassId) (fun _ => True) (fun u t => va_P (eG E).1 zCl (wsO b u.1 u.2.1 u.2.2 (ead E)) t.heap ∧ va_K (eG E).1 zCl (tyO u.2.1 u.2.2) t ∧ va_D A (wsO b u.1 u.2.1 u.2.2 (ead E))) A) (ea E) (es E) mc ms A
def zIQc (G : zG) (b sz ci : Nat) (fs0 : List Value) (wsO : zWO) (tyO : zTO) (ad : Nat → Nat) : Array Value → State → Outcome → State → Prop := va_Qv (S := (Nat → Nat) × ClassId × ClassId) (fun _ => True) (fun u t => va_P G.1 zCl (wsO b u.1 u.2.1 u.2.2 ad) t.heap ∧ va_K G.1 zCl (tyO u.2.1 u.2.2) t ∧ va_D (va_A [(b, .inr (ci, fs0))] sz) (wsO b u.1 u.2.1 u.2.2 ad)) (va_A [(b, .inr (ci, fs0))] sz)
/-- a constructor's contract: from the fresh object to the cells wsO (new ones at q 0, q 1, ..) -/
def zInit (y : MethodName) (bytes : ByteArray) (mL fr lo ci : Nat) (fs0 : List Value) (mc ms : Nat) (wsO : zWO) (tyO : zTO) : Prop :=
  ∀ (l : Launch) (G : zG) (ad : Nat → Nat) (b sz : Nat), Met l y (.code y bytes mL none :: zTB) ({ frames := fr, cells := mc, slots := ms, locals := lo } : Room) (zIPc G ad b sz ci fs0) (zIQc G b sz ci fs0 wsO tyO ad) mc ms (va_A [(b, .inr (ci, fs0))] sz)
theorem zD1 (b : Nat) (e : va_E) (A : Nat → Prop) (h : A b) : va_D A [(b, e)] := by
  have key : ∀ (k : Nat) (q : Nat × va_E), [(b, e)][k]? = some q → k = 0 ∧ q = (b, e) := by
    intro k q hk
    cases k with
    | zero => cases hk; exact ⟨rfl, rfl⟩
    | succ k => cases hk
  refine ⟨fun i j p q hp hq _ => by rw [(key i p hp).1, (key j q hq).1], fun k q hk => ?_⟩
  rw [(key k q hk).2]; exact h
theorem zInit_of {y : MethodName} {bytes : ByteArray} {mL fr lo ci : Nat} {fs0 : List Value} {mc ms : Nat} {wsO : zWO} {tyO : zTO} (hy : plainName y.cls = true) (hn : y.name = "<init>") (hm1 : 1 ≤ mL)
    (body : ∀ (E : zEv) (A : Nat → Prop) (b : Nat), zN E A bytes mL y.cls → (eme E).name = "<init>" → eR E = ({ frames := fr, cells := mc, slots := ms, locals := lo } : Room) → ((eme E).sig.returnType = none ∧ (eme E).locks = false) → zIQ E A b mc ms wsO tyO → VN E A mL [] [(b, .inr (ci, fs0))] 0 0 0 [(0, .ref b)] []) : zInit y bytes mL fr lo ci fs0 mc ms wsO tyO := by
  intro l G ad b sz
  refine Met.ofW (cc := bytes) (maxL := mL) (ret := none) hy rfl ?_
  intro p e s m args below meth c s₁ B hml hv
  obtain ⟨rfl, hsz, hP, hK, hX⟩ := hv
  have hts : ∀ w ∈ zTB, w.before #[Value.ref b] s = true := fun w hw => atoms_spec (ws := .code y bytes mL none :: zTB) B.pre w (List.mem_cons_of_mem _ hw)
  have hown : s.vm.findClass y.cls = some m.cls := findClass_of_methodNamed B.named
  have hin : meth.name = "<init>" := ((name_of_methodNamed B.named B.method).1).trans hn
  subst hsz
  have hb := body (p, l, e, ({ frames := fr, cells := mc, slots := ms, locals := lo } : Room), s, m, #[Value.ref b], below, meth, c, MQ below (zIQc G b s.heap.size ci fs0 wsO tyO ad) #[Value.ref b] s mc ms (va_A [(b, .inr (ci, fs0))] s.heap.size), G, ad, 0, 0) (va_A [(b, .inr (ci, fs0))] s.heap.size) b
    ⟨B.exec, B.bytes, hml, hown, hts, fun q h => Or.inr h, hX.1, hX.2.1, hX.2.2.1, hX.2.2.2⟩ hin rfl ⟨B.returns, B.notSynchronized⟩ rfl
  have hl := lv_entry ([.ref b]) (n := mL) (by exact hm1)
  have he := lg_entry_eq m [Value.ref b] mL
  have he2 : entryFrame m #[Value.ref b] mL = F0 m 0 ((lg_sl [Value.ref b] ++ List.replicate (mL - (lg_sl [Value.ref b]).length) Slot.unset).toArray) [] := he
  rw [he2]
  exact hb hK s.heap [] _ hP (zD1 b _ _ (va_A.in (k := 0) (q := (b, .inr (ci, fs0))) rfl)) va_S.rf hl
section ZNC
variable {E : zEv} {A : Nat → Prop} {cc : ByteArray} {nL pc ce sl : Nat} {own : String} {L : List (Nat × Value)} {rest : List Value} {tys : List (ClassId × FieldType)} {ws : va_W}
theorem N_vret {b mc ms : Nat} {wsO : zWO} {tyO : zTO} (q : Nat → Nat) (cI cR : ClassId) (Z : zN E A cc nL own) (hr : (eme E).sig.returnType = none ∧ (eme E).locks = false) (hQ : zIQ E A b mc ms wsO tyO) (hc : ce ≤ mc) (hs : sl ≤ ms) (hw : ws = wsO b q cI cR (ead E)) (ht : tys = tyO cI cR) (hd : decode cc pc = .ok (.return_, 1)) : VN E A nL tys ws ce sl pc L [] := by
  subst hw; subst ht
  intro hK H locs ls hP hD hS hl
  refine W.widen hc hs ?_
  unfold zIQ at hQ
  rw [hQ]
  exact W.vret Z.1 Z.2.1 hr.1 (fun t ht hW => ⟨⟨(q, cI, cR), rfl, trivial, by rw [ht]; exact hP, va_K.moved hW.alike hK, hD⟩, hS.F ht⟩) hS.2.2 hd (hlocks := hr.2)
theorem z_range {α : Type} (pre suf : List α) : (List.range pre.length).map (fun i => (pre ++ suf)[i]?) = pre.map some := by
  apply List.ext_getElem?
  intro i
  rw [List.getElem?_map, List.getElem?_map]
  by_cases h : i < pre.length
  · rw [List.getElem?_range h, List.getElem?_eq_getElem h]
    simp [List.getElem?_append_left h, List.getElem?_eq_getElem h]
  · rw [List.getElem?_eq_none (by simpa using Nat.not_lt.mp h), List.getElem?_eq_none (Nat.not_lt.mp h)]
    rfl
theorem z_nd : ∀ n : Nat, va_nd (List.range n) = true := by
  intro n
  have h : ∀ l : List Nat, l.Nodup → va_nd l = true := by
    intro l hl
    induction l with
    | nil => rfl
    | cons a l ih =>
      rw [List.nodup_cons] at hl
      simp [va_nd, ih hl.2, hl.1]
  exact h _ List.nodup_range
/-- behind a constructor's call: the caller's other cells, and what was made -/
theorem z_newjoin {G : zG} {pre w1 : va_W} {b : Nat} {e : va_E} {H H1 : Heap} (hP : va_P G.1 zCl (pre ++ [(b, e)]) H) (hD : va_D A (pre ++ [(b, e)])) (hk : ∀ q : Nat, q < H.size → ¬ va_A [(b, e)] H.size q → H1[q]? = H[q]?) (hF : ∀ q, va_A [(b, e)] H.size q → A q) (hP1 : va_P G.1 zCl w1 H1) (hD1 : va_D (va_A [(b, e)] H.size) w1) : va_P G.1 zCl (pre ++ w1) H1 ∧ va_D A (pre ++ w1) :=
  va_join (wc := [(b, e)]) (wr := pre) (w1 := w1) hP hD [pre.length] (List.range pre.length) (by simp) (z_range pre _) (z_nd _) (fun i hi hc => by
    have h1 := List.mem_range.mp hi
    have h2 := List.mem_singleton.mp hc
    omega) hk hF hP1 hD1
theorem z_isub {G : zG} {pre : va_W} {b : Nat} {e : va_E} {H : Heap} (hP : va_P G.1 zCl (pre ++ [(b, e)]) H) : va_P G.1 zCl [(b, e)] H := fun k q hk => by
  cases k with
  | zero => exact hP pre.length q (by rw [List.getElem?_append_right (Nat.le_refl _), Nat.sub_self]; exact hk)
  | succ k => cases hk
theorem z_ifree {pre : va_W} {b : Nat} {e : va_E} {H0 H : Heap} {locs : List Loc} (hD : va_D A (pre ++ [(b, e)])) (hS : va_S A H0 H locs) (hA : ∀ q, H0.size ≤ q → A q) : ∀ q, va_A [(b, e)] H.size q → A q := va_free (wc := [(b, e)]) hD hS hA [pre.length] (by simp)
theorem zIPc_blind {G : zG} {ad : Nat → Nat} {b sz ci : Nat} {fs0 : List Value} : FrameBlind (zIPc G ad b sz ci fs0) := fun a U g mk q => by
  have hv : (U.calling g mk a).vm = U.vm := rfl
  have hal : U.vm.Alike (U.calling g mk a).vm := by rw [hv]; exact Vm.Alike.refl U.vm
  exact ⟨q.1, q.2.1, q.2.2.1, va_K.moved hal q.2.2.2.1, fun x hx => (q.2.2.2.2.1 x hx).same hv, fun x hx => va_Nw.same rfl hv.symm (q.2.2.2.2.2.1 x hx), q.2.2.2.2.2.2.1.moved hal, va_AO.moved hal q.2.2.2.2.2.2.2.1, va_AO.moved hal q.2.2.2.2.2.2.2.2⟩
theorem z_ipre {pre : va_W} {b ci : Nat} {fs0 : List Value} {H : Heap} {locs : List Loc} (Z : zN E A cc nL own) (hK : va_K (eG E).1 zCl tys (es E)) (hP : va_P (eG E).1 zCl (pre ++ [(b, .inr (ci, fs0))]) H) (hD : va_D A (pre ++ [(b, .inr (ci, fs0))])) (hS : va_S A (es E).heap H locs) : ∀ U : State, U.heap = H → (es E).WarmedH U.vm → zIPc (eG E) (ead E) b H.size ci fs0 (Value.ref b :: ([] : List Value)).toArray U := fun U hU hW => by
  have hk : va_K (eG E).1 zCl [] (es E) := hK.sub [] rfl
  refine ⟨rfl, by rw [hU], by rw [hU]; exact z_isub hP, va_K.moved hW.alike hk, fun x hx => (Z.2.2.2.2.2.2.1 x hx).warm hW, fun x hx => (Z.2.2.2.2.2.2.2.1 x hx).warmM hW, ?_, va_AO.moved hW.alike Z.2.2.2.2.2.2.2.2.2.1, va_AO.moved hW.alike Z.2.2.2.2.2.2.2.2.2.2⟩
  rw [hU]
  exact ((Z.2.2.2.2.2.2.2.2.1.kept hS.2.1).narrow (z_ifree hD hS Z.2.2.2.2.2.1)).moved hW.alike
theorem N_callI {y : MethodName} {bytes : ByteArray} {mL fr2 lo2 index ci b : Nat} {fs0 : List Value} {mc ms : Nat} {wsO : zWO} {tyO : zTO} {pre : va_W} (Z : zN E A cc nL own) (c : zInit y bytes mL fr2 lo2 ci fs0 mc ms wsO tyO) (hy : zCd y bytes mL none 0) (hyn : y.name = "<init>") (hl : Cond.methodLink own index y ∈ zTB) (hi : Cond.instanceMethod y ∈ zTB) (hd : decode cc pc = .ok (.invokespecial index, 3)) (hR : fr2 + 1 ≤ (eR E).frames ∧ 8 + (mL + 11) + lo2 ≤ (eR E).locals ∧ ce + mc ≤ (eR E).cells ∧ sl + ms ≤ (eR E).slots ∧ (rest.map fun v => v.category).sum ≤ 8)
    (k : ∀ (q : Nat → Nat) (cI cR : ClassId), VN E A nL (tys ++ tyO cI cR) (pre ++ wsO b q cI cR (ead E)) (ce + mc) (sl + ms) (pc + 3) L rest) : VN E A nL tys (pre ++ [(b, .inr (ci, fs0))]) ce sl pc L (.ref b :: rest) := fun hK H locs ls hP hD hS hl2 => by
  obtain ⟨h1, h2, h3, h4⟩ := hy
  have hts := Z.2.2.2.2.1
  have hF := z_ifree hD hS Z.2.2.2.2.2.1
  refine va_callv (va_runI (As := []) (rest := rest) (n := 0) ⟨Z.1, Z.2.1, Z.2.2.1, Z.2.2.2.1, hts⟩ (c (el E) (eG E) (ead E) b H.size) (cwI 0 hts (zTB_goodIn h1 (fun w h => h)) rfl rfl rfl (hts _ h2) (hts _ hl) (hts _ hi) hyn ⟨h3.1, h3.2, h4⟩ ⟨hR.1, hR.2.1⟩) ⟨zIPc_blind, z_ipre Z hK hP hD hS⟩ rfl rfl hl2.1 rfl (lv_room (ls := ls) (m := em E) (pc := pc) (rest := rest) hR.2.2.2.2) hd ⟨hR.2.2.1, hR.2.2.2.1⟩) hS (fun q _ h => hF q h) hF (fun u t H1 locs1 ht hvm hw hB hz1 hk1 hS1 => ?_)
  obtain ⟨hP1, hK1, hD1⟩ := hB
  rw [ht] at hP1
  obtain ⟨hP2, hD2⟩ := z_newjoin hP hD hk1 hF hP1 hD1
  exact k u.1 u.2.1 u.2.2 (hK.app (va_K.moved hvm.symm hK1)) H1 locs1 ls hP2 hD2 hS1 hl2
theorem N_callIN {y : MethodName} {bytes : ByteArray} {mL fr2 lo2 index ci b : Nat} {fs0 : List Value} {mc ms : Nat} {wsO : zWO} {tyO : zTO} {pre : va_W} (host : String) (Z : zN E A cc nL own) (c : zInit y bytes mL fr2 lo2 ci fs0 mc ms wsO tyO) (hy : zCd y bytes mL none 0) (hyn : y.name = "<init>") (hl : (own, index, y, host) ∈ zNs) (hi : Cond.instanceMethod y ∈ zTB) (hd : decode cc pc = .ok (.invokespecial index, 3)) (hR : fr2 + 1 ≤ (eR E).frames ∧ 8 + (mL + 11) + lo2 ≤ (eR E).locals ∧ ce + mc ≤ (eR E).cells ∧ sl + ms ≤ (eR E).slots ∧ (rest.map fun v => v.category).sum ≤ 8)
    (k : ∀ (q : Nat → Nat) (cI cR : ClassId), VN E A nL (tys ++ tyO cI cR) (pre ++ wsO b q cI cR (ead E)) (ce + mc) (sl + ms) (pc + 3) L rest) : VN E A nL tys (pre ++ [(b, .inr (ci, fs0))]) ce sl pc L (.ref b :: rest) := fun hK H locs ls hP hD hS hl2 => by
  obtain ⟨h1, h2, h3, h4⟩ := hy
  have hts := Z.2.2.2.2.1
  have hF := z_ifree hD hS Z.2.2.2.2.2.1
  refine va_callv (va_runIN (host := host) (As := []) (rest := rest) (n := 0) ⟨Z.1, Z.2.1, Z.2.2.1, Z.2.2.2.1, hts⟩ (c (el E) (eG E) (ead E) b H.size) ⟨va_cnB 0 hts (zTB_goodIn h1 (fun w h => h)) rfl rfl rfl (Z.2.2.2.2.2.2.2.1 _ hl) (hts _ h2) ⟨h3.1, h3.2, h4⟩ ⟨hR.1, hR.2.1⟩, hyn, hts _ hi⟩ ⟨zIPc_blind, z_ipre Z hK hP hD hS⟩ rfl rfl hl2.1 rfl (lv_room (ls := ls) (m := em E) (pc := pc) (rest := rest) hR.2.2.2.2) hd ⟨hR.2.2.1, hR.2.2.2.1⟩) hS (fun q _ h => hF q h) hF (fun u t H1 locs1 ht hvm hw hB hz1 hk1 hS1 => ?_)
  obtain ⟨hP1, hK1, hD1⟩ := hB
  rw [ht] at hP1
  obtain ⟨hP2, hD2⟩ := z_newjoin hP hD hk1 hF hP1 hD1
  exact k u.1 u.2.1 u.2.2 (hK.app (va_K.moved hvm.symm hK1)) H1 locs1 ls hP2 hD2 hS1 hl2
end ZNC
