/-! THE ROWS OF THE HEAP: fields, arrays, calls, returns. -/
/-- a class of the worlds: its place, its fields' words, their types, that their names are apart -/
def zCls (ci : Nat) (C : String) (T : u_T) (N : Nat) (ty : Nat → FieldType) : Prop := zCl[ci]? = some (C, T, N) ∧ (∀ w ∈ u_ws C T N, w ∈ zTB) ∧ (∀ k, k < N → parseFieldDescriptor (T k).2.2.1 = some (ty k)) ∧ ∀ a, a < N → ∀ b, b < N → a ≠ b → (T a).2.1 ≠ (T b).2.1
theorem zc0 : zCls 0 RX0 TX0 15 tyX0 := ⟨rfl, by decide +kernel, tyX0_ok, nmX0⟩
theorem zc1 : zCls 1 RX2 TX2 5 tyX2 := ⟨rfl, by decide +kernel, tyX2_ok, nmX2⟩
theorem zc2 : zCls 2 RX3 TX3 3 tyX3 := ⟨rfl, by decide +kernel, tyX3_ok, nmX3⟩
theorem zc3 : zCls 3 RX4 TX4 2 tyX4 := ⟨rfl, by decide +kernel, tyX4_ok, nmX4⟩
theorem zc4 : zCls 4 RX5 TX5 8 tyX5 := ⟨rfl, by decide +kernel, tyX5_ok, nmX5⟩
theorem zc5 : zCls 5 RX6 TX6 22 tyX6 := ⟨rfl, by decide +kernel, tyX6_ok, nmX6⟩
theorem zE_obj {G : zG} {ad : Nat → Nat} {M : zM} {k ci : Nat} {fl : List (Option Nat)} (hs : sh k = .inr (.inl (ci, fl))) : zE G ad M k = .inr (ci, zfl ad M k 0 fl) := by unfold zE; rw [hs]
theorem zE_arr {G : zG} {ad : Nat → Nat} {M : zM} {k n : Nat} (hs : sh k = .inl n) : zE G ad M k = .inl (G.2.1, n, .inl (M k)) := by unfold zE; rw [hs]
theorem zE_ref {G : zG} {ad : Nat → Nat} {M : zM} {k : Nat} {rs : Nat × List Nat} (hs : sh k = .inr (.inr rs)) : zE G ad M k = .inl (G.2.2 rs.1, rs.2.length, .inr (.inr (.inr (.inr fun j => (rs.2[j]?).map ad)))) := by unfold zE; rw [hs]
section ZH
variable {E : zEv} {cc : ByteArray} {nL pc fr lo : Nat} {own : String} {L : List (Nat × Value)} {S : List Value} {M : zM}
/-- a field that is read: its value as the world has it -/
theorem V_get {k j ci N index : Nat} {fl : List (Option Nat)} {C n d : String} {T : u_T} {ty : Nat → FieldType} {o : Option Nat} {v : Value} (Z : zC E cc nL own fr lo) (hc : zCls ci C T N ty) (hk : k < NC) (hs : sh k = .inr (.inl (ci, fl))) (hj : j < N) (hf : fl[j]? = some o) (hT : (T j).1 = C ∧ (T j).2.1 = n ∧ (T j).2.2.1 = d) (hw : Cond.fieldLink own index C n d ∈ zTB) (hv : cv (ead E) v = zfld (ead E) M k j o) (hd : decode cc pc = .ok (.getfield index, 3))
    (kk : VV E nL (pc + 3) L (v :: S) M) : VV E nL pc L (.ref k :: S) M := fun H locs ls hP hS hl => by
  obtain ⟨hx, hb, -, hown, hts, hK, -⟩ := Z
  obtain ⟨h1, rfl, rfl⟩ := hT
  have hz := zW_at (G := eG E) (ad := ead E) (M := M) hk
  rw [zE_obj hs] at hz
  refine va_get hx hb hts hc.2.1 hown hK hP k hz hc.1 j hj (hts _ hw) (fun x hx => by rw [← h1]; exact hx) (v := cv (ead E) v) ?_ hd (kk H locs ls hP hS hl)
  rw [zfl_at, hf, Nat.zero_add, hv]
  rfl
theorem V_getI {k ci N index : Nat} (j : Nat) {fl : List (Option Nat)} {C n d : String} {T : u_T} {ty : Nat → FieldType} (Z : zC E cc nL own fr lo) (hc : zCls ci C T N ty) (hk : k < NC) (hs : sh k = .inr (.inl (ci, fl))) (hj : j < N) (hf : fl[j]? = some none) (hT : (T j).1 = C ∧ (T j).2.1 = n ∧ (T j).2.2.1 = d) (hw : Cond.fieldLink own index C n d ∈ zTB) (hd : decode cc pc = .ok (.getfield index, 3))
    (kk : VV E nL (pc + 3) L (.int (M k j) :: S) M) : VV E nL pc L (.ref k :: S) M := V_get Z hc hk hs hj hf hT hw rfl hd kk
theorem V_getR {k ci N index : Nat} (j r : Nat) {fl : List (Option Nat)} {C n d : String} {T : u_T} {ty : Nat → FieldType} (Z : zC E cc nL own fr lo) (hc : zCls ci C T N ty) (hk : k < NC) (hs : sh k = .inr (.inl (ci, fl))) (hj : j < N) (hf : fl[j]? = some (some r)) (hr : r ≠ 900) (hT : (T j).1 = C ∧ (T j).2.1 = n ∧ (T j).2.2.1 = d) (hw : Cond.fieldLink own index C n d ∈ zTB) (hd : decode cc pc = .ok (.getfield index, 3))
    (kk : VV E nL (pc + 3) L (.ref r :: S) M) : VV E nL pc L (.ref k :: S) M := V_get Z hc hk hs hj hf hT hw (by simp [cv, zfld, hr]) hd kk
/-- the reader's tape, once it is there -/
theorem V_getD {k ci N index : Nat} (j : Nat) {fl : List (Option Nat)} {C n d : String} {T : u_T} {ty : Nat → FieldType} (Z : zC E cc nL own fr lo) (hc : zCls ci C T N ty) (hk : k < NC) (hs : sh k = .inr (.inl (ci, fl))) (hj : j < N) (hf : fl[j]? = some (some 900)) (h0 : ¬ M k j = 0) (hT : (T j).1 = C ∧ (T j).2.1 = n ∧ (T j).2.2.1 = d) (hw : Cond.fieldLink own index C n d ∈ zTB) (hd : decode cc pc = .ok (.getfield index, 3))
    (kk : VV E nL (pc + 3) L (.ref 34 :: S) M) : VV E nL pc L (.ref k :: S) M := V_get Z hc hk hs hj hf hT hw (by simp [cv, zfld, h0]) hd kk
/-- a field that is written -/
theorem V_put {k ci N index : Nat} (j : Nat) {x : Int32} {fl : List (Option Nat)} {C n d : String} {T : u_T} {ty : Nat → FieldType} {v : Value} (Z : zC E cc nL own fr lo) (hc : zCls ci C T N ty) (hk : k < NC) (hs : sh k = .inr (.inl (ci, fl))) (hj : j < N) (hjl : j < fl.length) (hset : (zfl (ead E) M k 0 fl).set j (cv (ead E) v) = zfl (ead E) (zU M k j x) k 0 fl) (hT : (T j).1 = C ∧ (T j).2.1 = n ∧ (T j).2.2.1 = d) (hfin : (T j).2.2.2 = false) (hn : narrow (ty j) (cv (ead E) v) = cv (ead E) v) (hfit : fits (ty j) (cv (ead E) v) = true) (hw : Cond.fieldLink own index C n d ∈ zTB) (hd : decode cc pc = .ok (.putfield index, 3))
    (kk : VV E nL (pc + 3) L S (zU M k j x)) : VV E nL pc L (v :: .ref k :: S) M := fun H locs ls hP hS hl => by
  obtain ⟨hx, hb, -, hown, hts, hK, hinj, -⟩ := Z
  obtain ⟨h1, rfl, rfl⟩ := hT
  have hz := zW_at (G := eG E) (ad := ead E) (M := M) hk
  rw [zE_obj hs] at hz
  refine va_put hx hb hts hc.2.1 ty hc.2.2.1 hc.2.2.2 hown hK hP (zD (sz := (es E).heap.size) hinj) hS k hz hc.1 j hj (hts _ hw) (fun x hx => by rw [← h1]; exact hx) hfin (ty := ty j) (v := cv (ead E) v) (hc.2.2.1 j hj) hn hfit (by rw [zfl_len]; exact hjl) hd (fun H1 locs1 hP1 hD1 hS1 => ?_)
  rw [hset, zW_set (M' := zU M k j x) hk (zE_obj hs).symm (fun q hq => zU_off hq)] at hP1
  exact kk H1 locs1 ls hP1 hS1 hl
theorem V_putI {k ci N index : Nat} (j : Nat) {x : Int32} {fl : List (Option Nat)} {C n d : String} {T : u_T} {ty : Nat → FieldType} (Z : zC E cc nL own fr lo) (hc : zCls ci C T N ty) (hk : k < NC) (hs : sh k = .inr (.inl (ci, fl))) (hj : j < N) (hf : fl[j]? = some none) (hT : (T j).1 = C ∧ (T j).2.1 = n ∧ (T j).2.2.1 = d) (hfin : (T j).2.2.2 = false) (hty : ty j = .int) (hw : Cond.fieldLink own index C n d ∈ zTB) (hd : decode cc pc = .ok (.putfield index, 3))
    (kk : VV E nL (pc + 3) L S (zU M k j x)) : VV E nL pc L (.int x :: .ref k :: S) M := V_put j Z hc hk hs hj (List.getElem?_eq_some_iff.mp hf).1 (zfl_set hf) hT hfin (by rw [hty]; rfl) (by rw [hty]; rfl) hw hd kk
theorem V_putZ {k ci N index : Nat} (j : Nat) {x : Int32} {fl : List (Option Nat)} {C n d : String} {T : u_T} {ty : Nat → FieldType} (Z : zC E cc nL own fr lo) (hc : zCls ci C T N ty) (hk : k < NC) (hs : sh k = .inr (.inl (ci, fl))) (hj : j < N) (hf : fl[j]? = some none) (hT : (T j).1 = C ∧ (T j).2.1 = n ∧ (T j).2.2.1 = d) (hfin : (T j).2.2.2 = false) (hty : ty j = .boolean) (hb : zbo x = some x) (hw : Cond.fieldLink own index C n d ∈ zTB) (hd : decode cc pc = .ok (.putfield index, 3))
    (kk : VV E nL (pc + 3) L S (zU M k j x)) : VV E nL pc L (.int x :: .ref k :: S) M := by
  have h01 : x = 0 ∨ x = 1 := by
    unfold zbo at hb
    split at hb
    · assumption
    · cases hb
  exact V_put j Z hc hk hs hj (List.getElem?_eq_some_iff.mp hf).1 (zfl_set hf) hT hfin (by rw [hty]; rcases h01 with rfl | rfl <;> rfl) (by rw [hty]; rcases h01 with rfl | rfl <;> rfl) hw hd kk
theorem V_putD {k ci N index : Nat} (j : Nat) {fl : List (Option Nat)} {C n d : String} {T : u_T} {ty : Nat → FieldType} (Z : zC E cc nL own fr lo) (hc : zCls ci C T N ty) (hk : k < NC) (hs : sh k = .inr (.inl (ci, fl))) (hj : j < N) (hf : fl[j]? = some (some 900)) (hT : (T j).1 = C ∧ (T j).2.1 = n ∧ (T j).2.2.1 = d) (hfin : (T j).2.2.2 = false) (hty : ty j = .object "NameRail$Tape") (hw : Cond.fieldLink own index C n d ∈ zTB) (hd : decode cc pc = .ok (.putfield index, 3))
    (kk : VV E nL (pc + 3) L S (zU M k j 1)) : VV E nL pc L (.ref 34 :: .ref k :: S) M := V_put j Z hc hk hs hj (List.getElem?_eq_some_iff.mp hf).1 (zfl_setR hf) hT hfin (by rw [hty]; rfl) (by rw [hty]; rfl) hw hd kk
theorem zrd_spec {k : Nat} {i v : Int32} (h : zrd M k i = some v) : ∃ n, sh k = .inl n ∧ vp_in i n ∧ v = M k i.toNatClampNeg := by
  unfold zrd at h
  split at h
  · rename_i n hn
    split at h
    · cases h
    · cases h; exact ⟨n, hn, by assumption, rfl⟩
  · cases h
theorem zwr_spec {M' : zM} {k : Nat} {i v : Int32} (h : zwr M k i v = some M') : ∃ n, sh k = .inl n ∧ vp_in i n ∧ M' = zU M k i.toNatClampNeg v := by
  unfold zwr at h
  split at h
  · rename_i n hn
    split at h
    · cases h
    · cases h; exact ⟨n, hn, by assumption, rfl⟩
  · cases h
theorem zrr_spec {k r : Nat} {i : Int32} (h : zrr k i = some r) : ∃ rs, sh k = .inr (.inr rs) ∧ vp_in i rs.2.length ∧ rs.2[i.toNatClampNeg]? = some r := by
  unfold zrr at h
  split at h
  · rename_i rs hn
    split at h
    · cases h
    · exact ⟨rs, hn, by assumption, h⟩
  · cases h
theorem sh_lt_arr {k n : Nat} (h : sh k = .inl n) (hn : 0 < n) : k < NC := by
  refine Nat.not_le.mp fun hk => ?_
  have : sh k = .inl 0 := by
    unfold sh
    split <;> first | (exfalso; revert hk; decide) | rfl
  rw [this] at h
  cases h
  exact absurd hn (Nat.lt_irrefl 0)
theorem vp_in_pos {i : Int32} {n : Nat} (h : vp_in i n) : 0 < n := by
  rcases Nat.eq_zero_or_pos n with rfl | h0
  · exact absurd (Or.inr (Nat.zero_le _)) h
  · exact h0
theorem V_iald {k : Nat} {i v : Int32} (Z : zC E cc nL own fr lo) (hv : zrd M k i = some v) (hd : decode cc pc = .ok (.iaload, 1)) (kk : VV E nL (pc + 1) L (.int v :: S) M) : VV E nL pc L (.int i :: .ref k :: S) M := fun H locs ls hP hS hl => by
  obtain ⟨n, hs, hin, rfl⟩ := zrd_spec hv
  obtain ⟨hx, hb, -, hown, hts, hK, hinj, -⟩ := Z
  have hz := zW_at (G := eG E) (ad := ead E) (M := M) (sh_lt_arr hs (vp_in_pos hin))
  rw [zE_arr hs] at hz
  exact va_iald hx hb hK hP k 0 hz rfl hin hd (kk H locs ls hP hS hl)
theorem V_iast {M' : zM} {k : Nat} {i x : Int32} (Z : zC E cc nL own fr lo) (hv : zwr M k i x = some M') (hd : decode cc pc = .ok (.iastore, 1)) (kk : VV E nL (pc + 1) L S M') : VV E nL pc L (.int x :: .int i :: .ref k :: S) M := fun H locs ls hP hS hl => by
  obtain ⟨n, hs, hin, rfl⟩ := zwr_spec hv
  obtain ⟨hx, hb, -, hown, hts, hK, hinj, -⟩ := Z
  have hk := sh_lt_arr hs (vp_in_pos hin)
  have hz := zW_at (G := eG E) (ad := ead E) (M := M) hk
  rw [zE_arr hs] at hz
  refine va_iast hx hb hK hP (zD (sz := (es E).heap.size) hinj) hS k 0 hz rfl hin hd (fun H1 locs1 hP1 hD1 hS1 => ?_)
  rw [zW_set (M' := zU M k i.toNatClampNeg x) hk (by rw [zE_arr hs, zU_row]) (fun q hq => zU_off hq)] at hP1
  exact kk H1 locs1 ls hP1 hS1 hl
theorem V_aald {k r : Nat} {i : Int32} {C : String} (t : Nat) (Z : zC E cc nL own fr lo) (hv : zrr k i = some r) (hk : k < NC) (hT : ∀ G, (zTy G)[t]? = some (G.2.2 t, .object C)) (ht : ∀ rs, sh k = .inr (.inr rs) → rs.1 = t) (hd : decode cc pc = .ok (.aaload, 1)) (kk : VV E nL (pc + 1) L (.ref r :: S) M) : VV E nL pc L (.int i :: .ref k :: S) M := fun H locs ls hP hS hl => by
  obtain ⟨rs, hs, hin, hr⟩ := zrr_spec hv
  obtain ⟨hx, hb, -, hown, hts, hK, hinj, -⟩ := Z
  have hz := zW_at (G := eG E) (ad := ead E) (M := M) hk
  rw [zE_ref hs, ht rs hs] at hz
  refine va_aldq hx hb hK hP k t hz (hT (eG E)) hin hd ?_
  simp only [hr, Option.map_some]
  exact kk H locs ls hP hS hl
theorem V_alenR {k : Nat} {rs : Nat × List Nat} {C : String} (t : Nat) (v : Int32) (Z : zC E cc nL own fr lo) (hk : k < NC) (hs : sh k = .inr (.inr rs)) (hT : ∀ G, (zTy G)[t]? = some (G.2.2 t, .object C)) (ht : rs.1 = t) (hv : Int32.ofNat rs.2.length = v) (hd : decode cc pc = .ok (.arraylength, 1)) (kk : VV E nL (pc + 1) L (.int v :: S) M) : VV E nL pc L (.ref k :: S) M := fun H locs ls hP hS hl => by
  obtain ⟨hx, hb, -, hown, hts, hK, hinj, -⟩ := Z
  have hz := zW_at (G := eG E) (ad := ead E) (M := M) hk
  rw [zE_ref hs, ht] at hz
  exact va_alen hx hb hK hP k t hz (hT (eG E)) hv hd (kk H locs ls hP hS hl)
end ZH
