/-! STRINGS: the constants' length and characters (the JDK's own methods walked). The bytes of string w are the cell 2000 + w. -/
section ZL
variable {p : Program} {l : Launch} {e : Env} {R : Room} {s : State} {m : MethodId} {args : Array Value} {below : List Frame} {meth : Method} {c : Code} {T : State} {H : Heap} {locs : List Loc} {cells slots : Nat} {Q : State → Prop} {cc : ByteArray} {pc : Nat} {ls : Array Slot} {rest : List Value}
theorem z_ldcwS (X : Stand p l e R s m args below meth c T locs cells slots) (hexec : p.tables.exec = Jvm.exec) {own text : String} {index : Nat} {a : Addr} (hown : s.vm.findClass own = some m.cls)
    (hconst : (Cond.stringRef own index text).before args s = true) (hev : (Term.string own index).eval args s none [] s = some (.ref a)) {g : JFrame} (hg : g.method = m) (hdg : decode c.code g.pc = .ok (.ldc_w index, 3)) :
    ∀ target, Steps p.tables e below (T.setTop { g with pc := g.pc + 3, stack := .ref a :: g.stack }) target → Steps p.tables e below (T.setTop g) target := by
  obtain ⟨k, cf, i, a', hk, hcf, hcp, -, hr, hev'⟩ := Cond.stringRef_spec hown hconst
  cases hev.symm.trans hev'
  obtain ⟨k', hk', he⟩ := X.warmed.alike.2.2 _ _ hk
  have hr' : k'.resolved[index]? = some (some (.string a)) := by
    rcases X.warmed.entry hk hk' index with h | ⟨h, -⟩
    · rw [h]; exact hr
    · rw [hr] at h; cases h
  intro target hrest
  subst hg
  jvm_step X.here [hexec, hdg, ldc_w.wp_string (e := e) (s := T) (f := g) X.here.top hk' (by rw [he]; exact hcf) hcp hr']
  exact hrest
theorem z_ldcwSW (hexec : p.tables.exec = Jvm.exec) (hb : c.code = cc) {own tx : String} {index q : Nat} (hown : s.vm.findClass own = some m.cls) (hZ : vk_R own index tx q s) (hdg : decode cc pc = .ok (.ldc_w index, 3))
    (k : W p l e R s m args below meth c H locs cells slots Q (F0 m (pc + 3) ls (.ref q :: rest))) : W p l e R s m args below meth c H locs cells slots Q (F0 m pc ls rest) := by
  intro T hT X
  obtain ⟨t, a1, b1⟩ := k T hT X
  exact ⟨t, z_ldcwS X hexec hown (text := tx) (a := q) hZ.1 hZ.2 (g := F0 m pc ls rest) rfl (by rw [hb]; exact hdg) t a1, b1⟩
end ZL
section ZS
variable {E : zEv} {cc : ByteArray} {nL pc fr lo : Nat} {own : String} {L : List (Nat × Value)} {S : List Value} {M : zM}
theorem V_ldcwS {index : Nat} (tx : String) (i : Nat) (Z : zC E cc nL own fr lo) (hq : (own, index, tx, i) ∈ zStrs) (hd : decode cc pc = .ok (.ldc_w index, 3)) (k : VV E nL (pc + 3) L (.ref (1000 + i) :: S) M) : VV E nL pc L S M := fun H locs ls hP hS hl => z_ldcwSW Z.1 Z.2.1 Z.2.2.2.1 (Z.2.2.2.2.2.2.2.1.2.2.2.1 _ hq) hd (k H locs ls hP hS hl)
theorem V_strval {w index : Nat} (Z : zC E cc nL own fr lo) (hw : w < 13) (hl : Cond.fieldLink own index "java/lang/String" "value" "[B" ∈ zTB) (hd : decode cc pc = .ok (.getfield index, 3)) (k : VV E nL (pc + 3) L (.ref (2000 + w) :: S) M) : VV E nL pc L (.ref (1000 + w) :: S) M := fun H locs ls hP hS hl2 => vk_getf Z.1 Z.2.1 (Z.2.2.2.2.2.2.2.1.1.1 w hw).2.2.1 hS Z.2.2.2.1 (Z.2.2.2.2.1 _ hl) (fun _ h => h) hd (k H locs ls hP hS hl2)
theorem V_strcod {w index : Nat} (Z : zC E cc nL own fr lo) (hw : w < 13) (hl : Cond.fieldLink own index "java/lang/String" "coder" "B" ∈ zTB) (hd : decode cc pc = .ok (.getfield index, 3)) (k : VV E nL (pc + 3) L (.int 0 :: S) M) : VV E nL pc L (.ref (1000 + w) :: S) M := fun H locs ls hP hS hl2 => vk_getf Z.1 Z.2.1 (Z.2.2.2.2.2.2.2.1.1.1 w hw).2.1 hS Z.2.2.2.1 (Z.2.2.2.2.1 _ hl) (fun _ h => h) hd (k H locs ls hP hS hl2)
theorem V_compact {index : Nat} (Z : zC E cc nL own fr lo) (hl : Cond.fieldLink own index "java/lang/String" "COMPACT_STRINGS" "Z" ∈ zTB) (hd : decode cc pc = .ok (.getstatic index, 3)) (k : VV E nL (pc + 3) L (.int 1 :: S) M) : VV E nL pc L S M := fun H locs ls hP hS hl2 => va_gets Z.1 Z.2.1 Z.2.2.2.2.2.2.2.1.2.1 hS Z.2.2.2.1 (Z.2.2.2.2.1 _ hl) (fun _ h => h) hd (k H locs ls hP hS hl2)
theorem V_sioobe {index : Nat} (Z : zC E cc nL own fr lo) (hl : Cond.fieldLink own index "jdk/internal/util/Preconditions" "SIOOBE_FORMATTER" "Ljava/util/function/BiFunction;" ∈ zTB) (hd : decode cc pc = .ok (.getstatic index, 3)) (k : ∀ v : Value, v = .null ∨ v = .ref 3000 → VV E nL (pc + 3) L (v :: S) M) : VV E nL pc L S M := fun H locs ls hP hS hl2 => by
  rcases Z.2.2.2.2.2.2.2.1.2.2.1 with h | h
  · exact va_gets Z.1 Z.2.1 h hS Z.2.2.2.1 (Z.2.2.2.2.1 _ hl) (fun _ h => h) hd (k .null (Or.inl rfl) H locs ls hP hS hl2)
  · exact va_gets Z.1 Z.2.1 h hS Z.2.2.2.1 (Z.2.2.2.2.1 _ hl) (fun _ h => h) hd (k (.ref 3000) (Or.inr rfl) H locs ls hP hS hl2)
theorem V_blen {w : Nat} (Z : zC E cc nL own fr lo) (hw : w < 13) (hd : decode cc pc = .ok (.arraylength, 1)) (k : VV E nL (pc + 1) L (.int (zsl w) :: S) M) : VV E nL pc L (.ref (2000 + w) :: S) M := fun H locs ls hP hS hl2 => va_tlen Z.1 Z.2.1 (Z.2.2.2.2.2.2.2.1.1.1 w hw).2.2.2 hS rfl hd (k H locs ls hP hS hl2)
theorem V_bald {w : Nat} {i v : Int32} (Z : zC E cc nL own fr lo) (hw : w < 13) (hv : zsc w i = some v) (hd : decode cc pc = .ok (.baload, 1)) (k : VV E nL (pc + 1) L (.int v :: S) M) : VV E nL pc L (.int i :: .ref (2000 + w) :: S) M := fun H locs ls hP hS hl2 => by
  unfold zsc at hv
  split at hv
  · cases hv
  · rename_i hin
    cases hv
    exact va_tb Z.1 Z.2.1 (Z.2.2.2.2.2.2.2.1.1.1 w hw).2.2.2 hS hin rfl hd (k H locs ls hP hS hl2)
theorem V_i2c {x : Int32} (Z : zC E cc nL own fr lo) (hd : decode cc pc = .ok (.i2c, 1)) (k : VV E nL (pc + 1) L (.int ((x.toUInt32 % 65536).toInt32) :: S) M) : VV E nL pc L (.int x :: S) M := fun H locs ls hP hS hl2 => lv_i2c Z.1 Z.2.1 hd rfl (k H locs ls hP hS hl2)
theorem V_aloadv {f : Fin 4} {i : Nat} {v : Value} (q : Nat) (Z : zC E cc nL own fr lo) (hv : v = .null ∨ v = .ref 3000) (hL : L[q]? = some (i, v)) (hi : (f : Nat) = i) (hd : decode cc pc = .ok (.aload_n f, 1)) (k : VV E nL (pc + 1) L (v :: S) M) : VV E nL pc L S M := fun H locs ls hP hS hl2 => by
  rcases hv with rfl | rfl
  · exact lv_aload_nN Z.1 Z.2.1 hd hi (zL_at hl2 hL) (k H locs ls hP hS hl2)
  · exact lv_aload_n Z.1 Z.2.1 hd hi (zL_at hl2 hL) (k H locs ls hP hS hl2)
/-- a call on a string constant -/
theorem V_callW {y : MethodName} {bytes : ByteArray} {mL fr2 lo2 index : Nat} {ret : Option FieldType} {w : Nat} {As rest : List Value} {v : Option Value} {M' : zM} (n : Nat) (Z : zC E cc nL own fr lo) (hw : w < 13) (hr : zRuns y bytes mL ret fr2 lo2 (.ref (1000 + w) :: As) M v M') (hy : zCd y bytes mL ret n) (hcl : y.cls = "java/lang/String") (hl : Cond.methodLink own index y ∈ zTB) (hi : Cond.instanceMethod y ∈ zTB) (hsel : Cond.selects y.cls y y ∈ zTB) (hst : S = As.reverse ++ .ref (1000 + w) :: rest) (hd : decode cc pc = .ok (.invokevirtual index, 3)) (hR : fr2 + 1 ≤ fr ∧ 8 + (mL + 11) + lo2 ≤ lo ∧ As.length = n ∧ (rest.map fun v => v.category).sum ≤ 8) (kk : VV E nL (pc + 3) L (v.toList ++ rest) M') : VV E nL pc L S M := fun H locs ls hP hS hl2 => by
  subst hst
  have hrc : ∃ cell : Cell, H[ead E (1000 + w)]? = some cell ∧ cell.vm.isStatics = false ∧ (es E).vm.findClass y.cls = some cell.cls := by
    rw [hcl]
    exact vk_recv (adK := fun i => ead E (1000 + i)) Z.2.2.2.2.2.2.2.1.1 hw hS
  refine z_callg (va_runV (C := y.cls) (As := As.map (cv (ead E))) (b := ead E (1000 + w)) (rest := rest.map (cv (ead E))) (n := n) ⟨Z.1, Z.2.1, Z.2.2.1, Z.2.2.2.1, Z.2.2.2.2.1⟩ (hr (el E) (eG E) (ead E) H.size) ⟨z_cb Z hy hl ⟨hR.1, hR.2.1⟩, Z.2.2.2.2.1 _ hi, Z.2.2.2.2.1 _ hsel⟩ ⟨zPc_blind, hrc, z_pre Z hP hS⟩ rfl (by rw [List.length_map]; exact hR.2.2.1) hl2.1 ?_ ?_ hd ⟨Z.2.2.2.2.2.2.2.2.2.1, Z.2.2.2.2.2.2.2.2.2.2⟩) hS (fun q _ h => zA_mono hS.1 q h) (fun q h => zA_mono hS.1 q h) (fun t H1 locs1 ht hB hS1 => ?_)
  · show List.map (cv (ead E)) (As.reverse ++ .ref (1000 + w) :: rest) = _
    rw [List.map_append, List.map_reverse]
    rfl
  · show 2 * 0 + _ ≤ 8
    rw [cv_sum]
    exact Nat.le_trans (Nat.le_of_eq (Nat.zero_add _)) hR.2.2.2
  · subst ht
    have h2 := kk t.heap locs1 ls hB hS1 hl2
    rw [List.map_append] at h2
    cases v <;> exact h2
theorem V_nret {x : Int32} {ty : FieldType} (Z : zC E cc nL own fr lo) (h : narrow ty (.int x) = .int x) (hE : zEnd E (some ty) (some (.int x)) M) (hd : decode cc pc = .ok (.ireturn, 1)) : VV E nL pc L [.int x] M := fun H locs ls hP hS hl => by
  obtain ⟨hr, hlk, hq⟩ := hE
  rw [hq]
  exact W.zret Z.1 Z.2.1 hr h (fun t ht hW => ⟨⟨rfl, by rw [ht]; exact hP⟩, hS.F ht⟩) hS.2.2 hd (hlocks := hlk)
end ZS
theorem cd_coder : zCd yJ0_coder_7d493 cJ0_coder_7d493 1 (some .byte) 0 := ⟨w609, w74, ⟨by decide, by decide⟩, by decide +kernel⟩
theorem cd_length : zCd yJ0_length_8abf5 cJ0_length_8abf5 1 (some .int) 0 := ⟨w605, w74, ⟨by decide, by decide⟩, by decide +kernel⟩
theorem cd_isLatin1 : zCd yJ0_isLatin1_aae02 cJ0_isLatin1_aae02 1 (some .boolean) 0 := ⟨w619, w74, ⟨by decide, by decide⟩, by decide +kernel⟩
theorem cd_charAt : zCd yJ0_charAt_5068e cJ0_charAt_5068e 2 (some .char) 1 := ⟨w615, w74, ⟨by decide, by decide⟩, by decide +kernel⟩
theorem cd_charAt1 : zCd yJ1_charAt_3b067 cJ1_charAt_3b067 2 (some .char) 2 := ⟨w622, w75, ⟨by decide, by decide⟩, by decide +kernel⟩
theorem cd_chk : zCd yJ0_checkIndex_df160 cJ0_checkIndex_df160 2 none 2 := ⟨w625, w74, ⟨by decide, by decide⟩, by decide +kernel⟩
theorem cd_chk3 : zCd yJ3_checkIndex_8e157 cJ3_checkIndex_8e157 3 (some .int) 3 := ⟨w630, w76, ⟨by decide, by decide⟩, by decide +kernel⟩
theorem ok_coder {w : Nat} {M : zM} (hw : w < 13) : zRuns yJ0_coder_7d493 cJ0_coder_7d493 1 (some .byte) 0 0 [.ref (1000 + w)] M (some (.int 0)) M := by
  refine zRuns_of (by decide +kernel) (Nat.le_of_ble_eq_true rfl) (fun E Z hE => ?_)
  change VV E 1 0 [(0, Value.ref (1000 + w))] [] M
  refine V_compact Z w610 (show decode cJ0_coder_7d493 0 = .ok (.getstatic 38, 3) by decide +kernel) ?_
  refine V_if_eq 13 Z (by decide) (show decode cJ0_coder_7d493 3 = .ok (.ifCond .eq 10, 3) by decide +kernel) (fun c => absurd c (by decide)) (fun _ => ?_)
  refine V_aload_n 0 Z rfl rfl (show decode cJ0_coder_7d493 6 = .ok (.aload_n 0, 1) by decide +kernel) ?_
  refine V_strcod Z hw w1275 (show decode cJ0_coder_7d493 7 = .ok (.getfield 15, 3) by decide +kernel) ?_
  refine V_goto 14 Z (by decide) (show decode cJ0_coder_7d493 10 = .ok (.goto 4, 3) by decide +kernel) ?_
  exact V_nret Z rfl hE (show decode cJ0_coder_7d493 14 = .ok (.ireturn, 1) by decide +kernel)
theorem ok_length {w : Nat} {M : zM} (hw : w < 13) : zRuns yJ0_length_8abf5 cJ0_length_8abf5 1 (some .int) 1 20 [.ref (1000 + w)] M (some (.int (zsl w))) M := by
  refine zRuns_of (by decide +kernel) (Nat.le_of_ble_eq_true rfl) (fun E Z hE => ?_)
  change VV E 1 0 [(0, Value.ref (1000 + w))] [] M
  refine V_aload_n 0 Z rfl rfl (show decode cJ0_length_8abf5 0 = .ok (.aload_n 0, 1) by decide +kernel) ?_
  refine V_strval Z hw w1274 (show decode cJ0_length_8abf5 1 = .ok (.getfield 9, 3) by decide +kernel) ?_
  refine V_blen Z hw (show decode cJ0_length_8abf5 4 = .ok (.arraylength, 1) by decide +kernel) ?_
  refine V_aload_n 0 Z rfl rfl (show decode cJ0_length_8abf5 5 = .ok (.aload_n 0, 1) by decide +kernel) ?_
  refine V_callW (rest := [_]) 0 Z hw (ok_coder hw) cd_coder rfl w606 w607 w608 rfl (show decode cJ0_length_8abf5 6 = .ok (.invokevirtual 335, 3) by decide +kernel) ⟨by decide, by decide, rfl, Nat.le_of_ble_eq_true rfl⟩ ?_
  refine V_ishr Z (show decode cJ0_length_8abf5 9 = .ok (.ishr, 1) by decide +kernel) ?_
  refine V_nm (sb_shr0 (zsl w)) ?_
  exact V_iret Z hE (show decode cJ0_length_8abf5 10 = .ok (.ireturn, 1) by decide +kernel)
theorem ok_isLatin1 {w : Nat} {M : zM} (hw : w < 13) : zRuns yJ0_isLatin1_aae02 cJ0_isLatin1_aae02 1 (some .boolean) 0 0 [.ref (1000 + w)] M (some (.int 1)) M := by
  refine zRuns_of (by decide +kernel) (Nat.le_of_ble_eq_true rfl) (fun E Z hE => ?_)
  change VV E 1 0 [(0, Value.ref (1000 + w))] [] M
  refine V_compact Z w610 (show decode cJ0_isLatin1_aae02 0 = .ok (.getstatic 38, 3) by decide +kernel) ?_
  refine V_if_eq 17 Z (by decide) (show decode cJ0_isLatin1_aae02 3 = .ok (.ifCond .eq 14, 3) by decide +kernel) (fun c => absurd c (by decide)) (fun _ => ?_)
  refine V_aload_n 0 Z rfl rfl (show decode cJ0_isLatin1_aae02 6 = .ok (.aload_n 0, 1) by decide +kernel) ?_
  refine V_strcod Z hw w1275 (show decode cJ0_isLatin1_aae02 7 = .ok (.getfield 15, 3) by decide +kernel) ?_
  refine V_if_ne 17 Z (by decide) (show decode cJ0_isLatin1_aae02 10 = .ok (.ifCond .ne 7, 3) by decide +kernel) (fun c => absurd rfl c) (fun _ => ?_)
  refine V_iconst 1 (by decide) Z (show decode cJ0_isLatin1_aae02 13 = .ok (.iconst 1, 1) by decide +kernel) ?_
  refine V_goto 18 Z (by decide) (show decode cJ0_isLatin1_aae02 14 = .ok (.goto 4, 3) by decide +kernel) ?_
  exact V_nret Z rfl hE (show decode cJ0_isLatin1_aae02 18 = .ok (.ireturn, 1) by decide +kernel)
theorem ok_chk3 {i n : Int32} {v : Value} {M : zM} (hv : v = .null ∨ v = .ref 3000) (h0 : ¬ i < 0) (h1 : i < n) : zRuns yJ3_checkIndex_8e157 cJ3_checkIndex_8e157 3 (some .int) 0 0 [.int i, .int n, v] M (some (.int i)) M := by
  refine zRuns_of (by decide +kernel) (by rcases hv with rfl | rfl <;> exact Nat.le_of_ble_eq_true rfl) (fun E Z hE => ?_)
  have hl : lv_args 0 [.int i, .int n, v] = [(0, Value.int i), (1, Value.int n), (2, v)] := rfl
  rw [hl]
  refine V_iload_n 0 Z rfl rfl (show decode cJ3_checkIndex_8e157 0 = .ok (.iload_n 0, 1) by decide +kernel) ?_
  refine V_if_lt 9 Z (by decide) (show decode cJ3_checkIndex_8e157 1 = .ok (.ifCond .lt 8, 3) by decide +kernel) (fun c => absurd c h0) (fun _ => ?_)
  refine V_iload_n 0 Z rfl rfl (show decode cJ3_checkIndex_8e157 4 = .ok (.iload_n 0, 1) by decide +kernel) ?_
  refine V_iload_n 1 Z rfl rfl (show decode cJ3_checkIndex_8e157 5 = .ok (.iload_n 1, 1) by decide +kernel) ?_
  refine V_icmp_lt 16 Z (by decide) (show decode cJ3_checkIndex_8e157 6 = .ok (.if_icmp .lt 10, 3) by decide +kernel) (fun _ => ?_) (fun c => absurd h1 c)
  refine V_iload_n 0 Z rfl rfl (show decode cJ3_checkIndex_8e157 16 = .ok (.iload_n 0, 1) by decide +kernel) ?_
  exact V_iret Z hE (show decode cJ3_checkIndex_8e157 17 = .ok (.ireturn, 1) by decide +kernel)
theorem ok_chk {i n : Int32} {M : zM} (h0 : ¬ i < 0) (h1 : i < n) : zRuns yJ0_checkIndex_df160 cJ0_checkIndex_df160 2 none 1 22 [.int i, .int n] M none M := by
  refine zRuns_of (by decide +kernel) (Nat.le_of_ble_eq_true rfl) (fun E Z hE => ?_)
  change VV E 2 0 [(0, Value.int i), (1, Value.int n)] [] M
  refine V_iload_n 0 Z rfl rfl (show decode cJ0_checkIndex_df160 0 = .ok (.iload_n 0, 1) by decide +kernel) ?_
  refine V_iload_n 1 Z rfl rfl (show decode cJ0_checkIndex_df160 1 = .ok (.iload_n 1, 1) by decide +kernel) ?_
  refine V_sioobe Z w626 (show decode cJ0_checkIndex_df160 2 = .ok (.getstatic 1053, 3) by decide +kernel) (fun v hv => ?_)
  refine V_callS (rest := []) 3 Z (ok_chk3 hv h0 h1) cd_chk3 w628 w629 rfl (show decode cJ0_checkIndex_df160 5 = .ok (.invokestatic 1059, 3) by decide +kernel) rfl ?_
  refine V_pop rfl Z (show decode cJ0_checkIndex_df160 8 = .ok (.pop, 1) by decide +kernel) ?_
  exact V_vret Z hE (show decode cJ0_checkIndex_df160 9 = .ok (.return_, 1) by decide +kernel)
theorem zByt_ok : ∀ w, w < 13 → zLen.getD w 0 < 100 ∧ (zByt.getD w []).length = zLen.getD w 0 ∧ ∀ b ∈ zByt.getD w [], ((b &&& 255).toUInt32 % 65536).toInt32 = b ∧ vp_nar .char b = b := by decide +kernel
theorem z_getD_mem {l : List Int32} {j : Nat} (h : j < l.length) : l.getD j 0 ∈ l := by
  rw [List.getD_eq_getElem?_getD, List.getElem?_eq_getElem h]
  exact List.getElem_mem h
theorem zsc_lt {w : Nat} (hw : w < 13) {i v : Int32} (hv : zsc w i = some v) : ¬ i < 0 ∧ i < zsl w ∧ ((v &&& 255).toUInt32 % 65536).toInt32 = v ∧ narrow .char (.int v) = .int v := by
  unfold zsc at hv
  split at hv
  · cases hv
  · rename_i hin
    obtain ⟨h1, h2, h3⟩ := zByt_ok w hw
    have hlt : i.toNatClampNeg < zLen.getD w 0 := Nat.not_le.mp fun q => hin (Or.inr q)
    obtain ⟨j, hj, rfl⟩ := nI_of (fun q => hin (Or.inl q))
    rw [nI_clamp hj] at hlt hv
    cases hv
    have hj2 : j < (zByt.getD w []).length := by rw [h2]; exact hlt
    have hb := h3 ((zByt.getD w []).getD j 0) (z_getD_mem hj2)
    refine ⟨nI_pos hj, nI_lt hlt (by omega), hb.1, ?_⟩
    have e := pk_nc ((zByt.getD w []).getD j 0 &&& 255)
    rw [hb.1] at e
    exact e
theorem ok_charAt1 {w : Nat} {i v : Int32} {M : zM} (hw : w < 13) (hv : zsc w i = some v) : zRuns yJ1_charAt_3b067 cJ1_charAt_3b067 2 (some .char) 2 43 [.ref (2000 + w), .int i] M (some (.int v)) M := by
  obtain ⟨h0, h1, h2, h3⟩ := zsc_lt hw hv
  refine zRuns_of (by decide +kernel) (Nat.le_of_ble_eq_true rfl) (fun E Z hE => ?_)
  change VV E 2 0 [(0, Value.ref (2000 + w)), (1, Value.int i)] [] M
  refine V_iload_n 1 Z rfl rfl (show decode cJ1_charAt_3b067 0 = .ok (.iload_n 1, 1) by decide +kernel) ?_
  refine V_aload_n 0 Z rfl rfl (show decode cJ1_charAt_3b067 1 = .ok (.aload_n 0, 1) by decide +kernel) ?_
  refine V_blen Z hw (show decode cJ1_charAt_3b067 2 = .ok (.arraylength, 1) by decide +kernel) ?_
  refine V_callS (rest := []) 2 Z (ok_chk h0 h1) cd_chk w623 w624 rfl (show decode cJ1_charAt_3b067 3 = .ok (.invokestatic 9, 3) by decide +kernel) rfl ?_
  refine V_aload_n 0 Z rfl rfl (show decode cJ1_charAt_3b067 6 = .ok (.aload_n 0, 1) by decide +kernel) ?_
  refine V_iload_n 1 Z rfl rfl (show decode cJ1_charAt_3b067 7 = .ok (.iload_n 1, 1) by decide +kernel) ?_
  refine V_bald Z hw hv (show decode cJ1_charAt_3b067 8 = .ok (.baload, 1) by decide +kernel) ?_
  refine V_sipush 255 (by decide) Z (show decode cJ1_charAt_3b067 9 = .ok (.sipush 255, 3) by decide +kernel) ?_
  refine V_iand Z (show decode cJ1_charAt_3b067 12 = .ok (.iand, 1) by decide +kernel) ?_
  refine V_i2c Z (show decode cJ1_charAt_3b067 13 = .ok (.i2c, 1) by decide +kernel) ?_
  refine V_nm h2 ?_
  exact V_nret Z h3 hE (show decode cJ1_charAt_3b067 14 = .ok (.ireturn, 1) by decide +kernel)
theorem ok_charAt {w : Nat} {i v : Int32} {M : zM} (hw : w < 13) (hv : zsc w i = some v) : zRuns yJ0_charAt_5068e cJ0_charAt_5068e 2 (some .char) 3 64 [.ref (1000 + w), .int i] M (some (.int v)) M := by
  obtain ⟨h0, h1, h2, h3⟩ := zsc_lt hw hv
  refine zRuns_of (by decide +kernel) (Nat.le_of_ble_eq_true rfl) (fun E Z hE => ?_)
  change VV E 2 0 [(0, Value.ref (1000 + w)), (1, Value.int i)] [] M
  refine V_aload_n 0 Z rfl rfl (show decode cJ0_charAt_5068e 0 = .ok (.aload_n 0, 1) by decide +kernel) ?_
  refine V_callW (rest := []) 0 Z hw (ok_isLatin1 hw) cd_isLatin1 rfl w616 w617 w618 rfl (show decode cJ0_charAt_5068e 1 = .ok (.invokevirtual 492, 3) by decide +kernel) ⟨by decide, by decide, rfl, Nat.le_of_ble_eq_true rfl⟩ ?_
  refine V_if_eq 16 Z (by decide) (show decode cJ0_charAt_5068e 4 = .ok (.ifCond .eq 12, 3) by decide +kernel) (fun c => absurd c (by decide)) (fun _ => ?_)
  refine V_aload_n 0 Z rfl rfl (show decode cJ0_charAt_5068e 7 = .ok (.aload_n 0, 1) by decide +kernel) ?_
  refine V_strval Z hw w1274 (show decode cJ0_charAt_5068e 8 = .ok (.getfield 9, 3) by decide +kernel) ?_
  refine V_iload_n 1 Z rfl rfl (show decode cJ0_charAt_5068e 11 = .ok (.iload_n 1, 1) by decide +kernel) ?_
  refine V_callS (rest := []) 2 Z (ok_charAt1 hw hv) cd_charAt1 w620 w621 rfl (show decode cJ0_charAt_5068e 12 = .ok (.invokestatic 495, 3) by decide +kernel) rfl ?_
  exact V_nret Z h3 hE (show decode cJ0_charAt_5068e 15 = .ok (.ireturn, 1) by decide +kernel)
section ZS2
variable {E : zEv} {cc : ByteArray} {nL pc fr lo : Nat} {own : String} {L : List (Nat × Value)} {S : List Value} {M : zM}
theorem z_sum (rest : List Value) : rest.map (fun v => v.category) = rest.map fun v => v.category := rfl
theorem V_strlen {w index : Nat} (Z : zC E cc nL own fr lo) (hw : w < 13) (hl : Cond.methodLink own index ⟨"java/lang/String", "length", "()I"⟩ ∈ zTB) (hd : decode cc pc = .ok (.invokevirtual index, 3)) (hR : (decide (6 ≤ fr) && decide ((S.map fun v => v.category).sum + 160 ≤ lo) && decide ((S.map fun v => v.category).sum ≤ 8)) = true) (k : VV E nL (pc + 3) L (.int (zsl w) :: S) M) : VV E nL pc L (.ref (1000 + w) :: S) M := by
  simp only [Bool.and_eq_true, decide_eq_true_eq] at hR
  exact V_callW (As := []) 0 Z hw (ok_length hw) cd_length rfl hl w603 w604 rfl hd ⟨by omega, by omega, rfl, hR.2⟩ k
theorem V_strchar {w index : Nat} {i v : Int32} (Z : zC E cc nL own fr lo) (hw : w < 13) (hv : zsc w i = some v) (hl : Cond.methodLink own index ⟨"java/lang/String", "charAt", "(I)C"⟩ ∈ zTB) (hd : decode cc pc = .ok (.invokevirtual index, 3)) (hR : (decide (6 ≤ fr) && decide ((S.map fun v => v.category).sum + 160 ≤ lo) && decide ((S.map fun v => v.category).sum ≤ 8)) = true) (k : VV E nL (pc + 3) L (.int v :: S) M) : VV E nL pc L (.int i :: .ref (1000 + w) :: S) M := by
  simp only [Bool.and_eq_true, decide_eq_true_eq] at hR
  exact V_callW (As := [.int i]) 1 Z hw (ok_charAt hw hv) cd_charAt rfl hl w613 w614 rfl hd ⟨by omega, by omega, rfl, hR.2⟩ k
end ZS2
