/-! Generated walks: X6_next X6_isWord X6_must X6_number X6_item X6_kindTold X6_afterWord -/
def f_X6_next_l131  : zM → Option ((zM) ⊕ (zM))
  | M =>
    (f_X6_byteAt (M 47 10) M).bind fun (v21 : Int32) =>
    (f_X6_within v21 48 57 M).bind fun (v23 : Int32) =>
    if v23 = 0 then
      some (.inr (M))
    else
      (f_X6_byteAt (M 47 10) M).bind fun (v26 : Int32) =>
      (some (zU M 47 12 ((if (((10 * (M 47 12)) + v26) - 48) < 10000 then (((10 * (M 47 12)) + v26) - 48) else 10000)))).bind fun (M27 : zM) =>
      (some (zU M27 47 10 (((M27 47 10) + 1)))).bind fun (M29 : zM) =>
      some (.inl (M29))
def f_X6_next_l84  : zM → Option ((zM) ⊕ (zM))
  | M =>
    (f_X6_byteAt (M 47 10) M).bind fun (v34 : Int32) =>
    (f_X6_within v34 97 122 M).bind fun (v36 : Int32) =>
    if v36 = 0 then
      some (.inr (M))
    else
      (some (zU M 47 10 (((M 47 10) + 1)))).bind fun (M38 : zM) =>
      some (.inl (M38))
def f_X6_next_j34 (M : zM) : Option (zM) :=
  (f_X6_byteAt (M 47 9) M).bind fun (v2 : Int32) =>
  (some (zU M 47 10 ((M 47 9)))).bind fun (M3 : zM) =>
  (some (zU M3 47 12 0)).bind fun (M5 : zM) =>
  if 0 ≤ v2 then
    (f_X6_within v2 97 122 M5).bind fun (v9 : Int32) =>
    if v9 = 0 then
      (f_X6_within v2 48 57 M5).bind fun (v12 : Int32) =>
      if v12 = 0 then
        (some (zU M5 47 11 3)).bind fun (M14 : zM) =>
        (some (zU M14 47 10 (((M14 47 10) + 1)))).bind fun (M16 : zM) =>
        some (M16)
      else
        (some (zU M5 47 11 2)).bind fun (M18 : zM) =>
        zIter (f_X6_next_l131 ) 1000 (M18)
    else
      (some (zU M5 47 11 1)).bind fun (M31 : zM) =>
      zIter (f_X6_next_l84 ) 1000 (M31)
  else
    (some (zU M5 47 11 0)).bind fun (M40 : zM) =>
    some (M40)
def f_X6_next_l8  : zM → Option ((zM) ⊕ (zM))
  | M =>
    (f_X6_byteAt (M 47 9) M).bind fun (v45 : Int32) =>
    if v45 = 32 then
      (some (zU M 47 9 (((M 47 9) + 1)))).bind fun (M47 : zM) =>
      some (.inl (M47))
    else
      (f_X6_next_j34  M).bind fun z => some (Sum.inr z)
def f_X6_next (M : zM) : Option (zM) :=
  (some (zU M 47 9 ((M 47 10)))).bind fun (M42 : zM) =>
  zIter (f_X6_next_l8 ) 1000 (M42)
theorem cd_X6_next : zCd yX6_next cX6_next 2 none 0 := ⟨w1167, w69, ⟨by decide, by decide⟩, by decide +kernel⟩
set_option maxHeartbeats 4000000 in
set_option maxRecDepth 20000 in
theorem ok_X6_next {M : zM} {y : zM}  (h : f_X6_next  M = some y) : zRuns yX6_next cX6_next 2 none 1 22 [.ref 47] M none y := by
  refine zRuns_of (by decide +kernel) (Nat.le_of_ble_eq_true rfl) (fun E Z hE => ?_)
  have h := zB_top h
  change VV E 2 0 [(0, Value.ref 47)] [] M
  have J34 : ∀ (M : zM), (f_X6_next_j34  M).bind some = some y → VV E 2 34 [(0, Value.ref 47)] [] M := by
    intro  M h
    refine V_aload_n 0 Z rfl rfl (show decode cX6_next 34 = .ok (.aload_n 0, 1) by decide +kernel) ?_
    refine V_aload_n 0 Z rfl rfl (show decode cX6_next 35 = .ok (.aload_n 0, 1) by decide +kernel) ?_
    refine V_getI 9 Z zc5 (by decide) rfl (by decide) rfl ⟨rfl, rfl, rfl⟩ w775 (show decode cX6_next 36 = .ok (.getfield 243, 3) by decide +kernel) ?_
    obtain ⟨v2, e1, h⟩ := zB_bind h
    refine V_callV (rest := []) 1 Z (ok_X6_byteAt  e1) cd_X6_byteAt zc5 (by decide) rfl w1168 w1170 w54 rfl (show decode cX6_next 39 = .ok (.invokevirtual 246, 3) by decide +kernel) rfl ?_
    refine V_istore_n [(1, Value.int v2), (0, Value.ref 47)] Z (by decide) rfl rfl (show decode cX6_next 42 = .ok (.istore_n 1, 1) by decide +kernel) ?_
    refine V_aload_n 1 Z rfl rfl (show decode cX6_next 43 = .ok (.aload_n 0, 1) by decide +kernel) ?_
    refine V_aload_n 1 Z rfl rfl (show decode cX6_next 44 = .ok (.aload_n 0, 1) by decide +kernel) ?_
    refine V_getI 9 Z zc5 (by decide) rfl (by decide) rfl ⟨rfl, rfl, rfl⟩ w775 (show decode cX6_next 45 = .ok (.getfield 243, 3) by decide +kernel) ?_
    obtain ⟨M3, e4, h⟩ := zB_let h
    refine V_putI 10 Z zc5 (by decide) rfl (by decide) rfl ⟨rfl, rfl, rfl⟩ rfl rfl w776 (show decode cX6_next 48 = .ok (.putfield 240, 3) by decide +kernel) ?_
    refine V_nmM e4 ?_
    refine V_aload_n 1 Z rfl rfl (show decode cX6_next 51 = .ok (.aload_n 0, 1) by decide +kernel) ?_
    refine V_iconst 0 (by decide) Z (show decode cX6_next 52 = .ok (.iconst 0, 1) by decide +kernel) ?_
    obtain ⟨M5, e6, h⟩ := zB_let h
    refine V_putI 12 Z zc5 (by decide) rfl (by decide) rfl ⟨rfl, rfl, rfl⟩ rfl rfl w778 (show decode cX6_next 53 = .ok (.putfield 249, 3) by decide +kernel) ?_
    refine V_nmM e6 ?_
    refine V_iload_n 0 Z rfl rfl (show decode cX6_next 56 = .ok (.iload_n 1, 1) by decide +kernel) ?_
    refine V_if_ge 68 Z (by decide) (show decode cX6_next 57 = .ok (.ifCond .ge 11, 3) by decide +kernel) (fun c7 => ?_) (fun c7 => ?_)
    · have h := zB_pos c7 h
      refine V_iload_n 0 Z rfl rfl (show decode cX6_next 68 = .ok (.iload_n 1, 1) by decide +kernel) ?_
      refine V_bipush 97 (by decide) Z (show decode cX6_next 69 = .ok (.bipush 97, 2) by decide +kernel) ?_
      refine V_bipush 122 (by decide) Z (show decode cX6_next 71 = .ok (.bipush 122, 2) by decide +kernel) ?_
      obtain ⟨v9, e8, h⟩ := zB_bind h
      refine V_callS (rest := []) 3 Z (ok_X6_within  e8) cd_X6_within w840 w841 rfl (show decode cX6_next 73 = .ok (.invokestatic 76, 3) by decide +kernel) rfl ?_
      refine V_if_eq 115 Z (by decide) (show decode cX6_next 76 = .ok (.ifCond .eq 39, 3) by decide +kernel) (fun c10 => ?_) (fun c10 => ?_)
      · have h := zB_pos c10 h
        refine V_iload_n 0 Z rfl rfl (show decode cX6_next 115 = .ok (.iload_n 1, 1) by decide +kernel) ?_
        refine V_bipush 48 (by decide) Z (show decode cX6_next 116 = .ok (.bipush 48, 2) by decide +kernel) ?_
        refine V_bipush 57 (by decide) Z (show decode cX6_next 118 = .ok (.bipush 57, 2) by decide +kernel) ?_
        obtain ⟨v12, e11, h⟩ := zB_bind h
        refine V_callS (rest := []) 3 Z (ok_X6_within  e11) cd_X6_within w840 w841 rfl (show decode cX6_next 120 = .ok (.invokestatic 76, 3) by decide +kernel) rfl ?_
        refine V_if_eq 191 Z (by decide) (show decode cX6_next 123 = .ok (.ifCond .eq 68, 3) by decide +kernel) (fun c13 => ?_) (fun c13 => ?_)
        · have h := zB_pos c13 h
          refine V_aload_n 1 Z rfl rfl (show decode cX6_next 191 = .ok (.aload_n 0, 1) by decide +kernel) ?_
          refine V_iconst 3 (by decide) Z (show decode cX6_next 192 = .ok (.iconst 3, 1) by decide +kernel) ?_
          obtain ⟨M14, e15, h⟩ := zB_let h
          refine V_putI 11 Z zc5 (by decide) rfl (by decide) rfl ⟨rfl, rfl, rfl⟩ rfl rfl w777 (show decode cX6_next 193 = .ok (.putfield 252, 3) by decide +kernel) ?_
          refine V_nmM e15 ?_
          refine V_aload_n 1 Z rfl rfl (show decode cX6_next 196 = .ok (.aload_n 0, 1) by decide +kernel) ?_
          refine V_dup rfl Z (show decode cX6_next 197 = .ok (.dup, 1) by decide +kernel) ?_
          refine V_getI 10 Z zc5 (by decide) rfl (by decide) rfl ⟨rfl, rfl, rfl⟩ w776 (show decode cX6_next 198 = .ok (.getfield 240, 3) by decide +kernel) ?_
          refine V_iconst 1 (by decide) Z (show decode cX6_next 201 = .ok (.iconst 1, 1) by decide +kernel) ?_
          refine V_iadd Z (show decode cX6_next 202 = .ok (.iadd, 1) by decide +kernel) ?_
          obtain ⟨M16, e17, h⟩ := zB_let h
          refine V_putI 10 Z zc5 (by decide) rfl (by decide) rfl ⟨rfl, rfl, rfl⟩ rfl rfl w776 (show decode cX6_next 203 = .ok (.putfield 240, 3) by decide +kernel) ?_
          refine V_nmM e17 ?_
          exact V_vretM Z hE h (show decode cX6_next 206 = .ok (.return_, 1) by decide +kernel)
        · have h := zB_neg c13 h
          refine V_aload_n 1 Z rfl rfl (show decode cX6_next 126 = .ok (.aload_n 0, 1) by decide +kernel) ?_
          refine V_iconst 2 (by decide) Z (show decode cX6_next 127 = .ok (.iconst 2, 1) by decide +kernel) ?_
          obtain ⟨M18, e19, h⟩ := zB_let h
          refine V_putI 11 Z zc5 (by decide) rfl (by decide) rfl ⟨rfl, rfl, rfl⟩ rfl rfl w777 (show decode cX6_next 128 = .ok (.putfield 252, 3) by decide +kernel) ?_
          refine V_nmM e19 ?_
          refine V_sub [1] rfl ?_
          refine zIter_loop' (K := some) (fun s : zM => VV E 2 131 [(0, Value.ref 47)] [] s) (fun K1 M c1_i c1_r h => ?_) _ _ h
          rw [f_X6_next_l131] at h
          refine V_aload_n 0 Z rfl rfl (show decode cX6_next 131 = .ok (.aload_n 0, 1) by decide +kernel) ?_
          refine V_aload_n 0 Z rfl rfl (show decode cX6_next 132 = .ok (.aload_n 0, 1) by decide +kernel) ?_
          refine V_getI 10 Z zc5 (by decide) rfl (by decide) rfl ⟨rfl, rfl, rfl⟩ w776 (show decode cX6_next 133 = .ok (.getfield 240, 3) by decide +kernel) ?_
          obtain ⟨v21, e20, h⟩ := zB_bind h
          refine V_callV (rest := []) 1 Z (ok_X6_byteAt  e20) cd_X6_byteAt zc5 (by decide) rfl w1168 w1170 w54 rfl (show decode cX6_next 136 = .ok (.invokevirtual 246, 3) by decide +kernel) rfl ?_
          refine V_bipush 48 (by decide) Z (show decode cX6_next 139 = .ok (.bipush 48, 2) by decide +kernel) ?_
          refine V_bipush 57 (by decide) Z (show decode cX6_next 141 = .ok (.bipush 57, 2) by decide +kernel) ?_
          obtain ⟨v23, e22, h⟩ := zB_bind h
          refine V_callS (rest := []) 3 Z (ok_X6_within  e22) cd_X6_within w840 w841 rfl (show decode cX6_next 143 = .ok (.invokestatic 76, 3) by decide +kernel) rfl ?_
          refine V_if_eq 206 Z (by decide) (show decode cX6_next 146 = .ok (.ifCond .eq 60, 3) by decide +kernel) (fun c24 => ?_) (fun c24 => ?_)
          · have h := zB_pos c24 h
            have h := c1_r _ h
            exact V_vretM Z hE h (show decode cX6_next 206 = .ok (.return_, 1) by decide +kernel)
          · have h := zB_neg c24 h
            refine V_aload_n 0 Z rfl rfl (show decode cX6_next 149 = .ok (.aload_n 0, 1) by decide +kernel) ?_
            refine V_sipush 10000 (by decide) Z (show decode cX6_next 150 = .ok (.sipush 10000, 3) by decide +kernel) ?_
            refine V_bipush 10 (by decide) Z (show decode cX6_next 153 = .ok (.bipush 10, 2) by decide +kernel) ?_
            refine V_aload_n 0 Z rfl rfl (show decode cX6_next 155 = .ok (.aload_n 0, 1) by decide +kernel) ?_
            refine V_getI 12 Z zc5 (by decide) rfl (by decide) rfl ⟨rfl, rfl, rfl⟩ w778 (show decode cX6_next 156 = .ok (.getfield 249, 3) by decide +kernel) ?_
            refine V_imul Z (show decode cX6_next 159 = .ok (.imul, 1) by decide +kernel) ?_
            refine V_aload_n 0 Z rfl rfl (show decode cX6_next 160 = .ok (.aload_n 0, 1) by decide +kernel) ?_
            refine V_aload_n 0 Z rfl rfl (show decode cX6_next 161 = .ok (.aload_n 0, 1) by decide +kernel) ?_
            refine V_getI 10 Z zc5 (by decide) rfl (by decide) rfl ⟨rfl, rfl, rfl⟩ w776 (show decode cX6_next 162 = .ok (.getfield 240, 3) by decide +kernel) ?_
            obtain ⟨v26, e25, h⟩ := zB_bind h
            refine V_callV (rest := [_, _, _]) 1 Z (ok_X6_byteAt  e25) cd_X6_byteAt zc5 (by decide) rfl w1168 w1170 w54 rfl (show decode cX6_next 165 = .ok (.invokevirtual 246, 3) by decide +kernel) rfl ?_
            refine V_iadd Z (show decode cX6_next 168 = .ok (.iadd, 1) by decide +kernel) ?_
            refine V_bipush 48 (by decide) Z (show decode cX6_next 169 = .ok (.bipush 48, 2) by decide +kernel) ?_
            refine V_isub Z (show decode cX6_next 171 = .ok (.isub, 1) by decide +kernel) ?_
            refine V_min Z w962 w367 w71 w368 (show decode cX6_next 172 = .ok (.invokestatic 148, 3) by decide +kernel) rfl ?_
            obtain ⟨M27, e28, h⟩ := zB_let h
            refine V_putI 12 Z zc5 (by decide) rfl (by decide) rfl ⟨rfl, rfl, rfl⟩ rfl rfl w778 (show decode cX6_next 175 = .ok (.putfield 249, 3) by decide +kernel) ?_
            refine V_nmM e28 ?_
            refine V_aload_n 0 Z rfl rfl (show decode cX6_next 178 = .ok (.aload_n 0, 1) by decide +kernel) ?_
            refine V_dup rfl Z (show decode cX6_next 179 = .ok (.dup, 1) by decide +kernel) ?_
            refine V_getI 10 Z zc5 (by decide) rfl (by decide) rfl ⟨rfl, rfl, rfl⟩ w776 (show decode cX6_next 180 = .ok (.getfield 240, 3) by decide +kernel) ?_
            refine V_iconst 1 (by decide) Z (show decode cX6_next 183 = .ok (.iconst 1, 1) by decide +kernel) ?_
            refine V_iadd Z (show decode cX6_next 184 = .ok (.iadd, 1) by decide +kernel) ?_
            obtain ⟨M29, e30, h⟩ := zB_let h
            refine V_putI 10 Z zc5 (by decide) rfl (by decide) rfl ⟨rfl, rfl, rfl⟩ rfl rfl w776 (show decode cX6_next 185 = .ok (.putfield 240, 3) by decide +kernel) ?_
            refine V_nmM e30 ?_
            refine V_goto 131 Z (by decide) (show decode cX6_next 188 = .ok (.goto (-57), 3) by decide +kernel) ?_
            exact c1_i _ h
      · have h := zB_neg c10 h
        refine V_aload_n 1 Z rfl rfl (show decode cX6_next 79 = .ok (.aload_n 0, 1) by decide +kernel) ?_
        refine V_iconst 1 (by decide) Z (show decode cX6_next 80 = .ok (.iconst 1, 1) by decide +kernel) ?_
        obtain ⟨M31, e32, h⟩ := zB_let h
        refine V_putI 11 Z zc5 (by decide) rfl (by decide) rfl ⟨rfl, rfl, rfl⟩ rfl rfl w777 (show decode cX6_next 81 = .ok (.putfield 252, 3) by decide +kernel) ?_
        refine V_nmM e32 ?_
        refine V_sub [1] rfl ?_
        refine zIter_loop' (K := some) (fun s : zM => VV E 2 84 [(0, Value.ref 47)] [] s) (fun K1 M c1_i c1_r h => ?_) _ _ h
        rw [f_X6_next_l84] at h
        refine V_aload_n 0 Z rfl rfl (show decode cX6_next 84 = .ok (.aload_n 0, 1) by decide +kernel) ?_
        refine V_aload_n 0 Z rfl rfl (show decode cX6_next 85 = .ok (.aload_n 0, 1) by decide +kernel) ?_
        refine V_getI 10 Z zc5 (by decide) rfl (by decide) rfl ⟨rfl, rfl, rfl⟩ w776 (show decode cX6_next 86 = .ok (.getfield 240, 3) by decide +kernel) ?_
        obtain ⟨v34, e33, h⟩ := zB_bind h
        refine V_callV (rest := []) 1 Z (ok_X6_byteAt  e33) cd_X6_byteAt zc5 (by decide) rfl w1168 w1170 w54 rfl (show decode cX6_next 89 = .ok (.invokevirtual 246, 3) by decide +kernel) rfl ?_
        refine V_bipush 97 (by decide) Z (show decode cX6_next 92 = .ok (.bipush 97, 2) by decide +kernel) ?_
        refine V_bipush 122 (by decide) Z (show decode cX6_next 94 = .ok (.bipush 122, 2) by decide +kernel) ?_
        obtain ⟨v36, e35, h⟩ := zB_bind h
        refine V_callS (rest := []) 3 Z (ok_X6_within  e35) cd_X6_within w840 w841 rfl (show decode cX6_next 96 = .ok (.invokestatic 76, 3) by decide +kernel) rfl ?_
        refine V_if_eq 206 Z (by decide) (show decode cX6_next 99 = .ok (.ifCond .eq 107, 3) by decide +kernel) (fun c37 => ?_) (fun c37 => ?_)
        · have h := zB_pos c37 h
          have h := c1_r _ h
          exact V_vretM Z hE h (show decode cX6_next 206 = .ok (.return_, 1) by decide +kernel)
        · have h := zB_neg c37 h
          refine V_aload_n 0 Z rfl rfl (show decode cX6_next 102 = .ok (.aload_n 0, 1) by decide +kernel) ?_
          refine V_dup rfl Z (show decode cX6_next 103 = .ok (.dup, 1) by decide +kernel) ?_
          refine V_getI 10 Z zc5 (by decide) rfl (by decide) rfl ⟨rfl, rfl, rfl⟩ w776 (show decode cX6_next 104 = .ok (.getfield 240, 3) by decide +kernel) ?_
          refine V_iconst 1 (by decide) Z (show decode cX6_next 107 = .ok (.iconst 1, 1) by decide +kernel) ?_
          refine V_iadd Z (show decode cX6_next 108 = .ok (.iadd, 1) by decide +kernel) ?_
          obtain ⟨M38, e39, h⟩ := zB_let h
          refine V_putI 10 Z zc5 (by decide) rfl (by decide) rfl ⟨rfl, rfl, rfl⟩ rfl rfl w776 (show decode cX6_next 109 = .ok (.putfield 240, 3) by decide +kernel) ?_
          refine V_nmM e39 ?_
          refine V_goto 84 Z (by decide) (show decode cX6_next 112 = .ok (.goto (-28), 3) by decide +kernel) ?_
          exact c1_i _ h
    · have h := zB_neg c7 h
      refine V_aload_n 1 Z rfl rfl (show decode cX6_next 60 = .ok (.aload_n 0, 1) by decide +kernel) ?_
      refine V_iconst 0 (by decide) Z (show decode cX6_next 61 = .ok (.iconst 0, 1) by decide +kernel) ?_
      obtain ⟨M40, e41, h⟩ := zB_let h
      refine V_putI 11 Z zc5 (by decide) rfl (by decide) rfl ⟨rfl, rfl, rfl⟩ rfl rfl w777 (show decode cX6_next 62 = .ok (.putfield 252, 3) by decide +kernel) ?_
      refine V_nmM e41 ?_
      refine V_goto 206 Z (by decide) (show decode cX6_next 65 = .ok (.goto 141, 3) by decide +kernel) ?_
      exact V_vretM Z hE h (show decode cX6_next 206 = .ok (.return_, 1) by decide +kernel)
  refine V_aload_n 0 Z rfl rfl (show decode cX6_next 0 = .ok (.aload_n 0, 1) by decide +kernel) ?_
  refine V_aload_n 0 Z rfl rfl (show decode cX6_next 1 = .ok (.aload_n 0, 1) by decide +kernel) ?_
  refine V_getI 10 Z zc5 (by decide) rfl (by decide) rfl ⟨rfl, rfl, rfl⟩ w776 (show decode cX6_next 2 = .ok (.getfield 240, 3) by decide +kernel) ?_
  obtain ⟨M42, e43, h⟩ := zB_let h
  refine V_putI 9 Z zc5 (by decide) rfl (by decide) rfl ⟨rfl, rfl, rfl⟩ rfl rfl w775 (show decode cX6_next 5 = .ok (.putfield 243, 3) by decide +kernel) ?_
  refine V_nmM e43 ?_
  refine zIter_loop' (K := some) (fun s : zM => VV E 2 8 [(0, Value.ref 47)] [] s) (fun K1 M c1_i c1_r h => ?_) _ _ h
  rw [f_X6_next_l8] at h
  refine V_aload_n 0 Z rfl rfl (show decode cX6_next 8 = .ok (.aload_n 0, 1) by decide +kernel) ?_
  refine V_aload_n 0 Z rfl rfl (show decode cX6_next 9 = .ok (.aload_n 0, 1) by decide +kernel) ?_
  refine V_getI 9 Z zc5 (by decide) rfl (by decide) rfl ⟨rfl, rfl, rfl⟩ w775 (show decode cX6_next 10 = .ok (.getfield 243, 3) by decide +kernel) ?_
  obtain ⟨v45, e44, h⟩ := zB_bind h
  refine V_callV (rest := []) 1 Z (ok_X6_byteAt  e44) cd_X6_byteAt zc5 (by decide) rfl w1168 w1170 w54 rfl (show decode cX6_next 13 = .ok (.invokevirtual 246, 3) by decide +kernel) rfl ?_
  refine V_bipush 32 (by decide) Z (show decode cX6_next 16 = .ok (.bipush 32, 2) by decide +kernel) ?_
  refine V_icmp_ne 34 Z (by decide) (show decode cX6_next 18 = .ok (.if_icmp .ne 16, 3) by decide +kernel) (fun c46 => ?_) (fun c46 => ?_)
  · have h := zB_neg c46 h
    have h := zB_lift c1_r h
    exact J34 _ h
  · have h := zB_pos c46 h
    refine V_aload_n 0 Z rfl rfl (show decode cX6_next 21 = .ok (.aload_n 0, 1) by decide +kernel) ?_
    refine V_dup rfl Z (show decode cX6_next 22 = .ok (.dup, 1) by decide +kernel) ?_
    refine V_getI 9 Z zc5 (by decide) rfl (by decide) rfl ⟨rfl, rfl, rfl⟩ w775 (show decode cX6_next 23 = .ok (.getfield 243, 3) by decide +kernel) ?_
    refine V_iconst 1 (by decide) Z (show decode cX6_next 26 = .ok (.iconst 1, 1) by decide +kernel) ?_
    refine V_iadd Z (show decode cX6_next 27 = .ok (.iadd, 1) by decide +kernel) ?_
    obtain ⟨M47, e48, h⟩ := zB_let h
    refine V_putI 9 Z zc5 (by decide) rfl (by decide) rfl ⟨rfl, rfl, rfl⟩ rfl rfl w775 (show decode cX6_next 28 = .ok (.putfield 243, 3) by decide +kernel) ?_
    refine V_nmM e48 ?_
    refine V_goto 8 Z (by decide) (show decode cX6_next 31 = .ok (.goto (-23), 3) by decide +kernel) ?_
    exact c1_i _ h
def f_X6_isWord_l32 (w : Nat) (M : zM) : Int32 × Int32 → Option ((Int32 × Int32) ⊕ (Int32))
  | (y2, y3) =>
    if (zsl w) ≤ y3 then
      (zbo y2).bind fun (b2 : Int32) =>
      some (.inr (b2))
    else
      if y2 = 0 then
        (zbo y2).bind fun (b5 : Int32) =>
        some (.inr (b5))
      else
        (zrd M 54 ((M 47 9) + y3)).bind fun (v7 : Int32) =>
        (zsc w y3).bind fun (v9 : Int32) =>
        if v7 = v9 then
          (some (y3 + 1)).bind fun (n14 : Int32) =>
          some (.inl ((1, n14)))
        else
          (some (y3 + 1)).bind fun (n12 : Int32) =>
          some (.inl ((0, n12)))
def f_X6_isWord_j29 (w : Nat) (s0 : Int32) (M : zM) : Option (Int32) :=
  zIter (f_X6_isWord_l32 w M) 1000 (s0, 0)
def f_X6_isWord_j28 (w : Nat) (M : zM) : Option (Int32) :=
  f_X6_isWord_j29 w 0 M
def f_X6_isWord (w : Nat) (M : zM) : Option (Int32) :=
  if (M 47 11) = 1 then
    if ((M 47 10) - (M 47 9)) = (zsl w) then
      f_X6_isWord_j29 w 1 M
    else
      f_X6_isWord_j28 w M
  else
    f_X6_isWord_j28 w M
theorem cd_X6_isWord : zCd yX6_isWord cX6_isWord 4 (some .boolean) 1 := ⟨w1183, w69, ⟨by decide, by decide⟩, by decide +kernel⟩
set_option maxHeartbeats 4000000 in
set_option maxRecDepth 20000 in
theorem ok_X6_isWord {w : Nat} {M : zM} {y : Int32} (hw : w < 13) (h : f_X6_isWord w M = some y) : zRuns yX6_isWord cX6_isWord 4 (some .boolean) 6 161 [.ref 47, .ref (1000 + w)] M (some (.int y)) M := by
  refine zRuns_of (by decide +kernel) (Nat.le_of_ble_eq_true rfl) (fun E Z hE => ?_)
  have h := zB_top h
  change VV E 4 0 [(0, Value.ref 47), (1, Value.ref (1000 + w))] [] M
  have J29 : ∀ (s0 : Int32), (f_X6_isWord_j29 w s0 M).bind some = some y → VV E 4 29 [(0, Value.ref 47), (1, Value.ref (1000 + w))] [Value.int s0] M := by
    intro s0 h
    refine V_istore_n [(2, Value.int s0), (0, Value.ref 47), (1, Value.ref (1000 + w))] Z (by decide) rfl rfl (show decode cX6_isWord 29 = .ok (.istore_n 2, 1) by decide +kernel) ?_
    refine V_iconst 0 (by decide) Z (show decode cX6_isWord 30 = .ok (.iconst 0, 1) by decide +kernel) ?_
    refine V_istore_n [(3, Value.int 0), (2, Value.int s0), (0, Value.ref 47), (1, Value.ref (1000 + w))] Z (by decide) rfl rfl (show decode cX6_isWord 31 = .ok (.istore_n 3, 1) by decide +kernel) ?_
    refine V_sub [2, 3, 1, 0] rfl ?_
    refine zIter_loop' (K := some) (fun s : Int32 × Int32 => VV E 4 32 [(0, Value.ref 47), (1, Value.ref (1000 + w)), (2, Value.int s.1), (3, Value.int s.2)] [] M) (fun K1 s c1_i c1_r h => ?_) _ _ h
    obtain ⟨y2, y3⟩ := s
    change VV E 4 32 [(0, Value.ref 47), (1, Value.ref (1000 + w)), (2, Value.int y2), (3, Value.int y3)] [] M
    refine V_iload_n 3 Z rfl rfl (show decode cX6_isWord 32 = .ok (.iload_n 3, 1) by decide +kernel) ?_
    refine V_aload_n 1 Z rfl rfl (show decode cX6_isWord 33 = .ok (.aload_n 1, 1) by decide +kernel) ?_
    refine V_strlen Z hw w1184 (show decode cX6_isWord 34 = .ok (.invokevirtual 255, 3) by decide +kernel) rfl ?_
    refine V_icmp_ge 75 Z (by decide) (show decode cX6_isWord 37 = .ok (.if_icmp .ge 38, 3) by decide +kernel) (fun c1 => ?_) (fun c1 => ?_)
    · have h := zB_pos c1 h
      refine V_iload_n 2 Z rfl rfl (show decode cX6_isWord 75 = .ok (.iload_n 2, 1) by decide +kernel) ?_
      obtain ⟨b2, e3, h⟩ := zB_bind h
      refine V_nm (zbo_v e3).1 ?_
      have h := c1_r _ h
      exact V_zretP Z hE h (zbo_v e3).2 (show decode cX6_isWord 76 = .ok (.ireturn, 1) by decide +kernel)
    · have h := zB_neg c1 h
      refine V_iload_n 2 Z rfl rfl (show decode cX6_isWord 40 = .ok (.iload_n 2, 1) by decide +kernel) ?_
      refine V_if_eq 75 Z (by decide) (show decode cX6_isWord 41 = .ok (.ifCond .eq 34, 3) by decide +kernel) (fun c4 => ?_) (fun c4 => ?_)
      · have h := zB_pos c4 h
        refine V_iload_n 2 Z rfl rfl (show decode cX6_isWord 75 = .ok (.iload_n 2, 1) by decide +kernel) ?_
        obtain ⟨b5, e6, h⟩ := zB_bind h
        refine V_nm (zbo_v e6).1 ?_
        have h := c1_r _ h
        exact V_zretP Z hE h (zbo_v e6).2 (show decode cX6_isWord 76 = .ok (.ireturn, 1) by decide +kernel)
      · have h := zB_neg c4 h
        refine V_aload_n 0 Z rfl rfl (show decode cX6_isWord 44 = .ok (.aload_n 0, 1) by decide +kernel) ?_
        refine V_getR 7 54 Z zc5 (by decide) rfl (by decide) rfl (by decide) ⟨rfl, rfl, rfl⟩ w773 (show decode cX6_isWord 45 = .ok (.getfield 28, 3) by decide +kernel) ?_
        refine V_aload_n 0 Z rfl rfl (show decode cX6_isWord 48 = .ok (.aload_n 0, 1) by decide +kernel) ?_
        refine V_getI 9 Z zc5 (by decide) rfl (by decide) rfl ⟨rfl, rfl, rfl⟩ w775 (show decode cX6_isWord 49 = .ok (.getfield 243, 3) by decide +kernel) ?_
        refine V_iload_n 3 Z rfl rfl (show decode cX6_isWord 52 = .ok (.iload_n 3, 1) by decide +kernel) ?_
        refine V_iadd Z (show decode cX6_isWord 53 = .ok (.iadd, 1) by decide +kernel) ?_
        obtain ⟨v7, e8, h⟩ := zB_bind h
        refine V_iald Z e8 (show decode cX6_isWord 54 = .ok (.iaload, 1) by decide +kernel) ?_
        refine V_aload_n 1 Z rfl rfl (show decode cX6_isWord 55 = .ok (.aload_n 1, 1) by decide +kernel) ?_
        refine V_iload_n 3 Z rfl rfl (show decode cX6_isWord 56 = .ok (.iload_n 3, 1) by decide +kernel) ?_
        obtain ⟨v9, e10, h⟩ := zB_bind h
        refine V_strchar Z hw e10 w1185 (show decode cX6_isWord 57 = .ok (.invokevirtual 258, 3) by decide +kernel) rfl ?_
        refine V_icmp_ne 67 Z (by decide) (show decode cX6_isWord 60 = .ok (.if_icmp .ne 7, 3) by decide +kernel) (fun c11 => ?_) (fun c11 => ?_)
        · have h := zB_neg c11 h
          refine V_iconst 0 (by decide) Z (show decode cX6_isWord 67 = .ok (.iconst 0, 1) by decide +kernel) ?_
          refine V_istore_n [(2, Value.int 0), (0, Value.ref 47), (1, Value.ref (1000 + w)), (3, Value.int y3)] Z (by decide) rfl rfl (show decode cX6_isWord 68 = .ok (.istore_n 2, 1) by decide +kernel) ?_
          obtain ⟨n12, e13, h⟩ := zB_let h
          refine V_iinck 1 1 3 n12 [(3, Value.int n12), (2, Value.int 0), (0, Value.ref 47), (1, Value.ref (1000 + w))] Z (by decide) (by decide) rfl e13 rfl (show decode cX6_isWord 69 = .ok (.iinc 3 1, 3) by decide +kernel) ?_
          refine V_goto 32 Z (by decide) (show decode cX6_isWord 72 = .ok (.goto (-40), 3) by decide +kernel) ?_
          refine V_sub [2, 3, 1, 0] rfl ?_
          exact c1_i _ h
        · have h := zB_pos c11 h
          refine V_iconst 1 (by decide) Z (show decode cX6_isWord 63 = .ok (.iconst 1, 1) by decide +kernel) ?_
          refine V_goto 68 Z (by decide) (show decode cX6_isWord 64 = .ok (.goto 4, 3) by decide +kernel) ?_
          refine V_istore_n [(2, Value.int 1), (0, Value.ref 47), (1, Value.ref (1000 + w)), (3, Value.int y3)] Z (by decide) rfl rfl (show decode cX6_isWord 68 = .ok (.istore_n 2, 1) by decide +kernel) ?_
          obtain ⟨n14, e15, h⟩ := zB_let h
          refine V_iinck 1 1 3 n14 [(3, Value.int n14), (2, Value.int 1), (0, Value.ref 47), (1, Value.ref (1000 + w))] Z (by decide) (by decide) rfl e15 rfl (show decode cX6_isWord 69 = .ok (.iinc 3 1, 3) by decide +kernel) ?_
          refine V_goto 32 Z (by decide) (show decode cX6_isWord 72 = .ok (.goto (-40), 3) by decide +kernel) ?_
          refine V_sub [2, 3, 1, 0] rfl ?_
          exact c1_i _ h
  have J28 : (f_X6_isWord_j28 w M).bind some = some y → VV E 4 28 [(0, Value.ref 47), (1, Value.ref (1000 + w))] [] M := by
    intro  h
    refine V_iconst 0 (by decide) Z (show decode cX6_isWord 28 = .ok (.iconst 0, 1) by decide +kernel) ?_
    exact J29 _ h
  refine V_aload_n 0 Z rfl rfl (show decode cX6_isWord 0 = .ok (.aload_n 0, 1) by decide +kernel) ?_
  refine V_getI 11 Z zc5 (by decide) rfl (by decide) rfl ⟨rfl, rfl, rfl⟩ w777 (show decode cX6_isWord 1 = .ok (.getfield 252, 3) by decide +kernel) ?_
  refine V_iconst 1 (by decide) Z (show decode cX6_isWord 4 = .ok (.iconst 1, 1) by decide +kernel) ?_
  refine V_icmp_ne 28 Z (by decide) (show decode cX6_isWord 5 = .ok (.if_icmp .ne 23, 3) by decide +kernel) (fun c16 => ?_) (fun c16 => ?_)
  · have h := zB_neg c16 h
    exact J28 h
  · have h := zB_pos c16 h
    refine V_aload_n 0 Z rfl rfl (show decode cX6_isWord 8 = .ok (.aload_n 0, 1) by decide +kernel) ?_
    refine V_getI 10 Z zc5 (by decide) rfl (by decide) rfl ⟨rfl, rfl, rfl⟩ w776 (show decode cX6_isWord 9 = .ok (.getfield 240, 3) by decide +kernel) ?_
    refine V_aload_n 0 Z rfl rfl (show decode cX6_isWord 12 = .ok (.aload_n 0, 1) by decide +kernel) ?_
    refine V_getI 9 Z zc5 (by decide) rfl (by decide) rfl ⟨rfl, rfl, rfl⟩ w775 (show decode cX6_isWord 13 = .ok (.getfield 243, 3) by decide +kernel) ?_
    refine V_isub Z (show decode cX6_isWord 16 = .ok (.isub, 1) by decide +kernel) ?_
    refine V_aload_n 1 Z rfl rfl (show decode cX6_isWord 17 = .ok (.aload_n 1, 1) by decide +kernel) ?_
    refine V_strlen Z hw w1184 (show decode cX6_isWord 18 = .ok (.invokevirtual 255, 3) by decide +kernel) rfl ?_
    refine V_icmp_ne 28 Z (by decide) (show decode cX6_isWord 21 = .ok (.if_icmp .ne 7, 3) by decide +kernel) (fun c17 => ?_) (fun c17 => ?_)
    · have h := zB_neg c17 h
      exact J28 h
    · have h := zB_pos c17 h
      refine V_iconst 1 (by decide) Z (show decode cX6_isWord 24 = .ok (.iconst 1, 1) by decide +kernel) ?_
      refine V_goto 29 Z (by decide) (show decode cX6_isWord 25 = .ok (.goto 4, 3) by decide +kernel) ?_
      exact J29 _ h
def f_X6_must_j17 (s0 : Int32) (M : zM) : Option (zM) :=
  (zbo s0).bind fun (b3 : Int32) =>
  (some (zU M 47 13 b3)).bind fun (M1 : zM) =>
  if (M1 47 13) = 0 then
    (f_X6_next  M1).bind fun (M7 : zM) =>
    some (M7)
  else
    some (M1)
def f_X6_must_j12 (M : zM) : Option (zM) :=
  f_X6_must_j17 1 M
def f_X6_must (x1 : Int32) (M : zM) : Option (zM) :=
  if (M 47 13) = 0 then
    if x1 = 0 then
      f_X6_must_j12  M
    else
      f_X6_must_j17 0 M
  else
    f_X6_must_j12  M
theorem cd_X6_must : zCd yX6_must cX6_must 2 none 1 := ⟨w1189, w69, ⟨by decide, by decide⟩, by decide +kernel⟩
set_option maxHeartbeats 4000000 in
set_option maxRecDepth 20000 in
theorem ok_X6_must {x1 : Int32} {M : zM} {y : zM}  (h : f_X6_must x1 M = some y) : zRuns yX6_must cX6_must 2 none 2 43 [.ref 47, .int x1] M none y := by
  refine zRuns_of (by decide +kernel) (Nat.le_of_ble_eq_true rfl) (fun E Z hE => ?_)
  have h := zB_top h
  change VV E 2 0 [(0, Value.ref 47), (1, Value.int x1)] [] M
  have J17 : ∀ (s0 : Int32) (M : zM), (f_X6_must_j17 s0 M).bind some = some y → VV E 2 17 [(0, Value.ref 47)] [Value.int s0, Value.ref 47] M := by
    intro s0 M h
    obtain ⟨b3, e4, h⟩ := zB_bind h
    refine V_nm (zbo_v e4).1 ?_
    obtain ⟨M1, e2, h⟩ := zB_let h
    refine V_putZ 13 Z zc5 (by decide) rfl (by decide) rfl ⟨rfl, rfl, rfl⟩ rfl rfl (zbo_v e4).2 w779 (show decode cX6_must 17 = .ok (.putfield 262, 3) by decide +kernel) ?_
    refine V_nmM e2 ?_
    refine V_aload_n 0 Z rfl rfl (show decode cX6_must 20 = .ok (.aload_n 0, 1) by decide +kernel) ?_
    refine V_getI 13 Z zc5 (by decide) rfl (by decide) rfl ⟨rfl, rfl, rfl⟩ w779 (show decode cX6_must 21 = .ok (.getfield 262, 3) by decide +kernel) ?_
    refine V_if_ne 31 Z (by decide) (show decode cX6_must 24 = .ok (.ifCond .ne 7, 3) by decide +kernel) (fun c5 => ?_) (fun c5 => ?_)
    · have h := zB_neg c5 h
      exact V_vretM Z hE h (show decode cX6_must 31 = .ok (.return_, 1) by decide +kernel)
    · have h := zB_pos c5 h
      refine V_aload_n 0 Z rfl rfl (show decode cX6_must 27 = .ok (.aload_n 0, 1) by decide +kernel) ?_
      obtain ⟨M7, e6, h⟩ := zB_bind h
      refine V_callV (rest := []) 0 Z (ok_X6_next  e6) cd_X6_next zc5 (by decide) rfl w1164 w1166 w53 rfl (show decode cX6_must 28 = .ok (.invokevirtual 266, 3) by decide +kernel) rfl ?_
      exact V_vretM Z hE h (show decode cX6_must 31 = .ok (.return_, 1) by decide +kernel)
  have J12 : ∀ (M : zM), (f_X6_must_j12  M).bind some = some y → VV E 2 12 [(0, Value.ref 47)] [Value.ref 47] M := by
    intro  M h
    refine V_iconst 1 (by decide) Z (show decode cX6_must 12 = .ok (.iconst 1, 1) by decide +kernel) ?_
    refine V_goto 17 Z (by decide) (show decode cX6_must 13 = .ok (.goto 4, 3) by decide +kernel) ?_
    exact J17 _ _ h
  refine V_aload_n 0 Z rfl rfl (show decode cX6_must 0 = .ok (.aload_n 0, 1) by decide +kernel) ?_
  refine V_aload_n 0 Z rfl rfl (show decode cX6_must 1 = .ok (.aload_n 0, 1) by decide +kernel) ?_
  refine V_getI 13 Z zc5 (by decide) rfl (by decide) rfl ⟨rfl, rfl, rfl⟩ w779 (show decode cX6_must 2 = .ok (.getfield 262, 3) by decide +kernel) ?_
  refine V_if_ne 12 Z (by decide) (show decode cX6_must 5 = .ok (.ifCond .ne 7, 3) by decide +kernel) (fun c8 => ?_) (fun c8 => ?_)
  · have h := zB_neg c8 h
    refine V_sub [0] rfl ?_
    exact J12 _ h
  · have h := zB_pos c8 h
    refine V_iload_n 1 Z rfl rfl (show decode cX6_must 8 = .ok (.iload_n 1, 1) by decide +kernel) ?_
    refine V_if_ne 16 Z (by decide) (show decode cX6_must 9 = .ok (.ifCond .ne 7, 3) by decide +kernel) (fun c9 => ?_) (fun c9 => ?_)
    · have h := zB_neg c9 h
      refine V_iconst 0 (by decide) Z (show decode cX6_must 16 = .ok (.iconst 0, 1) by decide +kernel) ?_
      refine V_sub [0] rfl ?_
      exact J17 _ _ h
    · have h := zB_pos c9 h
      refine V_sub [0] rfl ?_
      exact J12 _ h
def f_X6_number_j28 (y3 : Int32) (s0 : Int32) (M : zM) : Option (Int32 × zM) :=
  (f_X6_must s0 M).bind fun (M2 : zM) =>
  some ((y3, M2))
def f_X6_number_j27 (y3 : Int32) (M : zM) : Option (Int32 × zM) :=
  f_X6_number_j28 y3 0 M
def f_X6_number (x1 : Int32) (x2 : Int32) (M : zM) : Option (Int32 × zM) :=
  (some ((M 47 12))).bind fun (n3 : Int32) =>
  if (M 47 11) = 2 then
    (f_X6_within n3 x1 x2 M).bind fun (v7 : Int32) =>
    if v7 = 0 then
      f_X6_number_j27 n3 M
    else
      f_X6_number_j28 n3 1 M
  else
    f_X6_number_j27 n3 M
theorem cd_X6_number : zCd yX6_number cX6_number 4 (some .int) 2 := ⟨w1193, w69, ⟨by decide, by decide⟩, by decide +kernel⟩
set_option maxHeartbeats 4000000 in
set_option maxRecDepth 20000 in
theorem ok_X6_number {x1 : Int32} {x2 : Int32} {M : zM} {y : Int32 × zM}  (h : f_X6_number x1 x2 M = some y) : zRuns yX6_number cX6_number 4 (some .int) 3 64 [.ref 47, .int x1, .int x2] M (some (.int y.1)) y.2 := by
  refine zRuns_of (by decide +kernel) (Nat.le_of_ble_eq_true rfl) (fun E Z hE => ?_)
  have h := zB_top h
  change VV E 4 0 [(0, Value.ref 47), (1, Value.int x1), (2, Value.int x2)] [] M
  have J28 : ∀ (y3 : Int32) (s0 : Int32) (M : zM), (f_X6_number_j28 y3 s0 M).bind some = some y → VV E 4 28 [(3, Value.int y3)] [Value.int s0, Value.ref 47] M := by
    intro y3 s0 M h
    obtain ⟨M2, e1, h⟩ := zB_bind h
    refine V_callV (rest := []) 1 Z (ok_X6_must  e1) cd_X6_must zc5 (by decide) rfl w1186 w1188 w58 rfl (show decode cX6_number 28 = .ok (.invokevirtual 269, 3) by decide +kernel) rfl ?_
    refine V_iload_n 0 Z rfl rfl (show decode cX6_number 31 = .ok (.iload_n 3, 1) by decide +kernel) ?_
    exact V_iretM Z hE h (show decode cX6_number 32 = .ok (.ireturn, 1) by decide +kernel)
  have J27 : ∀ (y3 : Int32) (M : zM), (f_X6_number_j27 y3 M).bind some = some y → VV E 4 27 [(3, Value.int y3)] [Value.ref 47] M := by
    intro y3 M h
    refine V_iconst 0 (by decide) Z (show decode cX6_number 27 = .ok (.iconst 0, 1) by decide +kernel) ?_
    exact J28 _ _ _ h
  refine V_aload_n 0 Z rfl rfl (show decode cX6_number 0 = .ok (.aload_n 0, 1) by decide +kernel) ?_
  refine V_getI 12 Z zc5 (by decide) rfl (by decide) rfl ⟨rfl, rfl, rfl⟩ w778 (show decode cX6_number 1 = .ok (.getfield 249, 3) by decide +kernel) ?_
  obtain ⟨n3, e4, h⟩ := zB_let h
  refine V_nm e4 ?_
  refine V_istore_n [(3, Value.int n3), (0, Value.ref 47), (1, Value.int x1), (2, Value.int x2)] Z (by decide) rfl rfl (show decode cX6_number 4 = .ok (.istore_n 3, 1) by decide +kernel) ?_
  refine V_aload_n 1 Z rfl rfl (show decode cX6_number 5 = .ok (.aload_n 0, 1) by decide +kernel) ?_
  refine V_aload_n 1 Z rfl rfl (show decode cX6_number 6 = .ok (.aload_n 0, 1) by decide +kernel) ?_
  refine V_getI 11 Z zc5 (by decide) rfl (by decide) rfl ⟨rfl, rfl, rfl⟩ w777 (show decode cX6_number 7 = .ok (.getfield 252, 3) by decide +kernel) ?_
  refine V_iconst 2 (by decide) Z (show decode cX6_number 10 = .ok (.iconst 2, 1) by decide +kernel) ?_
  refine V_icmp_ne 27 Z (by decide) (show decode cX6_number 11 = .ok (.if_icmp .ne 16, 3) by decide +kernel) (fun c5 => ?_) (fun c5 => ?_)
  · have h := zB_neg c5 h
    refine V_sub [0] rfl ?_
    exact J27 _ _ h
  · have h := zB_pos c5 h
    refine V_iload_n 0 Z rfl rfl (show decode cX6_number 14 = .ok (.iload_n 3, 1) by decide +kernel) ?_
    refine V_iload_n 2 Z rfl rfl (show decode cX6_number 15 = .ok (.iload_n 1, 1) by decide +kernel) ?_
    refine V_iload_n 3 Z rfl rfl (show decode cX6_number 16 = .ok (.iload_n 2, 1) by decide +kernel) ?_
    obtain ⟨v7, e6, h⟩ := zB_bind h
    refine V_callS (rest := [_]) 3 Z (ok_X6_within  e6) cd_X6_within w840 w841 rfl (show decode cX6_number 17 = .ok (.invokestatic 76, 3) by decide +kernel) rfl ?_
    refine V_if_eq 27 Z (by decide) (show decode cX6_number 20 = .ok (.ifCond .eq 7, 3) by decide +kernel) (fun c8 => ?_) (fun c8 => ?_)
    · have h := zB_pos c8 h
      refine V_sub [0] rfl ?_
      exact J27 _ _ h
    · have h := zB_neg c8 h
      refine V_iconst 1 (by decide) Z (show decode cX6_number 23 = .ok (.iconst 1, 1) by decide +kernel) ?_
      refine V_goto 28 Z (by decide) (show decode cX6_number 24 = .ok (.goto 4, 3) by decide +kernel) ?_
      refine V_sub [0] rfl ?_
      exact J28 _ _ _ h
def f_X6_item (x1 : Int32) (x2 : Int32) (x3 : Int32) (x4 : Int32) (M : zM) : Option (zM) :=
  (some ((4 * (M 47 16)))).bind fun (n1 : Int32) =>
  (zwr M 56 n1 x1).bind fun (M3 : zM) =>
  (zwr M3 56 (n1 + 1) x2).bind fun (M5 : zM) =>
  (zwr M5 56 (n1 + 2) x3).bind fun (M7 : zM) =>
  (zwr M7 56 (n1 + 3) x4).bind fun (M9 : zM) =>
  (some (zU M9 47 16 (((M9 47 16) + 1)))).bind fun (M11 : zM) =>
  some (M11)
theorem cd_X6_item : zCd yX6_item cX6_item 6 none 4 := ⟨w1203, w69, ⟨by decide, by decide⟩, by decide +kernel⟩
set_option maxHeartbeats 4000000 in
set_option maxRecDepth 20000 in
theorem ok_X6_item {x1 : Int32} {x2 : Int32} {x3 : Int32} {x4 : Int32} {M : zM} {y : zM}  (h : f_X6_item x1 x2 x3 x4 M = some y) : zRuns yX6_item cX6_item 6 none 0 0 [.ref 47, .int x1, .int x2, .int x3, .int x4] M none y := by
  refine zRuns_of (by decide +kernel) (Nat.le_of_ble_eq_true rfl) (fun E Z hE => ?_)
  have h := zB_top h
  change VV E 6 0 [(0, Value.ref 47), (1, Value.int x1), (2, Value.int x2), (3, Value.int x3), (4, Value.int x4)] [] M
  refine V_iconst 4 (by decide) Z (show decode cX6_item 0 = .ok (.iconst 4, 1) by decide +kernel) ?_
  refine V_aload_n 0 Z rfl rfl (show decode cX6_item 1 = .ok (.aload_n 0, 1) by decide +kernel) ?_
  refine V_getI 16 Z zc5 (by decide) rfl (by decide) rfl ⟨rfl, rfl, rfl⟩ w782 (show decode cX6_item 2 = .ok (.getfield 273, 3) by decide +kernel) ?_
  refine V_imul Z (show decode cX6_item 5 = .ok (.imul, 1) by decide +kernel) ?_
  obtain ⟨n1, e2, h⟩ := zB_let h
  refine V_nm e2 ?_
  refine V_istore [(5, Value.int n1), (0, Value.ref 47), (1, Value.int x1), (2, Value.int x2), (3, Value.int x3), (4, Value.int x4)] Z (by decide) rfl (show decode cX6_item 6 = .ok (.istore 5, 2) by decide +kernel) ?_
  refine V_aload_n 1 Z rfl rfl (show decode cX6_item 8 = .ok (.aload_n 0, 1) by decide +kernel) ?_
  refine V_getR 15 56 Z zc5 (by decide) rfl (by decide) rfl (by decide) ⟨rfl, rfl, rfl⟩ w781 (show decode cX6_item 9 = .ok (.getfield 51, 3) by decide +kernel) ?_
  refine V_iload 0 Z rfl (show decode cX6_item 12 = .ok (.iload 5, 2) by decide +kernel) ?_
  refine V_iload_n 2 Z rfl rfl (show decode cX6_item 14 = .ok (.iload_n 1, 1) by decide +kernel) ?_
  obtain ⟨M3, e4, h⟩ := zB_bind h
  refine V_iast Z e4 (show decode cX6_item 15 = .ok (.iastore, 1) by decide +kernel) ?_
  refine V_aload_n 1 Z rfl rfl (show decode cX6_item 16 = .ok (.aload_n 0, 1) by decide +kernel) ?_
  refine V_getR 15 56 Z zc5 (by decide) rfl (by decide) rfl (by decide) ⟨rfl, rfl, rfl⟩ w781 (show decode cX6_item 17 = .ok (.getfield 51, 3) by decide +kernel) ?_
  refine V_iload 0 Z rfl (show decode cX6_item 20 = .ok (.iload 5, 2) by decide +kernel) ?_
  refine V_iconst 1 (by decide) Z (show decode cX6_item 22 = .ok (.iconst 1, 1) by decide +kernel) ?_
  refine V_iadd Z (show decode cX6_item 23 = .ok (.iadd, 1) by decide +kernel) ?_
  refine V_iload_n 3 Z rfl rfl (show decode cX6_item 24 = .ok (.iload_n 2, 1) by decide +kernel) ?_
  obtain ⟨M5, e6, h⟩ := zB_bind h
  refine V_iast Z e6 (show decode cX6_item 25 = .ok (.iastore, 1) by decide +kernel) ?_
  refine V_aload_n 1 Z rfl rfl (show decode cX6_item 26 = .ok (.aload_n 0, 1) by decide +kernel) ?_
  refine V_getR 15 56 Z zc5 (by decide) rfl (by decide) rfl (by decide) ⟨rfl, rfl, rfl⟩ w781 (show decode cX6_item 27 = .ok (.getfield 51, 3) by decide +kernel) ?_
  refine V_iload 0 Z rfl (show decode cX6_item 30 = .ok (.iload 5, 2) by decide +kernel) ?_
  refine V_iconst 2 (by decide) Z (show decode cX6_item 32 = .ok (.iconst 2, 1) by decide +kernel) ?_
  refine V_iadd Z (show decode cX6_item 33 = .ok (.iadd, 1) by decide +kernel) ?_
  refine V_iload_n 4 Z rfl rfl (show decode cX6_item 34 = .ok (.iload_n 3, 1) by decide +kernel) ?_
  obtain ⟨M7, e8, h⟩ := zB_bind h
  refine V_iast Z e8 (show decode cX6_item 35 = .ok (.iastore, 1) by decide +kernel) ?_
  refine V_aload_n 1 Z rfl rfl (show decode cX6_item 36 = .ok (.aload_n 0, 1) by decide +kernel) ?_
  refine V_getR 15 56 Z zc5 (by decide) rfl (by decide) rfl (by decide) ⟨rfl, rfl, rfl⟩ w781 (show decode cX6_item 37 = .ok (.getfield 51, 3) by decide +kernel) ?_
  refine V_iload 0 Z rfl (show decode cX6_item 40 = .ok (.iload 5, 2) by decide +kernel) ?_
  refine V_iconst 3 (by decide) Z (show decode cX6_item 42 = .ok (.iconst 3, 1) by decide +kernel) ?_
  refine V_iadd Z (show decode cX6_item 43 = .ok (.iadd, 1) by decide +kernel) ?_
  refine V_iload 5 Z rfl (show decode cX6_item 44 = .ok (.iload 4, 2) by decide +kernel) ?_
  obtain ⟨M9, e10, h⟩ := zB_bind h
  refine V_iast Z e10 (show decode cX6_item 46 = .ok (.iastore, 1) by decide +kernel) ?_
  refine V_aload_n 1 Z rfl rfl (show decode cX6_item 47 = .ok (.aload_n 0, 1) by decide +kernel) ?_
  refine V_dup rfl Z (show decode cX6_item 48 = .ok (.dup, 1) by decide +kernel) ?_
  refine V_getI 16 Z zc5 (by decide) rfl (by decide) rfl ⟨rfl, rfl, rfl⟩ w782 (show decode cX6_item 49 = .ok (.getfield 273, 3) by decide +kernel) ?_
  refine V_iconst 1 (by decide) Z (show decode cX6_item 52 = .ok (.iconst 1, 1) by decide +kernel) ?_
  refine V_iadd Z (show decode cX6_item 53 = .ok (.iadd, 1) by decide +kernel) ?_
  obtain ⟨M11, e12, h⟩ := zB_let h
  refine V_putI 16 Z zc5 (by decide) rfl (by decide) rfl ⟨rfl, rfl, rfl⟩ rfl rfl w782 (show decode cX6_item 54 = .ok (.putfield 273, 3) by decide +kernel) ?_
  refine V_nmM e12 ?_
  exact V_vretM Z hE h (show decode cX6_item 57 = .ok (.return_, 1) by decide +kernel)
def f_X6_kindTold_l4 (M : zM) : Int32 × Int32 → Option ((Int32 × Int32) ⊕ (Int32))
  | (y1, y2) =>
    if 7 ≤ y2 then
      some (.inr (y1))
    else
      (zrr 55 y2).bind fun (q2 : Nat) =>
      (f_X6_isWord (q2 - 1000) M).bind fun (v6 : Int32) =>
      if v6 = 0 then
        (some (y2 + 1)).bind fun (n8 : Int32) =>
        some (.inl ((y1, n8)))
      else
        (some (y2 + 1)).bind fun (n10 : Int32) =>
        some (.inl ((y2, n10)))
def f_X6_kindTold (M : zM) : Option (Int32) :=
  zIter (f_X6_kindTold_l4 M) 1000 ((-1), 0)
theorem cd_X6_kindTold : zCd yX6_kindTold cX6_kindTold 3 (some .int) 0 := ⟨w1179, w69, ⟨by decide, by decide⟩, by decide +kernel⟩
set_option maxHeartbeats 4000000 in
set_option maxRecDepth 20000 in
theorem ok_X6_kindTold {M : zM} {y : Int32}  (h : f_X6_kindTold  M = some y) : zRuns yX6_kindTold cX6_kindTold 3 (some .int) 7 184 [.ref 47] M (some (.int y)) M := by
  refine zRuns_of (by decide +kernel) (Nat.le_of_ble_eq_true rfl) (fun E Z hE => ?_)
  have h := zB_top h
  change VV E 3 0 [(0, Value.ref 47)] [] M
  refine V_iconst (-1) (by decide) Z (show decode cX6_kindTold 0 = .ok (.iconst (-1), 1) by decide +kernel) ?_
  refine V_istore_n [(1, Value.int (-1)), (0, Value.ref 47)] Z (by decide) rfl rfl (show decode cX6_kindTold 1 = .ok (.istore_n 1, 1) by decide +kernel) ?_
  refine V_iconst 0 (by decide) Z (show decode cX6_kindTold 2 = .ok (.iconst 0, 1) by decide +kernel) ?_
  refine V_istore_n [(2, Value.int 0), (1, Value.int (-1)), (0, Value.ref 47)] Z (by decide) rfl rfl (show decode cX6_kindTold 3 = .ok (.istore_n 2, 1) by decide +kernel) ?_
  refine V_sub [2, 1, 0] rfl ?_
  refine zIter_loop' (K := some) (fun s : Int32 × Int32 => VV E 3 4 [(0, Value.ref 47), (1, Value.int s.1), (2, Value.int s.2)] [] M) (fun K1 s c1_i c1_r h => ?_) _ _ h
  obtain ⟨y1, y2⟩ := s
  change VV E 3 4 [(0, Value.ref 47), (1, Value.int y1), (2, Value.int y2)] [] M
  refine V_iload_n 2 Z rfl rfl (show decode cX6_kindTold 4 = .ok (.iload_n 2, 1) by decide +kernel) ?_
  refine V_aload_n 0 Z rfl rfl (show decode cX6_kindTold 5 = .ok (.aload_n 0, 1) by decide +kernel) ?_
  refine V_getR 14 55 Z zc5 (by decide) rfl (by decide) rfl (by decide) ⟨rfl, rfl, rfl⟩ w780 (show decode cX6_kindTold 6 = .ok (.getfield 47, 3) by decide +kernel) ?_
  refine V_alenR 2 7 Z (by decide) rfl (fun _ => rfl) rfl (by decide) (show decode cX6_kindTold 9 = .ok (.arraylength, 1) by decide +kernel) ?_
  refine V_icmp_ge 38 Z (by decide) (show decode cX6_kindTold 10 = .ok (.if_icmp .ge 28, 3) by decide +kernel) (fun c1 => ?_) (fun c1 => ?_)
  · have h := zB_pos c1 h
    refine V_iload_n 1 Z rfl rfl (show decode cX6_kindTold 38 = .ok (.iload_n 1, 1) by decide +kernel) ?_
    have h := c1_r _ h
    exact V_iretP Z hE h (show decode cX6_kindTold 39 = .ok (.ireturn, 1) by decide +kernel)
  · have h := zB_neg c1 h
    refine V_aload_n 0 Z rfl rfl (show decode cX6_kindTold 13 = .ok (.aload_n 0, 1) by decide +kernel) ?_
    refine V_aload_n 0 Z rfl rfl (show decode cX6_kindTold 14 = .ok (.aload_n 0, 1) by decide +kernel) ?_
    refine V_getR 14 55 Z zc5 (by decide) rfl (by decide) rfl (by decide) ⟨rfl, rfl, rfl⟩ w780 (show decode cX6_kindTold 15 = .ok (.getfield 47, 3) by decide +kernel) ?_
    refine V_iload_n 2 Z rfl rfl (show decode cX6_kindTold 18 = .ok (.iload_n 2, 1) by decide +kernel) ?_
    obtain ⟨q2, e3, h⟩ := zB_bind h
    refine V_aald 2 Z e3 (by decide) (fun _ => rfl) (by intro rs h; cases h; rfl) (show decode cX6_kindTold 19 = .ok (.aaload, 1) by decide +kernel) ?_
    obtain ⟨w4, hw4, rfl⟩ := zrr_W e3
    rw [Nat.add_sub_cancel_left] at h
    obtain ⟨v6, e5, h⟩ := zB_bind h
    refine V_callV (rest := []) 1 Z (ok_X6_isWord hw4 e5) cd_X6_isWord zc5 (by decide) rfl w1180 w1182 w57 rfl (show decode cX6_kindTold 20 = .ok (.invokevirtual 276, 3) by decide +kernel) rfl ?_
    refine V_if_eq 30 Z (by decide) (show decode cX6_kindTold 23 = .ok (.ifCond .eq 7, 3) by decide +kernel) (fun c7 => ?_) (fun c7 => ?_)
    · have h := zB_pos c7 h
      refine V_iload_n 1 Z rfl rfl (show decode cX6_kindTold 30 = .ok (.iload_n 1, 1) by decide +kernel) ?_
      refine V_istore_n [(1, Value.int y1), (0, Value.ref 47), (2, Value.int y2)] Z (by decide) rfl rfl (show decode cX6_kindTold 31 = .ok (.istore_n 1, 1) by decide +kernel) ?_
      obtain ⟨n8, e9, h⟩ := zB_let h
      refine V_iinck 1 1 2 n8 [(2, Value.int n8), (1, Value.int y1), (0, Value.ref 47)] Z (by decide) (by decide) rfl e9 rfl (show decode cX6_kindTold 32 = .ok (.iinc 2 1, 3) by decide +kernel) ?_
      refine V_goto 4 Z (by decide) (show decode cX6_kindTold 35 = .ok (.goto (-31), 3) by decide +kernel) ?_
      refine V_sub [2, 1, 0] rfl ?_
      exact c1_i _ h
    · have h := zB_neg c7 h
      refine V_iload_n 2 Z rfl rfl (show decode cX6_kindTold 26 = .ok (.iload_n 2, 1) by decide +kernel) ?_
      refine V_goto 31 Z (by decide) (show decode cX6_kindTold 27 = .ok (.goto 4, 3) by decide +kernel) ?_
      refine V_istore_n [(1, Value.int y2), (0, Value.ref 47), (2, Value.int y2)] Z (by decide) rfl rfl (show decode cX6_kindTold 31 = .ok (.istore_n 1, 1) by decide +kernel) ?_
      obtain ⟨n10, e11, h⟩ := zB_let h
      refine V_iinck 1 1 2 n10 [(2, Value.int n10), (1, Value.int y2), (0, Value.ref 47)] Z (by decide) (by decide) rfl e11 rfl (show decode cX6_kindTold 32 = .ok (.iinc 2 1, 3) by decide +kernel) ?_
      refine V_goto 4 Z (by decide) (show decode cX6_kindTold 35 = .ok (.goto (-31), 3) by decide +kernel) ?_
      refine V_sub [2, 1, 0] rfl ?_
      exact c1_i _ h
def f_X6_afterWord (w : Nat) (x2 : Int32) (x3 : Int32) (M : zM) : Option (Int32 × zM) :=
  if (M 47 13) = 0 then
    (f_X6_isWord w M).bind fun (v3 : Int32) =>
    if v3 = 0 then
      some ((x2, M))
    else
      (f_X6_must 1 M).bind fun (M6 : zM) =>
      (f_X6_number 0 x3 M6).bind fun ((v8, M9) : Int32 × zM) =>
      some ((v8, M9))
  else
    some ((x2, M))
theorem cd_X6_afterWord : zCd yX6_afterWord cX6_afterWord 4 (some .int) 3 := ⟨w1198, w69, ⟨by decide, by decide⟩, by decide +kernel⟩
set_option maxHeartbeats 4000000 in
set_option maxRecDepth 20000 in
theorem ok_X6_afterWord {w : Nat} {x2 : Int32} {x3 : Int32} {M : zM} {y : Int32 × zM} (hw : w < 13) (h : f_X6_afterWord w x2 x3 M = some y) : zRuns yX6_afterWord cX6_afterWord 4 (some .int) 7 184 [.ref 47, .ref (1000 + w), .int x2, .int x3] M (some (.int y.1)) y.2 := by
  refine zRuns_of (by decide +kernel) (Nat.le_of_ble_eq_true rfl) (fun E Z hE => ?_)
  have h := zB_top h
  change VV E 4 0 [(0, Value.ref 47), (1, Value.ref (1000 + w)), (2, Value.int x2), (3, Value.int x3)] [] M
  refine V_aload_n 0 Z rfl rfl (show decode cX6_afterWord 0 = .ok (.aload_n 0, 1) by decide +kernel) ?_
  refine V_getI 13 Z zc5 (by decide) rfl (by decide) rfl ⟨rfl, rfl, rfl⟩ w779 (show decode cX6_afterWord 1 = .ok (.getfield 262, 3) by decide +kernel) ?_
  refine V_if_ne 15 Z (by decide) (show decode cX6_afterWord 4 = .ok (.ifCond .ne 11, 3) by decide +kernel) (fun c1 => ?_) (fun c1 => ?_)
  · have h := zB_neg c1 h
    refine V_iload_n 2 Z rfl rfl (show decode cX6_afterWord 15 = .ok (.iload_n 2, 1) by decide +kernel) ?_
    exact V_iretM Z hE h (show decode cX6_afterWord 16 = .ok (.ireturn, 1) by decide +kernel)
  · have h := zB_pos c1 h
    refine V_aload_n 0 Z rfl rfl (show decode cX6_afterWord 7 = .ok (.aload_n 0, 1) by decide +kernel) ?_
    refine V_aload_n 1 Z rfl rfl (show decode cX6_afterWord 8 = .ok (.aload_n 1, 1) by decide +kernel) ?_
    obtain ⟨v3, e2, h⟩ := zB_bind h
    refine V_callV (rest := []) 1 Z (ok_X6_isWord hw e2) cd_X6_isWord zc5 (by decide) rfl w1180 w1182 w57 rfl (show decode cX6_afterWord 9 = .ok (.invokevirtual 276, 3) by decide +kernel) rfl ?_
    refine V_if_ne 17 Z (by decide) (show decode cX6_afterWord 12 = .ok (.ifCond .ne 5, 3) by decide +kernel) (fun c4 => ?_) (fun c4 => ?_)
    · have h := zB_neg c4 h
      refine V_aload_n 0 Z rfl rfl (show decode cX6_afterWord 17 = .ok (.aload_n 0, 1) by decide +kernel) ?_
      refine V_iconst 1 (by decide) Z (show decode cX6_afterWord 18 = .ok (.iconst 1, 1) by decide +kernel) ?_
      obtain ⟨M6, e5, h⟩ := zB_bind h
      refine V_callV (rest := []) 1 Z (ok_X6_must  e5) cd_X6_must zc5 (by decide) rfl w1186 w1188 w58 rfl (show decode cX6_afterWord 19 = .ok (.invokevirtual 269, 3) by decide +kernel) rfl ?_
      refine V_aload_n 0 Z rfl rfl (show decode cX6_afterWord 22 = .ok (.aload_n 0, 1) by decide +kernel) ?_
      refine V_iconst 0 (by decide) Z (show decode cX6_afterWord 23 = .ok (.iconst 0, 1) by decide +kernel) ?_
      refine V_iload_n 3 Z rfl rfl (show decode cX6_afterWord 24 = .ok (.iload_n 3, 1) by decide +kernel) ?_
      obtain ⟨⟨v8, M9⟩, e7, h⟩ := zB_bind h
      refine V_callV (rest := []) 2 Z (ok_X6_number  e7) cd_X6_number zc5 (by decide) rfl w1190 w1192 w59 rfl (show decode cX6_afterWord 25 = .ok (.invokevirtual 280, 3) by decide +kernel) rfl ?_
      exact V_iretM Z hE h (show decode cX6_afterWord 28 = .ok (.ireturn, 1) by decide +kernel)
    · have h := zB_pos c4 h
      refine V_iload_n 2 Z rfl rfl (show decode cX6_afterWord 15 = .ok (.iload_n 2, 1) by decide +kernel) ?_
      exact V_iretM Z hE h (show decode cX6_afterWord 16 = .ok (.ireturn, 1) by decide +kernel)
