/-! Generated walks: X6_readItem X6_isToldSo X6_text X6_isSpot X6_hold X6_above -/
def f_X6_readItem_j24 (y1 : Int32) (s0 : Int32) (M : zM) : Option (zM) :=
  (f_X6_must s0 M).bind fun (M2 : zM) =>
  (f_X6_number 0 99 M2).bind fun ((v4, M5) : Int32 × zM) =>
  (f_X6_afterWord 9 0 99 M5).bind fun ((v7, M8) : Int32 × zM) =>
  (f_X6_afterWord 10 (-1) ((M8 47 17) - 1) M8).bind fun ((v10, M11) : Int32 × zM) =>
  (f_X6_item y1 v4 v7 v10 M11).bind fun (M13 : zM) =>
  (some (zU M13 47 17 (((M13 47 17) + 1)))).bind fun (M14 : zM) =>
  some (M14)
def f_X6_readItem (M : zM) : Option (zM) :=
  (f_X6_kindTold  M).bind fun (v17 : Int32) =>
  if v17 < 0 then
    (f_X6_isWord 8 M).bind fun (v20 : Int32) =>
    if v20 = 0 then
      (f_X6_isWord 7 M).bind fun (v23 : Int32) =>
      (f_X6_must v23 M).bind fun (M25 : zM) =>
      (f_X6_number 0 5 M25).bind fun ((v27, M28) : Int32 × zM) =>
      (f_X6_afterWord 11 (-1) 9999 M28).bind fun ((v30, M31) : Int32 × zM) =>
      (f_X6_afterWord 12 (-1) ((M31 47 17) - 1) M31).bind fun ((v33, M34) : Int32 × zM) =>
      (f_X6_item 10 v27 v30 v33 M34).bind fun (M36 : zM) =>
      some (M36)
    else
      (f_X6_must 1 M).bind fun (M38 : zM) =>
      (f_X6_number 0 719 M38).bind fun ((v40, M41) : Int32 × zM) =>
      (f_X6_item 11 v40 0 0 M41).bind fun (M43 : zM) =>
      some (M43)
  else
    if 8 ≤ (M 47 17) then
      f_X6_readItem_j24 v17 0 M
    else
      f_X6_readItem_j24 v17 1 M
theorem cd_X6_readItem : zCd yX6_readItem cX6_readItem 4 none 0 := ⟨w1175, w69, ⟨by decide, by decide⟩, by decide +kernel⟩
set_option maxHeartbeats 4000000 in
set_option maxRecDepth 20000 in
theorem ok_X6_readItem {M : zM} {y : zM}  (h : f_X6_readItem  M = some y) : zRuns yX6_readItem cX6_readItem 4 none 8 207 [.ref 47] M none y := by
  refine zRuns_of (by decide +kernel) (Nat.le_of_ble_eq_true rfl) (fun E Z hE => ?_)
  have h := zB_top h
  change VV E 4 0 [(0, Value.ref 47)] [] M
  have J24 : ∀ (y1 : Int32) (s0 : Int32) (M : zM), (f_X6_readItem_j24 y1 s0 M).bind some = some y → VV E 4 24 [(0, Value.ref 47), (1, Value.int y1)] [Value.int s0, Value.ref 47] M := by
    intro y1 s0 M h
    obtain ⟨M2, e1, h⟩ := zB_bind h
    refine V_callV (rest := []) 1 Z (ok_X6_must  e1) cd_X6_must zc5 (by decide) rfl w1186 w1188 w58 rfl (show decode cX6_readItem 24 = .ok (.invokevirtual 269, 3) by decide +kernel) rfl ?_
    refine V_aload_n 0 Z rfl rfl (show decode cX6_readItem 27 = .ok (.aload_n 0, 1) by decide +kernel) ?_
    refine V_iconst 0 (by decide) Z (show decode cX6_readItem 28 = .ok (.iconst 0, 1) by decide +kernel) ?_
    refine V_bipush 99 (by decide) Z (show decode cX6_readItem 29 = .ok (.bipush 99, 2) by decide +kernel) ?_
    obtain ⟨⟨v4, M5⟩, e3, h⟩ := zB_bind h
    refine V_callV (rest := []) 2 Z (ok_X6_number  e3) cd_X6_number zc5 (by decide) rfl w1190 w1192 w59 rfl (show decode cX6_readItem 31 = .ok (.invokevirtual 280, 3) by decide +kernel) rfl ?_
    refine V_istore_n [(2, Value.int v4), (0, Value.ref 47), (1, Value.int y1)] Z (by decide) rfl rfl (show decode cX6_readItem 34 = .ok (.istore_n 2, 1) by decide +kernel) ?_
    refine V_aload_n 1 Z rfl rfl (show decode cX6_readItem 35 = .ok (.aload_n 0, 1) by decide +kernel) ?_
    refine V_ldcwS "worn" 9 Z (by decide +kernel) (show decode cX6_readItem 36 = .ok (.ldc_w 289, 3) by decide +kernel) ?_
    refine V_iconst 0 (by decide) Z (show decode cX6_readItem 39 = .ok (.iconst 0, 1) by decide +kernel) ?_
    refine V_bipush 99 (by decide) Z (show decode cX6_readItem 40 = .ok (.bipush 99, 2) by decide +kernel) ?_
    obtain ⟨⟨v7, M8⟩, e6, h⟩ := zB_bind h
    refine V_callV (rest := []) 3 Z (ok_X6_afterWord (by decide) e6) cd_X6_afterWord zc5 (by decide) rfl w1195 w1197 w60 rfl (show decode cX6_readItem 42 = .ok (.invokevirtual 291, 3) by decide +kernel) rfl ?_
    refine V_istore_n [(3, Value.int v7), (2, Value.int v4), (0, Value.ref 47), (1, Value.int y1)] Z (by decide) rfl rfl (show decode cX6_readItem 45 = .ok (.istore_n 3, 1) by decide +kernel) ?_
    refine V_aload_n 2 Z rfl rfl (show decode cX6_readItem 46 = .ok (.aload_n 0, 1) by decide +kernel) ?_
    refine V_iload_n 3 Z rfl rfl (show decode cX6_readItem 47 = .ok (.iload_n 1, 1) by decide +kernel) ?_
    refine V_iload_n 1 Z rfl rfl (show decode cX6_readItem 48 = .ok (.iload_n 2, 1) by decide +kernel) ?_
    refine V_iload_n 0 Z rfl rfl (show decode cX6_readItem 49 = .ok (.iload_n 3, 1) by decide +kernel) ?_
    refine V_aload_n 2 Z rfl rfl (show decode cX6_readItem 50 = .ok (.aload_n 0, 1) by decide +kernel) ?_
    refine V_ldcwS "against" 10 Z (by decide +kernel) (show decode cX6_readItem 51 = .ok (.ldc_w 295, 3) by decide +kernel) ?_
    refine V_iconst (-1) (by decide) Z (show decode cX6_readItem 54 = .ok (.iconst (-1), 1) by decide +kernel) ?_
    refine V_aload_n 2 Z rfl rfl (show decode cX6_readItem 55 = .ok (.aload_n 0, 1) by decide +kernel) ?_
    refine V_getI 17 Z zc5 (by decide) rfl (by decide) rfl ⟨rfl, rfl, rfl⟩ w783 (show decode cX6_readItem 56 = .ok (.getfield 286, 3) by decide +kernel) ?_
    refine V_iconst 1 (by decide) Z (show decode cX6_readItem 59 = .ok (.iconst 1, 1) by decide +kernel) ?_
    refine V_isub Z (show decode cX6_readItem 60 = .ok (.isub, 1) by decide +kernel) ?_
    obtain ⟨⟨v10, M11⟩, e9, h⟩ := zB_bind h
    refine V_callV (rest := [_, _, _, _]) 3 Z (ok_X6_afterWord (by decide) e9) cd_X6_afterWord zc5 (by decide) rfl w1195 w1197 w60 rfl (show decode cX6_readItem 61 = .ok (.invokevirtual 291, 3) by decide +kernel) rfl ?_
    obtain ⟨M13, e12, h⟩ := zB_bind h
    refine V_callV (rest := []) 4 Z (ok_X6_item  e12) cd_X6_item zc5 (by decide) rfl w1200 w1202 w61 rfl (show decode cX6_readItem 64 = .ok (.invokevirtual 297, 3) by decide +kernel) rfl ?_
    refine V_aload_n 2 Z rfl rfl (show decode cX6_readItem 67 = .ok (.aload_n 0, 1) by decide +kernel) ?_
    refine V_dup rfl Z (show decode cX6_readItem 68 = .ok (.dup, 1) by decide +kernel) ?_
    refine V_getI 17 Z zc5 (by decide) rfl (by decide) rfl ⟨rfl, rfl, rfl⟩ w783 (show decode cX6_readItem 69 = .ok (.getfield 286, 3) by decide +kernel) ?_
    refine V_iconst 1 (by decide) Z (show decode cX6_readItem 72 = .ok (.iconst 1, 1) by decide +kernel) ?_
    refine V_iadd Z (show decode cX6_readItem 73 = .ok (.iadd, 1) by decide +kernel) ?_
    obtain ⟨M14, e15, h⟩ := zB_let h
    refine V_putI 17 Z zc5 (by decide) rfl (by decide) rfl ⟨rfl, rfl, rfl⟩ rfl rfl w783 (show decode cX6_readItem 74 = .ok (.putfield 286, 3) by decide +kernel) ?_
    refine V_nmM e15 ?_
    refine V_goto 166 Z (by decide) (show decode cX6_readItem 77 = .ok (.goto 89, 3) by decide +kernel) ?_
    exact V_vretM Z hE h (show decode cX6_readItem 166 = .ok (.return_, 1) by decide +kernel)
  refine V_aload_n 0 Z rfl rfl (show decode cX6_readItem 0 = .ok (.aload_n 0, 1) by decide +kernel) ?_
  obtain ⟨v17, e16, h⟩ := zB_bind h
  refine V_callV (rest := []) 0 Z (ok_X6_kindTold  e16) cd_X6_kindTold zc5 (by decide) rfl w1176 w1178 w56 rfl (show decode cX6_readItem 1 = .ok (.invokevirtual 283, 3) by decide +kernel) rfl ?_
  refine V_istore_n [(1, Value.int v17), (0, Value.ref 47)] Z (by decide) rfl rfl (show decode cX6_readItem 4 = .ok (.istore_n 1, 1) by decide +kernel) ?_
  refine V_iload_n 0 Z rfl rfl (show decode cX6_readItem 5 = .ok (.iload_n 1, 1) by decide +kernel) ?_
  refine V_if_lt 80 Z (by decide) (show decode cX6_readItem 6 = .ok (.ifCond .lt 74, 3) by decide +kernel) (fun c18 => ?_) (fun c18 => ?_)
  · have h := zB_pos c18 h
    refine V_aload_n 1 Z rfl rfl (show decode cX6_readItem 80 = .ok (.aload_n 0, 1) by decide +kernel) ?_
    refine V_ldcwS "order" 8 Z (by decide +kernel) (show decode cX6_readItem 81 = .ok (.ldc_w 301, 3) by decide +kernel) ?_
    obtain ⟨v20, e19, h⟩ := zB_bind h
    refine V_callV (rest := []) 1 Z (ok_X6_isWord (by decide) e19) cd_X6_isWord zc5 (by decide) rfl w1180 w1182 w57 rfl (show decode cX6_readItem 84 = .ok (.invokevirtual 276, 3) by decide +kernel) rfl ?_
    refine V_if_eq 114 Z (by decide) (show decode cX6_readItem 87 = .ok (.ifCond .eq 27, 3) by decide +kernel) (fun c21 => ?_) (fun c21 => ?_)
    · have h := zB_pos c21 h
      refine V_aload_n 1 Z rfl rfl (show decode cX6_readItem 114 = .ok (.aload_n 0, 1) by decide +kernel) ?_
      refine V_aload_n 1 Z rfl rfl (show decode cX6_readItem 115 = .ok (.aload_n 0, 1) by decide +kernel) ?_
      refine V_ldcwS "person" 7 Z (by decide +kernel) (show decode cX6_readItem 116 = .ok (.ldc_w 303, 3) by decide +kernel) ?_
      obtain ⟨v23, e22, h⟩ := zB_bind h
      refine V_callV (rest := [_]) 1 Z (ok_X6_isWord (by decide) e22) cd_X6_isWord zc5 (by decide) rfl w1180 w1182 w57 rfl (show decode cX6_readItem 119 = .ok (.invokevirtual 276, 3) by decide +kernel) rfl ?_
      obtain ⟨M25, e24, h⟩ := zB_bind h
      refine V_callV (rest := []) 1 Z (ok_X6_must  e24) cd_X6_must zc5 (by decide) rfl w1186 w1188 w58 rfl (show decode cX6_readItem 122 = .ok (.invokevirtual 269, 3) by decide +kernel) rfl ?_
      refine V_aload_n 1 Z rfl rfl (show decode cX6_readItem 125 = .ok (.aload_n 0, 1) by decide +kernel) ?_
      refine V_iconst 0 (by decide) Z (show decode cX6_readItem 126 = .ok (.iconst 0, 1) by decide +kernel) ?_
      refine V_iconst 5 (by decide) Z (show decode cX6_readItem 127 = .ok (.iconst 5, 1) by decide +kernel) ?_
      obtain ⟨⟨v27, M28⟩, e26, h⟩ := zB_bind h
      refine V_callV (rest := []) 2 Z (ok_X6_number  e26) cd_X6_number zc5 (by decide) rfl w1190 w1192 w59 rfl (show decode cX6_readItem 128 = .ok (.invokevirtual 280, 3) by decide +kernel) rfl ?_
      refine V_istore_n [(2, Value.int v27), (1, Value.int v17), (0, Value.ref 47)] Z (by decide) rfl rfl (show decode cX6_readItem 131 = .ok (.istore_n 2, 1) by decide +kernel) ?_
      refine V_aload_n 2 Z rfl rfl (show decode cX6_readItem 132 = .ok (.aload_n 0, 1) by decide +kernel) ?_
      refine V_ldcwS "purse" 11 Z (by decide +kernel) (show decode cX6_readItem 133 = .ok (.ldc_w 305, 3) by decide +kernel) ?_
      refine V_iconst (-1) (by decide) Z (show decode cX6_readItem 136 = .ok (.iconst (-1), 1) by decide +kernel) ?_
      refine V_sipush 9999 (by decide) Z (show decode cX6_readItem 137 = .ok (.sipush 9999, 3) by decide +kernel) ?_
      obtain ⟨⟨v30, M31⟩, e29, h⟩ := zB_bind h
      refine V_callV (rest := []) 3 Z (ok_X6_afterWord (by decide) e29) cd_X6_afterWord zc5 (by decide) rfl w1195 w1197 w60 rfl (show decode cX6_readItem 140 = .ok (.invokevirtual 291, 3) by decide +kernel) rfl ?_
      refine V_istore_n [(3, Value.int v30), (2, Value.int v27), (1, Value.int v17), (0, Value.ref 47)] Z (by decide) rfl rfl (show decode cX6_readItem 143 = .ok (.istore_n 3, 1) by decide +kernel) ?_
      refine V_aload_n 3 Z rfl rfl (show decode cX6_readItem 144 = .ok (.aload_n 0, 1) by decide +kernel) ?_
      refine V_bipush 10 (by decide) Z (show decode cX6_readItem 145 = .ok (.bipush 10, 2) by decide +kernel) ?_
      refine V_iload_n 1 Z rfl rfl (show decode cX6_readItem 147 = .ok (.iload_n 2, 1) by decide +kernel) ?_
      refine V_iload_n 0 Z rfl rfl (show decode cX6_readItem 148 = .ok (.iload_n 3, 1) by decide +kernel) ?_
      refine V_aload_n 3 Z rfl rfl (show decode cX6_readItem 149 = .ok (.aload_n 0, 1) by decide +kernel) ?_
      refine V_ldcwS "wishes" 12 Z (by decide +kernel) (show decode cX6_readItem 150 = .ok (.ldc_w 307, 3) by decide +kernel) ?_
      refine V_iconst (-1) (by decide) Z (show decode cX6_readItem 153 = .ok (.iconst (-1), 1) by decide +kernel) ?_
      refine V_aload_n 3 Z rfl rfl (show decode cX6_readItem 154 = .ok (.aload_n 0, 1) by decide +kernel) ?_
      refine V_getI 17 Z zc5 (by decide) rfl (by decide) rfl ⟨rfl, rfl, rfl⟩ w783 (show decode cX6_readItem 155 = .ok (.getfield 286, 3) by decide +kernel) ?_
      refine V_iconst 1 (by decide) Z (show decode cX6_readItem 158 = .ok (.iconst 1, 1) by decide +kernel) ?_
      refine V_isub Z (show decode cX6_readItem 159 = .ok (.isub, 1) by decide +kernel) ?_
      obtain ⟨⟨v33, M34⟩, e32, h⟩ := zB_bind h
      refine V_callV (rest := [_, _, _, _]) 3 Z (ok_X6_afterWord (by decide) e32) cd_X6_afterWord zc5 (by decide) rfl w1195 w1197 w60 rfl (show decode cX6_readItem 160 = .ok (.invokevirtual 291, 3) by decide +kernel) rfl ?_
      obtain ⟨M36, e35, h⟩ := zB_bind h
      refine V_callV (rest := []) 4 Z (ok_X6_item  e35) cd_X6_item zc5 (by decide) rfl w1200 w1202 w61 rfl (show decode cX6_readItem 163 = .ok (.invokevirtual 297, 3) by decide +kernel) rfl ?_
      exact V_vretM Z hE h (show decode cX6_readItem 166 = .ok (.return_, 1) by decide +kernel)
    · have h := zB_neg c21 h
      refine V_aload_n 1 Z rfl rfl (show decode cX6_readItem 90 = .ok (.aload_n 0, 1) by decide +kernel) ?_
      refine V_iconst 1 (by decide) Z (show decode cX6_readItem 91 = .ok (.iconst 1, 1) by decide +kernel) ?_
      obtain ⟨M38, e37, h⟩ := zB_bind h
      refine V_callV (rest := []) 1 Z (ok_X6_must  e37) cd_X6_must zc5 (by decide) rfl w1186 w1188 w58 rfl (show decode cX6_readItem 92 = .ok (.invokevirtual 269, 3) by decide +kernel) rfl ?_
      refine V_aload_n 1 Z rfl rfl (show decode cX6_readItem 95 = .ok (.aload_n 0, 1) by decide +kernel) ?_
      refine V_bipush 11 (by decide) Z (show decode cX6_readItem 96 = .ok (.bipush 11, 2) by decide +kernel) ?_
      refine V_aload_n 1 Z rfl rfl (show decode cX6_readItem 98 = .ok (.aload_n 0, 1) by decide +kernel) ?_
      refine V_iconst 0 (by decide) Z (show decode cX6_readItem 99 = .ok (.iconst 0, 1) by decide +kernel) ?_
      refine V_sipush 719 (by decide) Z (show decode cX6_readItem 100 = .ok (.sipush 719, 3) by decide +kernel) ?_
      obtain ⟨⟨v40, M41⟩, e39, h⟩ := zB_bind h
      refine V_callV (rest := [_, _]) 2 Z (ok_X6_number  e39) cd_X6_number zc5 (by decide) rfl w1190 w1192 w59 rfl (show decode cX6_readItem 103 = .ok (.invokevirtual 280, 3) by decide +kernel) rfl ?_
      refine V_iconst 0 (by decide) Z (show decode cX6_readItem 106 = .ok (.iconst 0, 1) by decide +kernel) ?_
      refine V_iconst 0 (by decide) Z (show decode cX6_readItem 107 = .ok (.iconst 0, 1) by decide +kernel) ?_
      obtain ⟨M43, e42, h⟩ := zB_bind h
      refine V_callV (rest := []) 4 Z (ok_X6_item  e42) cd_X6_item zc5 (by decide) rfl w1200 w1202 w61 rfl (show decode cX6_readItem 108 = .ok (.invokevirtual 297, 3) by decide +kernel) rfl ?_
      refine V_goto 166 Z (by decide) (show decode cX6_readItem 111 = .ok (.goto 55, 3) by decide +kernel) ?_
      exact V_vretM Z hE h (show decode cX6_readItem 166 = .ok (.return_, 1) by decide +kernel)
  · have h := zB_neg c18 h
    refine V_aload_n 1 Z rfl rfl (show decode cX6_readItem 9 = .ok (.aload_n 0, 1) by decide +kernel) ?_
    refine V_aload_n 1 Z rfl rfl (show decode cX6_readItem 10 = .ok (.aload_n 0, 1) by decide +kernel) ?_
    refine V_getI 17 Z zc5 (by decide) rfl (by decide) rfl ⟨rfl, rfl, rfl⟩ w783 (show decode cX6_readItem 11 = .ok (.getfield 286, 3) by decide +kernel) ?_
    refine V_bipush 8 (by decide) Z (show decode cX6_readItem 14 = .ok (.bipush 8, 2) by decide +kernel) ?_
    refine V_icmp_ge 23 Z (by decide) (show decode cX6_readItem 16 = .ok (.if_icmp .ge 7, 3) by decide +kernel) (fun c44 => ?_) (fun c44 => ?_)
    · have h := zB_pos c44 h
      refine V_iconst 0 (by decide) Z (show decode cX6_readItem 23 = .ok (.iconst 0, 1) by decide +kernel) ?_
      refine V_sub [1, 0] rfl ?_
      exact J24 _ _ _ h
    · have h := zB_neg c44 h
      refine V_iconst 1 (by decide) Z (show decode cX6_readItem 19 = .ok (.iconst 1, 1) by decide +kernel) ?_
      refine V_goto 24 Z (by decide) (show decode cX6_readItem 20 = .ok (.goto 4, 3) by decide +kernel) ?_
      refine V_sub [1, 0] rfl ?_
      exact J24 _ _ _ h
def f_X6_isToldSo_j110 (y2 : Int32) (s0 : Int32) (s1 : Int32) (M : zM) : Option (Int32 × zM) :=
  (zwr M 48 s1 s0).bind fun (M1 : zM) =>
  some ((y2, M1))
def f_X6_isToldSo_j82 (y2 : Int32) (y4 : Int32) (s0 : Int32) (s1 : Int32) (M : zM) : Option (Int32 × zM) :=
  (zwr M 48 s1 s0).bind fun (M3 : zM) =>
  if 0 ≤ y4 then
    f_X6_isToldSo_j110 y2 y4 (61 + y2) M3
  else
    (zrd M3 48 (61 + y2)).bind fun (v6 : Int32) =>
    f_X6_isToldSo_j110 y2 v6 (61 + y2) M3
def f_X6_isToldSo (x1 : Int32) (M : zM) : Option (Int32 × zM) :=
  (zrd M 56 (x1 + 1)).bind fun (v8 : Int32) =>
  (zrd M 56 (x1 + 2)).bind fun (v10 : Int32) =>
  (zrd M 56 (x1 + 3)).bind fun (v12 : Int32) =>
  (zrd M 56 x1).bind fun (v14 : Int32) =>
  if v14 = 11 then
    (f_X6_become 3 v8 M).bind fun ((v29, M30) : Int32 × zM) =>
    some ((v29, M30))
  else
    (zrd M 56 x1).bind fun (v17 : Int32) =>
    if v17 = 10 then
      if 0 ≤ v10 then
        f_X6_isToldSo_j82 v8 v12 v10 (55 + v8) M
      else
        (zrd M 48 (55 + v8)).bind fun (v26 : Int32) =>
        f_X6_isToldSo_j82 v8 v12 v26 (55 + v8) M
    else
      (zrd M 56 x1).bind fun (v20 : Int32) =>
      (f_X6_comes v20 v8 v10 v12 M).bind fun ((v23, M24) : Int32 × zM) =>
      some ((v23, M24))
theorem cd_X6_isToldSo : zCd yX6_isToldSo cX6_isToldSo 5 (some .int) 1 := ⟨w1211, w69, ⟨by decide, by decide⟩, by decide +kernel⟩
set_option maxHeartbeats 4000000 in
set_option maxRecDepth 20000 in
theorem ok_X6_isToldSo {x1 : Int32} {M : zM} {y : Int32 × zM}  (h : f_X6_isToldSo x1 M = some y) : zRuns yX6_isToldSo cX6_isToldSo 5 (some .int) 2 46 [.ref 47, .int x1] M (some (.int y.1)) y.2 := by
  refine zRuns_of (by decide +kernel) (Nat.le_of_ble_eq_true rfl) (fun E Z hE => ?_)
  have h := zB_top h
  change VV E 5 0 [(0, Value.ref 47), (1, Value.int x1)] [] M
  have J110 : ∀ (y2 : Int32) (s0 : Int32) (s1 : Int32) (M : zM), (f_X6_isToldSo_j110 y2 s0 s1 M).bind some = some y → VV E 5 110 [(2, Value.int y2)] [Value.int s0, Value.int s1, Value.ref 48] M := by
    intro y2 s0 s1 M h
    obtain ⟨M1, e2, h⟩ := zB_bind h
    refine V_iast Z e2 (show decode cX6_isToldSo 110 = .ok (.iastore, 1) by decide +kernel) ?_
    refine V_iload_n 0 Z rfl rfl (show decode cX6_isToldSo 111 = .ok (.iload_n 2, 1) by decide +kernel) ?_
    exact V_iretM Z hE h (show decode cX6_isToldSo 112 = .ok (.ireturn, 1) by decide +kernel)
  have J82 : ∀ (y2 : Int32) (y4 : Int32) (s0 : Int32) (s1 : Int32) (M : zM), (f_X6_isToldSo_j82 y2 y4 s0 s1 M).bind some = some y → VV E 5 82 [(0, Value.ref 47), (2, Value.int y2), (4, Value.int y4)] [Value.int s0, Value.int s1, Value.ref 48] M := by
    intro y2 y4 s0 s1 M h
    obtain ⟨M3, e4, h⟩ := zB_bind h
    refine V_iast Z e4 (show decode cX6_isToldSo 82 = .ok (.iastore, 1) by decide +kernel) ?_
    refine V_aload_n 0 Z rfl rfl (show decode cX6_isToldSo 83 = .ok (.aload_n 0, 1) by decide +kernel) ?_
    refine V_getR 0 48 Z zc5 (by decide) rfl (by decide) rfl (by decide) ⟨rfl, rfl, rfl⟩ w766 (show decode cX6_isToldSo 84 = .ok (.getfield 9, 3) by decide +kernel) ?_
    refine V_bipush 61 (by decide) Z (show decode cX6_isToldSo 87 = .ok (.bipush 61, 2) by decide +kernel) ?_
    refine V_iload_n 1 Z rfl rfl (show decode cX6_isToldSo 89 = .ok (.iload_n 2, 1) by decide +kernel) ?_
    refine V_iadd Z (show decode cX6_isToldSo 90 = .ok (.iadd, 1) by decide +kernel) ?_
    refine V_iload 2 Z rfl (show decode cX6_isToldSo 91 = .ok (.iload 4, 2) by decide +kernel) ?_
    refine V_if_ge 108 Z (by decide) (show decode cX6_isToldSo 93 = .ok (.ifCond .ge 15, 3) by decide +kernel) (fun c5 => ?_) (fun c5 => ?_)
    · have h := zB_pos c5 h
      refine V_iload 2 Z rfl (show decode cX6_isToldSo 108 = .ok (.iload 4, 2) by decide +kernel) ?_
      refine V_sub [1] rfl ?_
      exact J110 _ _ _ _ h
    · have h := zB_neg c5 h
      refine V_aload_n 0 Z rfl rfl (show decode cX6_isToldSo 96 = .ok (.aload_n 0, 1) by decide +kernel) ?_
      refine V_getR 0 48 Z zc5 (by decide) rfl (by decide) rfl (by decide) ⟨rfl, rfl, rfl⟩ w766 (show decode cX6_isToldSo 97 = .ok (.getfield 9, 3) by decide +kernel) ?_
      refine V_bipush 61 (by decide) Z (show decode cX6_isToldSo 100 = .ok (.bipush 61, 2) by decide +kernel) ?_
      refine V_iload_n 1 Z rfl rfl (show decode cX6_isToldSo 102 = .ok (.iload_n 2, 1) by decide +kernel) ?_
      refine V_iadd Z (show decode cX6_isToldSo 103 = .ok (.iadd, 1) by decide +kernel) ?_
      obtain ⟨v6, e7, h⟩ := zB_bind h
      refine V_iald Z e7 (show decode cX6_isToldSo 104 = .ok (.iaload, 1) by decide +kernel) ?_
      refine V_goto 110 Z (by decide) (show decode cX6_isToldSo 105 = .ok (.goto 5, 3) by decide +kernel) ?_
      refine V_sub [1] rfl ?_
      exact J110 _ _ _ _ h
  refine V_aload_n 0 Z rfl rfl (show decode cX6_isToldSo 0 = .ok (.aload_n 0, 1) by decide +kernel) ?_
  refine V_getR 15 56 Z zc5 (by decide) rfl (by decide) rfl (by decide) ⟨rfl, rfl, rfl⟩ w781 (show decode cX6_isToldSo 1 = .ok (.getfield 51, 3) by decide +kernel) ?_
  refine V_iload_n 1 Z rfl rfl (show decode cX6_isToldSo 4 = .ok (.iload_n 1, 1) by decide +kernel) ?_
  refine V_iconst 1 (by decide) Z (show decode cX6_isToldSo 5 = .ok (.iconst 1, 1) by decide +kernel) ?_
  refine V_iadd Z (show decode cX6_isToldSo 6 = .ok (.iadd, 1) by decide +kernel) ?_
  obtain ⟨v8, e9, h⟩ := zB_bind h
  refine V_iald Z e9 (show decode cX6_isToldSo 7 = .ok (.iaload, 1) by decide +kernel) ?_
  refine V_istore_n [(2, Value.int v8), (0, Value.ref 47), (1, Value.int x1)] Z (by decide) rfl rfl (show decode cX6_isToldSo 8 = .ok (.istore_n 2, 1) by decide +kernel) ?_
  refine V_aload_n 1 Z rfl rfl (show decode cX6_isToldSo 9 = .ok (.aload_n 0, 1) by decide +kernel) ?_
  refine V_getR 15 56 Z zc5 (by decide) rfl (by decide) rfl (by decide) ⟨rfl, rfl, rfl⟩ w781 (show decode cX6_isToldSo 10 = .ok (.getfield 51, 3) by decide +kernel) ?_
  refine V_iload_n 2 Z rfl rfl (show decode cX6_isToldSo 13 = .ok (.iload_n 1, 1) by decide +kernel) ?_
  refine V_iconst 2 (by decide) Z (show decode cX6_isToldSo 14 = .ok (.iconst 2, 1) by decide +kernel) ?_
  refine V_iadd Z (show decode cX6_isToldSo 15 = .ok (.iadd, 1) by decide +kernel) ?_
  obtain ⟨v10, e11, h⟩ := zB_bind h
  refine V_iald Z e11 (show decode cX6_isToldSo 16 = .ok (.iaload, 1) by decide +kernel) ?_
  refine V_istore_n [(3, Value.int v10), (2, Value.int v8), (0, Value.ref 47), (1, Value.int x1)] Z (by decide) rfl rfl (show decode cX6_isToldSo 17 = .ok (.istore_n 3, 1) by decide +kernel) ?_
  refine V_aload_n 2 Z rfl rfl (show decode cX6_isToldSo 18 = .ok (.aload_n 0, 1) by decide +kernel) ?_
  refine V_getR 15 56 Z zc5 (by decide) rfl (by decide) rfl (by decide) ⟨rfl, rfl, rfl⟩ w781 (show decode cX6_isToldSo 19 = .ok (.getfield 51, 3) by decide +kernel) ?_
  refine V_iload_n 3 Z rfl rfl (show decode cX6_isToldSo 22 = .ok (.iload_n 1, 1) by decide +kernel) ?_
  refine V_iconst 3 (by decide) Z (show decode cX6_isToldSo 23 = .ok (.iconst 3, 1) by decide +kernel) ?_
  refine V_iadd Z (show decode cX6_isToldSo 24 = .ok (.iadd, 1) by decide +kernel) ?_
  obtain ⟨v12, e13, h⟩ := zB_bind h
  refine V_iald Z e13 (show decode cX6_isToldSo 25 = .ok (.iaload, 1) by decide +kernel) ?_
  refine V_istore [(4, Value.int v12), (3, Value.int v10), (2, Value.int v8), (0, Value.ref 47), (1, Value.int x1)] Z (by decide) rfl (show decode cX6_isToldSo 26 = .ok (.istore 4, 2) by decide +kernel) ?_
  refine V_aload_n 3 Z rfl rfl (show decode cX6_isToldSo 28 = .ok (.aload_n 0, 1) by decide +kernel) ?_
  refine V_getR 15 56 Z zc5 (by decide) rfl (by decide) rfl (by decide) ⟨rfl, rfl, rfl⟩ w781 (show decode cX6_isToldSo 29 = .ok (.getfield 51, 3) by decide +kernel) ?_
  refine V_iload_n 4 Z rfl rfl (show decode cX6_isToldSo 32 = .ok (.iload_n 1, 1) by decide +kernel) ?_
  obtain ⟨v14, e15, h⟩ := zB_bind h
  refine V_iald Z e15 (show decode cX6_isToldSo 33 = .ok (.iaload, 1) by decide +kernel) ?_
  refine V_bipush 11 (by decide) Z (show decode cX6_isToldSo 34 = .ok (.bipush 11, 2) by decide +kernel) ?_
  refine V_icmp_ne 46 Z (by decide) (show decode cX6_isToldSo 36 = .ok (.if_icmp .ne 10, 3) by decide +kernel) (fun c16 => ?_) (fun c16 => ?_)
  · have h := zB_neg c16 h
    refine V_aload_n 3 Z rfl rfl (show decode cX6_isToldSo 46 = .ok (.aload_n 0, 1) by decide +kernel) ?_
    refine V_getR 15 56 Z zc5 (by decide) rfl (by decide) rfl (by decide) ⟨rfl, rfl, rfl⟩ w781 (show decode cX6_isToldSo 47 = .ok (.getfield 51, 3) by decide +kernel) ?_
    refine V_iload_n 4 Z rfl rfl (show decode cX6_isToldSo 50 = .ok (.iload_n 1, 1) by decide +kernel) ?_
    obtain ⟨v17, e18, h⟩ := zB_bind h
    refine V_iald Z e18 (show decode cX6_isToldSo 51 = .ok (.iaload, 1) by decide +kernel) ?_
    refine V_bipush 10 (by decide) Z (show decode cX6_isToldSo 52 = .ok (.bipush 10, 2) by decide +kernel) ?_
    refine V_icmp_ne 113 Z (by decide) (show decode cX6_isToldSo 54 = .ok (.if_icmp .ne 59, 3) by decide +kernel) (fun c19 => ?_) (fun c19 => ?_)
    · have h := zB_neg c19 h
      refine V_aload_n 3 Z rfl rfl (show decode cX6_isToldSo 113 = .ok (.aload_n 0, 1) by decide +kernel) ?_
      refine V_aload_n 3 Z rfl rfl (show decode cX6_isToldSo 114 = .ok (.aload_n 0, 1) by decide +kernel) ?_
      refine V_getR 15 56 Z zc5 (by decide) rfl (by decide) rfl (by decide) ⟨rfl, rfl, rfl⟩ w781 (show decode cX6_isToldSo 115 = .ok (.getfield 51, 3) by decide +kernel) ?_
      refine V_iload_n 4 Z rfl rfl (show decode cX6_isToldSo 118 = .ok (.iload_n 1, 1) by decide +kernel) ?_
      obtain ⟨v20, e21, h⟩ := zB_bind h
      refine V_iald Z e21 (show decode cX6_isToldSo 119 = .ok (.iaload, 1) by decide +kernel) ?_
      refine V_iload_n 2 Z rfl rfl (show decode cX6_isToldSo 120 = .ok (.iload_n 2, 1) by decide +kernel) ?_
      refine V_iload_n 1 Z rfl rfl (show decode cX6_isToldSo 121 = .ok (.iload_n 3, 1) by decide +kernel) ?_
      refine V_iload 0 Z rfl (show decode cX6_isToldSo 122 = .ok (.iload 4, 2) by decide +kernel) ?_
      obtain ⟨⟨v23, M24⟩, e22, h⟩ := zB_bind h
      refine V_callV (rest := []) 4 Z (ok_X6_comes  e22) cd_X6_comes zc5 (by decide) rfl w849 w851 w18 rfl (show decode cX6_isToldSo 124 = .ok (.invokevirtual 89, 3) by decide +kernel) rfl ?_
      exact V_iretM Z hE h (show decode cX6_isToldSo 127 = .ok (.ireturn, 1) by decide +kernel)
    · have h := zB_pos c19 h
      refine V_aload_n 3 Z rfl rfl (show decode cX6_isToldSo 57 = .ok (.aload_n 0, 1) by decide +kernel) ?_
      refine V_getR 0 48 Z zc5 (by decide) rfl (by decide) rfl (by decide) ⟨rfl, rfl, rfl⟩ w766 (show decode cX6_isToldSo 58 = .ok (.getfield 9, 3) by decide +kernel) ?_
      refine V_bipush 55 (by decide) Z (show decode cX6_isToldSo 61 = .ok (.bipush 55, 2) by decide +kernel) ?_
      refine V_iload_n 2 Z rfl rfl (show decode cX6_isToldSo 63 = .ok (.iload_n 2, 1) by decide +kernel) ?_
      refine V_iadd Z (show decode cX6_isToldSo 64 = .ok (.iadd, 1) by decide +kernel) ?_
      refine V_iload_n 1 Z rfl rfl (show decode cX6_isToldSo 65 = .ok (.iload_n 3, 1) by decide +kernel) ?_
      refine V_if_ge 81 Z (by decide) (show decode cX6_isToldSo 66 = .ok (.ifCond .ge 15, 3) by decide +kernel) (fun c25 => ?_) (fun c25 => ?_)
      · have h := zB_pos c25 h
        refine V_iload_n 1 Z rfl rfl (show decode cX6_isToldSo 81 = .ok (.iload_n 3, 1) by decide +kernel) ?_
        refine V_sub [3, 2, 0] rfl ?_
        exact J82 _ _ _ _ _ h
      · have h := zB_neg c25 h
        refine V_aload_n 3 Z rfl rfl (show decode cX6_isToldSo 69 = .ok (.aload_n 0, 1) by decide +kernel) ?_
        refine V_getR 0 48 Z zc5 (by decide) rfl (by decide) rfl (by decide) ⟨rfl, rfl, rfl⟩ w766 (show decode cX6_isToldSo 70 = .ok (.getfield 9, 3) by decide +kernel) ?_
        refine V_bipush 55 (by decide) Z (show decode cX6_isToldSo 73 = .ok (.bipush 55, 2) by decide +kernel) ?_
        refine V_iload_n 2 Z rfl rfl (show decode cX6_isToldSo 75 = .ok (.iload_n 2, 1) by decide +kernel) ?_
        refine V_iadd Z (show decode cX6_isToldSo 76 = .ok (.iadd, 1) by decide +kernel) ?_
        obtain ⟨v26, e27, h⟩ := zB_bind h
        refine V_iald Z e27 (show decode cX6_isToldSo 77 = .ok (.iaload, 1) by decide +kernel) ?_
        refine V_goto 82 Z (by decide) (show decode cX6_isToldSo 78 = .ok (.goto 4, 3) by decide +kernel) ?_
        refine V_sub [3, 2, 0] rfl ?_
        exact J82 _ _ _ _ _ h
  · have h := zB_pos c16 h
    refine V_aload_n 3 Z rfl rfl (show decode cX6_isToldSo 39 = .ok (.aload_n 0, 1) by decide +kernel) ?_
    refine V_iconst 3 (by decide) Z (show decode cX6_isToldSo 40 = .ok (.iconst 3, 1) by decide +kernel) ?_
    refine V_iload_n 2 Z rfl rfl (show decode cX6_isToldSo 41 = .ok (.iload_n 2, 1) by decide +kernel) ?_
    obtain ⟨⟨v29, M30⟩, e28, h⟩ := zB_bind h
    refine V_callV (rest := []) 2 Z (ok_X6_become  e28) cd_X6_become zc5 (by decide) rfl w897 w899 w27 rfl (show decode cX6_isToldSo 42 = .ok (.invokevirtual 119, 3) by decide +kernel) rfl ?_
    exact V_iretM Z hE h (show decode cX6_isToldSo 45 = .ok (.ireturn, 1) by decide +kernel)
def f_X6_text_l113  : Int32 × Int32 × zM → Option ((Int32 × Int32 × zM) ⊕ (Int32 × zM))
  | (y1, y2, M) =>
    if (M 47 16) ≤ y2 then
      some (.inr ((y1, M)))
    else
      (f_X6_isToldSo (4 * y2) M).bind fun ((v8, M9) : Int32 × zM) =>
      if 0 ≤ v8 then
        (some ((y1 + 1))).bind fun (n11 : Int32) =>
        (some (y2 + 1)).bind fun (n13 : Int32) =>
        some (.inl ((n11, n13, M9)))
      else
        (some ((y1 + 0))).bind fun (n15 : Int32) =>
        (some (y2 + 1)).bind fun (n17 : Int32) =>
        some (.inl ((n15, n17, M9)))
def f_X6_text_j87 (s0 : Int32) (M : zM) : Option (Int32 × zM) :=
  (f_X6_must s0 M).bind fun (M2 : zM) =>
  (some (zU M2 47 8 0)).bind fun (M3 : zM) =>
  if (M3 47 13) = 0 then
    zIter (f_X6_text_l113 ) 1000 (0, 0, M3)
  else
    some ((((-1) - (M3 47 9)), M3))
def f_X6_text_j74 (M : zM) : Option (Int32 × zM) :=
  if (M 47 11) = 0 then
    f_X6_text_j87 1 M
  else
    f_X6_text_j87 0 M
def f_X6_text_l33  : zM → Option ((zM) ⊕ (Int32 × zM))
  | M =>
    if (M 47 13) = 0 then
      if (M 47 11) = 3 then
        (zrd M 54 (M 47 9)).bind fun (v36 : Int32) =>
        if v36 = 59 then
          (f_X6_must 1 M).bind fun (M40 : zM) =>
          (f_X6_readItem  M40).bind fun (M42 : zM) =>
          some (.inl (M42))
        else
          (f_X6_text_j74  M).bind fun z => some (Sum.inr z)
      else
        (f_X6_text_j74  M).bind fun z => some (Sum.inr z)
    else
      (f_X6_text_j74  M).bind fun z => some (Sum.inr z)
def f_X6_text (M : zM) : Option (Int32 × zM) :=
  (some (zU M 47 10 0)).bind fun (M20 : zM) =>
  (some (zU M20 47 13 0)).bind fun (M22 : zM) =>
  (some (zU M22 47 16 0)).bind fun (M24 : zM) =>
  (zrd M24 48 1).bind fun (v26 : Int32) =>
  (some (zU M24 47 17 v26)).bind fun (M28 : zM) =>
  (f_X6_next  M28).bind fun (M31 : zM) =>
  (f_X6_readItem  M31).bind fun (M33 : zM) =>
  zIter (f_X6_text_l33 ) 1000 (M33)
theorem cd_X6_text : zCd yX6_text cX6_text 3 (some .int) 0 := ⟨w1163, w69, ⟨by decide, by decide⟩, by decide +kernel⟩
set_option maxHeartbeats 4000000 in
set_option maxRecDepth 20000 in
theorem ok_X6_text {M : zM} {y : Int32 × zM}  (h : f_X6_text  M = some y) : zRuns yX6_text cX6_text 3 (some .int) 9 230 [.ref 47] M (some (.int y.1)) y.2 := by
  refine zRuns_of (by decide +kernel) (Nat.le_of_ble_eq_true rfl) (fun E Z hE => ?_)
  have h := zB_top h
  change VV E 3 0 [(0, Value.ref 47)] [] M
  have J87 : ∀ (s0 : Int32) (M : zM), (f_X6_text_j87 s0 M).bind some = some y → VV E 3 87 [(0, Value.ref 47)] [Value.int s0, Value.ref 47] M := by
    intro s0 M h
    obtain ⟨M2, e1, h⟩ := zB_bind h
    refine V_callV (rest := []) 1 Z (ok_X6_must  e1) cd_X6_must zc5 (by decide) rfl w1186 w1188 w58 rfl (show decode cX6_text 87 = .ok (.invokevirtual 269, 3) by decide +kernel) rfl ?_
    refine V_aload_n 0 Z rfl rfl (show decode cX6_text 90 = .ok (.aload_n 0, 1) by decide +kernel) ?_
    refine V_iconst 0 (by decide) Z (show decode cX6_text 91 = .ok (.iconst 0, 1) by decide +kernel) ?_
    obtain ⟨M3, e4, h⟩ := zB_let h
    refine V_putI 8 Z zc5 (by decide) rfl (by decide) rfl ⟨rfl, rfl, rfl⟩ rfl rfl w774 (show decode cX6_text 92 = .ok (.putfield 236, 3) by decide +kernel) ?_
    refine V_nmM e4 ?_
    refine V_aload_n 0 Z rfl rfl (show decode cX6_text 95 = .ok (.aload_n 0, 1) by decide +kernel) ?_
    refine V_getI 13 Z zc5 (by decide) rfl (by decide) rfl ⟨rfl, rfl, rfl⟩ w779 (show decode cX6_text 96 = .ok (.getfield 262, 3) by decide +kernel) ?_
    refine V_if_eq 109 Z (by decide) (show decode cX6_text 99 = .ok (.ifCond .eq 10, 3) by decide +kernel) (fun c5 => ?_) (fun c5 => ?_)
    · have h := zB_pos c5 h
      refine V_iconst 0 (by decide) Z (show decode cX6_text 109 = .ok (.iconst 0, 1) by decide +kernel) ?_
      refine V_istore_n [(1, Value.int 0), (0, Value.ref 47)] Z (by decide) rfl rfl (show decode cX6_text 110 = .ok (.istore_n 1, 1) by decide +kernel) ?_
      refine V_iconst 0 (by decide) Z (show decode cX6_text 111 = .ok (.iconst 0, 1) by decide +kernel) ?_
      refine V_istore_n [(2, Value.int 0), (1, Value.int 0), (0, Value.ref 47)] Z (by decide) rfl rfl (show decode cX6_text 112 = .ok (.istore_n 2, 1) by decide +kernel) ?_
      refine V_sub [2, 1, 0] rfl ?_
      refine zIter_loop' (K := some) (fun s : Int32 × Int32 × zM => VV E 3 113 [(0, Value.ref 47), (1, Value.int s.1), (2, Value.int s.2.1)] [] s.2.2) (fun K1 s c1_i c1_r h => ?_) _ _ h
      obtain ⟨y1, y2, M⟩ := s
      change VV E 3 113 [(0, Value.ref 47), (1, Value.int y1), (2, Value.int y2)] [] M
      refine V_iload_n 2 Z rfl rfl (show decode cX6_text 113 = .ok (.iload_n 2, 1) by decide +kernel) ?_
      refine V_aload_n 0 Z rfl rfl (show decode cX6_text 114 = .ok (.aload_n 0, 1) by decide +kernel) ?_
      refine V_getI 16 Z zc5 (by decide) rfl (by decide) rfl ⟨rfl, rfl, rfl⟩ w782 (show decode cX6_text 115 = .ok (.getfield 273, 3) by decide +kernel) ?_
      refine V_icmp_ge 145 Z (by decide) (show decode cX6_text 118 = .ok (.if_icmp .ge 27, 3) by decide +kernel) (fun c6 => ?_) (fun c6 => ?_)
      · have h := zB_pos c6 h
        refine V_iload_n 1 Z rfl rfl (show decode cX6_text 145 = .ok (.iload_n 1, 1) by decide +kernel) ?_
        have h := c1_r _ h
        exact V_iretM Z hE h (show decode cX6_text 146 = .ok (.ireturn, 1) by decide +kernel)
      · have h := zB_neg c6 h
        refine V_iload_n 1 Z rfl rfl (show decode cX6_text 121 = .ok (.iload_n 1, 1) by decide +kernel) ?_
        refine V_aload_n 0 Z rfl rfl (show decode cX6_text 122 = .ok (.aload_n 0, 1) by decide +kernel) ?_
        refine V_iconst 4 (by decide) Z (show decode cX6_text 123 = .ok (.iconst 4, 1) by decide +kernel) ?_
        refine V_iload_n 2 Z rfl rfl (show decode cX6_text 124 = .ok (.iload_n 2, 1) by decide +kernel) ?_
        refine V_imul Z (show decode cX6_text 125 = .ok (.imul, 1) by decide +kernel) ?_
        obtain ⟨⟨v8, M9⟩, e7, h⟩ := zB_bind h
        refine V_callV (rest := [_]) 1 Z (ok_X6_isToldSo  e7) cd_X6_isToldSo zc5 (by decide) rfl w1208 w1210 w62 rfl (show decode cX6_text 126 = .ok (.invokevirtual 312, 3) by decide +kernel) rfl ?_
        refine V_if_ge 136 Z (by decide) (show decode cX6_text 129 = .ok (.ifCond .ge 7, 3) by decide +kernel) (fun c10 => ?_) (fun c10 => ?_)
        · have h := zB_pos c10 h
          refine V_iconst 1 (by decide) Z (show decode cX6_text 136 = .ok (.iconst 1, 1) by decide +kernel) ?_
          refine V_iadd Z (show decode cX6_text 137 = .ok (.iadd, 1) by decide +kernel) ?_
          obtain ⟨n11, e12, h⟩ := zB_let h
          refine V_nm e12 ?_
          refine V_istore_n [(1, Value.int n11), (0, Value.ref 47), (2, Value.int y2)] Z (by decide) rfl rfl (show decode cX6_text 138 = .ok (.istore_n 1, 1) by decide +kernel) ?_
          obtain ⟨n13, e14, h⟩ := zB_let h
          refine V_iinck 1 1 2 n13 [(2, Value.int n13), (1, Value.int n11), (0, Value.ref 47)] Z (by decide) (by decide) rfl e14 rfl (show decode cX6_text 139 = .ok (.iinc 2 1, 3) by decide +kernel) ?_
          refine V_goto 113 Z (by decide) (show decode cX6_text 142 = .ok (.goto (-29), 3) by decide +kernel) ?_
          refine V_sub [2, 1, 0] rfl ?_
          exact c1_i _ h
        · have h := zB_neg c10 h
          refine V_iconst 0 (by decide) Z (show decode cX6_text 132 = .ok (.iconst 0, 1) by decide +kernel) ?_
          refine V_goto 137 Z (by decide) (show decode cX6_text 133 = .ok (.goto 4, 3) by decide +kernel) ?_
          refine V_iadd Z (show decode cX6_text 137 = .ok (.iadd, 1) by decide +kernel) ?_
          obtain ⟨n15, e16, h⟩ := zB_let h
          refine V_nm e16 ?_
          refine V_istore_n [(1, Value.int n15), (0, Value.ref 47), (2, Value.int y2)] Z (by decide) rfl rfl (show decode cX6_text 138 = .ok (.istore_n 1, 1) by decide +kernel) ?_
          obtain ⟨n17, e18, h⟩ := zB_let h
          refine V_iinck 1 1 2 n17 [(2, Value.int n17), (1, Value.int n15), (0, Value.ref 47)] Z (by decide) (by decide) rfl e18 rfl (show decode cX6_text 139 = .ok (.iinc 2 1, 3) by decide +kernel) ?_
          refine V_goto 113 Z (by decide) (show decode cX6_text 142 = .ok (.goto (-29), 3) by decide +kernel) ?_
          refine V_sub [2, 1, 0] rfl ?_
          exact c1_i _ h
    · have h := zB_neg c5 h
      refine V_iconst (-1) (by decide) Z (show decode cX6_text 102 = .ok (.iconst (-1), 1) by decide +kernel) ?_
      refine V_aload_n 0 Z rfl rfl (show decode cX6_text 103 = .ok (.aload_n 0, 1) by decide +kernel) ?_
      refine V_getI 9 Z zc5 (by decide) rfl (by decide) rfl ⟨rfl, rfl, rfl⟩ w775 (show decode cX6_text 104 = .ok (.getfield 243, 3) by decide +kernel) ?_
      refine V_isub Z (show decode cX6_text 107 = .ok (.isub, 1) by decide +kernel) ?_
      exact V_iretM Z hE h (show decode cX6_text 108 = .ok (.ireturn, 1) by decide +kernel)
  have J74 : ∀ (M : zM), (f_X6_text_j74  M).bind some = some y → VV E 3 74 [(0, Value.ref 47)] [] M := by
    intro  M h
    refine V_aload_n 0 Z rfl rfl (show decode cX6_text 74 = .ok (.aload_n 0, 1) by decide +kernel) ?_
    refine V_aload_n 0 Z rfl rfl (show decode cX6_text 75 = .ok (.aload_n 0, 1) by decide +kernel) ?_
    refine V_getI 11 Z zc5 (by decide) rfl (by decide) rfl ⟨rfl, rfl, rfl⟩ w777 (show decode cX6_text 76 = .ok (.getfield 252, 3) by decide +kernel) ?_
    refine V_if_ne 86 Z (by decide) (show decode cX6_text 79 = .ok (.ifCond .ne 7, 3) by decide +kernel) (fun c19 => ?_) (fun c19 => ?_)
    · have h := zB_neg c19 h
      refine V_iconst 0 (by decide) Z (show decode cX6_text 86 = .ok (.iconst 0, 1) by decide +kernel) ?_
      exact J87 _ _ h
    · have h := zB_pos c19 h
      refine V_iconst 1 (by decide) Z (show decode cX6_text 82 = .ok (.iconst 1, 1) by decide +kernel) ?_
      refine V_goto 87 Z (by decide) (show decode cX6_text 83 = .ok (.goto 4, 3) by decide +kernel) ?_
      exact J87 _ _ h
  refine V_aload_n 0 Z rfl rfl (show decode cX6_text 0 = .ok (.aload_n 0, 1) by decide +kernel) ?_
  refine V_iconst 0 (by decide) Z (show decode cX6_text 1 = .ok (.iconst 0, 1) by decide +kernel) ?_
  obtain ⟨M20, e21, h⟩ := zB_let h
  refine V_putI 10 Z zc5 (by decide) rfl (by decide) rfl ⟨rfl, rfl, rfl⟩ rfl rfl w776 (show decode cX6_text 2 = .ok (.putfield 240, 3) by decide +kernel) ?_
  refine V_nmM e21 ?_
  refine V_aload_n 0 Z rfl rfl (show decode cX6_text 5 = .ok (.aload_n 0, 1) by decide +kernel) ?_
  refine V_iconst 0 (by decide) Z (show decode cX6_text 6 = .ok (.iconst 0, 1) by decide +kernel) ?_
  obtain ⟨M22, e23, h⟩ := zB_let h
  refine V_putZ 13 Z zc5 (by decide) rfl (by decide) rfl ⟨rfl, rfl, rfl⟩ rfl rfl rfl w779 (show decode cX6_text 7 = .ok (.putfield 262, 3) by decide +kernel) ?_
  refine V_nmM e23 ?_
  refine V_aload_n 0 Z rfl rfl (show decode cX6_text 10 = .ok (.aload_n 0, 1) by decide +kernel) ?_
  refine V_iconst 0 (by decide) Z (show decode cX6_text 11 = .ok (.iconst 0, 1) by decide +kernel) ?_
  obtain ⟨M24, e25, h⟩ := zB_let h
  refine V_putI 16 Z zc5 (by decide) rfl (by decide) rfl ⟨rfl, rfl, rfl⟩ rfl rfl w782 (show decode cX6_text 12 = .ok (.putfield 273, 3) by decide +kernel) ?_
  refine V_nmM e25 ?_
  refine V_aload_n 0 Z rfl rfl (show decode cX6_text 15 = .ok (.aload_n 0, 1) by decide +kernel) ?_
  refine V_aload_n 0 Z rfl rfl (show decode cX6_text 16 = .ok (.aload_n 0, 1) by decide +kernel) ?_
  refine V_getR 0 48 Z zc5 (by decide) rfl (by decide) rfl (by decide) ⟨rfl, rfl, rfl⟩ w766 (show decode cX6_text 17 = .ok (.getfield 9, 3) by decide +kernel) ?_
  refine V_iconst 1 (by decide) Z (show decode cX6_text 20 = .ok (.iconst 1, 1) by decide +kernel) ?_
  obtain ⟨v26, e27, h⟩ := zB_bind h
  refine V_iald Z e27 (show decode cX6_text 21 = .ok (.iaload, 1) by decide +kernel) ?_
  obtain ⟨M28, e29, h⟩ := zB_let h
  refine V_putI 17 Z zc5 (by decide) rfl (by decide) rfl ⟨rfl, rfl, rfl⟩ rfl rfl w783 (show decode cX6_text 22 = .ok (.putfield 286, 3) by decide +kernel) ?_
  refine V_nmM e29 ?_
  refine V_aload_n 0 Z rfl rfl (show decode cX6_text 25 = .ok (.aload_n 0, 1) by decide +kernel) ?_
  obtain ⟨M31, e30, h⟩ := zB_bind h
  refine V_callV (rest := []) 0 Z (ok_X6_next  e30) cd_X6_next zc5 (by decide) rfl w1164 w1166 w53 rfl (show decode cX6_text 26 = .ok (.invokevirtual 266, 3) by decide +kernel) rfl ?_
  refine V_aload_n 0 Z rfl rfl (show decode cX6_text 29 = .ok (.aload_n 0, 1) by decide +kernel) ?_
  obtain ⟨M33, e32, h⟩ := zB_bind h
  refine V_callV (rest := []) 0 Z (ok_X6_readItem  e32) cd_X6_readItem zc5 (by decide) rfl w1172 w1174 w55 rfl (show decode cX6_text 30 = .ok (.invokevirtual 309, 3) by decide +kernel) rfl ?_
  refine zIter_loop' (K := some) (fun s : zM => VV E 3 33 [(0, Value.ref 47)] [] s) (fun K1 M c1_i c1_r h => ?_) _ _ h
  refine V_aload_n 0 Z rfl rfl (show decode cX6_text 33 = .ok (.aload_n 0, 1) by decide +kernel) ?_
  refine V_getI 13 Z zc5 (by decide) rfl (by decide) rfl ⟨rfl, rfl, rfl⟩ w779 (show decode cX6_text 34 = .ok (.getfield 262, 3) by decide +kernel) ?_
  refine V_if_ne 74 Z (by decide) (show decode cX6_text 37 = .ok (.ifCond .ne 37, 3) by decide +kernel) (fun c34 => ?_) (fun c34 => ?_)
  · have h := zB_neg c34 h
    have h := zB_lift c1_r h
    exact J74 _ h
  · have h := zB_pos c34 h
    refine V_aload_n 0 Z rfl rfl (show decode cX6_text 40 = .ok (.aload_n 0, 1) by decide +kernel) ?_
    refine V_getI 11 Z zc5 (by decide) rfl (by decide) rfl ⟨rfl, rfl, rfl⟩ w777 (show decode cX6_text 41 = .ok (.getfield 252, 3) by decide +kernel) ?_
    refine V_iconst 3 (by decide) Z (show decode cX6_text 44 = .ok (.iconst 3, 1) by decide +kernel) ?_
    refine V_icmp_ne 74 Z (by decide) (show decode cX6_text 45 = .ok (.if_icmp .ne 29, 3) by decide +kernel) (fun c35 => ?_) (fun c35 => ?_)
    · have h := zB_neg c35 h
      have h := zB_lift c1_r h
      exact J74 _ h
    · have h := zB_pos c35 h
      refine V_aload_n 0 Z rfl rfl (show decode cX6_text 48 = .ok (.aload_n 0, 1) by decide +kernel) ?_
      refine V_getR 7 54 Z zc5 (by decide) rfl (by decide) rfl (by decide) ⟨rfl, rfl, rfl⟩ w773 (show decode cX6_text 49 = .ok (.getfield 28, 3) by decide +kernel) ?_
      refine V_aload_n 0 Z rfl rfl (show decode cX6_text 52 = .ok (.aload_n 0, 1) by decide +kernel) ?_
      refine V_getI 9 Z zc5 (by decide) rfl (by decide) rfl ⟨rfl, rfl, rfl⟩ w775 (show decode cX6_text 53 = .ok (.getfield 243, 3) by decide +kernel) ?_
      obtain ⟨v36, e37, h⟩ := zB_bind h
      refine V_iald Z e37 (show decode cX6_text 56 = .ok (.iaload, 1) by decide +kernel) ?_
      refine V_bipush 59 (by decide) Z (show decode cX6_text 57 = .ok (.bipush 59, 2) by decide +kernel) ?_
      refine V_icmp_ne 74 Z (by decide) (show decode cX6_text 59 = .ok (.if_icmp .ne 15, 3) by decide +kernel) (fun c38 => ?_) (fun c38 => ?_)
      · have h := zB_neg c38 h
        have h := zB_lift c1_r h
        exact J74 _ h
      · have h := zB_pos c38 h
        refine V_aload_n 0 Z rfl rfl (show decode cX6_text 62 = .ok (.aload_n 0, 1) by decide +kernel) ?_
        refine V_iconst 1 (by decide) Z (show decode cX6_text 63 = .ok (.iconst 1, 1) by decide +kernel) ?_
        obtain ⟨M40, e39, h⟩ := zB_bind h
        refine V_callV (rest := []) 1 Z (ok_X6_must  e39) cd_X6_must zc5 (by decide) rfl w1186 w1188 w58 rfl (show decode cX6_text 64 = .ok (.invokevirtual 269, 3) by decide +kernel) rfl ?_
        refine V_aload_n 0 Z rfl rfl (show decode cX6_text 67 = .ok (.aload_n 0, 1) by decide +kernel) ?_
        obtain ⟨M42, e41, h⟩ := zB_bind h
        refine V_callV (rest := []) 0 Z (ok_X6_readItem  e41) cd_X6_readItem zc5 (by decide) rfl w1172 w1174 w55 rfl (show decode cX6_text 68 = .ok (.invokevirtual 309, 3) by decide +kernel) rfl ?_
        refine V_goto 33 Z (by decide) (show decode cX6_text 71 = .ok (.goto (-38), 3) by decide +kernel) ?_
        exact c1_i _ h
def f_X6_isSpot (x0 : Int32) (M : zM) : Option (Int32) :=
  (f_X6_within x0 0 9 M).bind fun (v2 : Int32) =>
  (zbo v2).bind fun (b3 : Int32) =>
  some (b3)
theorem cd_X6_isSpot : zCd yX6_isSpot cX6_isSpot 1 (some .boolean) 1 := ⟨w1218, w69, ⟨by decide, by decide⟩, by decide +kernel⟩
set_option maxHeartbeats 4000000 in
set_option maxRecDepth 20000 in
theorem ok_X6_isSpot {x0 : Int32} {M : zM} {y : Int32}  (h : f_X6_isSpot x0 M = some y) : zRuns yX6_isSpot cX6_isSpot 1 (some .boolean) 1 22 [.int x0] M (some (.int y)) M := by
  refine zRuns_of (by decide +kernel) (Nat.le_of_ble_eq_true rfl) (fun E Z hE => ?_)
  have h := zB_top h
  change VV E 1 0 [(0, Value.int x0)] [] M
  refine V_iload_n 0 Z rfl rfl (show decode cX6_isSpot 0 = .ok (.iload_n 0, 1) by decide +kernel) ?_
  refine V_iconst 0 (by decide) Z (show decode cX6_isSpot 1 = .ok (.iconst 0, 1) by decide +kernel) ?_
  refine V_bipush 9 (by decide) Z (show decode cX6_isSpot 2 = .ok (.bipush 9, 2) by decide +kernel) ?_
  obtain ⟨v2, e1, h⟩ := zB_bind h
  refine V_callS (rest := []) 3 Z (ok_X6_within  e1) cd_X6_within w840 w841 rfl (show decode cX6_isSpot 4 = .ok (.invokestatic 76, 3) by decide +kernel) rfl ?_
  obtain ⟨b3, e4, h⟩ := zB_bind h
  refine V_nm (zbo_v e4).1 ?_
  exact V_zretP Z hE h (zbo_v e4).2 (show decode cX6_isSpot 7 = .ok (.ireturn, 1) by decide +kernel)
def f_X6_hold_j27 (y1 : Int32) (y2 : Int32) (M : zM) : Option (Int32 × zM) :=
  (zwr M 48 (5 + y1) y2).bind fun (M1 : zM) =>
  some ((1, M1))
def f_X6_hold_j20 (M : zM) : Option (Int32 × zM) :=
  (f_X6_finding (-1000001) M).bind fun ((v4, M5) : Int32 × zM) =>
  some ((v4, M5))
def f_X6_hold (x1 : Int32) (x2 : Int32) (M : zM) : Option (Int32 × zM) :=
  (f_X6_isSpot x1 M).bind fun (v7 : Int32) =>
  if v7 = 0 then
    f_X6_hold_j20  M
  else
    if x2 = (-1) then
      f_X6_hold_j27 x1 x2 M
    else
      (f_X6_isName x2 M).bind fun (v11 : Int32) =>
      if v11 = 0 then
        f_X6_hold_j20  M
      else
        f_X6_hold_j27 x1 x2 M
theorem cd_X6_hold : zCd yX6_hold cX6_hold 3 (some .int) 2 := ⟨w1215, w69, ⟨by decide, by decide⟩, by decide +kernel⟩
set_option maxHeartbeats 4000000 in
set_option maxRecDepth 20000 in
theorem ok_X6_hold {x1 : Int32} {x2 : Int32} {M : zM} {y : Int32 × zM}  (h : f_X6_hold x1 x2 M = some y) : zRuns yX6_hold cX6_hold 3 (some .int) 2 43 [.ref 47, .int x1, .int x2] M (some (.int y.1)) y.2 := by
  refine zRuns_of (by decide +kernel) (Nat.le_of_ble_eq_true rfl) (fun E Z hE => ?_)
  have h := zB_top h
  change VV E 3 0 [(0, Value.ref 47), (1, Value.int x1), (2, Value.int x2)] [] M
  have J27 : ∀ (y1 : Int32) (y2 : Int32) (M : zM), (f_X6_hold_j27 y1 y2 M).bind some = some y → VV E 3 27 [(0, Value.ref 47), (1, Value.int y1), (2, Value.int y2)] [] M := by
    intro y1 y2 M h
    refine V_aload_n 0 Z rfl rfl (show decode cX6_hold 27 = .ok (.aload_n 0, 1) by decide +kernel) ?_
    refine V_getR 0 48 Z zc5 (by decide) rfl (by decide) rfl (by decide) ⟨rfl, rfl, rfl⟩ w766 (show decode cX6_hold 28 = .ok (.getfield 9, 3) by decide +kernel) ?_
    refine V_iconst 5 (by decide) Z (show decode cX6_hold 31 = .ok (.iconst 5, 1) by decide +kernel) ?_
    refine V_iload_n 1 Z rfl rfl (show decode cX6_hold 32 = .ok (.iload_n 1, 1) by decide +kernel) ?_
    refine V_iadd Z (show decode cX6_hold 33 = .ok (.iadd, 1) by decide +kernel) ?_
    refine V_iload_n 2 Z rfl rfl (show decode cX6_hold 34 = .ok (.iload_n 2, 1) by decide +kernel) ?_
    obtain ⟨M1, e2, h⟩ := zB_bind h
    refine V_iast Z e2 (show decode cX6_hold 35 = .ok (.iastore, 1) by decide +kernel) ?_
    refine V_iconst 1 (by decide) Z (show decode cX6_hold 36 = .ok (.iconst 1, 1) by decide +kernel) ?_
    exact V_iretM Z hE h (show decode cX6_hold 37 = .ok (.ireturn, 1) by decide +kernel)
  have J20 : ∀ (M : zM), (f_X6_hold_j20  M).bind some = some y → VV E 3 20 [(0, Value.ref 47)] [] M := by
    intro  M h
    refine V_aload_n 0 Z rfl rfl (show decode cX6_hold 20 = .ok (.aload_n 0, 1) by decide +kernel) ?_
    refine V_ldc (-1000001) Z w843 (show decode cX6_hold 21 = .ok (.ldc 66, 2) by decide +kernel) ?_
    obtain ⟨⟨v4, M5⟩, e3, h⟩ := zB_bind h
    refine V_callV (rest := []) 1 Z (ok_X6_finding  e3) cd_X6_finding zc5 (by decide) rfl w844 w846 w17 rfl (show decode cX6_hold 23 = .ok (.invokevirtual 72, 3) by decide +kernel) rfl ?_
    exact V_iretM Z hE h (show decode cX6_hold 26 = .ok (.ireturn, 1) by decide +kernel)
  refine V_iload_n 1 Z rfl rfl (show decode cX6_hold 0 = .ok (.iload_n 1, 1) by decide +kernel) ?_
  obtain ⟨v7, e6, h⟩ := zB_bind h
  refine V_callS (rest := []) 1 Z (ok_X6_isSpot  e6) cd_X6_isSpot w1216 w1217 rfl (show decode cX6_hold 1 = .ok (.invokestatic 315, 3) by decide +kernel) rfl ?_
  refine V_if_eq 20 Z (by decide) (show decode cX6_hold 4 = .ok (.ifCond .eq 16, 3) by decide +kernel) (fun c8 => ?_) (fun c8 => ?_)
  · have h := zB_pos c8 h
    refine V_sub [0] rfl ?_
    exact J20 _ h
  · have h := zB_neg c8 h
    refine V_iload_n 2 Z rfl rfl (show decode cX6_hold 7 = .ok (.iload_n 2, 1) by decide +kernel) ?_
    refine V_iconst (-1) (by decide) Z (show decode cX6_hold 8 = .ok (.iconst (-1), 1) by decide +kernel) ?_
    refine V_icmp_eq 27 Z (by decide) (show decode cX6_hold 9 = .ok (.if_icmp .eq 18, 3) by decide +kernel) (fun c9 => ?_) (fun c9 => ?_)
    · have h := zB_pos c9 h
      exact J27 _ _ _ h
    · have h := zB_neg c9 h
      refine V_aload_n 0 Z rfl rfl (show decode cX6_hold 12 = .ok (.aload_n 0, 1) by decide +kernel) ?_
      refine V_iload_n 2 Z rfl rfl (show decode cX6_hold 13 = .ok (.iload_n 2, 1) by decide +kernel) ?_
      obtain ⟨v11, e10, h⟩ := zB_bind h
      refine V_callV (rest := []) 1 Z (ok_X6_isName  e10) cd_X6_isName zc5 (by decide) rfl w860 w862 w19 rfl (show decode cX6_hold 14 = .ok (.invokevirtual 100, 3) by decide +kernel) rfl ?_
      refine V_if_ne 27 Z (by decide) (show decode cX6_hold 17 = .ok (.ifCond .ne 10, 3) by decide +kernel) (fun c12 => ?_) (fun c12 => ?_)
      · have h := zB_neg c12 h
        exact J27 _ _ _ h
      · have h := zB_pos c12 h
        refine V_sub [0] rfl ?_
        exact J20 _ h
def f_X6_above (x0 : Int32) (M : zM) : Option (Int32) :=
  if x0 = 0 then
    some (((-1) : Int32))
  else
    if x0 = 3 then
      some ((2 : Int32))
    else
      if x0 = 4 then
        some ((3 : Int32))
      else
        if x0 = 6 then
          some ((1 : Int32))
        else
          some ((0 : Int32))
theorem cd_X6_above : zCd yX6_above cX6_above 1 (some .int) 1 := ⟨w1228, w69, ⟨by decide, by decide⟩, by decide +kernel⟩
set_option maxHeartbeats 4000000 in
set_option maxRecDepth 20000 in
theorem ok_X6_above {x0 : Int32} {M : zM} {y : Int32}  (h : f_X6_above x0 M = some y) : zRuns yX6_above cX6_above 1 (some .int) 0 0 [.int x0] M (some (.int y)) M := by
  refine zRuns_of (by decide +kernel) (Nat.le_of_ble_eq_true rfl) (fun E Z hE => ?_)
  have h := zB_top h
  change VV E 1 0 [(0, Value.int x0)] [] M
  refine V_iload_n 0 Z rfl rfl (show decode cX6_above 0 = .ok (.iload_n 0, 1) by decide +kernel) ?_
  refine V_if_ne 8 Z (by decide) (show decode cX6_above 1 = .ok (.ifCond .ne 7, 3) by decide +kernel) (fun c1 => ?_) (fun c1 => ?_)
  · have h := zB_neg c1 h
    refine V_iload_n 0 Z rfl rfl (show decode cX6_above 8 = .ok (.iload_n 0, 1) by decide +kernel) ?_
    refine V_iconst 3 (by decide) Z (show decode cX6_above 9 = .ok (.iconst 3, 1) by decide +kernel) ?_
    refine V_icmp_ne 17 Z (by decide) (show decode cX6_above 10 = .ok (.if_icmp .ne 7, 3) by decide +kernel) (fun c2 => ?_) (fun c2 => ?_)
    · have h := zB_neg c2 h
      refine V_iload_n 0 Z rfl rfl (show decode cX6_above 17 = .ok (.iload_n 0, 1) by decide +kernel) ?_
      refine V_iconst 4 (by decide) Z (show decode cX6_above 18 = .ok (.iconst 4, 1) by decide +kernel) ?_
      refine V_icmp_ne 26 Z (by decide) (show decode cX6_above 19 = .ok (.if_icmp .ne 7, 3) by decide +kernel) (fun c3 => ?_) (fun c3 => ?_)
      · have h := zB_neg c3 h
        refine V_iload_n 0 Z rfl rfl (show decode cX6_above 26 = .ok (.iload_n 0, 1) by decide +kernel) ?_
        refine V_bipush 6 (by decide) Z (show decode cX6_above 27 = .ok (.bipush 6, 2) by decide +kernel) ?_
        refine V_icmp_ne 36 Z (by decide) (show decode cX6_above 29 = .ok (.if_icmp .ne 7, 3) by decide +kernel) (fun c4 => ?_) (fun c4 => ?_)
        · have h := zB_neg c4 h
          refine V_iconst 0 (by decide) Z (show decode cX6_above 36 = .ok (.iconst 0, 1) by decide +kernel) ?_
          exact V_iretP Z hE h (show decode cX6_above 37 = .ok (.ireturn, 1) by decide +kernel)
        · have h := zB_pos c4 h
          refine V_iconst 1 (by decide) Z (show decode cX6_above 32 = .ok (.iconst 1, 1) by decide +kernel) ?_
          refine V_goto 37 Z (by decide) (show decode cX6_above 33 = .ok (.goto 4, 3) by decide +kernel) ?_
          exact V_iretP Z hE h (show decode cX6_above 37 = .ok (.ireturn, 1) by decide +kernel)
      · have h := zB_pos c3 h
        refine V_iconst 3 (by decide) Z (show decode cX6_above 22 = .ok (.iconst 3, 1) by decide +kernel) ?_
        refine V_goto 37 Z (by decide) (show decode cX6_above 23 = .ok (.goto 14, 3) by decide +kernel) ?_
        exact V_iretP Z hE h (show decode cX6_above 37 = .ok (.ireturn, 1) by decide +kernel)
    · have h := zB_pos c2 h
      refine V_iconst 2 (by decide) Z (show decode cX6_above 13 = .ok (.iconst 2, 1) by decide +kernel) ?_
      refine V_goto 37 Z (by decide) (show decode cX6_above 14 = .ok (.goto 23, 3) by decide +kernel) ?_
      exact V_iretP Z hE h (show decode cX6_above 37 = .ok (.ireturn, 1) by decide +kernel)
  · have h := zB_pos c1 h
    refine V_iconst (-1) (by decide) Z (show decode cX6_above 4 = .ok (.iconst (-1), 1) by decide +kernel) ?_
    refine V_goto 37 Z (by decide) (show decode cX6_above 5 = .ok (.goto 32, 3) by decide +kernel) ?_
    exact V_iretP Z hE h (show decode cX6_above 37 = .ok (.ireturn, 1) by decide +kernel)
