/-! Generated walks: X2_nameItem X2_personItem X2_orderItem X2_item X2_read X3_layOut X3_put -/
def f_X2_nameItem_j102 (t : Nat) (y2 : Int32) (y3 : Int32) (y4 : Int32) (y5 : Int32) (M : zM) : Option (Int32 × zM) :=
  (f_X0_hangUp t y2 y3 y4 y5 M).bind fun ((v2, M3) : Int32 × zM) =>
  if v2 < 0 then
    some ((0, M3))
  else
    some ((1, M3))
def f_X2_nameItem_j64 (t : Nat) (y2 : Int32) (y3 : Int32) (y4 : Int32) (y5 : Int32) (M : zM) : Option (Int32 × zM) :=
  (f_X2_isWord 10 M).bind fun (v6 : Int32) =>
  if v6 = 0 then
    f_X2_nameItem_j102 t y2 y3 y4 y5 M
  else
    (f_X2_step  M).bind fun (M9 : zM) =>
    (f_X2_isNumberTo ((M9 t 0) - 1) M9).bind fun (v11 : Int32) =>
    if v11 = 0 then
      some ((0, M9))
    else
      (some ((M9 36 4))).bind fun (n13 : Int32) =>
      (f_X2_step  M9).bind fun (M16 : zM) =>
      f_X2_nameItem_j102 t y2 y3 y4 n13 M16
def f_X2_nameItem (t : Nat) (x2 : Int32) (M : zM) : Option (Int32 × zM) :=
  (f_X2_step  M).bind fun (M18 : zM) =>
  (f_X2_isNumberTo 99 M18).bind fun (v20 : Int32) =>
  if v20 = 0 then
    some ((0, M18))
  else
    (some ((M18 36 4))).bind fun (n22 : Int32) =>
    (f_X2_step  M18).bind fun (M25 : zM) =>
    (f_X2_isWord 9 M25).bind fun (v27 : Int32) =>
    if v27 = 0 then
      f_X2_nameItem_j64 t x2 n22 0 (-1) M25
    else
      (f_X2_step  M25).bind fun (M30 : zM) =>
      (f_X2_isNumberTo 99 M30).bind fun (v32 : Int32) =>
      if v32 = 0 then
        some ((0, M30))
      else
        (some ((M30 36 4))).bind fun (n34 : Int32) =>
        (f_X2_step  M30).bind fun (M37 : zM) =>
        f_X2_nameItem_j64 t x2 n22 n34 (-1) M37
theorem cd_X2_nameItem : zCd yX2_nameItem cX2_nameItem 6 (some .boolean) 2 := ⟨w659, w67, ⟨by decide, by decide⟩, by decide +kernel⟩
set_option maxHeartbeats 4000000 in
set_option maxRecDepth 20000 in
theorem ok_X2_nameItem {t : Nat} {x2 : Int32} {M : zM} {y : Int32 × zM} (ht : isH t) (h : f_X2_nameItem t x2 M = some y) : zRuns yX2_nameItem cX2_nameItem 6 (some .boolean) 7 183 [.ref 36, .ref t, .int x2] M (some (.int y.1)) y.2 := by
  refine zRuns_of (by decide +kernel) (Nat.le_of_ble_eq_true rfl) (fun E Z hE => ?_)
  have h := zB_top h
  change VV E 6 0 [(0, Value.ref 36), (1, Value.ref t), (2, Value.int x2)] [] M
  have J102 : ∀ (y2 : Int32) (y3 : Int32) (y4 : Int32) (y5 : Int32) (M : zM), (f_X2_nameItem_j102 t y2 y3 y4 y5 M).bind some = some y → VV E 6 102 [(1, Value.ref t), (2, Value.int y2), (3, Value.int y3), (4, Value.int y4), (5, Value.int y5)] [] M := by
    intro y2 y3 y4 y5 M h
    refine V_aload_n 0 Z rfl rfl (show decode cX2_nameItem 102 = .ok (.aload_n 1, 1) by decide +kernel) ?_
    refine V_iload_n 1 Z rfl rfl (show decode cX2_nameItem 103 = .ok (.iload_n 2, 1) by decide +kernel) ?_
    refine V_iload_n 2 Z rfl rfl (show decode cX2_nameItem 104 = .ok (.iload_n 3, 1) by decide +kernel) ?_
    refine V_iload 3 Z rfl (show decode cX2_nameItem 105 = .ok (.iload 4, 2) by decide +kernel) ?_
    refine V_iload 4 Z rfl (show decode cX2_nameItem 107 = .ok (.iload 5, 2) by decide +kernel) ?_
    obtain ⟨⟨v2, M3⟩, e1, h⟩ := zB_bind h
    refine V_callV (rest := []) 4 Z (ok_X0_hangUp ht e1) cd_X0_hangUp zc0 (isH_lt ht) (shH ht) w666 w254 w255 rfl (show decode cX2_nameItem 109 = .ok (.invokevirtual 119, 3) by decide +kernel) rfl ?_
    refine V_if_lt 119 Z (by decide) (show decode cX2_nameItem 112 = .ok (.ifCond .lt 7, 3) by decide +kernel) (fun c4 => ?_) (fun c4 => ?_)
    · have h := zB_pos c4 h
      refine V_iconst 0 (by decide) Z (show decode cX2_nameItem 119 = .ok (.iconst 0, 1) by decide +kernel) ?_
      exact V_zretM Z hE h rfl (show decode cX2_nameItem 120 = .ok (.ireturn, 1) by decide +kernel)
    · have h := zB_neg c4 h
      refine V_iconst 1 (by decide) Z (show decode cX2_nameItem 115 = .ok (.iconst 1, 1) by decide +kernel) ?_
      refine V_goto 120 Z (by decide) (show decode cX2_nameItem 116 = .ok (.goto 4, 3) by decide +kernel) ?_
      exact V_zretM Z hE h rfl (show decode cX2_nameItem 120 = .ok (.ireturn, 1) by decide +kernel)
  have J64 : ∀ (y2 : Int32) (y3 : Int32) (y4 : Int32) (y5 : Int32) (M : zM), (f_X2_nameItem_j64 t y2 y3 y4 y5 M).bind some = some y → VV E 6 64 [(0, Value.ref 36), (1, Value.ref t), (2, Value.int y2), (3, Value.int y3), (4, Value.int y4), (5, Value.int y5)] [] M := by
    intro y2 y3 y4 y5 M h
    refine V_aload_n 0 Z rfl rfl (show decode cX2_nameItem 64 = .ok (.aload_n 0, 1) by decide +kernel) ?_
    refine V_ldcS "against" 10 Z (by decide +kernel) (show decode cX2_nameItem 65 = .ok (.ldc 117, 2) by decide +kernel) ?_
    obtain ⟨v6, e5, h⟩ := zB_bind h
    refine V_callV (rest := []) 1 Z (ok_X2_isWord (by decide) e5) cd_X2_isWord zc1 (by decide) rfl w598 w600 w12 rfl (show decode cX2_nameItem 67 = .ok (.invokevirtual 72, 3) by decide +kernel) rfl ?_
    refine V_if_eq 102 Z (by decide) (show decode cX2_nameItem 70 = .ok (.ifCond .eq 32, 3) by decide +kernel) (fun c7 => ?_) (fun c7 => ?_)
    · have h := zB_pos c7 h
      refine V_sub [1, 2, 3, 4, 5] rfl ?_
      exact J102 _ _ _ _ _ h
    · have h := zB_neg c7 h
      refine V_aload_n 0 Z rfl rfl (show decode cX2_nameItem 73 = .ok (.aload_n 0, 1) by decide +kernel) ?_
      obtain ⟨M9, e8, h⟩ := zB_bind h
      refine V_callV (rest := []) 0 Z (ok_X2_step  e8) cd_X2_step zc1 (by decide) rfl w566 w568 w7 rfl (show decode cX2_nameItem 74 = .ok (.invokevirtual 19, 3) by decide +kernel) rfl ?_
      refine V_aload_n 0 Z rfl rfl (show decode cX2_nameItem 77 = .ok (.aload_n 0, 1) by decide +kernel) ?_
      refine V_aload_n 1 Z rfl rfl (show decode cX2_nameItem 78 = .ok (.aload_n 1, 1) by decide +kernel) ?_
      refine V_getI 0 Z zc0 (isH_lt ht) (shH ht) (by decide) rfl ⟨rfl, rfl, rfl⟩ w94 (show decode cX2_nameItem 79 = .ok (.getfield 93, 3) by decide +kernel) ?_
      refine V_iconst 1 (by decide) Z (show decode cX2_nameItem 82 = .ok (.iconst 1, 1) by decide +kernel) ?_
      refine V_isub Z (show decode cX2_nameItem 83 = .ok (.isub, 1) by decide +kernel) ?_
      obtain ⟨v11, e10, h⟩ := zB_bind h
      refine V_callV (rest := []) 1 Z (ok_X2_isNumberTo  e10) cd_X2_isNumberTo zc1 (by decide) rfl w660 w662 w14 rfl (show decode cX2_nameItem 84 = .ok (.invokevirtual 112, 3) by decide +kernel) rfl ?_
      refine V_if_ne 92 Z (by decide) (show decode cX2_nameItem 87 = .ok (.ifCond .ne 5, 3) by decide +kernel) (fun c12 => ?_) (fun c12 => ?_)
      · have h := zB_neg c12 h
        refine V_aload_n 0 Z rfl rfl (show decode cX2_nameItem 92 = .ok (.aload_n 0, 1) by decide +kernel) ?_
        refine V_getI 4 Z zc1 (by decide) rfl (by decide) rfl ⟨rfl, rfl, rfl⟩ w182 (show decode cX2_nameItem 93 = .ok (.getfield 51, 3) by decide +kernel) ?_
        obtain ⟨n13, e14, h⟩ := zB_let h
        refine V_nm e14 ?_
        refine V_istore [(5, Value.int n13), (0, Value.ref 36), (1, Value.ref t), (2, Value.int y2), (3, Value.int y3), (4, Value.int y4)] Z (by decide) rfl (show decode cX2_nameItem 96 = .ok (.istore 5, 2) by decide +kernel) ?_
        refine V_aload_n 1 Z rfl rfl (show decode cX2_nameItem 98 = .ok (.aload_n 0, 1) by decide +kernel) ?_
        obtain ⟨M16, e15, h⟩ := zB_bind h
        refine V_callV (rest := []) 0 Z (ok_X2_step  e15) cd_X2_step zc1 (by decide) rfl w566 w568 w7 rfl (show decode cX2_nameItem 99 = .ok (.invokevirtual 19, 3) by decide +kernel) rfl ?_
        refine V_sub [2, 3, 4, 5, 0] rfl ?_
        exact J102 _ _ _ _ _ h
      · have h := zB_pos c12 h
        refine V_iconst 0 (by decide) Z (show decode cX2_nameItem 90 = .ok (.iconst 0, 1) by decide +kernel) ?_
        exact V_zretM Z hE h rfl (show decode cX2_nameItem 91 = .ok (.ireturn, 1) by decide +kernel)
  refine V_aload_n 0 Z rfl rfl (show decode cX2_nameItem 0 = .ok (.aload_n 0, 1) by decide +kernel) ?_
  obtain ⟨M18, e17, h⟩ := zB_bind h
  refine V_callV (rest := []) 0 Z (ok_X2_step  e17) cd_X2_step zc1 (by decide) rfl w566 w568 w7 rfl (show decode cX2_nameItem 1 = .ok (.invokevirtual 19, 3) by decide +kernel) rfl ?_
  refine V_aload_n 0 Z rfl rfl (show decode cX2_nameItem 4 = .ok (.aload_n 0, 1) by decide +kernel) ?_
  refine V_bipush 99 (by decide) Z (show decode cX2_nameItem 5 = .ok (.bipush 99, 2) by decide +kernel) ?_
  obtain ⟨v20, e19, h⟩ := zB_bind h
  refine V_callV (rest := []) 1 Z (ok_X2_isNumberTo  e19) cd_X2_isNumberTo zc1 (by decide) rfl w660 w662 w14 rfl (show decode cX2_nameItem 7 = .ok (.invokevirtual 112, 3) by decide +kernel) rfl ?_
  refine V_if_ne 15 Z (by decide) (show decode cX2_nameItem 10 = .ok (.ifCond .ne 5, 3) by decide +kernel) (fun c21 => ?_) (fun c21 => ?_)
  · have h := zB_neg c21 h
    refine V_aload_n 0 Z rfl rfl (show decode cX2_nameItem 15 = .ok (.aload_n 0, 1) by decide +kernel) ?_
    refine V_getI 4 Z zc1 (by decide) rfl (by decide) rfl ⟨rfl, rfl, rfl⟩ w182 (show decode cX2_nameItem 16 = .ok (.getfield 51, 3) by decide +kernel) ?_
    obtain ⟨n22, e23, h⟩ := zB_let h
    refine V_nm e23 ?_
    refine V_istore_n [(3, Value.int n22), (0, Value.ref 36), (1, Value.ref t), (2, Value.int x2)] Z (by decide) rfl rfl (show decode cX2_nameItem 19 = .ok (.istore_n 3, 1) by decide +kernel) ?_
    refine V_iconst 0 (by decide) Z (show decode cX2_nameItem 20 = .ok (.iconst 0, 1) by decide +kernel) ?_
    refine V_istore [(4, Value.int 0), (3, Value.int n22), (0, Value.ref 36), (1, Value.ref t), (2, Value.int x2)] Z (by decide) rfl (show decode cX2_nameItem 21 = .ok (.istore 4, 2) by decide +kernel) ?_
    refine V_iconst (-1) (by decide) Z (show decode cX2_nameItem 23 = .ok (.iconst (-1), 1) by decide +kernel) ?_
    refine V_istore [(5, Value.int (-1)), (4, Value.int 0), (3, Value.int n22), (0, Value.ref 36), (1, Value.ref t), (2, Value.int x2)] Z (by decide) rfl (show decode cX2_nameItem 24 = .ok (.istore 5, 2) by decide +kernel) ?_
    refine V_aload_n 3 Z rfl rfl (show decode cX2_nameItem 26 = .ok (.aload_n 0, 1) by decide +kernel) ?_
    obtain ⟨M25, e24, h⟩ := zB_bind h
    refine V_callV (rest := []) 0 Z (ok_X2_step  e24) cd_X2_step zc1 (by decide) rfl w566 w568 w7 rfl (show decode cX2_nameItem 27 = .ok (.invokevirtual 19, 3) by decide +kernel) rfl ?_
    refine V_aload_n 3 Z rfl rfl (show decode cX2_nameItem 30 = .ok (.aload_n 0, 1) by decide +kernel) ?_
    refine V_ldcS "worn" 9 Z (by decide +kernel) (show decode cX2_nameItem 31 = .ok (.ldc 115, 2) by decide +kernel) ?_
    obtain ⟨v27, e26, h⟩ := zB_bind h
    refine V_callV (rest := []) 1 Z (ok_X2_isWord (by decide) e26) cd_X2_isWord zc1 (by decide) rfl w598 w600 w12 rfl (show decode cX2_nameItem 33 = .ok (.invokevirtual 72, 3) by decide +kernel) rfl ?_
    refine V_if_eq 64 Z (by decide) (show decode cX2_nameItem 36 = .ok (.ifCond .eq 28, 3) by decide +kernel) (fun c28 => ?_) (fun c28 => ?_)
    · have h := zB_pos c28 h
      refine V_sub [3, 4, 5, 2, 1, 0] rfl ?_
      exact J64 _ _ _ _ _ h
    · have h := zB_neg c28 h
      refine V_aload_n 3 Z rfl rfl (show decode cX2_nameItem 39 = .ok (.aload_n 0, 1) by decide +kernel) ?_
      obtain ⟨M30, e29, h⟩ := zB_bind h
      refine V_callV (rest := []) 0 Z (ok_X2_step  e29) cd_X2_step zc1 (by decide) rfl w566 w568 w7 rfl (show decode cX2_nameItem 40 = .ok (.invokevirtual 19, 3) by decide +kernel) rfl ?_
      refine V_aload_n 3 Z rfl rfl (show decode cX2_nameItem 43 = .ok (.aload_n 0, 1) by decide +kernel) ?_
      refine V_bipush 99 (by decide) Z (show decode cX2_nameItem 44 = .ok (.bipush 99, 2) by decide +kernel) ?_
      obtain ⟨v32, e31, h⟩ := zB_bind h
      refine V_callV (rest := []) 1 Z (ok_X2_isNumberTo  e31) cd_X2_isNumberTo zc1 (by decide) rfl w660 w662 w14 rfl (show decode cX2_nameItem 46 = .ok (.invokevirtual 112, 3) by decide +kernel) rfl ?_
      refine V_if_ne 54 Z (by decide) (show decode cX2_nameItem 49 = .ok (.ifCond .ne 5, 3) by decide +kernel) (fun c33 => ?_) (fun c33 => ?_)
      · have h := zB_neg c33 h
        refine V_aload_n 3 Z rfl rfl (show decode cX2_nameItem 54 = .ok (.aload_n 0, 1) by decide +kernel) ?_
        refine V_getI 4 Z zc1 (by decide) rfl (by decide) rfl ⟨rfl, rfl, rfl⟩ w182 (show decode cX2_nameItem 55 = .ok (.getfield 51, 3) by decide +kernel) ?_
        obtain ⟨n34, e35, h⟩ := zB_let h
        refine V_nm e35 ?_
        refine V_istore [(4, Value.int n34), (5, Value.int (-1)), (3, Value.int n22), (0, Value.ref 36), (1, Value.ref t), (2, Value.int x2)] Z (by decide) rfl (show decode cX2_nameItem 58 = .ok (.istore 4, 2) by decide +kernel) ?_
        refine V_aload_n 3 Z rfl rfl (show decode cX2_nameItem 60 = .ok (.aload_n 0, 1) by decide +kernel) ?_
        obtain ⟨M37, e36, h⟩ := zB_bind h
        refine V_callV (rest := []) 0 Z (ok_X2_step  e36) cd_X2_step zc1 (by decide) rfl w566 w568 w7 rfl (show decode cX2_nameItem 61 = .ok (.invokevirtual 19, 3) by decide +kernel) rfl ?_
        refine V_sub [3, 4, 5, 2, 0, 1] rfl ?_
        exact J64 _ _ _ _ _ h
      · have h := zB_pos c33 h
        refine V_iconst 0 (by decide) Z (show decode cX2_nameItem 52 = .ok (.iconst 0, 1) by decide +kernel) ?_
        exact V_zretM Z hE h rfl (show decode cX2_nameItem 53 = .ok (.ireturn, 1) by decide +kernel)
  · have h := zB_pos c21 h
    refine V_iconst 0 (by decide) Z (show decode cX2_nameItem 13 = .ok (.iconst 0, 1) by decide +kernel) ?_
    exact V_zretM Z hE h rfl (show decode cX2_nameItem 14 = .ok (.ireturn, 1) by decide +kernel)
def f_X2_personItem_j62 (t : Nat) (y2 : Int32) (M : zM) : Option (Int32 × zM) :=
  (f_X2_isWord 12 M).bind fun (v2 : Int32) =>
  if v2 = 0 then
    some ((1, M))
  else
    (f_X2_step  M).bind fun (M5 : zM) =>
    (f_X2_isNumberTo ((M5 t 0) - 1) M5).bind fun (v7 : Int32) =>
    if v7 = 0 then
      some ((0, M5))
    else
      (zwr M5 (t + 7) y2 (M5 36 4)).bind fun (M9 : zM) =>
      (f_X2_step  M9).bind fun (M12 : zM) =>
      some ((1, M12))
def f_X2_personItem (t : Nat) (M : zM) : Option (Int32 × zM) :=
  (f_X2_step  M).bind fun (M14 : zM) =>
  (f_X2_isNumberTo 5 M14).bind fun (v16 : Int32) =>
  if v16 = 0 then
    some ((0, M14))
  else
    (some ((M14 36 4))).bind fun (n18 : Int32) =>
    (f_X2_step  M14).bind fun (M21 : zM) =>
    (f_X2_isWord 11 M21).bind fun (v23 : Int32) =>
    if v23 = 0 then
      f_X2_personItem_j62 t n18 M21
    else
      (f_X2_step  M21).bind fun (M26 : zM) =>
      (f_X2_isNumberTo 9999 M26).bind fun (v28 : Int32) =>
      if v28 = 0 then
        some ((0, M26))
      else
        (zwr M26 (t + 6) n18 (M26 36 4)).bind fun (M30 : zM) =>
        (f_X2_step  M30).bind fun (M33 : zM) =>
        f_X2_personItem_j62 t n18 M33
theorem cd_X2_personItem : zCd yX2_personItem cX2_personItem 3 (some .boolean) 1 := ⟨w671, w67, ⟨by decide, by decide⟩, by decide +kernel⟩
set_option maxHeartbeats 4000000 in
set_option maxRecDepth 20000 in
theorem ok_X2_personItem {t : Nat} {M : zM} {y : Int32 × zM} (ht : isH t) (h : f_X2_personItem t M = some y) : zRuns yX2_personItem cX2_personItem 3 (some .boolean) 7 183 [.ref 36, .ref t] M (some (.int y.1)) y.2 := by
  refine zRuns_of (by decide +kernel) (Nat.le_of_ble_eq_true rfl) (fun E Z hE => ?_)
  have h := zB_top h
  change VV E 3 0 [(0, Value.ref 36), (1, Value.ref t)] [] M
  have J62 : ∀ (y2 : Int32) (M : zM), (f_X2_personItem_j62 t y2 M).bind some = some y → VV E 3 62 [(0, Value.ref 36), (1, Value.ref t), (2, Value.int y2)] [] M := by
    intro y2 M h
    refine V_aload_n 0 Z rfl rfl (show decode cX2_personItem 62 = .ok (.aload_n 0, 1) by decide +kernel) ?_
    refine V_ldcS "wishes" 12 Z (by decide +kernel) (show decode cX2_personItem 63 = .ok (.ldc 128, 2) by decide +kernel) ?_
    obtain ⟨v2, e1, h⟩ := zB_bind h
    refine V_callV (rest := []) 1 Z (ok_X2_isWord (by decide) e1) cd_X2_isWord zc1 (by decide) rfl w598 w600 w12 rfl (show decode cX2_personItem 65 = .ok (.invokevirtual 72, 3) by decide +kernel) rfl ?_
    refine V_if_eq 104 Z (by decide) (show decode cX2_personItem 68 = .ok (.ifCond .eq 36, 3) by decide +kernel) (fun c3 => ?_) (fun c3 => ?_)
    · have h := zB_pos c3 h
      refine V_iconst 1 (by decide) Z (show decode cX2_personItem 104 = .ok (.iconst 1, 1) by decide +kernel) ?_
      exact V_zretM Z hE h rfl (show decode cX2_personItem 105 = .ok (.ireturn, 1) by decide +kernel)
    · have h := zB_neg c3 h
      refine V_aload_n 0 Z rfl rfl (show decode cX2_personItem 71 = .ok (.aload_n 0, 1) by decide +kernel) ?_
      obtain ⟨M5, e4, h⟩ := zB_bind h
      refine V_callV (rest := []) 0 Z (ok_X2_step  e4) cd_X2_step zc1 (by decide) rfl w566 w568 w7 rfl (show decode cX2_personItem 72 = .ok (.invokevirtual 19, 3) by decide +kernel) rfl ?_
      refine V_aload_n 0 Z rfl rfl (show decode cX2_personItem 75 = .ok (.aload_n 0, 1) by decide +kernel) ?_
      refine V_aload_n 1 Z rfl rfl (show decode cX2_personItem 76 = .ok (.aload_n 1, 1) by decide +kernel) ?_
      refine V_getI 0 Z zc0 (isH_lt ht) (shH ht) (by decide) rfl ⟨rfl, rfl, rfl⟩ w94 (show decode cX2_personItem 77 = .ok (.getfield 93, 3) by decide +kernel) ?_
      refine V_iconst 1 (by decide) Z (show decode cX2_personItem 80 = .ok (.iconst 1, 1) by decide +kernel) ?_
      refine V_isub Z (show decode cX2_personItem 81 = .ok (.isub, 1) by decide +kernel) ?_
      obtain ⟨v7, e6, h⟩ := zB_bind h
      refine V_callV (rest := []) 1 Z (ok_X2_isNumberTo  e6) cd_X2_isNumberTo zc1 (by decide) rfl w660 w662 w14 rfl (show decode cX2_personItem 82 = .ok (.invokevirtual 112, 3) by decide +kernel) rfl ?_
      refine V_if_ne 90 Z (by decide) (show decode cX2_personItem 85 = .ok (.ifCond .ne 5, 3) by decide +kernel) (fun c8 => ?_) (fun c8 => ?_)
      · have h := zB_neg c8 h
        refine V_aload_n 1 Z rfl rfl (show decode cX2_personItem 90 = .ok (.aload_n 1, 1) by decide +kernel) ?_
        refine V_getR 7 (t + 7) Z zc0 (isH_lt ht) (shH ht) (by decide) rfl (isH_ne ht 7) ⟨rfl, rfl, rfl⟩ w110 (show decode cX2_personItem 91 = .ok (.getfield 130, 3) by decide +kernel) ?_
        refine V_iload_n 2 Z rfl rfl (show decode cX2_personItem 94 = .ok (.iload_n 2, 1) by decide +kernel) ?_
        refine V_aload_n 0 Z rfl rfl (show decode cX2_personItem 95 = .ok (.aload_n 0, 1) by decide +kernel) ?_
        refine V_getI 4 Z zc1 (by decide) rfl (by decide) rfl ⟨rfl, rfl, rfl⟩ w182 (show decode cX2_personItem 96 = .ok (.getfield 51, 3) by decide +kernel) ?_
        obtain ⟨M9, e10, h⟩ := zB_bind h
        refine V_iast Z e10 (show decode cX2_personItem 99 = .ok (.iastore, 1) by decide +kernel) ?_
        refine V_aload_n 0 Z rfl rfl (show decode cX2_personItem 100 = .ok (.aload_n 0, 1) by decide +kernel) ?_
        obtain ⟨M12, e11, h⟩ := zB_bind h
        refine V_callV (rest := []) 0 Z (ok_X2_step  e11) cd_X2_step zc1 (by decide) rfl w566 w568 w7 rfl (show decode cX2_personItem 101 = .ok (.invokevirtual 19, 3) by decide +kernel) rfl ?_
        refine V_iconst 1 (by decide) Z (show decode cX2_personItem 104 = .ok (.iconst 1, 1) by decide +kernel) ?_
        exact V_zretM Z hE h rfl (show decode cX2_personItem 105 = .ok (.ireturn, 1) by decide +kernel)
      · have h := zB_pos c8 h
        refine V_iconst 0 (by decide) Z (show decode cX2_personItem 88 = .ok (.iconst 0, 1) by decide +kernel) ?_
        exact V_zretM Z hE h rfl (show decode cX2_personItem 89 = .ok (.ireturn, 1) by decide +kernel)
  refine V_aload_n 0 Z rfl rfl (show decode cX2_personItem 0 = .ok (.aload_n 0, 1) by decide +kernel) ?_
  obtain ⟨M14, e13, h⟩ := zB_bind h
  refine V_callV (rest := []) 0 Z (ok_X2_step  e13) cd_X2_step zc1 (by decide) rfl w566 w568 w7 rfl (show decode cX2_personItem 1 = .ok (.invokevirtual 19, 3) by decide +kernel) rfl ?_
  refine V_aload_n 0 Z rfl rfl (show decode cX2_personItem 4 = .ok (.aload_n 0, 1) by decide +kernel) ?_
  refine V_iconst 5 (by decide) Z (show decode cX2_personItem 5 = .ok (.iconst 5, 1) by decide +kernel) ?_
  obtain ⟨v16, e15, h⟩ := zB_bind h
  refine V_callV (rest := []) 1 Z (ok_X2_isNumberTo  e15) cd_X2_isNumberTo zc1 (by decide) rfl w660 w662 w14 rfl (show decode cX2_personItem 6 = .ok (.invokevirtual 112, 3) by decide +kernel) rfl ?_
  refine V_if_ne 14 Z (by decide) (show decode cX2_personItem 9 = .ok (.ifCond .ne 5, 3) by decide +kernel) (fun c17 => ?_) (fun c17 => ?_)
  · have h := zB_neg c17 h
    refine V_aload_n 0 Z rfl rfl (show decode cX2_personItem 14 = .ok (.aload_n 0, 1) by decide +kernel) ?_
    refine V_getI 4 Z zc1 (by decide) rfl (by decide) rfl ⟨rfl, rfl, rfl⟩ w182 (show decode cX2_personItem 15 = .ok (.getfield 51, 3) by decide +kernel) ?_
    obtain ⟨n18, e19, h⟩ := zB_let h
    refine V_nm e19 ?_
    refine V_istore_n [(2, Value.int n18), (0, Value.ref 36), (1, Value.ref t)] Z (by decide) rfl rfl (show decode cX2_personItem 18 = .ok (.istore_n 2, 1) by decide +kernel) ?_
    refine V_aload_n 1 Z rfl rfl (show decode cX2_personItem 19 = .ok (.aload_n 0, 1) by decide +kernel) ?_
    obtain ⟨M21, e20, h⟩ := zB_bind h
    refine V_callV (rest := []) 0 Z (ok_X2_step  e20) cd_X2_step zc1 (by decide) rfl w566 w568 w7 rfl (show decode cX2_personItem 20 = .ok (.invokevirtual 19, 3) by decide +kernel) rfl ?_
    refine V_aload_n 1 Z rfl rfl (show decode cX2_personItem 23 = .ok (.aload_n 0, 1) by decide +kernel) ?_
    refine V_ldcS "purse" 11 Z (by decide +kernel) (show decode cX2_personItem 24 = .ok (.ldc 123, 2) by decide +kernel) ?_
    obtain ⟨v23, e22, h⟩ := zB_bind h
    refine V_callV (rest := []) 1 Z (ok_X2_isWord (by decide) e22) cd_X2_isWord zc1 (by decide) rfl w598 w600 w12 rfl (show decode cX2_personItem 26 = .ok (.invokevirtual 72, 3) by decide +kernel) rfl ?_
    refine V_if_eq 62 Z (by decide) (show decode cX2_personItem 29 = .ok (.ifCond .eq 33, 3) by decide +kernel) (fun c24 => ?_) (fun c24 => ?_)
    · have h := zB_pos c24 h
      refine V_sub [1, 2, 0] rfl ?_
      exact J62 _ _ h
    · have h := zB_neg c24 h
      refine V_aload_n 1 Z rfl rfl (show decode cX2_personItem 32 = .ok (.aload_n 0, 1) by decide +kernel) ?_
      obtain ⟨M26, e25, h⟩ := zB_bind h
      refine V_callV (rest := []) 0 Z (ok_X2_step  e25) cd_X2_step zc1 (by decide) rfl w566 w568 w7 rfl (show decode cX2_personItem 33 = .ok (.invokevirtual 19, 3) by decide +kernel) rfl ?_
      refine V_aload_n 1 Z rfl rfl (show decode cX2_personItem 36 = .ok (.aload_n 0, 1) by decide +kernel) ?_
      refine V_sipush 9999 (by decide) Z (show decode cX2_personItem 37 = .ok (.sipush 9999, 3) by decide +kernel) ?_
      obtain ⟨v28, e27, h⟩ := zB_bind h
      refine V_callV (rest := []) 1 Z (ok_X2_isNumberTo  e27) cd_X2_isNumberTo zc1 (by decide) rfl w660 w662 w14 rfl (show decode cX2_personItem 40 = .ok (.invokevirtual 112, 3) by decide +kernel) rfl ?_
      refine V_if_ne 48 Z (by decide) (show decode cX2_personItem 43 = .ok (.ifCond .ne 5, 3) by decide +kernel) (fun c29 => ?_) (fun c29 => ?_)
      · have h := zB_neg c29 h
        refine V_aload_n 2 Z rfl rfl (show decode cX2_personItem 48 = .ok (.aload_n 1, 1) by decide +kernel) ?_
        refine V_getR 6 (t + 6) Z zc0 (isH_lt ht) (shH ht) (by decide) rfl (isH_ne ht 6) ⟨rfl, rfl, rfl⟩ w107 (show decode cX2_personItem 49 = .ok (.getfield 125, 3) by decide +kernel) ?_
        refine V_iload_n 0 Z rfl rfl (show decode cX2_personItem 52 = .ok (.iload_n 2, 1) by decide +kernel) ?_
        refine V_aload_n 1 Z rfl rfl (show decode cX2_personItem 53 = .ok (.aload_n 0, 1) by decide +kernel) ?_
        refine V_getI 4 Z zc1 (by decide) rfl (by decide) rfl ⟨rfl, rfl, rfl⟩ w182 (show decode cX2_personItem 54 = .ok (.getfield 51, 3) by decide +kernel) ?_
        obtain ⟨M30, e31, h⟩ := zB_bind h
        refine V_iast Z e31 (show decode cX2_personItem 57 = .ok (.iastore, 1) by decide +kernel) ?_
        refine V_aload_n 1 Z rfl rfl (show decode cX2_personItem 58 = .ok (.aload_n 0, 1) by decide +kernel) ?_
        obtain ⟨M33, e32, h⟩ := zB_bind h
        refine V_callV (rest := []) 0 Z (ok_X2_step  e32) cd_X2_step zc1 (by decide) rfl w566 w568 w7 rfl (show decode cX2_personItem 59 = .ok (.invokevirtual 19, 3) by decide +kernel) rfl ?_
        refine V_sub [1, 2, 0] rfl ?_
        exact J62 _ _ h
      · have h := zB_pos c29 h
        refine V_iconst 0 (by decide) Z (show decode cX2_personItem 46 = .ok (.iconst 0, 1) by decide +kernel) ?_
        exact V_zretM Z hE h rfl (show decode cX2_personItem 47 = .ok (.ireturn, 1) by decide +kernel)
  · have h := zB_pos c17 h
    refine V_iconst 0 (by decide) Z (show decode cX2_personItem 12 = .ok (.iconst 0, 1) by decide +kernel) ?_
    exact V_zretM Z hE h rfl (show decode cX2_personItem 13 = .ok (.ireturn, 1) by decide +kernel)
def f_X2_orderItem (t : Nat) (M : zM) : Option (Int32 × zM) :=
  (f_X2_step  M).bind fun (M2 : zM) =>
  (f_X2_isNumberTo 719 M2).bind fun (v4 : Int32) =>
  if v4 = 0 then
    some ((0, M2))
  else
    (some (zU M2 t 9 ((M2 36 4)))).bind fun (M6 : zM) =>
    (f_X2_step  M6).bind fun (M9 : zM) =>
    some ((1, M9))
theorem cd_X2_orderItem : zCd yX2_orderItem cX2_orderItem 2 (some .boolean) 1 := ⟨w678, w67, ⟨by decide, by decide⟩, by decide +kernel⟩
set_option maxHeartbeats 4000000 in
set_option maxRecDepth 20000 in
theorem ok_X2_orderItem {t : Nat} {M : zM} {y : Int32 × zM} (ht : isH t) (h : f_X2_orderItem t M = some y) : zRuns yX2_orderItem cX2_orderItem 2 (some .boolean) 3 62 [.ref 36, .ref t] M (some (.int y.1)) y.2 := by
  refine zRuns_of (by decide +kernel) (Nat.le_of_ble_eq_true rfl) (fun E Z hE => ?_)
  have h := zB_top h
  change VV E 2 0 [(0, Value.ref 36), (1, Value.ref t)] [] M
  refine V_aload_n 0 Z rfl rfl (show decode cX2_orderItem 0 = .ok (.aload_n 0, 1) by decide +kernel) ?_
  obtain ⟨M2, e1, h⟩ := zB_bind h
  refine V_callV (rest := []) 0 Z (ok_X2_step  e1) cd_X2_step zc1 (by decide) rfl w566 w568 w7 rfl (show decode cX2_orderItem 1 = .ok (.invokevirtual 19, 3) by decide +kernel) rfl ?_
  refine V_aload_n 0 Z rfl rfl (show decode cX2_orderItem 4 = .ok (.aload_n 0, 1) by decide +kernel) ?_
  refine V_sipush 719 (by decide) Z (show decode cX2_orderItem 5 = .ok (.sipush 719, 3) by decide +kernel) ?_
  obtain ⟨v4, e3, h⟩ := zB_bind h
  refine V_callV (rest := []) 1 Z (ok_X2_isNumberTo  e3) cd_X2_isNumberTo zc1 (by decide) rfl w660 w662 w14 rfl (show decode cX2_orderItem 8 = .ok (.invokevirtual 112, 3) by decide +kernel) rfl ?_
  refine V_if_ne 16 Z (by decide) (show decode cX2_orderItem 11 = .ok (.ifCond .ne 5, 3) by decide +kernel) (fun c5 => ?_) (fun c5 => ?_)
  · have h := zB_neg c5 h
    refine V_aload_n 1 Z rfl rfl (show decode cX2_orderItem 16 = .ok (.aload_n 1, 1) by decide +kernel) ?_
    refine V_aload_n 0 Z rfl rfl (show decode cX2_orderItem 17 = .ok (.aload_n 0, 1) by decide +kernel) ?_
    refine V_getI 4 Z zc1 (by decide) rfl (by decide) rfl ⟨rfl, rfl, rfl⟩ w182 (show decode cX2_orderItem 18 = .ok (.getfield 51, 3) by decide +kernel) ?_
    obtain ⟨M6, e7, h⟩ := zB_let h
    refine V_putI 9 Z zc0 (isH_lt ht) (shH ht) (by decide) rfl ⟨rfl, rfl, rfl⟩ rfl rfl w115 (show decode cX2_orderItem 21 = .ok (.putfield 133, 3) by decide +kernel) ?_
    refine V_nmM e7 ?_
    refine V_aload_n 0 Z rfl rfl (show decode cX2_orderItem 24 = .ok (.aload_n 0, 1) by decide +kernel) ?_
    obtain ⟨M9, e8, h⟩ := zB_bind h
    refine V_callV (rest := []) 0 Z (ok_X2_step  e8) cd_X2_step zc1 (by decide) rfl w566 w568 w7 rfl (show decode cX2_orderItem 25 = .ok (.invokevirtual 19, 3) by decide +kernel) rfl ?_
    refine V_iconst 1 (by decide) Z (show decode cX2_orderItem 28 = .ok (.iconst 1, 1) by decide +kernel) ?_
    exact V_zretM Z hE h rfl (show decode cX2_orderItem 29 = .ok (.ireturn, 1) by decide +kernel)
  · have h := zB_pos c5 h
    refine V_iconst 0 (by decide) Z (show decode cX2_orderItem 14 = .ok (.iconst 0, 1) by decide +kernel) ?_
    exact V_zretM Z hE h rfl (show decode cX2_orderItem 15 = .ok (.ireturn, 1) by decide +kernel)
def f_X2_item (t : Nat) (M : zM) : Option (Int32 × zM) :=
  (f_X2_kindTold  M).bind fun (v2 : Int32) =>
  if v2 < 0 then
    (f_X2_isWord 7 M).bind fun (v5 : Int32) =>
    if v5 = 0 then
      (f_X2_isWord 8 M).bind fun (v8 : Int32) =>
      if v8 = 0 then
        some ((0, M))
      else
        (f_X2_orderItem t M).bind fun ((v11, M12) : Int32 × zM) =>
        if v11 = 0 then
          some ((0, M12))
        else
          some ((1, M12))
    else
      (f_X2_personItem t M).bind fun ((v15, M16) : Int32 × zM) =>
      (zbo v15).bind fun (b17 : Int32) =>
      some ((b17, M16))
  else
    if 8 ≤ (M t 0) then
      some ((0, M))
    else
      (f_X2_nameItem t v2 M).bind fun ((v21, M22) : Int32 × zM) =>
      if v21 = 0 then
        some ((0, M22))
      else
        some ((1, M22))
theorem cd_X2_item : zCd yX2_item cX2_item 3 (some .boolean) 1 := ⟨w592, w67, ⟨by decide, by decide⟩, by decide +kernel⟩
set_option maxHeartbeats 4000000 in
set_option maxRecDepth 20000 in
theorem ok_X2_item {t : Nat} {M : zM} {y : Int32 × zM} (ht : isH t) (h : f_X2_item t M = some y) : zRuns yX2_item cX2_item 3 (some .boolean) 8 208 [.ref 36, .ref t] M (some (.int y.1)) y.2 := by
  refine zRuns_of (by decide +kernel) (Nat.le_of_ble_eq_true rfl) (fun E Z hE => ?_)
  have h := zB_top h
  change VV E 3 0 [(0, Value.ref 36), (1, Value.ref t)] [] M
  refine V_aload_n 0 Z rfl rfl (show decode cX2_item 0 = .ok (.aload_n 0, 1) by decide +kernel) ?_
  obtain ⟨v2, e1, h⟩ := zB_bind h
  refine V_callV (rest := []) 0 Z (ok_X2_kindTold  e1) cd_X2_kindTold zc1 (by decide) rfl w593 w595 w11 rfl (show decode cX2_item 1 = .ok (.invokevirtual 90, 3) by decide +kernel) rfl ?_
  refine V_istore_n [(2, Value.int v2), (0, Value.ref 36), (1, Value.ref t)] Z (by decide) rfl rfl (show decode cX2_item 4 = .ok (.istore_n 2, 1) by decide +kernel) ?_
  refine V_iload_n 0 Z rfl rfl (show decode cX2_item 5 = .ok (.iload_n 2, 1) by decide +kernel) ?_
  refine V_if_lt 33 Z (by decide) (show decode cX2_item 6 = .ok (.ifCond .lt 27, 3) by decide +kernel) (fun c3 => ?_) (fun c3 => ?_)
  · have h := zB_pos c3 h
    refine V_aload_n 1 Z rfl rfl (show decode cX2_item 33 = .ok (.aload_n 0, 1) by decide +kernel) ?_
    refine V_ldcS "person" 7 Z (by decide +kernel) (show decode cX2_item 34 = .ok (.ldc 102, 2) by decide +kernel) ?_
    obtain ⟨v5, e4, h⟩ := zB_bind h
    refine V_callV (rest := []) 1 Z (ok_X2_isWord (by decide) e4) cd_X2_isWord zc1 (by decide) rfl w598 w600 w12 rfl (show decode cX2_item 36 = .ok (.invokevirtual 72, 3) by decide +kernel) rfl ?_
    refine V_if_eq 48 Z (by decide) (show decode cX2_item 39 = .ok (.ifCond .eq 9, 3) by decide +kernel) (fun c6 => ?_) (fun c6 => ?_)
    · have h := zB_pos c6 h
      refine V_aload_n 1 Z rfl rfl (show decode cX2_item 48 = .ok (.aload_n 0, 1) by decide +kernel) ?_
      refine V_ldcS "order" 8 Z (by decide +kernel) (show decode cX2_item 49 = .ok (.ldc 107, 2) by decide +kernel) ?_
      obtain ⟨v8, e7, h⟩ := zB_bind h
      refine V_callV (rest := []) 1 Z (ok_X2_isWord (by decide) e7) cd_X2_isWord zc1 (by decide) rfl w598 w600 w12 rfl (show decode cX2_item 51 = .ok (.invokevirtual 72, 3) by decide +kernel) rfl ?_
      refine V_if_eq 69 Z (by decide) (show decode cX2_item 54 = .ok (.ifCond .eq 15, 3) by decide +kernel) (fun c9 => ?_) (fun c9 => ?_)
      · have h := zB_pos c9 h
        refine V_iconst 0 (by decide) Z (show decode cX2_item 69 = .ok (.iconst 0, 1) by decide +kernel) ?_
        exact V_zretM Z hE h rfl (show decode cX2_item 70 = .ok (.ireturn, 1) by decide +kernel)
      · have h := zB_neg c9 h
        refine V_aload_n 1 Z rfl rfl (show decode cX2_item 57 = .ok (.aload_n 0, 1) by decide +kernel) ?_
        refine V_aload_n 2 Z rfl rfl (show decode cX2_item 58 = .ok (.aload_n 1, 1) by decide +kernel) ?_
        obtain ⟨⟨v11, M12⟩, e10, h⟩ := zB_bind h
        refine V_callV (rest := []) 1 Z (ok_X2_orderItem ht e10) cd_X2_orderItem zc1 (by decide) rfl w675 w677 w16 rfl (show decode cX2_item 59 = .ok (.invokevirtual 109, 3) by decide +kernel) rfl ?_
        refine V_if_eq 69 Z (by decide) (show decode cX2_item 62 = .ok (.ifCond .eq 7, 3) by decide +kernel) (fun c13 => ?_) (fun c13 => ?_)
        · have h := zB_pos c13 h
          refine V_iconst 0 (by decide) Z (show decode cX2_item 69 = .ok (.iconst 0, 1) by decide +kernel) ?_
          exact V_zretM Z hE h rfl (show decode cX2_item 70 = .ok (.ireturn, 1) by decide +kernel)
        · have h := zB_neg c13 h
          refine V_iconst 1 (by decide) Z (show decode cX2_item 65 = .ok (.iconst 1, 1) by decide +kernel) ?_
          refine V_goto 70 Z (by decide) (show decode cX2_item 66 = .ok (.goto 4, 3) by decide +kernel) ?_
          exact V_zretM Z hE h rfl (show decode cX2_item 70 = .ok (.ireturn, 1) by decide +kernel)
    · have h := zB_neg c6 h
      refine V_aload_n 1 Z rfl rfl (show decode cX2_item 42 = .ok (.aload_n 0, 1) by decide +kernel) ?_
      refine V_aload_n 2 Z rfl rfl (show decode cX2_item 43 = .ok (.aload_n 1, 1) by decide +kernel) ?_
      obtain ⟨⟨v15, M16⟩, e14, h⟩ := zB_bind h
      refine V_callV (rest := []) 1 Z (ok_X2_personItem ht e14) cd_X2_personItem zc1 (by decide) rfl w668 w670 w15 rfl (show decode cX2_item 44 = .ok (.invokevirtual 104, 3) by decide +kernel) rfl ?_
      obtain ⟨b17, e18, h⟩ := zB_bind h
      refine V_nm (zbo_v e18).1 ?_
      exact V_zretM Z hE h (zbo_v e18).2 (show decode cX2_item 47 = .ok (.ireturn, 1) by decide +kernel)
  · have h := zB_neg c3 h
    refine V_aload_n 2 Z rfl rfl (show decode cX2_item 9 = .ok (.aload_n 1, 1) by decide +kernel) ?_
    refine V_getI 0 Z zc0 (isH_lt ht) (shH ht) (by decide) rfl ⟨rfl, rfl, rfl⟩ w94 (show decode cX2_item 10 = .ok (.getfield 93, 3) by decide +kernel) ?_
    refine V_bipush 8 (by decide) Z (show decode cX2_item 13 = .ok (.bipush 8, 2) by decide +kernel) ?_
    refine V_icmp_ge 31 Z (by decide) (show decode cX2_item 15 = .ok (.if_icmp .ge 16, 3) by decide +kernel) (fun c19 => ?_) (fun c19 => ?_)
    · have h := zB_pos c19 h
      refine V_iconst 0 (by decide) Z (show decode cX2_item 31 = .ok (.iconst 0, 1) by decide +kernel) ?_
      exact V_zretM Z hE h rfl (show decode cX2_item 32 = .ok (.ireturn, 1) by decide +kernel)
    · have h := zB_neg c19 h
      refine V_aload_n 1 Z rfl rfl (show decode cX2_item 18 = .ok (.aload_n 0, 1) by decide +kernel) ?_
      refine V_aload_n 2 Z rfl rfl (show decode cX2_item 19 = .ok (.aload_n 1, 1) by decide +kernel) ?_
      refine V_iload_n 0 Z rfl rfl (show decode cX2_item 20 = .ok (.iload_n 2, 1) by decide +kernel) ?_
      obtain ⟨⟨v21, M22⟩, e20, h⟩ := zB_bind h
      refine V_callV (rest := []) 2 Z (ok_X2_nameItem ht e20) cd_X2_nameItem zc1 (by decide) rfl w656 w658 w13 rfl (show decode cX2_item 21 = .ok (.invokevirtual 98, 3) by decide +kernel) rfl ?_
      refine V_if_eq 31 Z (by decide) (show decode cX2_item 24 = .ok (.ifCond .eq 7, 3) by decide +kernel) (fun c23 => ?_) (fun c23 => ?_)
      · have h := zB_pos c23 h
        refine V_iconst 0 (by decide) Z (show decode cX2_item 31 = .ok (.iconst 0, 1) by decide +kernel) ?_
        exact V_zretM Z hE h rfl (show decode cX2_item 32 = .ok (.ireturn, 1) by decide +kernel)
      · have h := zB_neg c23 h
        refine V_iconst 1 (by decide) Z (show decode cX2_item 27 = .ok (.iconst 1, 1) by decide +kernel) ?_
        refine V_goto 32 Z (by decide) (show decode cX2_item 28 = .ok (.goto 4, 3) by decide +kernel) ?_
        exact V_zretM Z hE h rfl (show decode cX2_item 32 = .ok (.ireturn, 1) by decide +kernel)
def f_X2_read_j71 (t : Nat) (M : zM) : Option (Int32 × zM) :=
  some ((((-1) - (M 36 2)), M))
def f_X2_read_j54 (t : Nat) (M : zM) : Option (Int32 × zM) :=
  some ((((-1) - (M 36 2)), M))
def f_X2_read_j30 (t : Nat) (M : zM) : Option (Int32 × zM) :=
  some ((((-1) - (M 36 2)), M))
def f_X2_read_l16 (t : Nat) : Int32 × zM → Option ((Int32 × zM) ⊕ (Int32 × zM))
  | (y3, M) =>
    if 120 < y3 then
      (f_X2_read_j71 t M).bind fun z => some (Sum.inr z)
    else
      (f_X2_item t M).bind fun ((v9, M10) : Int32 × zM) =>
      if v9 = 0 then
        (f_X2_read_j30 t M10).bind fun z => some (Sum.inr z)
      else
        if (M10 36 1) = 0 then
          some (.inr ((y3, M10)))
        else
          if (M10 36 1) = 3 then
            (f_X2_step  M10).bind fun (M15 : zM) =>
            (some (y3 + 1)).bind fun (n16 : Int32) =>
            some (.inl ((n16, M15)))
          else
            (f_X2_read_j54 t M10).bind fun z => some (Sum.inr z)
def f_X2_read (t : Nat) (M : zM) : Option (Int32 × zM) :=
  (some (zU M 36 0 1)).bind fun (M1 : zM) =>
  (some (zU M1 36 3 0)).bind fun (M3 : zM) =>
  (f_X2_step  M3).bind fun (M6 : zM) =>
  zIter (f_X2_read_l16 t) 1000 (1, M6)
theorem cd_X2_read : zCd yX2_read cX2_read 4 (some .int) 2 := ⟨w565, w67, ⟨by decide, by decide⟩, by decide +kernel⟩
set_option maxHeartbeats 4000000 in
set_option maxRecDepth 20000 in
theorem ok_X2_read {t : Nat} {M : zM} {y : Int32 × zM} (ht : isH t) (h : f_X2_read t M = some y) : zRuns yX2_read cX2_read 4 (some .int) 9 230 [.ref 36, .ref 34, .ref t] M (some (.int y.1)) y.2 := by
  refine zRuns_of (by decide +kernel) (Nat.le_of_ble_eq_true rfl) (fun E Z hE => ?_)
  have h := zB_top h
  change VV E 4 0 [(0, Value.ref 36), (1, Value.ref 34), (2, Value.ref t)] [] M
  have J71 : ∀ (M : zM), (f_X2_read_j71 t M).bind some = some y → VV E 4 71 [(0, Value.ref 36)] [] M := by
    intro  M h
    refine V_iconst (-1) (by decide) Z (show decode cX2_read 71 = .ok (.iconst (-1), 1) by decide +kernel) ?_
    refine V_aload_n 0 Z rfl rfl (show decode cX2_read 72 = .ok (.aload_n 0, 1) by decide +kernel) ?_
    refine V_getI 2 Z zc1 (by decide) rfl (by decide) rfl ⟨rfl, rfl, rfl⟩ w180 (show decode cX2_read 73 = .ok (.getfield 26, 3) by decide +kernel) ?_
    refine V_isub Z (show decode cX2_read 76 = .ok (.isub, 1) by decide +kernel) ?_
    exact V_iretM Z hE h (show decode cX2_read 77 = .ok (.ireturn, 1) by decide +kernel)
  have J54 : ∀ (M : zM), (f_X2_read_j54 t M).bind some = some y → VV E 4 54 [(0, Value.ref 36)] [] M := by
    intro  M h
    refine V_iconst (-1) (by decide) Z (show decode cX2_read 54 = .ok (.iconst (-1), 1) by decide +kernel) ?_
    refine V_aload_n 0 Z rfl rfl (show decode cX2_read 55 = .ok (.aload_n 0, 1) by decide +kernel) ?_
    refine V_getI 2 Z zc1 (by decide) rfl (by decide) rfl ⟨rfl, rfl, rfl⟩ w180 (show decode cX2_read 56 = .ok (.getfield 26, 3) by decide +kernel) ?_
    refine V_isub Z (show decode cX2_read 59 = .ok (.isub, 1) by decide +kernel) ?_
    exact V_iretM Z hE h (show decode cX2_read 60 = .ok (.ireturn, 1) by decide +kernel)
  have J30 : ∀ (M : zM), (f_X2_read_j30 t M).bind some = some y → VV E 4 30 [(0, Value.ref 36)] [] M := by
    intro  M h
    refine V_iconst (-1) (by decide) Z (show decode cX2_read 30 = .ok (.iconst (-1), 1) by decide +kernel) ?_
    refine V_aload_n 0 Z rfl rfl (show decode cX2_read 31 = .ok (.aload_n 0, 1) by decide +kernel) ?_
    refine V_getI 2 Z zc1 (by decide) rfl (by decide) rfl ⟨rfl, rfl, rfl⟩ w180 (show decode cX2_read 32 = .ok (.getfield 26, 3) by decide +kernel) ?_
    refine V_isub Z (show decode cX2_read 35 = .ok (.isub, 1) by decide +kernel) ?_
    exact V_iretM Z hE h (show decode cX2_read 36 = .ok (.ireturn, 1) by decide +kernel)
  refine V_aload_n 0 Z rfl rfl (show decode cX2_read 0 = .ok (.aload_n 0, 1) by decide +kernel) ?_
  refine V_aload_n 1 Z rfl rfl (show decode cX2_read 1 = .ok (.aload_n 1, 1) by decide +kernel) ?_
  obtain ⟨M1, e2, h⟩ := zB_let h
  refine V_putD 0 Z zc1 (by decide) rfl (by decide) rfl ⟨rfl, rfl, rfl⟩ rfl rfl w178 (show decode cX2_read 2 = .ok (.putfield 9, 3) by decide +kernel) ?_
  refine V_nmM e2 ?_
  refine V_aload_n 0 Z rfl rfl (show decode cX2_read 5 = .ok (.aload_n 0, 1) by decide +kernel) ?_
  refine V_iconst 0 (by decide) Z (show decode cX2_read 6 = .ok (.iconst 0, 1) by decide +kernel) ?_
  obtain ⟨M3, e4, h⟩ := zB_let h
  refine V_putI 3 Z zc1 (by decide) rfl (by decide) rfl ⟨rfl, rfl, rfl⟩ rfl rfl w181 (show decode cX2_read 7 = .ok (.putfield 15, 3) by decide +kernel) ?_
  refine V_nmM e4 ?_
  refine V_aload_n 0 Z rfl rfl (show decode cX2_read 10 = .ok (.aload_n 0, 1) by decide +kernel) ?_
  obtain ⟨M6, e5, h⟩ := zB_bind h
  refine V_callV (rest := []) 0 Z (ok_X2_step  e5) cd_X2_step zc1 (by decide) rfl w566 w568 w7 rfl (show decode cX2_read 11 = .ok (.invokevirtual 19, 3) by decide +kernel) rfl ?_
  refine V_iconst 1 (by decide) Z (show decode cX2_read 14 = .ok (.iconst 1, 1) by decide +kernel) ?_
  refine V_istore_n [(3, Value.int 1), (0, Value.ref 36), (1, Value.ref 34), (2, Value.ref t)] Z (by decide) rfl rfl (show decode cX2_read 15 = .ok (.istore_n 3, 1) by decide +kernel) ?_
  refine V_sub [1, 3, 0] rfl ?_
  refine zIter_loop' (K := some) (fun s : Int32 × zM => VV E 4 16 [(0, Value.ref 36), (2, Value.ref t), (3, Value.int s.1)] [] s.2) (fun K1 s c1_i c1_r h => ?_) _ _ h
  obtain ⟨y3, M⟩ := s
  change VV E 4 16 [(0, Value.ref 36), (2, Value.ref t), (3, Value.int y3)] [] M
  refine V_iload_n 2 Z rfl rfl (show decode cX2_read 16 = .ok (.iload_n 3, 1) by decide +kernel) ?_
  refine V_bipush 120 (by decide) Z (show decode cX2_read 17 = .ok (.bipush 120, 2) by decide +kernel) ?_
  refine V_icmp_gt 71 Z (by decide) (show decode cX2_read 19 = .ok (.if_icmp .gt 52, 3) by decide +kernel) (fun c7 => ?_) (fun c7 => ?_)
  · have h := zB_pos c7 h
    refine V_sub [0] rfl ?_
    have h := zB_lift c1_r h
    exact J71 _ h
  · have h := zB_neg c7 h
    refine V_aload_n 0 Z rfl rfl (show decode cX2_read 22 = .ok (.aload_n 0, 1) by decide +kernel) ?_
    refine V_aload_n 1 Z rfl rfl (show decode cX2_read 23 = .ok (.aload_n 2, 1) by decide +kernel) ?_
    obtain ⟨⟨v9, M10⟩, e8, h⟩ := zB_bind h
    refine V_callV (rest := []) 1 Z (ok_X2_item ht e8) cd_X2_item zc1 (by decide) rfl w589 w591 w10 rfl (show decode cX2_read 24 = .ok (.invokevirtual 22, 3) by decide +kernel) rfl ?_
    refine V_if_ne 37 Z (by decide) (show decode cX2_read 27 = .ok (.ifCond .ne 10, 3) by decide +kernel) (fun c11 => ?_) (fun c11 => ?_)
    · have h := zB_neg c11 h
      refine V_aload_n 0 Z rfl rfl (show decode cX2_read 37 = .ok (.aload_n 0, 1) by decide +kernel) ?_
      refine V_getI 1 Z zc1 (by decide) rfl (by decide) rfl ⟨rfl, rfl, rfl⟩ w179 (show decode cX2_read 38 = .ok (.getfield 29, 3) by decide +kernel) ?_
      refine V_if_ne 46 Z (by decide) (show decode cX2_read 41 = .ok (.ifCond .ne 5, 3) by decide +kernel) (fun c12 => ?_) (fun c12 => ?_)
      · have h := zB_neg c12 h
        refine V_aload_n 0 Z rfl rfl (show decode cX2_read 46 = .ok (.aload_n 0, 1) by decide +kernel) ?_
        refine V_getI 1 Z zc1 (by decide) rfl (by decide) rfl ⟨rfl, rfl, rfl⟩ w179 (show decode cX2_read 47 = .ok (.getfield 29, 3) by decide +kernel) ?_
        refine V_iconst 3 (by decide) Z (show decode cX2_read 50 = .ok (.iconst 3, 1) by decide +kernel) ?_
        refine V_icmp_eq 61 Z (by decide) (show decode cX2_read 51 = .ok (.if_icmp .eq 10, 3) by decide +kernel) (fun c13 => ?_) (fun c13 => ?_)
        · have h := zB_pos c13 h
          refine V_aload_n 0 Z rfl rfl (show decode cX2_read 61 = .ok (.aload_n 0, 1) by decide +kernel) ?_
          obtain ⟨M15, e14, h⟩ := zB_bind h
          refine V_callV (rest := []) 0 Z (ok_X2_step  e14) cd_X2_step zc1 (by decide) rfl w566 w568 w7 rfl (show decode cX2_read 62 = .ok (.invokevirtual 19, 3) by decide +kernel) rfl ?_
          obtain ⟨n16, e17, h⟩ := zB_let h
          refine V_iinck 1 1 2 n16 [(3, Value.int n16), (0, Value.ref 36), (2, Value.ref t)] Z (by decide) (by decide) rfl e17 rfl (show decode cX2_read 65 = .ok (.iinc 3 1, 3) by decide +kernel) ?_
          refine V_goto 16 Z (by decide) (show decode cX2_read 68 = .ok (.goto (-52), 3) by decide +kernel) ?_
          refine V_sub [1, 2, 0] rfl ?_
          exact c1_i _ h
        · have h := zB_neg c13 h
          refine V_sub [0] rfl ?_
          have h := zB_lift c1_r h
          exact J54 _ h
      · have h := zB_pos c12 h
        refine V_iload_n 2 Z rfl rfl (show decode cX2_read 44 = .ok (.iload_n 3, 1) by decide +kernel) ?_
        have h := c1_r _ h
        exact V_iretM Z hE h (show decode cX2_read 45 = .ok (.ireturn, 1) by decide +kernel)
    · have h := zB_pos c11 h
      refine V_sub [0] rfl ?_
      have h := zB_lift c1_r h
      exact J30 _ h
def f_X3_layOut_l20 (q : Nat) : Int32 × zM → Option ((Int32 × zM) ⊕ (zM))
  | (y3, M) =>
    if 40 ≤ y3 then
      some (.inr (M))
    else
      (zwr M (q + 1) y3 0).bind fun (M4 : zM) =>
      (some (y3 + 1)).bind fun (n6 : Int32) =>
      some (.inl ((n6, M4)))
def f_X3_layOut_j15 (q : Nat) (s0 : Int32) (M : zM) : Option (zM) :=
  (some (zU M q 2 s0)).bind fun (M1 : zM) =>
  zIter (f_X3_layOut_l20 q) 1000 (0, M1)
def f_X3_layOut (q : Nat) (x1 : Int32) (x2 : Int32) (M : zM) : Option (zM) :=
  (some (zU M q 1 x1)).bind fun (M8 : zM) =>
  if x1 = 0 then
    f_X3_layOut_j15 q 0 M8
  else
    f_X3_layOut_j15 q x2 M8
theorem cd_X3_layOut : zCd yX3_layOut cX3_layOut 4 none 2 := ⟨w701, w68, ⟨by decide, by decide⟩, by decide +kernel⟩
set_option maxHeartbeats 4000000 in
set_option maxRecDepth 20000 in
theorem ok_X3_layOut {q : Nat} {x1 : Int32} {x2 : Int32} {M : zM} {y : zM} (hq : isS q) (h : f_X3_layOut q x1 x2 M = some y) : zRuns yX3_layOut cX3_layOut 4 none 0 0 [.ref q, .int x1, .int x2] M none y := by
  refine zRuns_of (by decide +kernel) (Nat.le_of_ble_eq_true rfl) (fun E Z hE => ?_)
  have h := zB_top h
  change VV E 4 0 [(0, Value.ref q), (1, Value.int x1), (2, Value.int x2)] [] M
  have J15 : ∀ (s0 : Int32) (M : zM), (f_X3_layOut_j15 q s0 M).bind some = some y → VV E 4 15 [(0, Value.ref q)] [Value.int s0, Value.ref q] M := by
    intro s0 M h
    obtain ⟨M1, e2, h⟩ := zB_let h
    refine V_putI 2 Z zc2 (isS_lt hq) (shS hq) (by decide) rfl ⟨rfl, rfl, rfl⟩ rfl rfl w206 (show decode cX3_layOut 15 = .ok (.putfield 19, 3) by decide +kernel) ?_
    refine V_nmM e2 ?_
    refine V_iconst 0 (by decide) Z (show decode cX3_layOut 18 = .ok (.iconst 0, 1) by decide +kernel) ?_
    refine V_istore_n [(3, Value.int 0), (0, Value.ref q)] Z (by decide) rfl rfl (show decode cX3_layOut 19 = .ok (.istore_n 3, 1) by decide +kernel) ?_
    refine V_sub [1, 0] rfl ?_
    refine zIter_loop' (K := some) (fun s : Int32 × zM => VV E 4 20 [(0, Value.ref q), (3, Value.int s.1)] [] s.2) (fun K1 s c1_i c1_r h => ?_) _ _ h
    obtain ⟨y3, M⟩ := s
    change VV E 4 20 [(0, Value.ref q), (3, Value.int y3)] [] M
    refine V_iload_n 1 Z rfl rfl (show decode cX3_layOut 20 = .ok (.iload_n 3, 1) by decide +kernel) ?_
    refine V_bipush 40 (by decide) Z (show decode cX3_layOut 21 = .ok (.bipush 40, 2) by decide +kernel) ?_
    refine V_icmp_ge 39 Z (by decide) (show decode cX3_layOut 23 = .ok (.if_icmp .ge 16, 3) by decide +kernel) (fun c3 => ?_) (fun c3 => ?_)
    · have h := zB_pos c3 h
      have h := c1_r _ h
      exact V_vretM Z hE h (show decode cX3_layOut 39 = .ok (.return_, 1) by decide +kernel)
    · have h := zB_neg c3 h
      refine V_aload_n 0 Z rfl rfl (show decode cX3_layOut 26 = .ok (.aload_n 0, 1) by decide +kernel) ?_
      refine V_getR 0 (q + 1) Z zc2 (isS_lt hq) (shS hq) (by decide) rfl (isS_ne hq 1) ⟨rfl, rfl, rfl⟩ w201 (show decode cX3_layOut 27 = .ok (.getfield 9, 3) by decide +kernel) ?_
      refine V_iload_n 1 Z rfl rfl (show decode cX3_layOut 30 = .ok (.iload_n 3, 1) by decide +kernel) ?_
      refine V_iconst 0 (by decide) Z (show decode cX3_layOut 31 = .ok (.iconst 0, 1) by decide +kernel) ?_
      obtain ⟨M4, e5, h⟩ := zB_bind h
      refine V_iast Z e5 (show decode cX3_layOut 32 = .ok (.iastore, 1) by decide +kernel) ?_
      obtain ⟨n6, e7, h⟩ := zB_let h
      refine V_iinck 1 1 1 n6 [(3, Value.int n6), (0, Value.ref q)] Z (by decide) (by decide) rfl e7 rfl (show decode cX3_layOut 33 = .ok (.iinc 3 1, 3) by decide +kernel) ?_
      refine V_goto 20 Z (by decide) (show decode cX3_layOut 36 = .ok (.goto (-16), 3) by decide +kernel) ?_
      refine V_sub [1, 0] rfl ?_
      exact c1_i _ h
  refine V_aload_n 0 Z rfl rfl (show decode cX3_layOut 0 = .ok (.aload_n 0, 1) by decide +kernel) ?_
  refine V_iload_n 1 Z rfl rfl (show decode cX3_layOut 1 = .ok (.iload_n 1, 1) by decide +kernel) ?_
  obtain ⟨M8, e9, h⟩ := zB_let h
  refine V_putI 1 Z zc2 (isS_lt hq) (shS hq) (by decide) rfl ⟨rfl, rfl, rfl⟩ rfl rfl w204 (show decode cX3_layOut 2 = .ok (.putfield 15, 3) by decide +kernel) ?_
  refine V_nmM e9 ?_
  refine V_aload_n 0 Z rfl rfl (show decode cX3_layOut 5 = .ok (.aload_n 0, 1) by decide +kernel) ?_
  refine V_iload_n 1 Z rfl rfl (show decode cX3_layOut 6 = .ok (.iload_n 1, 1) by decide +kernel) ?_
  refine V_if_ne 14 Z (by decide) (show decode cX3_layOut 7 = .ok (.ifCond .ne 7, 3) by decide +kernel) (fun c10 => ?_) (fun c10 => ?_)
  · have h := zB_neg c10 h
    refine V_iload_n 2 Z rfl rfl (show decode cX3_layOut 14 = .ok (.iload_n 2, 1) by decide +kernel) ?_
    refine V_sub [0] rfl ?_
    exact J15 _ _ h
  · have h := zB_pos c10 h
    refine V_iconst 0 (by decide) Z (show decode cX3_layOut 10 = .ok (.iconst 0, 1) by decide +kernel) ?_
    refine V_goto 15 Z (by decide) (show decode cX3_layOut 11 = .ok (.goto 4, 3) by decide +kernel) ?_
    refine V_sub [0] rfl ?_
    exact J15 _ _ h
def f_X3_put (q : Nat) (x1 : Int32) (x2 : Int32) (M : zM) : Option (zM) :=
  if (M q 1) = 8 then
    (zwr M (q + 1) x1 ((x2 : Int32).toInt8.toInt32)).bind fun (M2 : zM) =>
    some (M2)
  else
    if (M q 1) = 16 then
      (zwr M (q + 1) x1 ((x2 : Int32).toInt16.toInt32)).bind fun (M5 : zM) =>
      some (M5)
    else
      (zwr M (q + 1) x1 x2).bind fun (M7 : zM) =>
      some (M7)
theorem cd_X3_put : zCd yX3_put cX3_put 3 none 2 := ⟨w709, w68, ⟨by decide, by decide⟩, by decide +kernel⟩
set_option maxHeartbeats 4000000 in
set_option maxRecDepth 20000 in
theorem ok_X3_put {q : Nat} {x1 : Int32} {x2 : Int32} {M : zM} {y : zM} (hq : isS q) (h : f_X3_put q x1 x2 M = some y) : zRuns yX3_put cX3_put 3 none 0 0 [.ref q, .int x1, .int x2] M none y := by
  refine zRuns_of (by decide +kernel) (Nat.le_of_ble_eq_true rfl) (fun E Z hE => ?_)
  have h := zB_top h
  change VV E 3 0 [(0, Value.ref q), (1, Value.int x1), (2, Value.int x2)] [] M
  refine V_aload_n 0 Z rfl rfl (show decode cX3_put 0 = .ok (.aload_n 0, 1) by decide +kernel) ?_
  refine V_getI 1 Z zc2 (isS_lt hq) (shS hq) (by decide) rfl ⟨rfl, rfl, rfl⟩ w204 (show decode cX3_put 1 = .ok (.getfield 15, 3) by decide +kernel) ?_
  rcases zB_ite h with ⟨c1, h⟩ | ⟨c1, h⟩
  · refine V_lookE 8 32 Z c1 (show decode cX3_put 4 = .ok (.lookupswitch 50 #[(8, 28), (16, 39)], 28) by decide +kernel) (by decide) ?_
    refine V_aload_n 0 Z rfl rfl (show decode cX3_put 32 = .ok (.aload_n 0, 1) by decide +kernel) ?_
    refine V_getR 0 (q + 1) Z zc2 (isS_lt hq) (shS hq) (by decide) rfl (isS_ne hq 1) ⟨rfl, rfl, rfl⟩ w201 (show decode cX3_put 33 = .ok (.getfield 9, 3) by decide +kernel) ?_
    refine V_iload_n 1 Z rfl rfl (show decode cX3_put 36 = .ok (.iload_n 1, 1) by decide +kernel) ?_
    refine V_iload_n 2 Z rfl rfl (show decode cX3_put 37 = .ok (.iload_n 2, 1) by decide +kernel) ?_
    refine V_i2b Z (show decode cX3_put 38 = .ok (.i2b, 1) by decide +kernel) ?_
    obtain ⟨M2, e3, h⟩ := zB_bind h
    refine V_iast Z e3 (show decode cX3_put 39 = .ok (.iastore, 1) by decide +kernel) ?_
    refine V_goto 61 Z (by decide) (show decode cX3_put 40 = .ok (.goto 21, 3) by decide +kernel) ?_
    exact V_vretM Z hE h (show decode cX3_put 61 = .ok (.return_, 1) by decide +kernel)
  · skip
    rcases zB_ite h with ⟨c4, h⟩ | ⟨c4, h⟩
    · refine V_lookE 16 43 Z c4 (show decode cX3_put 4 = .ok (.lookupswitch 50 #[(8, 28), (16, 39)], 28) by decide +kernel) (by decide) ?_
      refine V_aload_n 0 Z rfl rfl (show decode cX3_put 43 = .ok (.aload_n 0, 1) by decide +kernel) ?_
      refine V_getR 0 (q + 1) Z zc2 (isS_lt hq) (shS hq) (by decide) rfl (isS_ne hq 1) ⟨rfl, rfl, rfl⟩ w201 (show decode cX3_put 44 = .ok (.getfield 9, 3) by decide +kernel) ?_
      refine V_iload_n 1 Z rfl rfl (show decode cX3_put 47 = .ok (.iload_n 1, 1) by decide +kernel) ?_
      refine V_iload_n 2 Z rfl rfl (show decode cX3_put 48 = .ok (.iload_n 2, 1) by decide +kernel) ?_
      refine V_i2s Z (show decode cX3_put 49 = .ok (.i2s, 1) by decide +kernel) ?_
      obtain ⟨M5, e6, h⟩ := zB_bind h
      refine V_iast Z e6 (show decode cX3_put 50 = .ok (.iastore, 1) by decide +kernel) ?_
      refine V_goto 61 Z (by decide) (show decode cX3_put 51 = .ok (.goto 10, 3) by decide +kernel) ?_
      exact V_vretM Z hE h (show decode cX3_put 61 = .ok (.return_, 1) by decide +kernel)
    · skip
      refine V_lookD 54 Z (show decode cX3_put 4 = .ok (.lookupswitch 50 #[(8, 28), (16, 39)], 28) by decide +kernel) (by
          intro p hp e
          simp only [List.mem_cons, List.not_mem_nil, or_false] at hp
          rcases hp with rfl | rfl
          · exact c1 e
          · exact c4 e) (by decide) ?_
      refine V_aload_n 0 Z rfl rfl (show decode cX3_put 54 = .ok (.aload_n 0, 1) by decide +kernel) ?_
      refine V_getR 0 (q + 1) Z zc2 (isS_lt hq) (shS hq) (by decide) rfl (isS_ne hq 1) ⟨rfl, rfl, rfl⟩ w201 (show decode cX3_put 55 = .ok (.getfield 9, 3) by decide +kernel) ?_
      refine V_iload_n 1 Z rfl rfl (show decode cX3_put 58 = .ok (.iload_n 1, 1) by decide +kernel) ?_
      refine V_iload_n 2 Z rfl rfl (show decode cX3_put 59 = .ok (.iload_n 2, 1) by decide +kernel) ?_
      obtain ⟨M7, e8, h⟩ := zB_bind h
      refine V_iast Z e8 (show decode cX3_put 60 = .ok (.iastore, 1) by decide +kernel) ?_
      exact V_vretM Z hE h (show decode cX3_put 61 = .ok (.return_, 1) by decide +kernel)
