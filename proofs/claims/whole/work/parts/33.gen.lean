/-! Generated walks: X6_isUnder X6_as X6_cutTo X6_sheet X6_write -/
def f_X6_isUnder_j19 (y2 : Int32) (M : zM) : Option (Int32) :=
  if y2 < 0 then
    some ((0 : Int32))
  else
    some ((1 : Int32))
def f_X6_isUnder_l2 (y1 : Int32) (M : zM) : Int32 → Option ((Int32) ⊕ (Int32))
  | y2 =>
    if y2 < 0 then
      (f_X6_isUnder_j19 y2 M).bind fun z => some (Sum.inr z)
    else
      if y2 = y1 then
        (f_X6_isUnder_j19 y2 M).bind fun z => some (Sum.inr z)
      else
        (f_X6_above y2 M).bind fun (v5 : Int32) =>
        some (.inl (v5))
def f_X6_isUnder (x0 : Int32) (x1 : Int32) (M : zM) : Option (Int32) :=
  zIter (f_X6_isUnder_l2 x1 M) 1000 (x0)
theorem cd_X6_isUnder : zCd yX6_isUnder cX6_isUnder 3 (some .boolean) 2 := ⟨w1225, w69, ⟨by decide, by decide⟩, by decide +kernel⟩
set_option maxHeartbeats 4000000 in
set_option maxRecDepth 20000 in
theorem ok_X6_isUnder {x0 : Int32} {x1 : Int32} {M : zM} {y : Int32}  (h : f_X6_isUnder x0 x1 M = some y) : zRuns yX6_isUnder cX6_isUnder 3 (some .boolean) 1 20 [.int x0, .int x1] M (some (.int y)) M := by
  refine zRuns_of (by decide +kernel) (Nat.le_of_ble_eq_true rfl) (fun E Z hE => ?_)
  have h := zB_top h
  change VV E 3 0 [(0, Value.int x0), (1, Value.int x1)] [] M
  have J19 : ∀ (y2 : Int32), (f_X6_isUnder_j19 y2 M).bind some = some y → VV E 3 19 [(2, Value.int y2)] [] M := by
    intro y2 h
    refine V_iload_n 0 Z rfl rfl (show decode cX6_isUnder 19 = .ok (.iload_n 2, 1) by decide +kernel) ?_
    refine V_if_lt 27 Z (by decide) (show decode cX6_isUnder 20 = .ok (.ifCond .lt 7, 3) by decide +kernel) (fun c1 => ?_) (fun c1 => ?_)
    · have h := zB_pos c1 h
      refine V_iconst 0 (by decide) Z (show decode cX6_isUnder 27 = .ok (.iconst 0, 1) by decide +kernel) ?_
      exact V_zretP Z hE h rfl (show decode cX6_isUnder 28 = .ok (.ireturn, 1) by decide +kernel)
    · have h := zB_neg c1 h
      refine V_iconst 1 (by decide) Z (show decode cX6_isUnder 23 = .ok (.iconst 1, 1) by decide +kernel) ?_
      refine V_goto 28 Z (by decide) (show decode cX6_isUnder 24 = .ok (.goto 4, 3) by decide +kernel) ?_
      exact V_zretP Z hE h rfl (show decode cX6_isUnder 28 = .ok (.ireturn, 1) by decide +kernel)
  refine V_iload_n 0 Z rfl rfl (show decode cX6_isUnder 0 = .ok (.iload_n 0, 1) by decide +kernel) ?_
  refine V_istore_n [(2, Value.int x0), (0, Value.int x0), (1, Value.int x1)] Z (by decide) rfl rfl (show decode cX6_isUnder 1 = .ok (.istore_n 2, 1) by decide +kernel) ?_
  refine V_sub [2, 0] rfl ?_
  refine zIter_loop' (K := some) (fun s : Int32 => VV E 3 2 [(1, Value.int x1), (2, Value.int s)] [] M) (fun K1 y2 c1_i c1_r h => ?_) _ _ h
  refine V_iload_n 1 Z rfl rfl (show decode cX6_isUnder 2 = .ok (.iload_n 2, 1) by decide +kernel) ?_
  refine V_if_lt 19 Z (by decide) (show decode cX6_isUnder 3 = .ok (.ifCond .lt 16, 3) by decide +kernel) (fun c2 => ?_) (fun c2 => ?_)
  · have h := zB_pos c2 h
    refine V_sub [1] rfl ?_
    have h := zB_lift c1_r h
    exact J19 _ h
  · have h := zB_neg c2 h
    refine V_iload_n 1 Z rfl rfl (show decode cX6_isUnder 6 = .ok (.iload_n 2, 1) by decide +kernel) ?_
    refine V_iload_n 0 Z rfl rfl (show decode cX6_isUnder 7 = .ok (.iload_n 1, 1) by decide +kernel) ?_
    refine V_icmp_eq 19 Z (by decide) (show decode cX6_isUnder 8 = .ok (.if_icmp .eq 11, 3) by decide +kernel) (fun c3 => ?_) (fun c3 => ?_)
    · have h := zB_pos c3 h
      refine V_sub [1] rfl ?_
      have h := zB_lift c1_r h
      exact J19 _ h
    · have h := zB_neg c3 h
      refine V_iload_n 1 Z rfl rfl (show decode cX6_isUnder 11 = .ok (.iload_n 2, 1) by decide +kernel) ?_
      obtain ⟨v5, e4, h⟩ := zB_bind h
      refine V_callS (rest := []) 1 Z (ok_X6_above  e4) cd_X6_above w1226 w1227 rfl (show decode cX6_isUnder 12 = .ok (.invokestatic 326, 3) by decide +kernel) rfl ?_
      refine V_istore_n [(2, Value.int v5), (1, Value.int x1)] Z (by decide) rfl rfl (show decode cX6_isUnder 15 = .ok (.istore_n 2, 1) by decide +kernel) ?_
      refine V_goto 2 Z (by decide) (show decode cX6_isUnder 16 = .ok (.goto (-14), 3) by decide +kernel) ?_
      refine V_sub [1, 0] rfl ?_
      exact c1_i _ h
def f_X6_as_j14 (M : zM) : Option (Int32 × zM) :=
  (f_X6_finding (-1000001) M).bind fun ((v2, M3) : Int32 × zM) =>
  some ((v2, M3))
def f_X6_as (x1 : Int32) (x2 : Int32) (M : zM) : Option (Int32 × zM) :=
  (f_X6_isSpot x1 M).bind fun (v5 : Int32) =>
  if v5 = 0 then
    f_X6_as_j14  M
  else
    (f_X6_isKind x2 M).bind fun (v8 : Int32) =>
    if v8 = 0 then
      f_X6_as_j14  M
    else
      (zrd M 48 (5 + x1)).bind fun (v10 : Int32) =>
      if 0 ≤ v10 then
        (f_X6_nameIs v10 0 M).bind fun (v14 : Int32) =>
        (f_X6_isUnder v14 x2 M).bind fun (v16 : Int32) =>
        if v16 = 0 then
          (f_X6_finding (-1000003) M).bind fun ((v19, M20) : Int32 × zM) =>
          some ((v19, M20))
        else
          some ((v10, M))
      else
        (f_X6_finding (-1000006) M).bind fun ((v22, M23) : Int32 × zM) =>
        some ((v22, M23))
theorem cd_X6_as : zCd yX6_as cX6_as 4 (some .int) 2 := ⟨w1222, w69, ⟨by decide, by decide⟩, by decide +kernel⟩
set_option maxHeartbeats 4000000 in
set_option maxRecDepth 20000 in
theorem ok_X6_as {x1 : Int32} {x2 : Int32} {M : zM} {y : Int32 × zM}  (h : f_X6_as x1 x2 M = some y) : zRuns yX6_as cX6_as 4 (some .int) 2 43 [.ref 47, .int x1, .int x2] M (some (.int y.1)) y.2 := by
  refine zRuns_of (by decide +kernel) (Nat.le_of_ble_eq_true rfl) (fun E Z hE => ?_)
  have h := zB_top h
  change VV E 4 0 [(0, Value.ref 47), (1, Value.int x1), (2, Value.int x2)] [] M
  have J14 : ∀ (M : zM), (f_X6_as_j14  M).bind some = some y → VV E 4 14 [(0, Value.ref 47)] [] M := by
    intro  M h
    refine V_aload_n 0 Z rfl rfl (show decode cX6_as 14 = .ok (.aload_n 0, 1) by decide +kernel) ?_
    refine V_ldc (-1000001) Z w843 (show decode cX6_as 15 = .ok (.ldc 66, 2) by decide +kernel) ?_
    obtain ⟨⟨v2, M3⟩, e1, h⟩ := zB_bind h
    refine V_callV (rest := []) 1 Z (ok_X6_finding  e1) cd_X6_finding zc5 (by decide) rfl w844 w846 w17 rfl (show decode cX6_as 17 = .ok (.invokevirtual 72, 3) by decide +kernel) rfl ?_
    exact V_iretM Z hE h (show decode cX6_as 20 = .ok (.ireturn, 1) by decide +kernel)
  refine V_iload_n 1 Z rfl rfl (show decode cX6_as 0 = .ok (.iload_n 1, 1) by decide +kernel) ?_
  obtain ⟨v5, e4, h⟩ := zB_bind h
  refine V_callS (rest := []) 1 Z (ok_X6_isSpot  e4) cd_X6_isSpot w1216 w1217 rfl (show decode cX6_as 1 = .ok (.invokestatic 315, 3) by decide +kernel) rfl ?_
  refine V_if_eq 14 Z (by decide) (show decode cX6_as 4 = .ok (.ifCond .eq 10, 3) by decide +kernel) (fun c6 => ?_) (fun c6 => ?_)
  · have h := zB_pos c6 h
    refine V_sub [0] rfl ?_
    exact J14 _ h
  · have h := zB_neg c6 h
    refine V_iload_n 2 Z rfl rfl (show decode cX6_as 7 = .ok (.iload_n 2, 1) by decide +kernel) ?_
    obtain ⟨v8, e7, h⟩ := zB_bind h
    refine V_callS (rest := []) 1 Z (ok_X6_isKind  e7) cd_X6_isKind w837 w838 rfl (show decode cX6_as 8 = .ok (.invokestatic 84, 3) by decide +kernel) rfl ?_
    refine V_if_ne 21 Z (by decide) (show decode cX6_as 11 = .ok (.ifCond .ne 10, 3) by decide +kernel) (fun c9 => ?_) (fun c9 => ?_)
    · have h := zB_neg c9 h
      refine V_aload_n 0 Z rfl rfl (show decode cX6_as 21 = .ok (.aload_n 0, 1) by decide +kernel) ?_
      refine V_getR 0 48 Z zc5 (by decide) rfl (by decide) rfl (by decide) ⟨rfl, rfl, rfl⟩ w766 (show decode cX6_as 22 = .ok (.getfield 9, 3) by decide +kernel) ?_
      refine V_iconst 5 (by decide) Z (show decode cX6_as 25 = .ok (.iconst 5, 1) by decide +kernel) ?_
      refine V_iload_n 1 Z rfl rfl (show decode cX6_as 26 = .ok (.iload_n 1, 1) by decide +kernel) ?_
      refine V_iadd Z (show decode cX6_as 27 = .ok (.iadd, 1) by decide +kernel) ?_
      obtain ⟨v10, e11, h⟩ := zB_bind h
      refine V_iald Z e11 (show decode cX6_as 28 = .ok (.iaload, 1) by decide +kernel) ?_
      refine V_istore_n [(3, Value.int v10), (0, Value.ref 47), (1, Value.int x1), (2, Value.int x2)] Z (by decide) rfl rfl (show decode cX6_as 29 = .ok (.istore_n 3, 1) by decide +kernel) ?_
      refine V_iload_n 0 Z rfl rfl (show decode cX6_as 30 = .ok (.iload_n 3, 1) by decide +kernel) ?_
      refine V_if_ge 41 Z (by decide) (show decode cX6_as 31 = .ok (.ifCond .ge 10, 3) by decide +kernel) (fun c12 => ?_) (fun c12 => ?_)
      · have h := zB_pos c12 h
        refine V_aload_n 1 Z rfl rfl (show decode cX6_as 41 = .ok (.aload_n 0, 1) by decide +kernel) ?_
        refine V_iload_n 0 Z rfl rfl (show decode cX6_as 42 = .ok (.iload_n 3, 1) by decide +kernel) ?_
        refine V_iconst 0 (by decide) Z (show decode cX6_as 43 = .ok (.iconst 0, 1) by decide +kernel) ?_
        obtain ⟨v14, e13, h⟩ := zB_bind h
        refine V_callV (rest := []) 2 Z (ok_X6_nameIs  e13) cd_X6_nameIs zc5 (by decide) rfl w868 w870 w21 rfl (show decode cX6_as 44 = .ok (.invokevirtual 93, 3) by decide +kernel) rfl ?_
        refine V_iload_n 3 Z rfl rfl (show decode cX6_as 47 = .ok (.iload_n 2, 1) by decide +kernel) ?_
        obtain ⟨v16, e15, h⟩ := zB_bind h
        refine V_callS (rest := []) 2 Z (ok_X6_isUnder  e15) cd_X6_isUnder w1223 w1224 rfl (show decode cX6_as 48 = .ok (.invokestatic 318, 3) by decide +kernel) rfl ?_
        refine V_if_eq 58 Z (by decide) (show decode cX6_as 51 = .ok (.ifCond .eq 7, 3) by decide +kernel) (fun c17 => ?_) (fun c17 => ?_)
        · have h := zB_pos c17 h
          refine V_aload_n 1 Z rfl rfl (show decode cX6_as 58 = .ok (.aload_n 0, 1) by decide +kernel) ?_
          refine V_ldcw (-1000003) Z w1229 (show decode cX6_as 59 = .ok (.ldc_w 321, 3) by decide +kernel) ?_
          obtain ⟨⟨v19, M20⟩, e18, h⟩ := zB_bind h
          refine V_callV (rest := []) 1 Z (ok_X6_finding  e18) cd_X6_finding zc5 (by decide) rfl w844 w846 w17 rfl (show decode cX6_as 62 = .ok (.invokevirtual 72, 3) by decide +kernel) rfl ?_
          exact V_iretM Z hE h (show decode cX6_as 65 = .ok (.ireturn, 1) by decide +kernel)
        · have h := zB_neg c17 h
          refine V_iload_n 0 Z rfl rfl (show decode cX6_as 54 = .ok (.iload_n 3, 1) by decide +kernel) ?_
          refine V_goto 65 Z (by decide) (show decode cX6_as 55 = .ok (.goto 10, 3) by decide +kernel) ?_
          exact V_iretM Z hE h (show decode cX6_as 65 = .ok (.ireturn, 1) by decide +kernel)
      · have h := zB_neg c12 h
        refine V_aload_n 1 Z rfl rfl (show decode cX6_as 34 = .ok (.aload_n 0, 1) by decide +kernel) ?_
        refine V_ldc (-1000006) Z w1122 (show decode cX6_as 35 = .ok (.ldc 222, 2) by decide +kernel) ?_
        obtain ⟨⟨v22, M23⟩, e21, h⟩ := zB_bind h
        refine V_callV (rest := []) 1 Z (ok_X6_finding  e21) cd_X6_finding zc5 (by decide) rfl w844 w846 w17 rfl (show decode cX6_as 37 = .ok (.invokevirtual 72, 3) by decide +kernel) rfl ?_
        exact V_iretM Z hE h (show decode cX6_as 40 = .ok (.ireturn, 1) by decide +kernel)
    · have h := zB_pos c9 h
      refine V_sub [0] rfl ?_
      exact J14 _ h
def f_X6_cutTo (x0 : Int32) (x1 : Int32) (M : zM) : Option (Int32) :=
  if x1 = 8 then
    some (((x0 : Int32).toInt8.toInt32))
  else
    if x1 = 16 then
      some (((x0 : Int32).toInt16.toInt32))
    else
      some (x0)
theorem cd_X6_cutTo : zCd yX6_cutTo cX6_cutTo 2 (some .int) 2 := ⟨w1241, w69, ⟨by decide, by decide⟩, by decide +kernel⟩
set_option maxHeartbeats 4000000 in
set_option maxRecDepth 20000 in
theorem ok_X6_cutTo {x0 : Int32} {x1 : Int32} {M : zM} {y : Int32}  (h : f_X6_cutTo x0 x1 M = some y) : zRuns yX6_cutTo cX6_cutTo 2 (some .int) 0 0 [.int x0, .int x1] M (some (.int y)) M := by
  refine zRuns_of (by decide +kernel) (Nat.le_of_ble_eq_true rfl) (fun E Z hE => ?_)
  have h := zB_top h
  change VV E 2 0 [(0, Value.int x0), (1, Value.int x1)] [] M
  refine V_iload_n 1 Z rfl rfl (show decode cX6_cutTo 0 = .ok (.iload_n 1, 1) by decide +kernel) ?_
  refine V_bipush 8 (by decide) Z (show decode cX6_cutTo 1 = .ok (.bipush 8, 2) by decide +kernel) ?_
  refine V_icmp_ne 11 Z (by decide) (show decode cX6_cutTo 3 = .ok (.if_icmp .ne 8, 3) by decide +kernel) (fun c1 => ?_) (fun c1 => ?_)
  · have h := zB_neg c1 h
    refine V_iload_n 1 Z rfl rfl (show decode cX6_cutTo 11 = .ok (.iload_n 1, 1) by decide +kernel) ?_
    refine V_bipush 16 (by decide) Z (show decode cX6_cutTo 12 = .ok (.bipush 16, 2) by decide +kernel) ?_
    refine V_icmp_ne 22 Z (by decide) (show decode cX6_cutTo 14 = .ok (.if_icmp .ne 8, 3) by decide +kernel) (fun c2 => ?_) (fun c2 => ?_)
    · have h := zB_neg c2 h
      refine V_iload_n 0 Z rfl rfl (show decode cX6_cutTo 22 = .ok (.iload_n 0, 1) by decide +kernel) ?_
      exact V_iretP Z hE h (show decode cX6_cutTo 23 = .ok (.ireturn, 1) by decide +kernel)
    · have h := zB_pos c2 h
      refine V_iload_n 0 Z rfl rfl (show decode cX6_cutTo 17 = .ok (.iload_n 0, 1) by decide +kernel) ?_
      refine V_i2s Z (show decode cX6_cutTo 18 = .ok (.i2s, 1) by decide +kernel) ?_
      refine V_goto 23 Z (by decide) (show decode cX6_cutTo 19 = .ok (.goto 4, 3) by decide +kernel) ?_
      exact V_iretP Z hE h (show decode cX6_cutTo 23 = .ok (.ireturn, 1) by decide +kernel)
  · have h := zB_pos c1 h
    refine V_iload_n 0 Z rfl rfl (show decode cX6_cutTo 6 = .ok (.iload_n 0, 1) by decide +kernel) ?_
    refine V_i2b Z (show decode cX6_cutTo 7 = .ok (.i2b, 1) by decide +kernel) ?_
    refine V_goto 23 Z (by decide) (show decode cX6_cutTo 8 = .ok (.goto 15, 3) by decide +kernel) ?_
    exact V_iretP Z hE h (show decode cX6_cutTo 23 = .ok (.ireturn, 1) by decide +kernel)
def f_X6_sheet_j112 (y1 : Int32) (M : zM) : Option (Int32 × zM) :=
  (zrd M 58 y1).bind fun (v1 : Int32) =>
  some ((v1, M))
def f_X6_sheet_l86 (y1 : Int32) : Int32 × zM → Option ((Int32 × zM) ⊕ (Int32 × zM))
  | (y4, M) =>
    if 40 ≤ y4 then
      (f_X6_sheet_j112 y1 M).bind fun z => some (Sum.inr z)
    else
      (zwr M 59 ((40 * y1) + y4) 0).bind fun (M6 : zM) =>
      (some (y4 + 1)).bind fun (n8 : Int32) =>
      some (.inl ((n8, M6)))
def f_X6_sheet_j82 (y1 : Int32) (s0 : Int32) (s1 : Int32) (M : zM) : Option (Int32 × zM) :=
  (zwr M 58 s1 s0).bind fun (M3 : zM) =>
  zIter (f_X6_sheet_l86 y1) 1000 (0, M3)
def f_X6_sheet_j36 (y1 : Int32) (y2 : Int32) (y3 : Int32) (M : zM) : Option (Int32 × zM) :=
  if 0 ≤ y3 then
    if y3 ≤ 40 then
      (zwr M 57 y1 y2).bind fun (M12 : zM) =>
      if y2 = 0 then
        f_X6_sheet_j82 y1 0 y1 M12
      else
        f_X6_sheet_j82 y1 y3 y1 M12
    else
      (f_X6_finding (-1000001) M).bind fun ((v16, M17) : Int32 × zM) =>
      some ((v16, M17))
  else
    (f_X6_finding (-1000007) M).bind fun ((v19, M20) : Int32 × zM) =>
    some ((v19, M20))
def f_X6_sheet_j29 (M : zM) : Option (Int32 × zM) :=
  (f_X6_finding (-1000001) M).bind fun ((v22, M23) : Int32 × zM) =>
  some ((v22, M23))
def f_X6_sheet (x1 : Int32) (x2 : Int32) (x3 : Int32) (M : zM) : Option (Int32 × zM) :=
  (f_X6_isSheet x1 M).bind fun (v25 : Int32) =>
  if v25 = 0 then
    f_X6_sheet_j29  M
  else
    if x2 = 0 then
      f_X6_sheet_j36 x1 x2 x3 M
    else
      if x2 = 8 then
        f_X6_sheet_j36 x1 x2 x3 M
      else
        if x2 = 16 then
          f_X6_sheet_j36 x1 x2 x3 M
        else
          if x2 = 32 then
            f_X6_sheet_j36 x1 x2 x3 M
          else
            f_X6_sheet_j29  M
theorem cd_X6_sheet : zCd yX6_sheet cX6_sheet 5 (some .int) 3 := ⟨w1233, w69, ⟨by decide, by decide⟩, by decide +kernel⟩
set_option maxHeartbeats 4000000 in
set_option maxRecDepth 20000 in
theorem ok_X6_sheet {x1 : Int32} {x2 : Int32} {x3 : Int32} {M : zM} {y : Int32 × zM}  (h : f_X6_sheet x1 x2 x3 M = some y) : zRuns yX6_sheet cX6_sheet 5 (some .int) 2 42 [.ref 47, .int x1, .int x2, .int x3] M (some (.int y.1)) y.2 := by
  refine zRuns_of (by decide +kernel) (Nat.le_of_ble_eq_true rfl) (fun E Z hE => ?_)
  have h := zB_top h
  change VV E 5 0 [(0, Value.ref 47), (1, Value.int x1), (2, Value.int x2), (3, Value.int x3)] [] M
  have J112 : ∀ (y1 : Int32) (M : zM), (f_X6_sheet_j112 y1 M).bind some = some y → VV E 5 112 [(0, Value.ref 47), (1, Value.int y1)] [] M := by
    intro y1 M h
    refine V_aload_n 0 Z rfl rfl (show decode cX6_sheet 112 = .ok (.aload_n 0, 1) by decide +kernel) ?_
    refine V_getR 19 58 Z zc5 (by decide) rfl (by decide) rfl (by decide) ⟨rfl, rfl, rfl⟩ w785 (show decode cX6_sheet 113 = .ok (.getfield 57, 3) by decide +kernel) ?_
    refine V_iload_n 1 Z rfl rfl (show decode cX6_sheet 116 = .ok (.iload_n 1, 1) by decide +kernel) ?_
    obtain ⟨v1, e2, h⟩ := zB_bind h
    refine V_iald Z e2 (show decode cX6_sheet 117 = .ok (.iaload, 1) by decide +kernel) ?_
    exact V_iretM Z hE h (show decode cX6_sheet 118 = .ok (.ireturn, 1) by decide +kernel)
  have J82 : ∀ (y1 : Int32) (s0 : Int32) (s1 : Int32) (M : zM), (f_X6_sheet_j82 y1 s0 s1 M).bind some = some y → VV E 5 82 [(0, Value.ref 47), (1, Value.int y1)] [Value.int s0, Value.int s1, Value.ref 58] M := by
    intro y1 s0 s1 M h
    obtain ⟨M3, e4, h⟩ := zB_bind h
    refine V_iast Z e4 (show decode cX6_sheet 82 = .ok (.iastore, 1) by decide +kernel) ?_
    refine V_iconst 0 (by decide) Z (show decode cX6_sheet 83 = .ok (.iconst 0, 1) by decide +kernel) ?_
    refine V_istore [(4, Value.int 0), (0, Value.ref 47), (1, Value.int y1)] Z (by decide) rfl (show decode cX6_sheet 84 = .ok (.istore 4, 2) by decide +kernel) ?_
    refine V_sub [1, 2, 0] rfl ?_
    refine zIter_loop' (K := some) (fun s : Int32 × zM => VV E 5 86 [(0, Value.ref 47), (1, Value.int y1), (4, Value.int s.1)] [] s.2) (fun K1 s c1_i c1_r h => ?_) _ _ h
    obtain ⟨y4, M⟩ := s
    change VV E 5 86 [(0, Value.ref 47), (1, Value.int y1), (4, Value.int y4)] [] M
    refine V_iload 2 Z rfl (show decode cX6_sheet 86 = .ok (.iload 4, 2) by decide +kernel) ?_
    refine V_bipush 40 (by decide) Z (show decode cX6_sheet 88 = .ok (.bipush 40, 2) by decide +kernel) ?_
    refine V_icmp_ge 112 Z (by decide) (show decode cX6_sheet 90 = .ok (.if_icmp .ge 22, 3) by decide +kernel) (fun c5 => ?_) (fun c5 => ?_)
    · have h := zB_pos c5 h
      refine V_sub [0, 1] rfl ?_
      have h := zB_lift c1_r h
      exact J112 _ _ h
    · have h := zB_neg c5 h
      refine V_aload_n 0 Z rfl rfl (show decode cX6_sheet 93 = .ok (.aload_n 0, 1) by decide +kernel) ?_
      refine V_getR 20 59 Z zc5 (by decide) rfl (by decide) rfl (by decide) ⟨rfl, rfl, rfl⟩ w786 (show decode cX6_sheet 94 = .ok (.getfield 60, 3) by decide +kernel) ?_
      refine V_bipush 40 (by decide) Z (show decode cX6_sheet 97 = .ok (.bipush 40, 2) by decide +kernel) ?_
      refine V_iload_n 1 Z rfl rfl (show decode cX6_sheet 99 = .ok (.iload_n 1, 1) by decide +kernel) ?_
      refine V_imul Z (show decode cX6_sheet 100 = .ok (.imul, 1) by decide +kernel) ?_
      refine V_iload 2 Z rfl (show decode cX6_sheet 101 = .ok (.iload 4, 2) by decide +kernel) ?_
      refine V_iadd Z (show decode cX6_sheet 103 = .ok (.iadd, 1) by decide +kernel) ?_
      refine V_iconst 0 (by decide) Z (show decode cX6_sheet 104 = .ok (.iconst 0, 1) by decide +kernel) ?_
      obtain ⟨M6, e7, h⟩ := zB_bind h
      refine V_iast Z e7 (show decode cX6_sheet 105 = .ok (.iastore, 1) by decide +kernel) ?_
      obtain ⟨n8, e9, h⟩ := zB_let h
      refine V_iinck 1 1 2 n8 [(4, Value.int n8), (0, Value.ref 47), (1, Value.int y1)] Z (by decide) (by decide) rfl e9 rfl (show decode cX6_sheet 106 = .ok (.iinc 4 1, 3) by decide +kernel) ?_
      refine V_goto 86 Z (by decide) (show decode cX6_sheet 109 = .ok (.goto (-23), 3) by decide +kernel) ?_
      refine V_sub [1, 2, 0] rfl ?_
      exact c1_i _ h
  have J36 : ∀ (y1 : Int32) (y2 : Int32) (y3 : Int32) (M : zM), (f_X6_sheet_j36 y1 y2 y3 M).bind some = some y → VV E 5 36 [(0, Value.ref 47), (1, Value.int y1), (2, Value.int y2), (3, Value.int y3)] [] M := by
    intro y1 y2 y3 M h
    refine V_iload_n 3 Z rfl rfl (show decode cX6_sheet 36 = .ok (.iload_n 3, 1) by decide +kernel) ?_
    refine V_if_ge 48 Z (by decide) (show decode cX6_sheet 37 = .ok (.ifCond .ge 11, 3) by decide +kernel) (fun c10 => ?_) (fun c10 => ?_)
    · have h := zB_pos c10 h
      refine V_iload_n 3 Z rfl rfl (show decode cX6_sheet 48 = .ok (.iload_n 3, 1) by decide +kernel) ?_
      refine V_bipush 40 (by decide) Z (show decode cX6_sheet 49 = .ok (.bipush 40, 2) by decide +kernel) ?_
      refine V_icmp_le 61 Z (by decide) (show decode cX6_sheet 51 = .ok (.if_icmp .le 10, 3) by decide +kernel) (fun c11 => ?_) (fun c11 => ?_)
      · have h := zB_pos c11 h
        refine V_aload_n 0 Z rfl rfl (show decode cX6_sheet 61 = .ok (.aload_n 0, 1) by decide +kernel) ?_
        refine V_getR 18 57 Z zc5 (by decide) rfl (by decide) rfl (by decide) ⟨rfl, rfl, rfl⟩ w784 (show decode cX6_sheet 62 = .ok (.getfield 54, 3) by decide +kernel) ?_
        refine V_iload_n 1 Z rfl rfl (show decode cX6_sheet 65 = .ok (.iload_n 1, 1) by decide +kernel) ?_
        refine V_iload_n 2 Z rfl rfl (show decode cX6_sheet 66 = .ok (.iload_n 2, 1) by decide +kernel) ?_
        obtain ⟨M12, e13, h⟩ := zB_bind h
        refine V_iast Z e13 (show decode cX6_sheet 67 = .ok (.iastore, 1) by decide +kernel) ?_
        refine V_aload_n 0 Z rfl rfl (show decode cX6_sheet 68 = .ok (.aload_n 0, 1) by decide +kernel) ?_
        refine V_getR 19 58 Z zc5 (by decide) rfl (by decide) rfl (by decide) ⟨rfl, rfl, rfl⟩ w785 (show decode cX6_sheet 69 = .ok (.getfield 57, 3) by decide +kernel) ?_
        refine V_iload_n 1 Z rfl rfl (show decode cX6_sheet 72 = .ok (.iload_n 1, 1) by decide +kernel) ?_
        refine V_iload_n 2 Z rfl rfl (show decode cX6_sheet 73 = .ok (.iload_n 2, 1) by decide +kernel) ?_
        refine V_if_ne 81 Z (by decide) (show decode cX6_sheet 74 = .ok (.ifCond .ne 7, 3) by decide +kernel) (fun c14 => ?_) (fun c14 => ?_)
        · have h := zB_neg c14 h
          refine V_iload_n 3 Z rfl rfl (show decode cX6_sheet 81 = .ok (.iload_n 3, 1) by decide +kernel) ?_
          refine V_sub [0, 1] rfl ?_
          exact J82 _ _ _ _ h
        · have h := zB_pos c14 h
          refine V_iconst 0 (by decide) Z (show decode cX6_sheet 77 = .ok (.iconst 0, 1) by decide +kernel) ?_
          refine V_goto 82 Z (by decide) (show decode cX6_sheet 78 = .ok (.goto 4, 3) by decide +kernel) ?_
          refine V_sub [0, 1] rfl ?_
          exact J82 _ _ _ _ h
      · have h := zB_neg c11 h
        refine V_aload_n 0 Z rfl rfl (show decode cX6_sheet 54 = .ok (.aload_n 0, 1) by decide +kernel) ?_
        refine V_ldc (-1000001) Z w843 (show decode cX6_sheet 55 = .ok (.ldc 66, 2) by decide +kernel) ?_
        obtain ⟨⟨v16, M17⟩, e15, h⟩ := zB_bind h
        refine V_callV (rest := []) 1 Z (ok_X6_finding  e15) cd_X6_finding zc5 (by decide) rfl w844 w846 w17 rfl (show decode cX6_sheet 57 = .ok (.invokevirtual 72, 3) by decide +kernel) rfl ?_
        exact V_iretM Z hE h (show decode cX6_sheet 60 = .ok (.ireturn, 1) by decide +kernel)
    · have h := zB_neg c10 h
      refine V_aload_n 0 Z rfl rfl (show decode cX6_sheet 40 = .ok (.aload_n 0, 1) by decide +kernel) ?_
      refine V_ldcw (-1000007) Z w1234 (show decode cX6_sheet 41 = .ok (.ldc_w 322, 3) by decide +kernel) ?_
      obtain ⟨⟨v19, M20⟩, e18, h⟩ := zB_bind h
      refine V_callV (rest := []) 1 Z (ok_X6_finding  e18) cd_X6_finding zc5 (by decide) rfl w844 w846 w17 rfl (show decode cX6_sheet 44 = .ok (.invokevirtual 72, 3) by decide +kernel) rfl ?_
      exact V_iretM Z hE h (show decode cX6_sheet 47 = .ok (.ireturn, 1) by decide +kernel)
  have J29 : ∀ (M : zM), (f_X6_sheet_j29  M).bind some = some y → VV E 5 29 [(0, Value.ref 47)] [] M := by
    intro  M h
    refine V_aload_n 0 Z rfl rfl (show decode cX6_sheet 29 = .ok (.aload_n 0, 1) by decide +kernel) ?_
    refine V_ldc (-1000001) Z w843 (show decode cX6_sheet 30 = .ok (.ldc 66, 2) by decide +kernel) ?_
    obtain ⟨⟨v22, M23⟩, e21, h⟩ := zB_bind h
    refine V_callV (rest := []) 1 Z (ok_X6_finding  e21) cd_X6_finding zc5 (by decide) rfl w844 w846 w17 rfl (show decode cX6_sheet 32 = .ok (.invokevirtual 72, 3) by decide +kernel) rfl ?_
    exact V_iretM Z hE h (show decode cX6_sheet 35 = .ok (.ireturn, 1) by decide +kernel)
  refine V_iload_n 1 Z rfl rfl (show decode cX6_sheet 0 = .ok (.iload_n 1, 1) by decide +kernel) ?_
  obtain ⟨v25, e24, h⟩ := zB_bind h
  refine V_callS (rest := []) 1 Z (ok_X6_isSheet  e24) cd_X6_isSheet w1119 w1120 rfl (show decode cX6_sheet 1 = .ok (.invokestatic 219, 3) by decide +kernel) rfl ?_
  refine V_if_eq 29 Z (by decide) (show decode cX6_sheet 4 = .ok (.ifCond .eq 25, 3) by decide +kernel) (fun c26 => ?_) (fun c26 => ?_)
  · have h := zB_pos c26 h
    refine V_sub [0] rfl ?_
    exact J29 _ h
  · have h := zB_neg c26 h
    refine V_iload_n 2 Z rfl rfl (show decode cX6_sheet 7 = .ok (.iload_n 2, 1) by decide +kernel) ?_
    refine V_if_eq 36 Z (by decide) (show decode cX6_sheet 8 = .ok (.ifCond .eq 28, 3) by decide +kernel) (fun c27 => ?_) (fun c27 => ?_)
    · have h := zB_pos c27 h
      exact J36 _ _ _ _ h
    · have h := zB_neg c27 h
      refine V_iload_n 2 Z rfl rfl (show decode cX6_sheet 11 = .ok (.iload_n 2, 1) by decide +kernel) ?_
      refine V_bipush 8 (by decide) Z (show decode cX6_sheet 12 = .ok (.bipush 8, 2) by decide +kernel) ?_
      refine V_icmp_eq 36 Z (by decide) (show decode cX6_sheet 14 = .ok (.if_icmp .eq 22, 3) by decide +kernel) (fun c28 => ?_) (fun c28 => ?_)
      · have h := zB_pos c28 h
        exact J36 _ _ _ _ h
      · have h := zB_neg c28 h
        refine V_iload_n 2 Z rfl rfl (show decode cX6_sheet 17 = .ok (.iload_n 2, 1) by decide +kernel) ?_
        refine V_bipush 16 (by decide) Z (show decode cX6_sheet 18 = .ok (.bipush 16, 2) by decide +kernel) ?_
        refine V_icmp_eq 36 Z (by decide) (show decode cX6_sheet 20 = .ok (.if_icmp .eq 16, 3) by decide +kernel) (fun c29 => ?_) (fun c29 => ?_)
        · have h := zB_pos c29 h
          exact J36 _ _ _ _ h
        · have h := zB_neg c29 h
          refine V_iload_n 2 Z rfl rfl (show decode cX6_sheet 23 = .ok (.iload_n 2, 1) by decide +kernel) ?_
          refine V_bipush 32 (by decide) Z (show decode cX6_sheet 24 = .ok (.bipush 32, 2) by decide +kernel) ?_
          refine V_icmp_eq 36 Z (by decide) (show decode cX6_sheet 26 = .ok (.if_icmp .eq 10, 3) by decide +kernel) (fun c30 => ?_) (fun c30 => ?_)
          · have h := zB_pos c30 h
            exact J36 _ _ _ _ h
          · have h := zB_neg c30 h
            refine V_sub [0] rfl ?_
            exact J29 _ h
def f_X6_write (x1 : Int32) (x2 : Int32) (x3 : Int32) (M : zM) : Option (Int32 × zM) :=
  (f_X6_isSheet x1 M).bind fun (v2 : Int32) =>
  if v2 = 0 then
    (f_X6_finding (-1000001) M).bind fun ((v25, M26) : Int32 × zM) =>
    some ((v25, M26))
  else
    (zrd M 57 x1).bind fun (v4 : Int32) =>
    if v4 = 0 then
      (f_X6_finding (-1000006) M).bind fun ((v22, M23) : Int32 × zM) =>
      some ((v22, M23))
    else
      (zrd M 58 x1).bind fun (v7 : Int32) =>
      (f_X6_within x2 0 (v7 - 1) M).bind fun (v10 : Int32) =>
      if v10 = 0 then
        (f_X6_finding (-1000001) M).bind fun ((v19, M20) : Int32 × zM) =>
        some ((v19, M20))
      else
        (zrd M 57 x1).bind fun (v12 : Int32) =>
        (f_X6_cutTo x3 v12 M).bind fun (v15 : Int32) =>
        (zwr M 59 ((40 * x1) + x2) v15).bind fun (M16 : zM) =>
        some ((1, M16))
theorem cd_X6_write : zCd yX6_write cX6_write 4 (some .int) 3 := ⟨w1238, w69, ⟨by decide, by decide⟩, by decide +kernel⟩
set_option maxHeartbeats 4000000 in
set_option maxRecDepth 20000 in
theorem ok_X6_write {x1 : Int32} {x2 : Int32} {x3 : Int32} {M : zM} {y : Int32 × zM}  (h : f_X6_write x1 x2 x3 M = some y) : zRuns yX6_write cX6_write 4 (some .int) 2 42 [.ref 47, .int x1, .int x2, .int x3] M (some (.int y.1)) y.2 := by
  refine zRuns_of (by decide +kernel) (Nat.le_of_ble_eq_true rfl) (fun E Z hE => ?_)
  have h := zB_top h
  change VV E 4 0 [(0, Value.ref 47), (1, Value.int x1), (2, Value.int x2), (3, Value.int x3)] [] M
  refine V_iload_n 1 Z rfl rfl (show decode cX6_write 0 = .ok (.iload_n 1, 1) by decide +kernel) ?_
  obtain ⟨v2, e1, h⟩ := zB_bind h
  refine V_callS (rest := []) 1 Z (ok_X6_isSheet  e1) cd_X6_isSheet w1119 w1120 rfl (show decode cX6_write 1 = .ok (.invokestatic 219, 3) by decide +kernel) rfl ?_
  refine V_if_ne 14 Z (by decide) (show decode cX6_write 4 = .ok (.ifCond .ne 10, 3) by decide +kernel) (fun c3 => ?_) (fun c3 => ?_)
  · have h := zB_neg c3 h
    refine V_aload_n 0 Z rfl rfl (show decode cX6_write 14 = .ok (.aload_n 0, 1) by decide +kernel) ?_
    refine V_getR 18 57 Z zc5 (by decide) rfl (by decide) rfl (by decide) ⟨rfl, rfl, rfl⟩ w784 (show decode cX6_write 15 = .ok (.getfield 54, 3) by decide +kernel) ?_
    refine V_iload_n 1 Z rfl rfl (show decode cX6_write 18 = .ok (.iload_n 1, 1) by decide +kernel) ?_
    obtain ⟨v4, e5, h⟩ := zB_bind h
    refine V_iald Z e5 (show decode cX6_write 19 = .ok (.iaload, 1) by decide +kernel) ?_
    refine V_if_ne 30 Z (by decide) (show decode cX6_write 20 = .ok (.ifCond .ne 10, 3) by decide +kernel) (fun c6 => ?_) (fun c6 => ?_)
    · have h := zB_neg c6 h
      refine V_iload_n 2 Z rfl rfl (show decode cX6_write 30 = .ok (.iload_n 2, 1) by decide +kernel) ?_
      refine V_iconst 0 (by decide) Z (show decode cX6_write 31 = .ok (.iconst 0, 1) by decide +kernel) ?_
      refine V_aload_n 0 Z rfl rfl (show decode cX6_write 32 = .ok (.aload_n 0, 1) by decide +kernel) ?_
      refine V_getR 19 58 Z zc5 (by decide) rfl (by decide) rfl (by decide) ⟨rfl, rfl, rfl⟩ w785 (show decode cX6_write 33 = .ok (.getfield 57, 3) by decide +kernel) ?_
      refine V_iload_n 1 Z rfl rfl (show decode cX6_write 36 = .ok (.iload_n 1, 1) by decide +kernel) ?_
      obtain ⟨v7, e8, h⟩ := zB_bind h
      refine V_iald Z e8 (show decode cX6_write 37 = .ok (.iaload, 1) by decide +kernel) ?_
      refine V_iconst 1 (by decide) Z (show decode cX6_write 38 = .ok (.iconst 1, 1) by decide +kernel) ?_
      refine V_isub Z (show decode cX6_write 39 = .ok (.isub, 1) by decide +kernel) ?_
      obtain ⟨v10, e9, h⟩ := zB_bind h
      refine V_callS (rest := []) 3 Z (ok_X6_within  e9) cd_X6_within w840 w841 rfl (show decode cX6_write 40 = .ok (.invokestatic 76, 3) by decide +kernel) rfl ?_
      refine V_if_ne 53 Z (by decide) (show decode cX6_write 43 = .ok (.ifCond .ne 10, 3) by decide +kernel) (fun c11 => ?_) (fun c11 => ?_)
      · have h := zB_neg c11 h
        refine V_aload_n 0 Z rfl rfl (show decode cX6_write 53 = .ok (.aload_n 0, 1) by decide +kernel) ?_
        refine V_getR 20 59 Z zc5 (by decide) rfl (by decide) rfl (by decide) ⟨rfl, rfl, rfl⟩ w786 (show decode cX6_write 54 = .ok (.getfield 60, 3) by decide +kernel) ?_
        refine V_bipush 40 (by decide) Z (show decode cX6_write 57 = .ok (.bipush 40, 2) by decide +kernel) ?_
        refine V_iload_n 1 Z rfl rfl (show decode cX6_write 59 = .ok (.iload_n 1, 1) by decide +kernel) ?_
        refine V_imul Z (show decode cX6_write 60 = .ok (.imul, 1) by decide +kernel) ?_
        refine V_iload_n 2 Z rfl rfl (show decode cX6_write 61 = .ok (.iload_n 2, 1) by decide +kernel) ?_
        refine V_iadd Z (show decode cX6_write 62 = .ok (.iadd, 1) by decide +kernel) ?_
        refine V_iload_n 3 Z rfl rfl (show decode cX6_write 63 = .ok (.iload_n 3, 1) by decide +kernel) ?_
        refine V_aload_n 0 Z rfl rfl (show decode cX6_write 64 = .ok (.aload_n 0, 1) by decide +kernel) ?_
        refine V_getR 18 57 Z zc5 (by decide) rfl (by decide) rfl (by decide) ⟨rfl, rfl, rfl⟩ w784 (show decode cX6_write 65 = .ok (.getfield 54, 3) by decide +kernel) ?_
        refine V_iload_n 1 Z rfl rfl (show decode cX6_write 68 = .ok (.iload_n 1, 1) by decide +kernel) ?_
        obtain ⟨v12, e13, h⟩ := zB_bind h
        refine V_iald Z e13 (show decode cX6_write 69 = .ok (.iaload, 1) by decide +kernel) ?_
        obtain ⟨v15, e14, h⟩ := zB_bind h
        refine V_callS (rest := [_, _]) 2 Z (ok_X6_cutTo  e14) cd_X6_cutTo w1239 w1240 rfl (show decode cX6_write 70 = .ok (.invokestatic 323, 3) by decide +kernel) rfl ?_
        obtain ⟨M16, e17, h⟩ := zB_bind h
        refine V_iast Z e17 (show decode cX6_write 73 = .ok (.iastore, 1) by decide +kernel) ?_
        refine V_iconst 1 (by decide) Z (show decode cX6_write 74 = .ok (.iconst 1, 1) by decide +kernel) ?_
        exact V_iretM Z hE h (show decode cX6_write 75 = .ok (.ireturn, 1) by decide +kernel)
      · have h := zB_pos c11 h
        refine V_aload_n 0 Z rfl rfl (show decode cX6_write 46 = .ok (.aload_n 0, 1) by decide +kernel) ?_
        refine V_ldc (-1000001) Z w843 (show decode cX6_write 47 = .ok (.ldc 66, 2) by decide +kernel) ?_
        obtain ⟨⟨v19, M20⟩, e18, h⟩ := zB_bind h
        refine V_callV (rest := []) 1 Z (ok_X6_finding  e18) cd_X6_finding zc5 (by decide) rfl w844 w846 w17 rfl (show decode cX6_write 49 = .ok (.invokevirtual 72, 3) by decide +kernel) rfl ?_
        exact V_iretM Z hE h (show decode cX6_write 52 = .ok (.ireturn, 1) by decide +kernel)
    · have h := zB_pos c6 h
      refine V_aload_n 0 Z rfl rfl (show decode cX6_write 23 = .ok (.aload_n 0, 1) by decide +kernel) ?_
      refine V_ldc (-1000006) Z w1122 (show decode cX6_write 24 = .ok (.ldc 222, 2) by decide +kernel) ?_
      obtain ⟨⟨v22, M23⟩, e21, h⟩ := zB_bind h
      refine V_callV (rest := []) 1 Z (ok_X6_finding  e21) cd_X6_finding zc5 (by decide) rfl w844 w846 w17 rfl (show decode cX6_write 26 = .ok (.invokevirtual 72, 3) by decide +kernel) rfl ?_
      exact V_iretM Z hE h (show decode cX6_write 29 = .ok (.ireturn, 1) by decide +kernel)
  · have h := zB_pos c3 h
    refine V_aload_n 0 Z rfl rfl (show decode cX6_write 7 = .ok (.aload_n 0, 1) by decide +kernel) ?_
    refine V_ldc (-1000001) Z w843 (show decode cX6_write 8 = .ok (.ldc 66, 2) by decide +kernel) ?_
    obtain ⟨⟨v25, M26⟩, e24, h⟩ := zB_bind h
    refine V_callV (rest := []) 1 Z (ok_X6_finding  e24) cd_X6_finding zc5 (by decide) rfl w844 w846 w17 rfl (show decode cX6_write 10 = .ok (.invokevirtual 72, 3) by decide +kernel) rfl ?_
    exact V_iretM Z hE h (show decode cX6_write 13 = .ok (.ireturn, 1) by decide +kernel)
