/-! Generated walks: X5_owes X5_lasts X5_broke X5_often X5_kindFor X5_orderFor X5_orders -/
def f_X5_owes_j18 (M : zM) : Option (Int32 × zM) :=
  (f_X5_finding 0 M).bind fun ((v2, M3) : Int32 × zM) =>
  some ((v2, M3))
def f_X5_owes (x1 : Int32) (x2 : Int32) (M : zM) : Option (Int32 × zM) :=
  (f_X5_isName x1 M).bind fun (v5 : Int32) =>
  if v5 = 0 then
    f_X5_owes_j18  M
  else
    (f_X5_within x2 0 100 M).bind fun (v8 : Int32) =>
    if v8 = 0 then
      f_X5_owes_j18  M
    else
      (f_X0_become 23 1 M).bind fun (M11 : zM) =>
      (f_X0_pass 23 x2 M11).bind fun (M13 : zM) =>
      (zrd M13 27 x1).bind fun (v14 : Int32) =>
      some ((v14, M13))
theorem cd_X5_owes : zCd yX5_owes cX5_owes 3 (some .int) 2 := ⟨w422, w64, ⟨by decide, by decide⟩, by decide +kernel⟩
set_option maxHeartbeats 4000000 in
set_option maxRecDepth 20000 in
theorem ok_X5_owes {x1 : Int32} {x2 : Int32} {M : zM} {y : Int32 × zM}  (h : f_X5_owes x1 x2 M = some y) : zRuns yX5_owes cX5_owes 3 (some .int) 5 113 [.ref 0, .int x1, .int x2] M (some (.int y.1)) y.2 := by
  refine zRuns_of (by decide +kernel) (Nat.le_of_ble_eq_true rfl) (fun E Z hE => ?_)
  have h := zB_top h
  change VV E 3 0 [(0, Value.ref 0), (1, Value.int x1), (2, Value.int x2)] [] M
  have J18 : ∀ (M : zM), (f_X5_owes_j18  M).bind some = some y → VV E 3 18 [(0, Value.ref 0)] [] M := by
    intro  M h
    refine V_aload_n 0 Z rfl rfl (show decode cX5_owes 18 = .ok (.aload_n 0, 1) by decide +kernel) ?_
    refine V_iconst 0 (by decide) Z (show decode cX5_owes 19 = .ok (.iconst 0, 1) by decide +kernel) ?_
    obtain ⟨⟨v2, M3⟩, e1, h⟩ := zB_bind h
    refine V_callV (rest := []) 1 Z (ok_X5_finding  e1) cd_X5_finding zc4 (by decide) rfl w248 w250 w0 rfl (show decode cX5_owes 20 = .ok (.invokevirtual 55, 3) by decide +kernel) rfl ?_
    exact V_iretM Z hE h (show decode cX5_owes 23 = .ok (.ireturn, 1) by decide +kernel)
  refine V_aload_n 0 Z rfl rfl (show decode cX5_owes 0 = .ok (.aload_n 0, 1) by decide +kernel) ?_
  refine V_iload_n 1 Z rfl rfl (show decode cX5_owes 1 = .ok (.iload_n 1, 1) by decide +kernel) ?_
  obtain ⟨v5, e4, h⟩ := zB_bind h
  refine V_callV (rest := []) 1 Z (ok_X5_isName  e4) cd_X5_isName zc4 (by decide) rfl w261 w263 w1 rfl (show decode cX5_owes 2 = .ok (.invokevirtual 67, 3) by decide +kernel) rfl ?_
  refine V_if_eq 18 Z (by decide) (show decode cX5_owes 5 = .ok (.ifCond .eq 13, 3) by decide +kernel) (fun c6 => ?_) (fun c6 => ?_)
  · have h := zB_pos c6 h
    refine V_sub [0] rfl ?_
    exact J18 _ h
  · have h := zB_neg c6 h
    refine V_iload_n 2 Z rfl rfl (show decode cX5_owes 8 = .ok (.iload_n 2, 1) by decide +kernel) ?_
    refine V_iconst 0 (by decide) Z (show decode cX5_owes 9 = .ok (.iconst 0, 1) by decide +kernel) ?_
    refine V_bipush 100 (by decide) Z (show decode cX5_owes 10 = .ok (.bipush 100, 2) by decide +kernel) ?_
    obtain ⟨v8, e7, h⟩ := zB_bind h
    refine V_callS (rest := []) 3 Z (ok_X5_within  e7) cd_X5_within w245 w246 rfl (show decode cX5_owes 12 = .ok (.invokestatic 51, 3) by decide +kernel) rfl ?_
    refine V_if_ne 24 Z (by decide) (show decode cX5_owes 15 = .ok (.ifCond .ne 9, 3) by decide +kernel) (fun c9 => ?_) (fun c9 => ?_)
    · have h := zB_neg c9 h
      refine V_aload_n 0 Z rfl rfl (show decode cX5_owes 24 = .ok (.aload_n 0, 1) by decide +kernel) ?_
      refine V_getR 2 23 Z zc4 (by decide) rfl (by decide) rfl (by decide) ⟨rfl, rfl, rfl⟩ w218 (show decode cX5_owes 25 = .ok (.getfield 19, 3) by decide +kernel) ?_
      refine V_aload_n 0 Z rfl rfl (show decode cX5_owes 28 = .ok (.aload_n 0, 1) by decide +kernel) ?_
      refine V_getR 0 1 Z zc4 (by decide) rfl (by decide) rfl (by decide) ⟨rfl, rfl, rfl⟩ w216 (show decode cX5_owes 29 = .ok (.getfield 10, 3) by decide +kernel) ?_
      obtain ⟨M11, e10, h⟩ := zB_bind h
      refine V_callV (rest := []) 1 Z (ok_X0_become isH_23 isH_1 e10) cd_X0_become zc0 (isH_lt isH_23) (shH isH_23) w412 w413 w414 rfl (show decode cX5_owes 32 = .ok (.invokevirtual 164, 3) by decide +kernel) rfl ?_
      refine V_aload_n 0 Z rfl rfl (show decode cX5_owes 35 = .ok (.aload_n 0, 1) by decide +kernel) ?_
      refine V_getR 2 23 Z zc4 (by decide) rfl (by decide) rfl (by decide) ⟨rfl, rfl, rfl⟩ w218 (show decode cX5_owes 36 = .ok (.getfield 19, 3) by decide +kernel) ?_
      refine V_iload_n 2 Z rfl rfl (show decode cX5_owes 39 = .ok (.iload_n 2, 1) by decide +kernel) ?_
      obtain ⟨M13, e12, h⟩ := zB_bind h
      refine V_callV (rest := []) 1 Z (ok_X0_pass isH_23 e12) cd_X0_pass zc0 (isH_lt isH_23) (shH isH_23) w331 w332 w333 rfl (show decode cX5_owes 40 = .ok (.invokevirtual 136, 3) by decide +kernel) rfl ?_
      refine V_aload_n 0 Z rfl rfl (show decode cX5_owes 43 = .ok (.aload_n 0, 1) by decide +kernel) ?_
      refine V_getR 2 23 Z zc4 (by decide) rfl (by decide) rfl (by decide) ⟨rfl, rfl, rfl⟩ w218 (show decode cX5_owes 44 = .ok (.getfield 19, 3) by decide +kernel) ?_
      refine V_getR 4 27 Z zc0 (isH_lt isH_23) (shH isH_23) (by decide) rfl (by decide) ⟨rfl, rfl, rfl⟩ w102 (show decode cX5_owes 47 = .ok (.getfield 80, 3) by decide +kernel) ?_
      refine V_iload_n 1 Z rfl rfl (show decode cX5_owes 50 = .ok (.iload_n 1, 1) by decide +kernel) ?_
      obtain ⟨v14, e15, h⟩ := zB_bind h
      refine V_iald Z e15 (show decode cX5_owes 51 = .ok (.iaload, 1) by decide +kernel) ?_
      exact V_iretM Z hE h (show decode cX5_owes 52 = .ok (.ireturn, 1) by decide +kernel)
    · have h := zB_pos c9 h
      refine V_sub [0] rfl ?_
      exact J18 _ h
def f_X5_lasts (x1 : Int32) (M : zM) : Option (Int32 × zM) :=
  (f_X5_isName x1 M).bind fun (v2 : Int32) =>
  if v2 = 0 then
    (f_X5_finding 0 M).bind fun ((v14, M15) : Int32 × zM) =>
    some ((v14, M15))
  else
    (f_X0_become 23 1 M).bind fun (M5 : zM) =>
    (f_X0_daysHung 23 x1 M5).bind fun ((v7, M8) : Int32 × zM) =>
    if v7 ≤ 100 then
      some ((v7, M8))
    else
      (f_X5_finding 3 M8).bind fun ((v11, M12) : Int32 × zM) =>
      some ((v11, M12))
theorem cd_X5_lasts : zCd yX5_lasts cX5_lasts 3 (some .int) 1 := ⟨w426, w64, ⟨by decide, by decide⟩, by decide +kernel⟩
set_option maxHeartbeats 4000000 in
set_option maxRecDepth 20000 in
theorem ok_X5_lasts {x1 : Int32} {M : zM} {y : Int32 × zM}  (h : f_X5_lasts x1 M = some y) : zRuns yX5_lasts cX5_lasts 3 (some .int) 5 113 [.ref 0, .int x1] M (some (.int y.1)) y.2 := by
  refine zRuns_of (by decide +kernel) (Nat.le_of_ble_eq_true rfl) (fun E Z hE => ?_)
  have h := zB_top h
  change VV E 3 0 [(0, Value.ref 0), (1, Value.int x1)] [] M
  refine V_aload_n 0 Z rfl rfl (show decode cX5_lasts 0 = .ok (.aload_n 0, 1) by decide +kernel) ?_
  refine V_iload_n 1 Z rfl rfl (show decode cX5_lasts 1 = .ok (.iload_n 1, 1) by decide +kernel) ?_
  obtain ⟨v2, e1, h⟩ := zB_bind h
  refine V_callV (rest := []) 1 Z (ok_X5_isName  e1) cd_X5_isName zc4 (by decide) rfl w261 w263 w1 rfl (show decode cX5_lasts 2 = .ok (.invokevirtual 67, 3) by decide +kernel) rfl ?_
  refine V_if_ne 14 Z (by decide) (show decode cX5_lasts 5 = .ok (.ifCond .ne 9, 3) by decide +kernel) (fun c3 => ?_) (fun c3 => ?_)
  · have h := zB_neg c3 h
    refine V_aload_n 0 Z rfl rfl (show decode cX5_lasts 14 = .ok (.aload_n 0, 1) by decide +kernel) ?_
    refine V_getR 2 23 Z zc4 (by decide) rfl (by decide) rfl (by decide) ⟨rfl, rfl, rfl⟩ w218 (show decode cX5_lasts 15 = .ok (.getfield 19, 3) by decide +kernel) ?_
    refine V_aload_n 0 Z rfl rfl (show decode cX5_lasts 18 = .ok (.aload_n 0, 1) by decide +kernel) ?_
    refine V_getR 0 1 Z zc4 (by decide) rfl (by decide) rfl (by decide) ⟨rfl, rfl, rfl⟩ w216 (show decode cX5_lasts 19 = .ok (.getfield 10, 3) by decide +kernel) ?_
    obtain ⟨M5, e4, h⟩ := zB_bind h
    refine V_callV (rest := []) 1 Z (ok_X0_become isH_23 isH_1 e4) cd_X0_become zc0 (isH_lt isH_23) (shH isH_23) w412 w413 w414 rfl (show decode cX5_lasts 22 = .ok (.invokevirtual 164, 3) by decide +kernel) rfl ?_
    refine V_aload_n 0 Z rfl rfl (show decode cX5_lasts 25 = .ok (.aload_n 0, 1) by decide +kernel) ?_
    refine V_getR 2 23 Z zc4 (by decide) rfl (by decide) rfl (by decide) ⟨rfl, rfl, rfl⟩ w218 (show decode cX5_lasts 26 = .ok (.getfield 19, 3) by decide +kernel) ?_
    refine V_iload_n 1 Z rfl rfl (show decode cX5_lasts 29 = .ok (.iload_n 1, 1) by decide +kernel) ?_
    obtain ⟨⟨v7, M8⟩, e6, h⟩ := zB_bind h
    refine V_callV (rest := []) 1 Z (ok_X0_daysHung isH_23 e6) cd_X0_daysHung zc0 (isH_lt isH_23) (shH isH_23) w427 w428 w429 rfl (show decode cX5_lasts 30 = .ok (.invokevirtual 168, 3) by decide +kernel) rfl ?_
    refine V_istore_n [(2, Value.int v7), (0, Value.ref 0), (1, Value.int x1)] Z (by decide) rfl rfl (show decode cX5_lasts 33 = .ok (.istore_n 2, 1) by decide +kernel) ?_
    refine V_iload_n 0 Z rfl rfl (show decode cX5_lasts 34 = .ok (.iload_n 2, 1) by decide +kernel) ?_
    refine V_bipush 100 (by decide) Z (show decode cX5_lasts 35 = .ok (.bipush 100, 2) by decide +kernel) ?_
    refine V_icmp_le 48 Z (by decide) (show decode cX5_lasts 37 = .ok (.if_icmp .le 11, 3) by decide +kernel) (fun c9 => ?_) (fun c9 => ?_)
    · have h := zB_pos c9 h
      refine V_iload_n 0 Z rfl rfl (show decode cX5_lasts 48 = .ok (.iload_n 2, 1) by decide +kernel) ?_
      exact V_iretM Z hE h (show decode cX5_lasts 49 = .ok (.ireturn, 1) by decide +kernel)
    · have h := zB_neg c9 h
      refine V_aload_n 1 Z rfl rfl (show decode cX5_lasts 40 = .ok (.aload_n 0, 1) by decide +kernel) ?_
      refine V_iconst 3 (by decide) Z (show decode cX5_lasts 41 = .ok (.iconst 3, 1) by decide +kernel) ?_
      obtain ⟨⟨v11, M12⟩, e10, h⟩ := zB_bind h
      refine V_callV (rest := []) 1 Z (ok_X5_finding  e10) cd_X5_finding zc4 (by decide) rfl w248 w250 w0 rfl (show decode cX5_lasts 42 = .ok (.invokevirtual 55, 3) by decide +kernel) rfl ?_
      refine V_goto 49 Z (by decide) (show decode cX5_lasts 45 = .ok (.goto 4, 3) by decide +kernel) ?_
      exact V_iretM Z hE h (show decode cX5_lasts 49 = .ok (.ireturn, 1) by decide +kernel)
  · have h := zB_pos c3 h
    refine V_aload_n 0 Z rfl rfl (show decode cX5_lasts 8 = .ok (.aload_n 0, 1) by decide +kernel) ?_
    refine V_iconst 0 (by decide) Z (show decode cX5_lasts 9 = .ok (.iconst 0, 1) by decide +kernel) ?_
    obtain ⟨⟨v14, M15⟩, e13, h⟩ := zB_bind h
    refine V_callV (rest := []) 1 Z (ok_X5_finding  e13) cd_X5_finding zc4 (by decide) rfl w248 w250 w0 rfl (show decode cX5_lasts 10 = .ok (.invokevirtual 55, 3) by decide +kernel) rfl ?_
    exact V_iretM Z hE h (show decode cX5_lasts 13 = .ok (.ireturn, 1) by decide +kernel)
def f_X5_broke_j59 (M : zM) : Option (Int32 × zM) :=
  (f_X5_finding 3 M).bind fun ((v2, M3) : Int32 × zM) =>
  some ((v2, M3))
def f_X5_broke_l26 (y1 : Int32) : Int32 × zM → Option ((Int32 × zM) ⊕ (Int32 × zM))
  | (y2, M) =>
    if 100 < y2 then
      (f_X5_broke_j59  M).bind fun z => some (Sum.inr z)
    else
      (zrd M 29 y1).bind fun (v10 : Int32) =>
      if v10 = 0 then
        some (.inr ((y2, M)))
      else
        (f_X0_passDay 23 M).bind fun (M14 : zM) =>
        (some (y2 + 1)).bind fun (n15 : Int32) =>
        some (.inl ((n15, M14)))
def f_X5_broke (x1 : Int32) (M : zM) : Option (Int32 × zM) :=
  (f_X5_isPerson x1 M).bind fun (v5 : Int32) =>
  if v5 = 0 then
    (f_X5_finding 0 M).bind fun ((v18, M19) : Int32 × zM) =>
    some ((v18, M19))
  else
    (f_X0_become 23 1 M).bind fun (M8 : zM) =>
    zIter (f_X5_broke_l26 x1) 1000 (0, M8)
theorem cd_X5_broke : zCd yX5_broke cX5_broke 3 (some .int) 1 := ⟨w434, w64, ⟨by decide, by decide⟩, by decide +kernel⟩
set_option maxHeartbeats 4000000 in
set_option maxRecDepth 20000 in
theorem ok_X5_broke {x1 : Int32} {M : zM} {y : Int32 × zM}  (h : f_X5_broke x1 M = some y) : zRuns yX5_broke cX5_broke 3 (some .int) 4 91 [.ref 0, .int x1] M (some (.int y.1)) y.2 := by
  refine zRuns_of (by decide +kernel) (Nat.le_of_ble_eq_true rfl) (fun E Z hE => ?_)
  have h := zB_top h
  change VV E 3 0 [(0, Value.ref 0), (1, Value.int x1)] [] M
  have J59 : ∀ (M : zM), (f_X5_broke_j59  M).bind some = some y → VV E 3 59 [(0, Value.ref 0)] [] M := by
    intro  M h
    refine V_aload_n 0 Z rfl rfl (show decode cX5_broke 59 = .ok (.aload_n 0, 1) by decide +kernel) ?_
    refine V_iconst 3 (by decide) Z (show decode cX5_broke 60 = .ok (.iconst 3, 1) by decide +kernel) ?_
    obtain ⟨⟨v2, M3⟩, e1, h⟩ := zB_bind h
    refine V_callV (rest := []) 1 Z (ok_X5_finding  e1) cd_X5_finding zc4 (by decide) rfl w248 w250 w0 rfl (show decode cX5_broke 61 = .ok (.invokevirtual 55, 3) by decide +kernel) rfl ?_
    exact V_iretM Z hE h (show decode cX5_broke 64 = .ok (.ireturn, 1) by decide +kernel)
  refine V_iload_n 1 Z rfl rfl (show decode cX5_broke 0 = .ok (.iload_n 1, 1) by decide +kernel) ?_
  obtain ⟨v5, e4, h⟩ := zB_bind h
  refine V_callS (rest := []) 1 Z (ok_X5_isPerson  e4) cd_X5_isPerson w300 w301 rfl (show decode cX5_broke 1 = .ok (.invokestatic 108, 3) by decide +kernel) rfl ?_
  refine V_if_ne 13 Z (by decide) (show decode cX5_broke 4 = .ok (.ifCond .ne 9, 3) by decide +kernel) (fun c6 => ?_) (fun c6 => ?_)
  · have h := zB_neg c6 h
    refine V_aload_n 0 Z rfl rfl (show decode cX5_broke 13 = .ok (.aload_n 0, 1) by decide +kernel) ?_
    refine V_getR 2 23 Z zc4 (by decide) rfl (by decide) rfl (by decide) ⟨rfl, rfl, rfl⟩ w218 (show decode cX5_broke 14 = .ok (.getfield 19, 3) by decide +kernel) ?_
    refine V_aload_n 0 Z rfl rfl (show decode cX5_broke 17 = .ok (.aload_n 0, 1) by decide +kernel) ?_
    refine V_getR 0 1 Z zc4 (by decide) rfl (by decide) rfl (by decide) ⟨rfl, rfl, rfl⟩ w216 (show decode cX5_broke 18 = .ok (.getfield 10, 3) by decide +kernel) ?_
    obtain ⟨M8, e7, h⟩ := zB_bind h
    refine V_callV (rest := []) 1 Z (ok_X0_become isH_23 isH_1 e7) cd_X0_become zc0 (isH_lt isH_23) (shH isH_23) w412 w413 w414 rfl (show decode cX5_broke 21 = .ok (.invokevirtual 164, 3) by decide +kernel) rfl ?_
    refine V_iconst 0 (by decide) Z (show decode cX5_broke 24 = .ok (.iconst 0, 1) by decide +kernel) ?_
    refine V_istore_n [(2, Value.int 0), (0, Value.ref 0), (1, Value.int x1)] Z (by decide) rfl rfl (show decode cX5_broke 25 = .ok (.istore_n 2, 1) by decide +kernel) ?_
    refine V_sub [1, 2, 0] rfl ?_
    refine zIter_loop' (K := some) (fun s : Int32 × zM => VV E 3 26 [(0, Value.ref 0), (1, Value.int x1), (2, Value.int s.1)] [] s.2) (fun K1 s c1_i c1_r h => ?_) _ _ h
    obtain ⟨y2, M⟩ := s
    change VV E 3 26 [(0, Value.ref 0), (1, Value.int x1), (2, Value.int y2)] [] M
    refine V_iload_n 2 Z rfl rfl (show decode cX5_broke 26 = .ok (.iload_n 2, 1) by decide +kernel) ?_
    refine V_bipush 100 (by decide) Z (show decode cX5_broke 27 = .ok (.bipush 100, 2) by decide +kernel) ?_
    refine V_icmp_gt 59 Z (by decide) (show decode cX5_broke 29 = .ok (.if_icmp .gt 30, 3) by decide +kernel) (fun c9 => ?_) (fun c9 => ?_)
    · have h := zB_pos c9 h
      refine V_sub [0] rfl ?_
      have h := zB_lift c1_r h
      exact J59 _ h
    · have h := zB_neg c9 h
      refine V_aload_n 0 Z rfl rfl (show decode cX5_broke 32 = .ok (.aload_n 0, 1) by decide +kernel) ?_
      refine V_getR 2 23 Z zc4 (by decide) rfl (by decide) rfl (by decide) ⟨rfl, rfl, rfl⟩ w218 (show decode cX5_broke 33 = .ok (.getfield 19, 3) by decide +kernel) ?_
      refine V_getR 6 29 Z zc0 (isH_lt isH_23) (shH isH_23) (by decide) rfl (by decide) ⟨rfl, rfl, rfl⟩ w106 (show decode cX5_broke 36 = .ok (.getfield 111, 3) by decide +kernel) ?_
      refine V_iload_n 1 Z rfl rfl (show decode cX5_broke 39 = .ok (.iload_n 1, 1) by decide +kernel) ?_
      obtain ⟨v10, e11, h⟩ := zB_bind h
      refine V_iald Z e11 (show decode cX5_broke 40 = .ok (.iaload, 1) by decide +kernel) ?_
      refine V_if_ne 46 Z (by decide) (show decode cX5_broke 41 = .ok (.ifCond .ne 5, 3) by decide +kernel) (fun c12 => ?_) (fun c12 => ?_)
      · have h := zB_neg c12 h
        refine V_aload_n 0 Z rfl rfl (show decode cX5_broke 46 = .ok (.aload_n 0, 1) by decide +kernel) ?_
        refine V_getR 2 23 Z zc4 (by decide) rfl (by decide) rfl (by decide) ⟨rfl, rfl, rfl⟩ w218 (show decode cX5_broke 47 = .ok (.getfield 19, 3) by decide +kernel) ?_
        obtain ⟨M14, e13, h⟩ := zB_bind h
        refine V_callV (rest := []) 0 Z (ok_X0_passDay isH_23 e13) cd_X0_passDay zc0 (isH_lt isH_23) (shH isH_23) w435 w336 w337 rfl (show decode cX5_broke 50 = .ok (.invokevirtual 171, 3) by decide +kernel) rfl ?_
        obtain ⟨n15, e16, h⟩ := zB_let h
        refine V_iinck 1 1 2 n15 [(2, Value.int n15), (0, Value.ref 0), (1, Value.int x1)] Z (by decide) (by decide) rfl e16 rfl (show decode cX5_broke 53 = .ok (.iinc 2 1, 3) by decide +kernel) ?_
        refine V_goto 26 Z (by decide) (show decode cX5_broke 56 = .ok (.goto (-30), 3) by decide +kernel) ?_
        refine V_sub [1, 2, 0] rfl ?_
        exact c1_i _ h
      · have h := zB_pos c12 h
        refine V_iload_n 2 Z rfl rfl (show decode cX5_broke 44 = .ok (.iload_n 2, 1) by decide +kernel) ?_
        have h := c1_r _ h
        exact V_iretM Z hE h (show decode cX5_broke 45 = .ok (.ireturn, 1) by decide +kernel)
  · have h := zB_pos c6 h
    refine V_aload_n 0 Z rfl rfl (show decode cX5_broke 7 = .ok (.aload_n 0, 1) by decide +kernel) ?_
    refine V_iconst 0 (by decide) Z (show decode cX5_broke 8 = .ok (.iconst 0, 1) by decide +kernel) ?_
    obtain ⟨⟨v18, M19⟩, e17, h⟩ := zB_bind h
    refine V_callV (rest := []) 1 Z (ok_X5_finding  e17) cd_X5_finding zc4 (by decide) rfl w248 w250 w0 rfl (show decode cX5_broke 9 = .ok (.invokevirtual 55, 3) by decide +kernel) rfl ?_
    exact V_iretM Z hE h (show decode cX5_broke 12 = .ok (.ireturn, 1) by decide +kernel)
def f_X5_often_j25 (M : zM) : Option (Int32 × zM) :=
  (f_X5_finding 0 M).bind fun ((v2, M3) : Int32 × zM) =>
  some ((v2, M3))
def f_X5_often_l48 (y1 : Int32) (y2 : Int32) (y3 : Int32) : Int32 × Int32 × zM → Option ((Int32 × Int32 × zM) ⊕ (Int32 × zM))
  | (y4, y5, M) =>
    if y3 ≤ y5 then
      some (.inr ((y4, M)))
    else
      (f_X0_passDay 23 M).bind fun (M17 : zM) =>
      (zrd M17 33 y1).bind fun (v18 : Int32) =>
      if v18 = y2 then
        (some (y4 + 1)).bind fun (n23 : Int32) =>
        (some (y5 + 1)).bind fun (n25 : Int32) =>
        some (.inl ((n23, n25, M17)))
      else
        (some (y5 + 1)).bind fun (n21 : Int32) =>
        some (.inl ((y4, n21, M17)))
def f_X5_often (x1 : Int32) (x2 : Int32) (x3 : Int32) (M : zM) : Option (Int32 × zM) :=
  (f_X5_isPerson x1 M).bind fun (v5 : Int32) =>
  if v5 = 0 then
    f_X5_often_j25  M
  else
    (f_X5_isName x2 M).bind fun (v8 : Int32) =>
    if v8 = 0 then
      f_X5_often_j25  M
    else
      (f_X5_within x3 0 100 M).bind fun (v11 : Int32) =>
      if v11 = 0 then
        f_X5_often_j25  M
      else
        (f_X0_become 23 1 M).bind fun (M14 : zM) =>
        zIter (f_X5_often_l48 x1 x2 x3) 1000 (0, 0, M14)
theorem cd_X5_often : zCd yX5_often cX5_often 6 (some .int) 3 := ⟨w439, w64, ⟨by decide, by decide⟩, by decide +kernel⟩
set_option maxHeartbeats 4000000 in
set_option maxRecDepth 20000 in
theorem ok_X5_often {x1 : Int32} {x2 : Int32} {x3 : Int32} {M : zM} {y : Int32 × zM}  (h : f_X5_often x1 x2 x3 M = some y) : zRuns yX5_often cX5_often 6 (some .int) 4 91 [.ref 0, .int x1, .int x2, .int x3] M (some (.int y.1)) y.2 := by
  refine zRuns_of (by decide +kernel) (Nat.le_of_ble_eq_true rfl) (fun E Z hE => ?_)
  have h := zB_top h
  change VV E 6 0 [(0, Value.ref 0), (1, Value.int x1), (2, Value.int x2), (3, Value.int x3)] [] M
  have J25 : ∀ (M : zM), (f_X5_often_j25  M).bind some = some y → VV E 6 25 [(0, Value.ref 0)] [] M := by
    intro  M h
    refine V_aload_n 0 Z rfl rfl (show decode cX5_often 25 = .ok (.aload_n 0, 1) by decide +kernel) ?_
    refine V_iconst 0 (by decide) Z (show decode cX5_often 26 = .ok (.iconst 0, 1) by decide +kernel) ?_
    obtain ⟨⟨v2, M3⟩, e1, h⟩ := zB_bind h
    refine V_callV (rest := []) 1 Z (ok_X5_finding  e1) cd_X5_finding zc4 (by decide) rfl w248 w250 w0 rfl (show decode cX5_often 27 = .ok (.invokevirtual 55, 3) by decide +kernel) rfl ?_
    exact V_iretM Z hE h (show decode cX5_often 30 = .ok (.ireturn, 1) by decide +kernel)
  refine V_iload_n 1 Z rfl rfl (show decode cX5_often 0 = .ok (.iload_n 1, 1) by decide +kernel) ?_
  obtain ⟨v5, e4, h⟩ := zB_bind h
  refine V_callS (rest := []) 1 Z (ok_X5_isPerson  e4) cd_X5_isPerson w300 w301 rfl (show decode cX5_often 1 = .ok (.invokestatic 108, 3) by decide +kernel) rfl ?_
  refine V_if_eq 25 Z (by decide) (show decode cX5_often 4 = .ok (.ifCond .eq 21, 3) by decide +kernel) (fun c6 => ?_) (fun c6 => ?_)
  · have h := zB_pos c6 h
    refine V_sub [0] rfl ?_
    exact J25 _ h
  · have h := zB_neg c6 h
    refine V_aload_n 0 Z rfl rfl (show decode cX5_often 7 = .ok (.aload_n 0, 1) by decide +kernel) ?_
    refine V_iload_n 2 Z rfl rfl (show decode cX5_often 8 = .ok (.iload_n 2, 1) by decide +kernel) ?_
    obtain ⟨v8, e7, h⟩ := zB_bind h
    refine V_callV (rest := []) 1 Z (ok_X5_isName  e7) cd_X5_isName zc4 (by decide) rfl w261 w263 w1 rfl (show decode cX5_often 9 = .ok (.invokevirtual 67, 3) by decide +kernel) rfl ?_
    refine V_if_eq 25 Z (by decide) (show decode cX5_often 12 = .ok (.ifCond .eq 13, 3) by decide +kernel) (fun c9 => ?_) (fun c9 => ?_)
    · have h := zB_pos c9 h
      refine V_sub [0] rfl ?_
      exact J25 _ h
    · have h := zB_neg c9 h
      refine V_iload_n 3 Z rfl rfl (show decode cX5_often 15 = .ok (.iload_n 3, 1) by decide +kernel) ?_
      refine V_iconst 0 (by decide) Z (show decode cX5_often 16 = .ok (.iconst 0, 1) by decide +kernel) ?_
      refine V_bipush 100 (by decide) Z (show decode cX5_often 17 = .ok (.bipush 100, 2) by decide +kernel) ?_
      obtain ⟨v11, e10, h⟩ := zB_bind h
      refine V_callS (rest := []) 3 Z (ok_X5_within  e10) cd_X5_within w245 w246 rfl (show decode cX5_often 19 = .ok (.invokestatic 51, 3) by decide +kernel) rfl ?_
      refine V_if_ne 31 Z (by decide) (show decode cX5_often 22 = .ok (.ifCond .ne 9, 3) by decide +kernel) (fun c12 => ?_) (fun c12 => ?_)
      · have h := zB_neg c12 h
        refine V_aload_n 0 Z rfl rfl (show decode cX5_often 31 = .ok (.aload_n 0, 1) by decide +kernel) ?_
        refine V_getR 2 23 Z zc4 (by decide) rfl (by decide) rfl (by decide) ⟨rfl, rfl, rfl⟩ w218 (show decode cX5_often 32 = .ok (.getfield 19, 3) by decide +kernel) ?_
        refine V_aload_n 0 Z rfl rfl (show decode cX5_often 35 = .ok (.aload_n 0, 1) by decide +kernel) ?_
        refine V_getR 0 1 Z zc4 (by decide) rfl (by decide) rfl (by decide) ⟨rfl, rfl, rfl⟩ w216 (show decode cX5_often 36 = .ok (.getfield 10, 3) by decide +kernel) ?_
        obtain ⟨M14, e13, h⟩ := zB_bind h
        refine V_callV (rest := []) 1 Z (ok_X0_become isH_23 isH_1 e13) cd_X0_become zc0 (isH_lt isH_23) (shH isH_23) w412 w413 w414 rfl (show decode cX5_often 39 = .ok (.invokevirtual 164, 3) by decide +kernel) rfl ?_
        refine V_iconst 0 (by decide) Z (show decode cX5_often 42 = .ok (.iconst 0, 1) by decide +kernel) ?_
        refine V_istore [(4, Value.int 0), (0, Value.ref 0), (1, Value.int x1), (2, Value.int x2), (3, Value.int x3)] Z (by decide) rfl (show decode cX5_often 43 = .ok (.istore 4, 2) by decide +kernel) ?_
        refine V_iconst 0 (by decide) Z (show decode cX5_often 45 = .ok (.iconst 0, 1) by decide +kernel) ?_
        refine V_istore [(5, Value.int 0), (4, Value.int 0), (0, Value.ref 0), (1, Value.int x1), (2, Value.int x2), (3, Value.int x3)] Z (by decide) rfl (show decode cX5_often 46 = .ok (.istore 5, 2) by decide +kernel) ?_
        refine V_sub [2, 3, 4, 5, 1, 0] rfl ?_
        refine zIter_loop' (K := some) (fun s : Int32 × Int32 × zM => VV E 6 48 [(0, Value.ref 0), (1, Value.int x1), (2, Value.int x2), (3, Value.int x3), (4, Value.int s.1), (5, Value.int s.2.1)] [] s.2.2) (fun K1 s c1_i c1_r h => ?_) _ _ h
        obtain ⟨y4, y5, M⟩ := s
        change VV E 6 48 [(0, Value.ref 0), (1, Value.int x1), (2, Value.int x2), (3, Value.int x3), (4, Value.int y4), (5, Value.int y5)] [] M
        refine V_iload 5 Z rfl (show decode cX5_often 48 = .ok (.iload 5, 2) by decide +kernel) ?_
        refine V_iload_n 3 Z rfl rfl (show decode cX5_often 50 = .ok (.iload_n 3, 1) by decide +kernel) ?_
        refine V_icmp_ge 83 Z (by decide) (show decode cX5_often 51 = .ok (.if_icmp .ge 32, 3) by decide +kernel) (fun c15 => ?_) (fun c15 => ?_)
        · have h := zB_pos c15 h
          refine V_iload 4 Z rfl (show decode cX5_often 83 = .ok (.iload 4, 2) by decide +kernel) ?_
          have h := c1_r _ h
          exact V_iretM Z hE h (show decode cX5_often 85 = .ok (.ireturn, 1) by decide +kernel)
        · have h := zB_neg c15 h
          refine V_aload_n 0 Z rfl rfl (show decode cX5_often 54 = .ok (.aload_n 0, 1) by decide +kernel) ?_
          refine V_getR 2 23 Z zc4 (by decide) rfl (by decide) rfl (by decide) ⟨rfl, rfl, rfl⟩ w218 (show decode cX5_often 55 = .ok (.getfield 19, 3) by decide +kernel) ?_
          obtain ⟨M17, e16, h⟩ := zB_bind h
          refine V_callV (rest := []) 0 Z (ok_X0_passDay isH_23 e16) cd_X0_passDay zc0 (isH_lt isH_23) (shH isH_23) w435 w336 w337 rfl (show decode cX5_often 58 = .ok (.invokevirtual 171, 3) by decide +kernel) rfl ?_
          refine V_aload_n 0 Z rfl rfl (show decode cX5_often 61 = .ok (.aload_n 0, 1) by decide +kernel) ?_
          refine V_getR 2 23 Z zc4 (by decide) rfl (by decide) rfl (by decide) ⟨rfl, rfl, rfl⟩ w218 (show decode cX5_often 62 = .ok (.getfield 19, 3) by decide +kernel) ?_
          refine V_getR 14 33 Z zc0 (isH_lt isH_23) (shH isH_23) (by decide) rfl (by decide) ⟨rfl, rfl, rfl⟩ w125 (show decode cX5_often 65 = .ok (.getfield 161, 3) by decide +kernel) ?_
          refine V_iload_n 1 Z rfl rfl (show decode cX5_often 68 = .ok (.iload_n 1, 1) by decide +kernel) ?_
          obtain ⟨v18, e19, h⟩ := zB_bind h
          refine V_iald Z e19 (show decode cX5_often 69 = .ok (.iaload, 1) by decide +kernel) ?_
          refine V_iload_n 2 Z rfl rfl (show decode cX5_often 70 = .ok (.iload_n 2, 1) by decide +kernel) ?_
          refine V_icmp_ne 77 Z (by decide) (show decode cX5_often 71 = .ok (.if_icmp .ne 6, 3) by decide +kernel) (fun c20 => ?_) (fun c20 => ?_)
          · have h := zB_neg c20 h
            obtain ⟨n21, e22, h⟩ := zB_let h
            refine V_iinck 1 1 5 n21 [(5, Value.int n21), (0, Value.ref 0), (1, Value.int x1), (2, Value.int x2), (3, Value.int x3), (4, Value.int y4)] Z (by decide) (by decide) rfl e22 rfl (show decode cX5_often 77 = .ok (.iinc 5 1, 3) by decide +kernel) ?_
            refine V_goto 48 Z (by decide) (show decode cX5_often 80 = .ok (.goto (-32), 3) by decide +kernel) ?_
            refine V_sub [1, 2, 3, 4, 5, 0] rfl ?_
            exact c1_i _ h
          · have h := zB_pos c20 h
            obtain ⟨n23, e24, h⟩ := zB_let h
            refine V_iinck 1 1 4 n23 [(4, Value.int n23), (0, Value.ref 0), (1, Value.int x1), (2, Value.int x2), (3, Value.int x3), (5, Value.int y5)] Z (by decide) (by decide) rfl e24 rfl (show decode cX5_often 74 = .ok (.iinc 4 1, 3) by decide +kernel) ?_
            obtain ⟨n25, e26, h⟩ := zB_let h
            refine V_iinck 1 1 5 n25 [(5, Value.int n25), (4, Value.int n23), (0, Value.ref 0), (1, Value.int x1), (2, Value.int x2), (3, Value.int x3)] Z (by decide) (by decide) rfl e26 rfl (show decode cX5_often 77 = .ok (.iinc 5 1, 3) by decide +kernel) ?_
            refine V_goto 48 Z (by decide) (show decode cX5_often 80 = .ok (.goto (-32), 3) by decide +kernel) ?_
            refine V_sub [2, 3, 4, 5, 1, 0] rfl ?_
            exact c1_i _ h
      · have h := zB_pos c12 h
        refine V_sub [0] rfl ?_
        exact J25 _ h
def f_X5_kindFor_l21 (y1 : Int32) : Int32 × Int32 × Int32 × zM → Option ((Int32 × Int32 × Int32 × zM) ⊕ (Int32 × zM))
  | (y2, y3, y4, M) =>
    if 7 ≤ y4 then
      some (.inr ((y2, M)))
    else
      (f_X0_become 23 1 M).bind fun (M6 : zM) =>
      (zwr M6 24 y1 y4).bind fun (M7 : zM) =>
      (f_X0_daysHung 23 y1 M7).bind fun ((v10, M11) : Int32 × zM) =>
      (some ((if 100 < v10 then 100 else v10))).bind fun (n12 : Int32) =>
      if n12 ≤ y3 then
        (some (y4 + 1)).bind fun (n15 : Int32) =>
        some (.inl ((y2, y3, n15, M11)))
      else
        (some (y4 + 1)).bind fun (n17 : Int32) =>
        some (.inl ((y4, n12, n17, M11)))
def f_X5_kindFor (x1 : Int32) (M : zM) : Option (Int32 × zM) :=
  (f_X5_isName x1 M).bind fun (v2 : Int32) =>
  if v2 = 0 then
    (f_X5_finding 0 M).bind fun ((v20, M21) : Int32 × zM) =>
    some ((v20, M21))
  else
    zIter (f_X5_kindFor_l21 x1) 1000 (0, (-1), 0, M)
theorem cd_X5_kindFor : zCd yX5_kindFor cX5_kindFor 6 (some .int) 1 := ⟨w443, w64, ⟨by decide, by decide⟩, by decide +kernel⟩
set_option maxHeartbeats 4000000 in
set_option maxRecDepth 20000 in
theorem ok_X5_kindFor {x1 : Int32} {M : zM} {y : Int32 × zM}  (h : f_X5_kindFor x1 M = some y) : zRuns yX5_kindFor cX5_kindFor 6 (some .int) 5 113 [.ref 0, .int x1] M (some (.int y.1)) y.2 := by
  refine zRuns_of (by decide +kernel) (Nat.le_of_ble_eq_true rfl) (fun E Z hE => ?_)
  have h := zB_top h
  change VV E 6 0 [(0, Value.ref 0), (1, Value.int x1)] [] M
  refine V_aload_n 0 Z rfl rfl (show decode cX5_kindFor 0 = .ok (.aload_n 0, 1) by decide +kernel) ?_
  refine V_iload_n 1 Z rfl rfl (show decode cX5_kindFor 1 = .ok (.iload_n 1, 1) by decide +kernel) ?_
  obtain ⟨v2, e1, h⟩ := zB_bind h
  refine V_callV (rest := []) 1 Z (ok_X5_isName  e1) cd_X5_isName zc4 (by decide) rfl w261 w263 w1 rfl (show decode cX5_kindFor 2 = .ok (.invokevirtual 67, 3) by decide +kernel) rfl ?_
  refine V_if_ne 14 Z (by decide) (show decode cX5_kindFor 5 = .ok (.ifCond .ne 9, 3) by decide +kernel) (fun c3 => ?_) (fun c3 => ?_)
  · have h := zB_neg c3 h
    refine V_iconst 0 (by decide) Z (show decode cX5_kindFor 14 = .ok (.iconst 0, 1) by decide +kernel) ?_
    refine V_istore_n [(2, Value.int 0), (0, Value.ref 0), (1, Value.int x1)] Z (by decide) rfl rfl (show decode cX5_kindFor 15 = .ok (.istore_n 2, 1) by decide +kernel) ?_
    refine V_iconst (-1) (by decide) Z (show decode cX5_kindFor 16 = .ok (.iconst (-1), 1) by decide +kernel) ?_
    refine V_istore_n [(3, Value.int (-1)), (2, Value.int 0), (0, Value.ref 0), (1, Value.int x1)] Z (by decide) rfl rfl (show decode cX5_kindFor 17 = .ok (.istore_n 3, 1) by decide +kernel) ?_
    refine V_iconst 0 (by decide) Z (show decode cX5_kindFor 18 = .ok (.iconst 0, 1) by decide +kernel) ?_
    refine V_istore [(4, Value.int 0), (3, Value.int (-1)), (2, Value.int 0), (0, Value.ref 0), (1, Value.int x1)] Z (by decide) rfl (show decode cX5_kindFor 19 = .ok (.istore 4, 2) by decide +kernel) ?_
    refine V_sub [3, 4, 2, 1, 0] rfl ?_
    refine zIter_loop' (K := some) (fun s : Int32 × Int32 × Int32 × zM => VV E 6 21 [(0, Value.ref 0), (1, Value.int x1), (2, Value.int s.1), (3, Value.int s.2.1), (4, Value.int s.2.2.1)] [] s.2.2.2) (fun K1 s c1_i c1_r h => ?_) _ _ h
    obtain ⟨y2, y3, y4, M⟩ := s
    change VV E 6 21 [(0, Value.ref 0), (1, Value.int x1), (2, Value.int y2), (3, Value.int y3), (4, Value.int y4)] [] M
    refine V_iload 4 Z rfl (show decode cX5_kindFor 21 = .ok (.iload 4, 2) by decide +kernel) ?_
    refine V_bipush 7 (by decide) Z (show decode cX5_kindFor 23 = .ok (.bipush 7, 2) by decide +kernel) ?_
    refine V_icmp_ge 83 Z (by decide) (show decode cX5_kindFor 25 = .ok (.if_icmp .ge 58, 3) by decide +kernel) (fun c4 => ?_) (fun c4 => ?_)
    · have h := zB_pos c4 h
      refine V_iload_n 2 Z rfl rfl (show decode cX5_kindFor 83 = .ok (.iload_n 2, 1) by decide +kernel) ?_
      have h := c1_r _ h
      exact V_iretM Z hE h (show decode cX5_kindFor 84 = .ok (.ireturn, 1) by decide +kernel)
    · have h := zB_neg c4 h
      refine V_aload_n 0 Z rfl rfl (show decode cX5_kindFor 28 = .ok (.aload_n 0, 1) by decide +kernel) ?_
      refine V_getR 2 23 Z zc4 (by decide) rfl (by decide) rfl (by decide) ⟨rfl, rfl, rfl⟩ w218 (show decode cX5_kindFor 29 = .ok (.getfield 19, 3) by decide +kernel) ?_
      refine V_aload_n 0 Z rfl rfl (show decode cX5_kindFor 32 = .ok (.aload_n 0, 1) by decide +kernel) ?_
      refine V_getR 0 1 Z zc4 (by decide) rfl (by decide) rfl (by decide) ⟨rfl, rfl, rfl⟩ w216 (show decode cX5_kindFor 33 = .ok (.getfield 10, 3) by decide +kernel) ?_
      obtain ⟨M6, e5, h⟩ := zB_bind h
      refine V_callV (rest := []) 1 Z (ok_X0_become isH_23 isH_1 e5) cd_X0_become zc0 (isH_lt isH_23) (shH isH_23) w412 w413 w414 rfl (show decode cX5_kindFor 36 = .ok (.invokevirtual 164, 3) by decide +kernel) rfl ?_
      refine V_aload_n 0 Z rfl rfl (show decode cX5_kindFor 39 = .ok (.aload_n 0, 1) by decide +kernel) ?_
      refine V_getR 2 23 Z zc4 (by decide) rfl (by decide) rfl (by decide) ⟨rfl, rfl, rfl⟩ w218 (show decode cX5_kindFor 40 = .ok (.getfield 19, 3) by decide +kernel) ?_
      refine V_getR 1 24 Z zc0 (isH_lt isH_23) (shH isH_23) (by decide) rfl (by decide) ⟨rfl, rfl, rfl⟩ w96 (show decode cX5_kindFor 43 = .ok (.getfield 71, 3) by decide +kernel) ?_
      refine V_iload_n 1 Z rfl rfl (show decode cX5_kindFor 46 = .ok (.iload_n 1, 1) by decide +kernel) ?_
      refine V_iload 4 Z rfl (show decode cX5_kindFor 47 = .ok (.iload 4, 2) by decide +kernel) ?_
      obtain ⟨M7, e8, h⟩ := zB_bind h
      refine V_iast Z e8 (show decode cX5_kindFor 49 = .ok (.iastore, 1) by decide +kernel) ?_
      refine V_aload_n 0 Z rfl rfl (show decode cX5_kindFor 50 = .ok (.aload_n 0, 1) by decide +kernel) ?_
      refine V_getR 2 23 Z zc4 (by decide) rfl (by decide) rfl (by decide) ⟨rfl, rfl, rfl⟩ w218 (show decode cX5_kindFor 51 = .ok (.getfield 19, 3) by decide +kernel) ?_
      refine V_iload_n 1 Z rfl rfl (show decode cX5_kindFor 54 = .ok (.iload_n 1, 1) by decide +kernel) ?_
      obtain ⟨⟨v10, M11⟩, e9, h⟩ := zB_bind h
      refine V_callV (rest := []) 1 Z (ok_X0_daysHung isH_23 e9) cd_X0_daysHung zc0 (isH_lt isH_23) (shH isH_23) w427 w428 w429 rfl (show decode cX5_kindFor 55 = .ok (.invokevirtual 168, 3) by decide +kernel) rfl ?_
      refine V_bipush 100 (by decide) Z (show decode cX5_kindFor 58 = .ok (.bipush 100, 2) by decide +kernel) ?_
      refine V_min Z w444 w367 w71 w368 (show decode cX5_kindFor 60 = .ok (.invokestatic 174, 3) by decide +kernel) rfl ?_
      obtain ⟨n12, e13, h⟩ := zB_let h
      refine V_nm e13 ?_
      refine V_istore [(5, Value.int n12), (0, Value.ref 0), (1, Value.int x1), (2, Value.int y2), (3, Value.int y3), (4, Value.int y4)] Z (by decide) rfl (show decode cX5_kindFor 63 = .ok (.istore 5, 2) by decide +kernel) ?_
      refine V_iload 0 Z rfl (show decode cX5_kindFor 65 = .ok (.iload 5, 2) by decide +kernel) ?_
      refine V_iload_n 4 Z rfl rfl (show decode cX5_kindFor 67 = .ok (.iload_n 3, 1) by decide +kernel) ?_
      refine V_icmp_le 77 Z (by decide) (show decode cX5_kindFor 68 = .ok (.if_icmp .le 9, 3) by decide +kernel) (fun c14 => ?_) (fun c14 => ?_)
      · have h := zB_pos c14 h
        obtain ⟨n15, e16, h⟩ := zB_let h
        refine V_iinck 1 1 5 n15 [(4, Value.int n15), (5, Value.int n12), (0, Value.ref 0), (1, Value.int x1), (2, Value.int y2), (3, Value.int y3)] Z (by decide) (by decide) rfl e16 rfl (show decode cX5_kindFor 77 = .ok (.iinc 4 1, 3) by decide +kernel) ?_
        refine V_goto 21 Z (by decide) (show decode cX5_kindFor 80 = .ok (.goto (-59), 3) by decide +kernel) ?_
        refine V_sub [2, 3, 4, 5, 0] rfl ?_
        exact c1_i _ h
      · have h := zB_neg c14 h
        refine V_iload 5 Z rfl (show decode cX5_kindFor 71 = .ok (.iload 4, 2) by decide +kernel) ?_
        refine V_istore_n [(2, Value.int y4), (5, Value.int n12), (0, Value.ref 0), (1, Value.int x1), (3, Value.int y3), (4, Value.int y4)] Z (by decide) rfl rfl (show decode cX5_kindFor 73 = .ok (.istore_n 2, 1) by decide +kernel) ?_
        refine V_iload 1 Z rfl (show decode cX5_kindFor 74 = .ok (.iload 5, 2) by decide +kernel) ?_
        refine V_istore_n [(3, Value.int n12), (2, Value.int y4), (5, Value.int n12), (0, Value.ref 0), (1, Value.int x1), (4, Value.int y4)] Z (by decide) rfl rfl (show decode cX5_kindFor 76 = .ok (.istore_n 3, 1) by decide +kernel) ?_
        obtain ⟨n17, e18, h⟩ := zB_let h
        refine V_iinck 1 1 5 n17 [(4, Value.int n17), (3, Value.int n12), (2, Value.int y4), (5, Value.int n12), (0, Value.ref 0), (1, Value.int x1)] Z (by decide) (by decide) rfl e18 rfl (show decode cX5_kindFor 77 = .ok (.iinc 4 1, 3) by decide +kernel) ?_
        refine V_goto 21 Z (by decide) (show decode cX5_kindFor 80 = .ok (.goto (-59), 3) by decide +kernel) ?_
        refine V_sub [4, 5, 2, 1, 0] rfl ?_
        exact c1_i _ h
  · have h := zB_pos c3 h
    refine V_aload_n 0 Z rfl rfl (show decode cX5_kindFor 8 = .ok (.aload_n 0, 1) by decide +kernel) ?_
    refine V_iconst 0 (by decide) Z (show decode cX5_kindFor 9 = .ok (.iconst 0, 1) by decide +kernel) ?_
    obtain ⟨⟨v20, M21⟩, e19, h⟩ := zB_bind h
    refine V_callV (rest := []) 1 Z (ok_X5_finding  e19) cd_X5_finding zc4 (by decide) rfl w248 w250 w0 rfl (show decode cX5_kindFor 10 = .ok (.invokevirtual 55, 3) by decide +kernel) rfl ?_
    exact V_iretM Z hE h (show decode cX5_kindFor 13 = .ok (.ireturn, 1) by decide +kernel)
def f_X5_orderFor_j59 (M : zM) : Option (Int32 × zM) :=
  (f_X5_finding 3 M).bind fun ((v2, M3) : Int32 × zM) =>
  some ((v2, M3))
def f_X5_orderFor_j15 (M : zM) : Option (Int32 × zM) :=
  (f_X5_finding 0 M).bind fun ((v5, M6) : Int32 × zM) =>
  some ((v5, M6))
def f_X5_orderFor_l23 (y1 : Int32) (y2 : Int32) : Int32 × zM → Option ((Int32 × zM) ⊕ (Int32 × zM))
  | (y3, M) =>
    if 720 ≤ y3 then
      (f_X5_orderFor_j59  M).bind fun z => some (Sum.inr z)
    else
      (f_X0_draw 1 y3 M).bind fun (M15 : zM) =>
      (zrd M15 11 y1).bind fun (v16 : Int32) =>
      if v16 = y2 then
        some (.inr ((y3, M15)))
      else
        (some (y3 + 1)).bind fun (n19 : Int32) =>
        some (.inl ((n19, M15)))
def f_X5_orderFor (x1 : Int32) (x2 : Int32) (M : zM) : Option (Int32 × zM) :=
  (f_X5_isPerson x1 M).bind fun (v8 : Int32) =>
  if v8 = 0 then
    f_X5_orderFor_j15  M
  else
    (f_X5_isName x2 M).bind fun (v11 : Int32) =>
    if v11 = 0 then
      f_X5_orderFor_j15  M
    else
      zIter (f_X5_orderFor_l23 x1 x2) 1000 (0, M)
theorem cd_X5_orderFor : zCd yX5_orderFor cX5_orderFor 4 (some .int) 2 := ⟨w448, w64, ⟨by decide, by decide⟩, by decide +kernel⟩
set_option maxHeartbeats 4000000 in
set_option maxRecDepth 20000 in
theorem ok_X5_orderFor {x1 : Int32} {x2 : Int32} {M : zM} {y : Int32 × zM}  (h : f_X5_orderFor x1 x2 M = some y) : zRuns yX5_orderFor cX5_orderFor 4 (some .int) 3 68 [.ref 0, .int x1, .int x2] M (some (.int y.1)) y.2 := by
  refine zRuns_of (by decide +kernel) (Nat.le_of_ble_eq_true rfl) (fun E Z hE => ?_)
  have h := zB_top h
  change VV E 4 0 [(0, Value.ref 0), (1, Value.int x1), (2, Value.int x2)] [] M
  have J59 : ∀ (M : zM), (f_X5_orderFor_j59  M).bind some = some y → VV E 4 59 [(0, Value.ref 0)] [] M := by
    intro  M h
    refine V_aload_n 0 Z rfl rfl (show decode cX5_orderFor 59 = .ok (.aload_n 0, 1) by decide +kernel) ?_
    refine V_iconst 3 (by decide) Z (show decode cX5_orderFor 60 = .ok (.iconst 3, 1) by decide +kernel) ?_
    obtain ⟨⟨v2, M3⟩, e1, h⟩ := zB_bind h
    refine V_callV (rest := []) 1 Z (ok_X5_finding  e1) cd_X5_finding zc4 (by decide) rfl w248 w250 w0 rfl (show decode cX5_orderFor 61 = .ok (.invokevirtual 55, 3) by decide +kernel) rfl ?_
    exact V_iretM Z hE h (show decode cX5_orderFor 64 = .ok (.ireturn, 1) by decide +kernel)
  have J15 : ∀ (M : zM), (f_X5_orderFor_j15  M).bind some = some y → VV E 4 15 [(0, Value.ref 0)] [] M := by
    intro  M h
    refine V_aload_n 0 Z rfl rfl (show decode cX5_orderFor 15 = .ok (.aload_n 0, 1) by decide +kernel) ?_
    refine V_iconst 0 (by decide) Z (show decode cX5_orderFor 16 = .ok (.iconst 0, 1) by decide +kernel) ?_
    obtain ⟨⟨v5, M6⟩, e4, h⟩ := zB_bind h
    refine V_callV (rest := []) 1 Z (ok_X5_finding  e4) cd_X5_finding zc4 (by decide) rfl w248 w250 w0 rfl (show decode cX5_orderFor 17 = .ok (.invokevirtual 55, 3) by decide +kernel) rfl ?_
    exact V_iretM Z hE h (show decode cX5_orderFor 20 = .ok (.ireturn, 1) by decide +kernel)
  refine V_iload_n 1 Z rfl rfl (show decode cX5_orderFor 0 = .ok (.iload_n 1, 1) by decide +kernel) ?_
  obtain ⟨v8, e7, h⟩ := zB_bind h
  refine V_callS (rest := []) 1 Z (ok_X5_isPerson  e7) cd_X5_isPerson w300 w301 rfl (show decode cX5_orderFor 1 = .ok (.invokestatic 108, 3) by decide +kernel) rfl ?_
  refine V_if_eq 15 Z (by decide) (show decode cX5_orderFor 4 = .ok (.ifCond .eq 11, 3) by decide +kernel) (fun c9 => ?_) (fun c9 => ?_)
  · have h := zB_pos c9 h
    refine V_sub [0] rfl ?_
    exact J15 _ h
  · have h := zB_neg c9 h
    refine V_aload_n 0 Z rfl rfl (show decode cX5_orderFor 7 = .ok (.aload_n 0, 1) by decide +kernel) ?_
    refine V_iload_n 2 Z rfl rfl (show decode cX5_orderFor 8 = .ok (.iload_n 2, 1) by decide +kernel) ?_
    obtain ⟨v11, e10, h⟩ := zB_bind h
    refine V_callV (rest := []) 1 Z (ok_X5_isName  e10) cd_X5_isName zc4 (by decide) rfl w261 w263 w1 rfl (show decode cX5_orderFor 9 = .ok (.invokevirtual 67, 3) by decide +kernel) rfl ?_
    refine V_if_ne 21 Z (by decide) (show decode cX5_orderFor 12 = .ok (.ifCond .ne 9, 3) by decide +kernel) (fun c12 => ?_) (fun c12 => ?_)
    · have h := zB_neg c12 h
      refine V_iconst 0 (by decide) Z (show decode cX5_orderFor 21 = .ok (.iconst 0, 1) by decide +kernel) ?_
      refine V_istore_n [(3, Value.int 0), (0, Value.ref 0), (1, Value.int x1), (2, Value.int x2)] Z (by decide) rfl rfl (show decode cX5_orderFor 22 = .ok (.istore_n 3, 1) by decide +kernel) ?_
      refine V_sub [1, 2, 3, 0] rfl ?_
      refine zIter_loop' (K := some) (fun s : Int32 × zM => VV E 4 23 [(0, Value.ref 0), (1, Value.int x1), (2, Value.int x2), (3, Value.int s.1)] [] s.2) (fun K1 s c1_i c1_r h => ?_) _ _ h
      obtain ⟨y3, M⟩ := s
      change VV E 4 23 [(0, Value.ref 0), (1, Value.int x1), (2, Value.int x2), (3, Value.int y3)] [] M
      refine V_iload_n 3 Z rfl rfl (show decode cX5_orderFor 23 = .ok (.iload_n 3, 1) by decide +kernel) ?_
      refine V_sipush 720 (by decide) Z (show decode cX5_orderFor 24 = .ok (.sipush 720, 3) by decide +kernel) ?_
      refine V_icmp_ge 59 Z (by decide) (show decode cX5_orderFor 27 = .ok (.if_icmp .ge 32, 3) by decide +kernel) (fun c13 => ?_) (fun c13 => ?_)
      · have h := zB_pos c13 h
        refine V_sub [0] rfl ?_
        have h := zB_lift c1_r h
        exact J59 _ h
      · have h := zB_neg c13 h
        refine V_aload_n 0 Z rfl rfl (show decode cX5_orderFor 30 = .ok (.aload_n 0, 1) by decide +kernel) ?_
        refine V_getR 0 1 Z zc4 (by decide) rfl (by decide) rfl (by decide) ⟨rfl, rfl, rfl⟩ w216 (show decode cX5_orderFor 31 = .ok (.getfield 10, 3) by decide +kernel) ?_
        refine V_iload_n 3 Z rfl rfl (show decode cX5_orderFor 34 = .ok (.iload_n 3, 1) by decide +kernel) ?_
        obtain ⟨M15, e14, h⟩ := zB_bind h
        refine V_callV (rest := []) 1 Z (ok_X0_draw isH_1 e14) cd_X0_draw zc0 (isH_lt isH_1) (shH isH_1) w407 w340 w341 rfl (show decode cX5_orderFor 35 = .ok (.invokevirtual 158, 3) by decide +kernel) rfl ?_
        refine V_aload_n 0 Z rfl rfl (show decode cX5_orderFor 38 = .ok (.aload_n 0, 1) by decide +kernel) ?_
        refine V_getR 0 1 Z zc4 (by decide) rfl (by decide) rfl (by decide) ⟨rfl, rfl, rfl⟩ w216 (show decode cX5_orderFor 39 = .ok (.getfield 10, 3) by decide +kernel) ?_
        refine V_getR 14 11 Z zc0 (isH_lt isH_1) (shH isH_1) (by decide) rfl (by decide) ⟨rfl, rfl, rfl⟩ w125 (show decode cX5_orderFor 42 = .ok (.getfield 161, 3) by decide +kernel) ?_
        refine V_iload_n 1 Z rfl rfl (show decode cX5_orderFor 45 = .ok (.iload_n 1, 1) by decide +kernel) ?_
        obtain ⟨v16, e17, h⟩ := zB_bind h
        refine V_iald Z e17 (show decode cX5_orderFor 46 = .ok (.iaload, 1) by decide +kernel) ?_
        refine V_iload_n 2 Z rfl rfl (show decode cX5_orderFor 47 = .ok (.iload_n 2, 1) by decide +kernel) ?_
        refine V_icmp_ne 53 Z (by decide) (show decode cX5_orderFor 48 = .ok (.if_icmp .ne 5, 3) by decide +kernel) (fun c18 => ?_) (fun c18 => ?_)
        · have h := zB_neg c18 h
          obtain ⟨n19, e20, h⟩ := zB_let h
          refine V_iinck 1 1 3 n19 [(3, Value.int n19), (0, Value.ref 0), (1, Value.int x1), (2, Value.int x2)] Z (by decide) (by decide) rfl e20 rfl (show decode cX5_orderFor 53 = .ok (.iinc 3 1, 3) by decide +kernel) ?_
          refine V_goto 23 Z (by decide) (show decode cX5_orderFor 56 = .ok (.goto (-33), 3) by decide +kernel) ?_
          refine V_sub [1, 2, 3, 0] rfl ?_
          exact c1_i _ h
        · have h := zB_pos c18 h
          refine V_iload_n 3 Z rfl rfl (show decode cX5_orderFor 51 = .ok (.iload_n 3, 1) by decide +kernel) ?_
          have h := c1_r _ h
          exact V_iretM Z hE h (show decode cX5_orderFor 52 = .ok (.ireturn, 1) by decide +kernel)
    · have h := zB_pos c12 h
      refine V_sub [0] rfl ?_
      exact J15 _ h
def f_X5_orders_j15 (M : zM) : Option (Int32 × zM) :=
  (f_X5_finding 0 M).bind fun ((v2, M3) : Int32 × zM) =>
  some ((v2, M3))
def f_X5_orders_l26 (y1 : Int32) (y2 : Int32) : Int32 × Int32 × zM → Option ((Int32 × Int32 × zM) ⊕ (Int32 × zM))
  | (y3, y4, M) =>
    if 720 ≤ y4 then
      some (.inr ((y3, M)))
    else
      (f_X0_draw 1 y4 M).bind fun (M12 : zM) =>
      (zrd M12 11 y1).bind fun (v13 : Int32) =>
      if v13 = y2 then
        (some (y3 + 1)).bind fun (n18 : Int32) =>
        (some (y4 + 1)).bind fun (n20 : Int32) =>
        some (.inl ((n18, n20, M12)))
      else
        (some (y4 + 1)).bind fun (n16 : Int32) =>
        some (.inl ((y3, n16, M12)))
def f_X5_orders (x1 : Int32) (x2 : Int32) (M : zM) : Option (Int32 × zM) :=
  (f_X5_isPerson x1 M).bind fun (v5 : Int32) =>
  if v5 = 0 then
    f_X5_orders_j15  M
  else
    (f_X5_isName x2 M).bind fun (v8 : Int32) =>
    if v8 = 0 then
      f_X5_orders_j15  M
    else
      zIter (f_X5_orders_l26 x1 x2) 1000 (0, 0, M)
theorem cd_X5_orders : zCd yX5_orders cX5_orders 5 (some .int) 2 := ⟨w452, w64, ⟨by decide, by decide⟩, by decide +kernel⟩
set_option maxHeartbeats 4000000 in
set_option maxRecDepth 20000 in
theorem ok_X5_orders {x1 : Int32} {x2 : Int32} {M : zM} {y : Int32 × zM}  (h : f_X5_orders x1 x2 M = some y) : zRuns yX5_orders cX5_orders 5 (some .int) 3 68 [.ref 0, .int x1, .int x2] M (some (.int y.1)) y.2 := by
  refine zRuns_of (by decide +kernel) (Nat.le_of_ble_eq_true rfl) (fun E Z hE => ?_)
  have h := zB_top h
  change VV E 5 0 [(0, Value.ref 0), (1, Value.int x1), (2, Value.int x2)] [] M
  have J15 : ∀ (M : zM), (f_X5_orders_j15  M).bind some = some y → VV E 5 15 [(0, Value.ref 0)] [] M := by
    intro  M h
    refine V_aload_n 0 Z rfl rfl (show decode cX5_orders 15 = .ok (.aload_n 0, 1) by decide +kernel) ?_
    refine V_iconst 0 (by decide) Z (show decode cX5_orders 16 = .ok (.iconst 0, 1) by decide +kernel) ?_
    obtain ⟨⟨v2, M3⟩, e1, h⟩ := zB_bind h
    refine V_callV (rest := []) 1 Z (ok_X5_finding  e1) cd_X5_finding zc4 (by decide) rfl w248 w250 w0 rfl (show decode cX5_orders 17 = .ok (.invokevirtual 55, 3) by decide +kernel) rfl ?_
    exact V_iretM Z hE h (show decode cX5_orders 20 = .ok (.ireturn, 1) by decide +kernel)
  refine V_iload_n 1 Z rfl rfl (show decode cX5_orders 0 = .ok (.iload_n 1, 1) by decide +kernel) ?_
  obtain ⟨v5, e4, h⟩ := zB_bind h
  refine V_callS (rest := []) 1 Z (ok_X5_isPerson  e4) cd_X5_isPerson w300 w301 rfl (show decode cX5_orders 1 = .ok (.invokestatic 108, 3) by decide +kernel) rfl ?_
  refine V_if_eq 15 Z (by decide) (show decode cX5_orders 4 = .ok (.ifCond .eq 11, 3) by decide +kernel) (fun c6 => ?_) (fun c6 => ?_)
  · have h := zB_pos c6 h
    refine V_sub [0] rfl ?_
    exact J15 _ h
  · have h := zB_neg c6 h
    refine V_aload_n 0 Z rfl rfl (show decode cX5_orders 7 = .ok (.aload_n 0, 1) by decide +kernel) ?_
    refine V_iload_n 2 Z rfl rfl (show decode cX5_orders 8 = .ok (.iload_n 2, 1) by decide +kernel) ?_
    obtain ⟨v8, e7, h⟩ := zB_bind h
    refine V_callV (rest := []) 1 Z (ok_X5_isName  e7) cd_X5_isName zc4 (by decide) rfl w261 w263 w1 rfl (show decode cX5_orders 9 = .ok (.invokevirtual 67, 3) by decide +kernel) rfl ?_
    refine V_if_ne 21 Z (by decide) (show decode cX5_orders 12 = .ok (.ifCond .ne 9, 3) by decide +kernel) (fun c9 => ?_) (fun c9 => ?_)
    · have h := zB_neg c9 h
      refine V_iconst 0 (by decide) Z (show decode cX5_orders 21 = .ok (.iconst 0, 1) by decide +kernel) ?_
      refine V_istore_n [(3, Value.int 0), (0, Value.ref 0), (1, Value.int x1), (2, Value.int x2)] Z (by decide) rfl rfl (show decode cX5_orders 22 = .ok (.istore_n 3, 1) by decide +kernel) ?_
      refine V_iconst 0 (by decide) Z (show decode cX5_orders 23 = .ok (.iconst 0, 1) by decide +kernel) ?_
      refine V_istore [(4, Value.int 0), (3, Value.int 0), (0, Value.ref 0), (1, Value.int x1), (2, Value.int x2)] Z (by decide) rfl (show decode cX5_orders 24 = .ok (.istore 4, 2) by decide +kernel) ?_
      refine V_sub [2, 3, 4, 1, 0] rfl ?_
      refine zIter_loop' (K := some) (fun s : Int32 × Int32 × zM => VV E 5 26 [(0, Value.ref 0), (1, Value.int x1), (2, Value.int x2), (3, Value.int s.1), (4, Value.int s.2.1)] [] s.2.2) (fun K1 s c1_i c1_r h => ?_) _ _ h
      obtain ⟨y3, y4, M⟩ := s
      change VV E 5 26 [(0, Value.ref 0), (1, Value.int x1), (2, Value.int x2), (3, Value.int y3), (4, Value.int y4)] [] M
      refine V_iload 4 Z rfl (show decode cX5_orders 26 = .ok (.iload 4, 2) by decide +kernel) ?_
      refine V_sipush 720 (by decide) Z (show decode cX5_orders 28 = .ok (.sipush 720, 3) by decide +kernel) ?_
      refine V_icmp_ge 65 Z (by decide) (show decode cX5_orders 31 = .ok (.if_icmp .ge 34, 3) by decide +kernel) (fun c10 => ?_) (fun c10 => ?_)
      · have h := zB_pos c10 h
        refine V_iload_n 3 Z rfl rfl (show decode cX5_orders 65 = .ok (.iload_n 3, 1) by decide +kernel) ?_
        have h := c1_r _ h
        exact V_iretM Z hE h (show decode cX5_orders 66 = .ok (.ireturn, 1) by decide +kernel)
      · have h := zB_neg c10 h
        refine V_aload_n 0 Z rfl rfl (show decode cX5_orders 34 = .ok (.aload_n 0, 1) by decide +kernel) ?_
        refine V_getR 0 1 Z zc4 (by decide) rfl (by decide) rfl (by decide) ⟨rfl, rfl, rfl⟩ w216 (show decode cX5_orders 35 = .ok (.getfield 10, 3) by decide +kernel) ?_
        refine V_iload 4 Z rfl (show decode cX5_orders 38 = .ok (.iload 4, 2) by decide +kernel) ?_
        obtain ⟨M12, e11, h⟩ := zB_bind h
        refine V_callV (rest := []) 1 Z (ok_X0_draw isH_1 e11) cd_X0_draw zc0 (isH_lt isH_1) (shH isH_1) w407 w340 w341 rfl (show decode cX5_orders 40 = .ok (.invokevirtual 158, 3) by decide +kernel) rfl ?_
        refine V_aload_n 0 Z rfl rfl (show decode cX5_orders 43 = .ok (.aload_n 0, 1) by decide +kernel) ?_
        refine V_getR 0 1 Z zc4 (by decide) rfl (by decide) rfl (by decide) ⟨rfl, rfl, rfl⟩ w216 (show decode cX5_orders 44 = .ok (.getfield 10, 3) by decide +kernel) ?_
        refine V_getR 14 11 Z zc0 (isH_lt isH_1) (shH isH_1) (by decide) rfl (by decide) ⟨rfl, rfl, rfl⟩ w125 (show decode cX5_orders 47 = .ok (.getfield 161, 3) by decide +kernel) ?_
        refine V_iload_n 1 Z rfl rfl (show decode cX5_orders 50 = .ok (.iload_n 1, 1) by decide +kernel) ?_
        obtain ⟨v13, e14, h⟩ := zB_bind h
        refine V_iald Z e14 (show decode cX5_orders 51 = .ok (.iaload, 1) by decide +kernel) ?_
        refine V_iload_n 2 Z rfl rfl (show decode cX5_orders 52 = .ok (.iload_n 2, 1) by decide +kernel) ?_
        refine V_icmp_ne 59 Z (by decide) (show decode cX5_orders 53 = .ok (.if_icmp .ne 6, 3) by decide +kernel) (fun c15 => ?_) (fun c15 => ?_)
        · have h := zB_neg c15 h
          obtain ⟨n16, e17, h⟩ := zB_let h
          refine V_iinck 1 1 4 n16 [(4, Value.int n16), (0, Value.ref 0), (1, Value.int x1), (2, Value.int x2), (3, Value.int y3)] Z (by decide) (by decide) rfl e17 rfl (show decode cX5_orders 59 = .ok (.iinc 4 1, 3) by decide +kernel) ?_
          refine V_goto 26 Z (by decide) (show decode cX5_orders 62 = .ok (.goto (-36), 3) by decide +kernel) ?_
          refine V_sub [1, 2, 3, 4, 0] rfl ?_
          exact c1_i _ h
        · have h := zB_pos c15 h
          obtain ⟨n18, e19, h⟩ := zB_let h
          refine V_iinck 1 1 3 n18 [(3, Value.int n18), (0, Value.ref 0), (1, Value.int x1), (2, Value.int x2), (4, Value.int y4)] Z (by decide) (by decide) rfl e19 rfl (show decode cX5_orders 56 = .ok (.iinc 3 1, 3) by decide +kernel) ?_
          obtain ⟨n20, e21, h⟩ := zB_let h
          refine V_iinck 1 1 4 n20 [(4, Value.int n20), (3, Value.int n18), (0, Value.ref 0), (1, Value.int x1), (2, Value.int x2)] Z (by decide) (by decide) rfl e21 rfl (show decode cX5_orders 59 = .ok (.iinc 4 1, 3) by decide +kernel) ?_
          refine V_goto 26 Z (by decide) (show decode cX5_orders 62 = .ok (.goto (-36), 3) by decide +kernel) ?_
          refine V_sub [2, 3, 4, 1, 0] rfl ?_
          exact c1_i _ h
    · have h := zB_pos c9 h
      refine V_sub [0] rfl ?_
      exact J15 _ h
