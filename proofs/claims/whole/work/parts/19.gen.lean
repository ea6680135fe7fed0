/-! Generated walks: X5_groups X5_richestWith X5_mendFor X5_without X5_isSheet X5_faultOfFit X5_fitting X5_fits X5_wish X5_moths -/
def f_X5_groups_l33 (y1 : Int32) (M : zM) : Int32 → Option ((Int32) ⊕ (Int32))
  | y2 =>
    if y1 < y2 then
      some (.inr ((3 : Int32)))
    else
      (f_X0_isPeaceful 1 y2 M).bind fun (v9 : Int32) =>
      if v9 = 0 then
        (some (y2 + 1)).bind fun (n11 : Int32) =>
        some (.inl (n11))
      else
        (f_X0_isPeaceful 1 (y1 &&& (y2 ^^^ (-1))) M).bind fun (v14 : Int32) =>
        if v14 = 0 then
          (some (y2 + 1)).bind fun (n16 : Int32) =>
          some (.inl (n16))
        else
          some (.inr ((2 : Int32)))
def f_X5_groups (M : zM) : Option (Int32) :=
  (some (((1 <<< ((M 1 0) &&& 31)) - 1))).bind fun (n1 : Int32) =>
  if n1 = 0 then
    some ((0 : Int32))
  else
    (f_X0_isPeaceful 1 n1 M).bind fun (v5 : Int32) =>
    if v5 = 0 then
      zIter (f_X5_groups_l33 n1 M) 1000 (0 : Int32)
    else
      some ((1 : Int32))
theorem cd_X5_groups : zCd yX5_groups cX5_groups 3 (some .int) 0 := ⟨w492, w64, ⟨by decide, by decide⟩, by decide +kernel⟩
set_option maxHeartbeats 4000000 in
set_option maxRecDepth 20000 in
theorem ok_X5_groups {M : zM} {y : Int32}  (h : f_X5_groups  M = some y) : zRuns yX5_groups cX5_groups 3 (some .int) 2 45 [.ref 0] M (some (.int y)) M := by
  refine zRuns_of (by decide +kernel) (Nat.le_of_ble_eq_true rfl) (fun E Z hE => ?_)
  have h := zB_top h
  change VV E 3 0 [(0, Value.ref 0)] [] M
  refine V_iconst 1 (by decide) Z (show decode cX5_groups 0 = .ok (.iconst 1, 1) by decide +kernel) ?_
  refine V_aload_n 0 Z rfl rfl (show decode cX5_groups 1 = .ok (.aload_n 0, 1) by decide +kernel) ?_
  refine V_getR 0 1 Z zc4 (by decide) rfl (by decide) rfl (by decide) ⟨rfl, rfl, rfl⟩ w216 (show decode cX5_groups 2 = .ok (.getfield 10, 3) by decide +kernel) ?_
  refine V_getI 0 Z zc0 (isH_lt isH_1) (shH isH_1) (by decide) rfl ⟨rfl, rfl, rfl⟩ w93 (show decode cX5_groups 5 = .ok (.getfield 59, 3) by decide +kernel) ?_
  refine V_ishl Z (show decode cX5_groups 8 = .ok (.ishl, 1) by decide +kernel) ?_
  refine V_iconst 1 (by decide) Z (show decode cX5_groups 9 = .ok (.iconst 1, 1) by decide +kernel) ?_
  refine V_isub Z (show decode cX5_groups 10 = .ok (.isub, 1) by decide +kernel) ?_
  obtain ⟨n1, e2, h⟩ := zB_let h
  refine V_nm e2 ?_
  refine V_istore_n [(1, Value.int n1), (0, Value.ref 0)] Z (by decide) rfl rfl (show decode cX5_groups 11 = .ok (.istore_n 1, 1) by decide +kernel) ?_
  refine V_iload_n 0 Z rfl rfl (show decode cX5_groups 12 = .ok (.iload_n 1, 1) by decide +kernel) ?_
  refine V_if_ne 18 Z (by decide) (show decode cX5_groups 13 = .ok (.ifCond .ne 5, 3) by decide +kernel) (fun c3 => ?_) (fun c3 => ?_)
  · have h := zB_neg c3 h
    refine V_aload_n 1 Z rfl rfl (show decode cX5_groups 18 = .ok (.aload_n 0, 1) by decide +kernel) ?_
    refine V_getR 0 1 Z zc4 (by decide) rfl (by decide) rfl (by decide) ⟨rfl, rfl, rfl⟩ w216 (show decode cX5_groups 19 = .ok (.getfield 10, 3) by decide +kernel) ?_
    refine V_iload_n 0 Z rfl rfl (show decode cX5_groups 22 = .ok (.iload_n 1, 1) by decide +kernel) ?_
    obtain ⟨v5, e4, h⟩ := zB_bind h
    refine V_callV (rest := []) 1 Z (ok_X0_isPeaceful isH_1 e4) cd_X0_isPeaceful zc0 (isH_lt isH_1) (shH isH_1) w481 w482 w483 rfl (show decode cX5_groups 23 = .ok (.invokevirtual 187, 3) by decide +kernel) rfl ?_
    refine V_if_eq 31 Z (by decide) (show decode cX5_groups 26 = .ok (.ifCond .eq 5, 3) by decide +kernel) (fun c6 => ?_) (fun c6 => ?_)
    · have h := zB_pos c6 h
      refine V_iconst 0 (by decide) Z (show decode cX5_groups 31 = .ok (.iconst 0, 1) by decide +kernel) ?_
      refine V_istore_n [(2, Value.int 0), (1, Value.int n1), (0, Value.ref 0)] Z (by decide) rfl rfl (show decode cX5_groups 32 = .ok (.istore_n 2, 1) by decide +kernel) ?_
      refine V_sub [2, 1, 0] rfl ?_
      refine zIter_loop' (K := some) (fun s : Int32 => VV E 3 33 [(0, Value.ref 0), (1, Value.int n1), (2, Value.int s)] [] M) (fun K1 y2 c1_i c1_r h => ?_) _ _ h
      refine V_iload_n 2 Z rfl rfl (show decode cX5_groups 33 = .ok (.iload_n 2, 1) by decide +kernel) ?_
      refine V_iload_n 1 Z rfl rfl (show decode cX5_groups 34 = .ok (.iload_n 1, 1) by decide +kernel) ?_
      refine V_icmp_gt 72 Z (by decide) (show decode cX5_groups 35 = .ok (.if_icmp .gt 37, 3) by decide +kernel) (fun c7 => ?_) (fun c7 => ?_)
      · have h := zB_pos c7 h
        refine V_iconst 3 (by decide) Z (show decode cX5_groups 72 = .ok (.iconst 3, 1) by decide +kernel) ?_
        have h := c1_r _ h
        exact V_iretP Z hE h (show decode cX5_groups 73 = .ok (.ireturn, 1) by decide +kernel)
      · have h := zB_neg c7 h
        refine V_aload_n 0 Z rfl rfl (show decode cX5_groups 38 = .ok (.aload_n 0, 1) by decide +kernel) ?_
        refine V_getR 0 1 Z zc4 (by decide) rfl (by decide) rfl (by decide) ⟨rfl, rfl, rfl⟩ w216 (show decode cX5_groups 39 = .ok (.getfield 10, 3) by decide +kernel) ?_
        refine V_iload_n 2 Z rfl rfl (show decode cX5_groups 42 = .ok (.iload_n 2, 1) by decide +kernel) ?_
        obtain ⟨v9, e8, h⟩ := zB_bind h
        refine V_callV (rest := []) 1 Z (ok_X0_isPeaceful isH_1 e8) cd_X0_isPeaceful zc0 (isH_lt isH_1) (shH isH_1) w481 w482 w483 rfl (show decode cX5_groups 43 = .ok (.invokevirtual 187, 3) by decide +kernel) rfl ?_
        refine V_if_eq 66 Z (by decide) (show decode cX5_groups 46 = .ok (.ifCond .eq 20, 3) by decide +kernel) (fun c10 => ?_) (fun c10 => ?_)
        · have h := zB_pos c10 h
          obtain ⟨n11, e12, h⟩ := zB_let h
          refine V_iinck 1 1 2 n11 [(2, Value.int n11), (0, Value.ref 0), (1, Value.int n1)] Z (by decide) (by decide) rfl e12 rfl (show decode cX5_groups 66 = .ok (.iinc 2 1, 3) by decide +kernel) ?_
          refine V_goto 33 Z (by decide) (show decode cX5_groups 69 = .ok (.goto (-36), 3) by decide +kernel) ?_
          refine V_sub [1, 2, 0] rfl ?_
          exact c1_i _ h
        · have h := zB_neg c10 h
          refine V_aload_n 0 Z rfl rfl (show decode cX5_groups 49 = .ok (.aload_n 0, 1) by decide +kernel) ?_
          refine V_getR 0 1 Z zc4 (by decide) rfl (by decide) rfl (by decide) ⟨rfl, rfl, rfl⟩ w216 (show decode cX5_groups 50 = .ok (.getfield 10, 3) by decide +kernel) ?_
          refine V_iload_n 1 Z rfl rfl (show decode cX5_groups 53 = .ok (.iload_n 1, 1) by decide +kernel) ?_
          refine V_iload_n 2 Z rfl rfl (show decode cX5_groups 54 = .ok (.iload_n 2, 1) by decide +kernel) ?_
          refine V_iconst (-1) (by decide) Z (show decode cX5_groups 55 = .ok (.iconst (-1), 1) by decide +kernel) ?_
          refine V_ixor Z (show decode cX5_groups 56 = .ok (.ixor, 1) by decide +kernel) ?_
          refine V_iand Z (show decode cX5_groups 57 = .ok (.iand, 1) by decide +kernel) ?_
          obtain ⟨v14, e13, h⟩ := zB_bind h
          refine V_callV (rest := []) 1 Z (ok_X0_isPeaceful isH_1 e13) cd_X0_isPeaceful zc0 (isH_lt isH_1) (shH isH_1) w481 w482 w483 rfl (show decode cX5_groups 58 = .ok (.invokevirtual 187, 3) by decide +kernel) rfl ?_
          refine V_if_eq 66 Z (by decide) (show decode cX5_groups 61 = .ok (.ifCond .eq 5, 3) by decide +kernel) (fun c15 => ?_) (fun c15 => ?_)
          · have h := zB_pos c15 h
            obtain ⟨n16, e17, h⟩ := zB_let h
            refine V_iinck 1 1 2 n16 [(2, Value.int n16), (0, Value.ref 0), (1, Value.int n1)] Z (by decide) (by decide) rfl e17 rfl (show decode cX5_groups 66 = .ok (.iinc 2 1, 3) by decide +kernel) ?_
            refine V_goto 33 Z (by decide) (show decode cX5_groups 69 = .ok (.goto (-36), 3) by decide +kernel) ?_
            refine V_sub [1, 2, 0] rfl ?_
            exact c1_i _ h
          · have h := zB_neg c15 h
            refine V_iconst 2 (by decide) Z (show decode cX5_groups 64 = .ok (.iconst 2, 1) by decide +kernel) ?_
            have h := c1_r _ h
            exact V_iretP Z hE h (show decode cX5_groups 65 = .ok (.ireturn, 1) by decide +kernel)
    · have h := zB_neg c6 h
      refine V_iconst 1 (by decide) Z (show decode cX5_groups 29 = .ok (.iconst 1, 1) by decide +kernel) ?_
      exact V_iretP Z hE h (show decode cX5_groups 30 = .ok (.ireturn, 1) by decide +kernel)
  · have h := zB_pos c3 h
    refine V_iconst 0 (by decide) Z (show decode cX5_groups 16 = .ok (.iconst 0, 1) by decide +kernel) ?_
    exact V_iretP Z hE h (show decode cX5_groups 17 = .ok (.ireturn, 1) by decide +kernel)
def f_X5_richestWith_j96 (y3 : Int32) (M : zM) : Option (Int32 × zM) :=
  if 0 ≤ y3 then
    some ((y3, M))
  else
    (f_X5_finding 3 M).bind fun ((v3, M4) : Int32 × zM) =>
    some ((v3, M4))
def f_X5_richestWith_l24 (y1 : Int32) (y2 : Int32) : Int32 × Int32 × Int32 × zM → Option ((Int32 × Int32 × Int32 × zM) ⊕ (Int32 × zM))
  | (y3, y4, y5, M) =>
    if (M 1 0) ≤ y5 then
      (f_X5_richestWith_j96 y3 M).bind fun z => some (Sum.inr z)
    else
      (f_X0_become 23 1 M).bind fun (M10 : zM) =>
      (zwr M10 26 y5 y1).bind fun (M11 : zM) =>
      (f_X0_pass 23 y2 M11).bind fun (M14 : zM) =>
      (f_X0_purses 23 M14).bind fun (v16 : Int32) =>
      if v16 ≤ y4 then
        (some (y5 + 1)).bind fun (n18 : Int32) =>
        some (.inl ((y3, y4, n18, M14)))
      else
        (f_X0_purses 23 M14).bind fun (v21 : Int32) =>
        (some (y5 + 1)).bind fun (n22 : Int32) =>
        some (.inl ((y5, v21, n22, M14)))
def f_X5_richestWith (x1 : Int32) (x2 : Int32) (M : zM) : Option (Int32 × zM) :=
  (f_X5_within x2 0 60 M).bind fun (v6 : Int32) =>
  if v6 = 0 then
    (f_X5_finding 0 M).bind fun ((v25, M26) : Int32 × zM) =>
    some ((v25, M26))
  else
    zIter (f_X5_richestWith_l24 x1 x2) 1000 ((-1), (-1), 0, M)
theorem cd_X5_richestWith : zCd yX5_richestWith cX5_richestWith 6 (some .int) 2 := ⟨w500, w64, ⟨by decide, by decide⟩, by decide +kernel⟩
set_option maxHeartbeats 4000000 in
set_option maxRecDepth 20000 in
theorem ok_X5_richestWith {x1 : Int32} {x2 : Int32} {M : zM} {y : Int32 × zM}  (h : f_X5_richestWith x1 x2 M = some y) : zRuns yX5_richestWith cX5_richestWith 6 (some .int) 5 113 [.ref 0, .int x1, .int x2] M (some (.int y.1)) y.2 := by
  refine zRuns_of (by decide +kernel) (Nat.le_of_ble_eq_true rfl) (fun E Z hE => ?_)
  have h := zB_top h
  change VV E 6 0 [(0, Value.ref 0), (1, Value.int x1), (2, Value.int x2)] [] M
  have J96 : ∀ (y3 : Int32) (M : zM), (f_X5_richestWith_j96 y3 M).bind some = some y → VV E 6 96 [(0, Value.ref 0), (3, Value.int y3)] [] M := by
    intro y3 M h
    refine V_iload_n 1 Z rfl rfl (show decode cX5_richestWith 96 = .ok (.iload_n 3, 1) by decide +kernel) ?_
    refine V_if_ge 108 Z (by decide) (show decode cX5_richestWith 97 = .ok (.ifCond .ge 11, 3) by decide +kernel) (fun c1 => ?_) (fun c1 => ?_)
    · have h := zB_pos c1 h
      refine V_iload_n 1 Z rfl rfl (show decode cX5_richestWith 108 = .ok (.iload_n 3, 1) by decide +kernel) ?_
      exact V_iretM Z hE h (show decode cX5_richestWith 109 = .ok (.ireturn, 1) by decide +kernel)
    · have h := zB_neg c1 h
      refine V_aload_n 0 Z rfl rfl (show decode cX5_richestWith 100 = .ok (.aload_n 0, 1) by decide +kernel) ?_
      refine V_iconst 3 (by decide) Z (show decode cX5_richestWith 101 = .ok (.iconst 3, 1) by decide +kernel) ?_
      obtain ⟨⟨v3, M4⟩, e2, h⟩ := zB_bind h
      refine V_callV (rest := []) 1 Z (ok_X5_finding  e2) cd_X5_finding zc4 (by decide) rfl w248 w250 w0 rfl (show decode cX5_richestWith 102 = .ok (.invokevirtual 55, 3) by decide +kernel) rfl ?_
      refine V_goto 109 Z (by decide) (show decode cX5_richestWith 105 = .ok (.goto 4, 3) by decide +kernel) ?_
      exact V_iretM Z hE h (show decode cX5_richestWith 109 = .ok (.ireturn, 1) by decide +kernel)
  refine V_iload_n 2 Z rfl rfl (show decode cX5_richestWith 0 = .ok (.iload_n 2, 1) by decide +kernel) ?_
  refine V_iconst 0 (by decide) Z (show decode cX5_richestWith 1 = .ok (.iconst 0, 1) by decide +kernel) ?_
  refine V_bipush 60 (by decide) Z (show decode cX5_richestWith 2 = .ok (.bipush 60, 2) by decide +kernel) ?_
  obtain ⟨v6, e5, h⟩ := zB_bind h
  refine V_callS (rest := []) 3 Z (ok_X5_within  e5) cd_X5_within w245 w246 rfl (show decode cX5_richestWith 4 = .ok (.invokestatic 51, 3) by decide +kernel) rfl ?_
  refine V_if_ne 16 Z (by decide) (show decode cX5_richestWith 7 = .ok (.ifCond .ne 9, 3) by decide +kernel) (fun c7 => ?_) (fun c7 => ?_)
  · have h := zB_neg c7 h
    refine V_iconst (-1) (by decide) Z (show decode cX5_richestWith 16 = .ok (.iconst (-1), 1) by decide +kernel) ?_
    refine V_istore_n [(3, Value.int (-1)), (0, Value.ref 0), (1, Value.int x1), (2, Value.int x2)] Z (by decide) rfl rfl (show decode cX5_richestWith 17 = .ok (.istore_n 3, 1) by decide +kernel) ?_
    refine V_iconst (-1) (by decide) Z (show decode cX5_richestWith 18 = .ok (.iconst (-1), 1) by decide +kernel) ?_
    refine V_istore [(4, Value.int (-1)), (3, Value.int (-1)), (0, Value.ref 0), (1, Value.int x1), (2, Value.int x2)] Z (by decide) rfl (show decode cX5_richestWith 19 = .ok (.istore 4, 2) by decide +kernel) ?_
    refine V_iconst 0 (by decide) Z (show decode cX5_richestWith 21 = .ok (.iconst 0, 1) by decide +kernel) ?_
    refine V_istore [(5, Value.int 0), (4, Value.int (-1)), (3, Value.int (-1)), (0, Value.ref 0), (1, Value.int x1), (2, Value.int x2)] Z (by decide) rfl (show decode cX5_richestWith 22 = .ok (.istore 5, 2) by decide +kernel) ?_
    refine V_sub [3, 4, 5, 2, 1, 0] rfl ?_
    refine zIter_loop' (K := some) (fun s : Int32 × Int32 × Int32 × zM => VV E 6 24 [(0, Value.ref 0), (1, Value.int x1), (2, Value.int x2), (3, Value.int s.1), (4, Value.int s.2.1), (5, Value.int s.2.2.1)] [] s.2.2.2) (fun K1 s c1_i c1_r h => ?_) _ _ h
    obtain ⟨y3, y4, y5, M⟩ := s
    change VV E 6 24 [(0, Value.ref 0), (1, Value.int x1), (2, Value.int x2), (3, Value.int y3), (4, Value.int y4), (5, Value.int y5)] [] M
    refine V_iload 5 Z rfl (show decode cX5_richestWith 24 = .ok (.iload 5, 2) by decide +kernel) ?_
    refine V_aload_n 0 Z rfl rfl (show decode cX5_richestWith 26 = .ok (.aload_n 0, 1) by decide +kernel) ?_
    refine V_getR 0 1 Z zc4 (by decide) rfl (by decide) rfl (by decide) ⟨rfl, rfl, rfl⟩ w216 (show decode cX5_richestWith 27 = .ok (.getfield 10, 3) by decide +kernel) ?_
    refine V_getI 0 Z zc0 (isH_lt isH_1) (shH isH_1) (by decide) rfl ⟨rfl, rfl, rfl⟩ w93 (show decode cX5_richestWith 30 = .ok (.getfield 59, 3) by decide +kernel) ?_
    refine V_icmp_ge 96 Z (by decide) (show decode cX5_richestWith 33 = .ok (.if_icmp .ge 63, 3) by decide +kernel) (fun c8 => ?_) (fun c8 => ?_)
    · have h := zB_pos c8 h
      refine V_sub [0, 3] rfl ?_
      have h := zB_lift c1_r h
      exact J96 _ _ h
    · have h := zB_neg c8 h
      refine V_aload_n 0 Z rfl rfl (show decode cX5_richestWith 36 = .ok (.aload_n 0, 1) by decide +kernel) ?_
      refine V_getR 2 23 Z zc4 (by decide) rfl (by decide) rfl (by decide) ⟨rfl, rfl, rfl⟩ w218 (show decode cX5_richestWith 37 = .ok (.getfield 19, 3) by decide +kernel) ?_
      refine V_aload_n 0 Z rfl rfl (show decode cX5_richestWith 40 = .ok (.aload_n 0, 1) by decide +kernel) ?_
      refine V_getR 0 1 Z zc4 (by decide) rfl (by decide) rfl (by decide) ⟨rfl, rfl, rfl⟩ w216 (show decode cX5_richestWith 41 = .ok (.getfield 10, 3) by decide +kernel) ?_
      obtain ⟨M10, e9, h⟩ := zB_bind h
      refine V_callV (rest := []) 1 Z (ok_X0_become isH_23 isH_1 e9) cd_X0_become zc0 (isH_lt isH_23) (shH isH_23) w412 w413 w414 rfl (show decode cX5_richestWith 44 = .ok (.invokevirtual 164, 3) by decide +kernel) rfl ?_
      refine V_aload_n 0 Z rfl rfl (show decode cX5_richestWith 47 = .ok (.aload_n 0, 1) by decide +kernel) ?_
      refine V_getR 2 23 Z zc4 (by decide) rfl (by decide) rfl (by decide) ⟨rfl, rfl, rfl⟩ w218 (show decode cX5_richestWith 48 = .ok (.getfield 19, 3) by decide +kernel) ?_
      refine V_getR 3 26 Z zc0 (isH_lt isH_23) (shH isH_23) (by decide) rfl (by decide) ⟨rfl, rfl, rfl⟩ w100 (show decode cX5_richestWith 51 = .ok (.getfield 77, 3) by decide +kernel) ?_
      refine V_iload 5 Z rfl (show decode cX5_richestWith 54 = .ok (.iload 5, 2) by decide +kernel) ?_
      refine V_iload_n 1 Z rfl rfl (show decode cX5_richestWith 56 = .ok (.iload_n 1, 1) by decide +kernel) ?_
      obtain ⟨M11, e12, h⟩ := zB_bind h
      refine V_iast Z e12 (show decode cX5_richestWith 57 = .ok (.iastore, 1) by decide +kernel) ?_
      refine V_aload_n 0 Z rfl rfl (show decode cX5_richestWith 58 = .ok (.aload_n 0, 1) by decide +kernel) ?_
      refine V_getR 2 23 Z zc4 (by decide) rfl (by decide) rfl (by decide) ⟨rfl, rfl, rfl⟩ w218 (show decode cX5_richestWith 59 = .ok (.getfield 19, 3) by decide +kernel) ?_
      refine V_iload_n 2 Z rfl rfl (show decode cX5_richestWith 62 = .ok (.iload_n 2, 1) by decide +kernel) ?_
      obtain ⟨M14, e13, h⟩ := zB_bind h
      refine V_callV (rest := []) 1 Z (ok_X0_pass isH_23 e13) cd_X0_pass zc0 (isH_lt isH_23) (shH isH_23) w331 w332 w333 rfl (show decode cX5_richestWith 63 = .ok (.invokevirtual 136, 3) by decide +kernel) rfl ?_
      refine V_aload_n 0 Z rfl rfl (show decode cX5_richestWith 66 = .ok (.aload_n 0, 1) by decide +kernel) ?_
      refine V_getR 2 23 Z zc4 (by decide) rfl (by decide) rfl (by decide) ⟨rfl, rfl, rfl⟩ w218 (show decode cX5_richestWith 67 = .ok (.getfield 19, 3) by decide +kernel) ?_
      obtain ⟨v16, e15, h⟩ := zB_bind h
      refine V_callV (rest := []) 0 Z (ok_X0_purses isH_23 e15) cd_X0_purses zc0 (isH_lt isH_23) (shH isH_23) w383 w384 w385 rfl (show decode cX5_richestWith 70 = .ok (.invokevirtual 139, 3) by decide +kernel) rfl ?_
      refine V_iload 4 Z rfl (show decode cX5_richestWith 73 = .ok (.iload 4, 2) by decide +kernel) ?_
      refine V_icmp_le 90 Z (by decide) (show decode cX5_richestWith 75 = .ok (.if_icmp .le 15, 3) by decide +kernel) (fun c17 => ?_) (fun c17 => ?_)
      · have h := zB_pos c17 h
        obtain ⟨n18, e19, h⟩ := zB_let h
        refine V_iinck 1 1 5 n18 [(5, Value.int n18), (0, Value.ref 0), (1, Value.int x1), (2, Value.int x2), (3, Value.int y3), (4, Value.int y4)] Z (by decide) (by decide) rfl e19 rfl (show decode cX5_richestWith 90 = .ok (.iinc 5 1, 3) by decide +kernel) ?_
        refine V_goto 24 Z (by decide) (show decode cX5_richestWith 93 = .ok (.goto (-69), 3) by decide +kernel) ?_
        refine V_sub [1, 2, 3, 4, 5, 0] rfl ?_
        exact c1_i _ h
      · have h := zB_neg c17 h
        refine V_iload 5 Z rfl (show decode cX5_richestWith 78 = .ok (.iload 5, 2) by decide +kernel) ?_
        refine V_istore_n [(3, Value.int y5), (0, Value.ref 0), (1, Value.int x1), (2, Value.int x2), (4, Value.int y4), (5, Value.int y5)] Z (by decide) rfl rfl (show decode cX5_richestWith 80 = .ok (.istore_n 3, 1) by decide +kernel) ?_
        refine V_aload_n 1 Z rfl rfl (show decode cX5_richestWith 81 = .ok (.aload_n 0, 1) by decide +kernel) ?_
        refine V_getR 2 23 Z zc4 (by decide) rfl (by decide) rfl (by decide) ⟨rfl, rfl, rfl⟩ w218 (show decode cX5_richestWith 82 = .ok (.getfield 19, 3) by decide +kernel) ?_
        obtain ⟨v21, e20, h⟩ := zB_bind h
        refine V_callV (rest := []) 0 Z (ok_X0_purses isH_23 e20) cd_X0_purses zc0 (isH_lt isH_23) (shH isH_23) w383 w384 w385 rfl (show decode cX5_richestWith 85 = .ok (.invokevirtual 139, 3) by decide +kernel) rfl ?_
        refine V_istore [(4, Value.int v21), (3, Value.int y5), (0, Value.ref 0), (1, Value.int x1), (2, Value.int x2), (5, Value.int y5)] Z (by decide) rfl (show decode cX5_richestWith 88 = .ok (.istore 4, 2) by decide +kernel) ?_
        obtain ⟨n22, e23, h⟩ := zB_let h
        refine V_iinck 1 1 5 n22 [(5, Value.int n22), (4, Value.int v21), (3, Value.int y5), (0, Value.ref 0), (1, Value.int x1), (2, Value.int x2)] Z (by decide) (by decide) rfl e23 rfl (show decode cX5_richestWith 90 = .ok (.iinc 5 1, 3) by decide +kernel) ?_
        refine V_goto 24 Z (by decide) (show decode cX5_richestWith 93 = .ok (.goto (-69), 3) by decide +kernel) ?_
        refine V_sub [3, 4, 5, 2, 1, 0] rfl ?_
        exact c1_i _ h
  · have h := zB_pos c7 h
    refine V_aload_n 0 Z rfl rfl (show decode cX5_richestWith 10 = .ok (.aload_n 0, 1) by decide +kernel) ?_
    refine V_iconst 0 (by decide) Z (show decode cX5_richestWith 11 = .ok (.iconst 0, 1) by decide +kernel) ?_
    obtain ⟨⟨v25, M26⟩, e24, h⟩ := zB_bind h
    refine V_callV (rest := []) 1 Z (ok_X5_finding  e24) cd_X5_finding zc4 (by decide) rfl w248 w250 w0 rfl (show decode cX5_richestWith 12 = .ok (.invokevirtual 55, 3) by decide +kernel) rfl ?_
    exact V_iretM Z hE h (show decode cX5_richestWith 15 = .ok (.ireturn, 1) by decide +kernel)
def f_X5_mendFor (x1 : Int32) (M : zM) : Option (Int32 × zM) :=
  (f_X5_richestWith 0 x1 M).bind fun ((v2, M3) : Int32 × zM) =>
  some ((v2, M3))
theorem cd_X5_mendFor : zCd yX5_mendFor cX5_mendFor 2 (some .int) 1 := ⟨w496, w64, ⟨by decide, by decide⟩, by decide +kernel⟩
set_option maxHeartbeats 4000000 in
set_option maxRecDepth 20000 in
theorem ok_X5_mendFor {x1 : Int32} {M : zM} {y : Int32 × zM}  (h : f_X5_mendFor x1 M = some y) : zRuns yX5_mendFor cX5_mendFor 2 (some .int) 6 138 [.ref 0, .int x1] M (some (.int y.1)) y.2 := by
  refine zRuns_of (by decide +kernel) (Nat.le_of_ble_eq_true rfl) (fun E Z hE => ?_)
  have h := zB_top h
  change VV E 2 0 [(0, Value.ref 0), (1, Value.int x1)] [] M
  refine V_aload_n 0 Z rfl rfl (show decode cX5_mendFor 0 = .ok (.aload_n 0, 1) by decide +kernel) ?_
  refine V_iconst 0 (by decide) Z (show decode cX5_mendFor 1 = .ok (.iconst 0, 1) by decide +kernel) ?_
  refine V_iload_n 1 Z rfl rfl (show decode cX5_mendFor 2 = .ok (.iload_n 1, 1) by decide +kernel) ?_
  obtain ⟨⟨v2, M3⟩, e1, h⟩ := zB_bind h
  refine V_callV (rest := []) 2 Z (ok_X5_richestWith  e1) cd_X5_richestWith zc4 (by decide) rfl w497 w499 w4 rfl (show decode cX5_mendFor 3 = .ok (.invokevirtual 195, 3) by decide +kernel) rfl ?_
  exact V_iretM Z hE h (show decode cX5_mendFor 6 = .ok (.ireturn, 1) by decide +kernel)
def f_X5_without (x1 : Int32) (M : zM) : Option (Int32 × zM) :=
  (f_X5_richestWith 99 x1 M).bind fun ((v2, M3) : Int32 × zM) =>
  some ((v2, M3))
theorem cd_X5_without : zCd yX5_without cX5_without 2 (some .int) 1 := ⟨w504, w64, ⟨by decide, by decide⟩, by decide +kernel⟩
set_option maxHeartbeats 4000000 in
set_option maxRecDepth 20000 in
theorem ok_X5_without {x1 : Int32} {M : zM} {y : Int32 × zM}  (h : f_X5_without x1 M = some y) : zRuns yX5_without cX5_without 2 (some .int) 6 138 [.ref 0, .int x1] M (some (.int y.1)) y.2 := by
  refine zRuns_of (by decide +kernel) (Nat.le_of_ble_eq_true rfl) (fun E Z hE => ?_)
  have h := zB_top h
  change VV E 2 0 [(0, Value.ref 0), (1, Value.int x1)] [] M
  refine V_aload_n 0 Z rfl rfl (show decode cX5_without 0 = .ok (.aload_n 0, 1) by decide +kernel) ?_
  refine V_bipush 99 (by decide) Z (show decode cX5_without 1 = .ok (.bipush 99, 2) by decide +kernel) ?_
  refine V_iload_n 1 Z rfl rfl (show decode cX5_without 3 = .ok (.iload_n 1, 1) by decide +kernel) ?_
  obtain ⟨⟨v2, M3⟩, e1, h⟩ := zB_bind h
  refine V_callV (rest := []) 2 Z (ok_X5_richestWith  e1) cd_X5_richestWith zc4 (by decide) rfl w497 w499 w4 rfl (show decode cX5_without 4 = .ok (.invokevirtual 195, 3) by decide +kernel) rfl ?_
  exact V_iretM Z hE h (show decode cX5_without 7 = .ok (.ireturn, 1) by decide +kernel)
def f_X5_isSheet (x0 : Int32) (M : zM) : Option (Int32) :=
  (f_X5_within x0 0 3 M).bind fun (v2 : Int32) =>
  (zbo v2).bind fun (b3 : Int32) =>
  some (b3)
theorem cd_X5_isSheet : zCd yX5_isSheet cX5_isSheet 1 (some .boolean) 1 := ⟨w515, w64, ⟨by decide, by decide⟩, by decide +kernel⟩
set_option maxHeartbeats 4000000 in
set_option maxRecDepth 20000 in
theorem ok_X5_isSheet {x0 : Int32} {M : zM} {y : Int32}  (h : f_X5_isSheet x0 M = some y) : zRuns yX5_isSheet cX5_isSheet 1 (some .boolean) 1 22 [.int x0] M (some (.int y)) M := by
  refine zRuns_of (by decide +kernel) (Nat.le_of_ble_eq_true rfl) (fun E Z hE => ?_)
  have h := zB_top h
  change VV E 1 0 [(0, Value.int x0)] [] M
  refine V_iload_n 0 Z rfl rfl (show decode cX5_isSheet 0 = .ok (.iload_n 0, 1) by decide +kernel) ?_
  refine V_iconst 0 (by decide) Z (show decode cX5_isSheet 1 = .ok (.iconst 0, 1) by decide +kernel) ?_
  refine V_iconst 3 (by decide) Z (show decode cX5_isSheet 2 = .ok (.iconst 3, 1) by decide +kernel) ?_
  obtain ⟨v2, e1, h⟩ := zB_bind h
  refine V_callS (rest := []) 3 Z (ok_X5_within  e1) cd_X5_within w245 w246 rfl (show decode cX5_isSheet 3 = .ok (.invokestatic 51, 3) by decide +kernel) rfl ?_
  obtain ⟨b3, e4, h⟩ := zB_bind h
  refine V_nm (zbo_v e4).1 ?_
  exact V_zretP Z hE h (zbo_v e4).2 (show decode cX5_isSheet 6 = .ok (.ireturn, 1) by decide +kernel)
def f_X5_faultOfFit (x1 : Int32) (x2 : Int32) (M : zM) : Option (Int32) :=
  (f_X5_isSheet x1 M).bind fun (v2 : Int32) =>
  if v2 = 0 then
    some ((0 : Int32))
  else
    (zrr 37 x1).bind fun (q4 : Nat) =>
    if (M q4 1) = 0 then
      some ((5 : Int32))
    else
      (f_X5_isPerson x2 M).bind fun (v8 : Int32) =>
      if v8 = 0 then
        some ((0 : Int32))
      else
        some (((-1) : Int32))
theorem cd_X5_faultOfFit : zCd yX5_faultOfFit cX5_faultOfFit 3 (some .int) 2 := ⟨w512, w64, ⟨by decide, by decide⟩, by decide +kernel⟩
set_option maxHeartbeats 4000000 in
set_option maxRecDepth 20000 in
theorem ok_X5_faultOfFit {x1 : Int32} {x2 : Int32} {M : zM} {y : Int32}  (h : f_X5_faultOfFit x1 x2 M = some y) : zRuns yX5_faultOfFit cX5_faultOfFit 3 (some .int) 2 42 [.ref 0, .int x1, .int x2] M (some (.int y)) M := by
  refine zRuns_of (by decide +kernel) (Nat.le_of_ble_eq_true rfl) (fun E Z hE => ?_)
  have h := zB_top h
  change VV E 3 0 [(0, Value.ref 0), (1, Value.int x1), (2, Value.int x2)] [] M
  refine V_iload_n 1 Z rfl rfl (show decode cX5_faultOfFit 0 = .ok (.iload_n 1, 1) by decide +kernel) ?_
  obtain ⟨v2, e1, h⟩ := zB_bind h
  refine V_callS (rest := []) 1 Z (ok_X5_isSheet  e1) cd_X5_isSheet w513 w514 rfl (show decode cX5_faultOfFit 1 = .ok (.invokestatic 230, 3) by decide +kernel) rfl ?_
  refine V_if_ne 9 Z (by decide) (show decode cX5_faultOfFit 4 = .ok (.ifCond .ne 5, 3) by decide +kernel) (fun c3 => ?_) (fun c3 => ?_)
  · have h := zB_neg c3 h
    refine V_aload_n 0 Z rfl rfl (show decode cX5_faultOfFit 9 = .ok (.aload_n 0, 1) by decide +kernel) ?_
    refine V_getR 5 37 Z zc4 (by decide) rfl (by decide) rfl (by decide) ⟨rfl, rfl, rfl⟩ w221 (show decode cX5_faultOfFit 10 = .ok (.getfield 38, 3) by decide +kernel) ?_
    refine V_iload_n 1 Z rfl rfl (show decode cX5_faultOfFit 13 = .ok (.iload_n 1, 1) by decide +kernel) ?_
    obtain ⟨q4, e5, h⟩ := zB_bind h
    refine V_aald 1 Z e5 (by decide) (fun _ => rfl) (by intro rs h; cases h; rfl) (show decode cX5_faultOfFit 14 = .ok (.aaload, 1) by decide +kernel) ?_
    have hq4 := zrr_S e5
    refine V_getI 1 Z zc2 (isS_lt hq4) (shS hq4) (by decide) rfl ⟨rfl, rfl, rfl⟩ w205 (show decode cX5_faultOfFit 15 = .ok (.getfield 238, 3) by decide +kernel) ?_
    refine V_if_ne 23 Z (by decide) (show decode cX5_faultOfFit 18 = .ok (.ifCond .ne 5, 3) by decide +kernel) (fun c6 => ?_) (fun c6 => ?_)
    · have h := zB_neg c6 h
      refine V_iload_n 2 Z rfl rfl (show decode cX5_faultOfFit 23 = .ok (.iload_n 2, 1) by decide +kernel) ?_
      obtain ⟨v8, e7, h⟩ := zB_bind h
      refine V_callS (rest := []) 1 Z (ok_X5_isPerson  e7) cd_X5_isPerson w300 w301 rfl (show decode cX5_faultOfFit 24 = .ok (.invokestatic 108, 3) by decide +kernel) rfl ?_
      refine V_if_eq 34 Z (by decide) (show decode cX5_faultOfFit 27 = .ok (.ifCond .eq 7, 3) by decide +kernel) (fun c9 => ?_) (fun c9 => ?_)
      · have h := zB_pos c9 h
        refine V_iconst 0 (by decide) Z (show decode cX5_faultOfFit 34 = .ok (.iconst 0, 1) by decide +kernel) ?_
        exact V_iretP Z hE h (show decode cX5_faultOfFit 35 = .ok (.ireturn, 1) by decide +kernel)
      · have h := zB_neg c9 h
        refine V_iconst (-1) (by decide) Z (show decode cX5_faultOfFit 30 = .ok (.iconst (-1), 1) by decide +kernel) ?_
        refine V_goto 35 Z (by decide) (show decode cX5_faultOfFit 31 = .ok (.goto 4, 3) by decide +kernel) ?_
        exact V_iretP Z hE h (show decode cX5_faultOfFit 35 = .ok (.ireturn, 1) by decide +kernel)
    · have h := zB_pos c6 h
      refine V_iconst 5 (by decide) Z (show decode cX5_faultOfFit 21 = .ok (.iconst 5, 1) by decide +kernel) ?_
      exact V_iretP Z hE h (show decode cX5_faultOfFit 22 = .ok (.ireturn, 1) by decide +kernel)
  · have h := zB_pos c3 h
    refine V_iconst 0 (by decide) Z (show decode cX5_faultOfFit 7 = .ok (.iconst 0, 1) by decide +kernel) ?_
    exact V_iretP Z hE h (show decode cX5_faultOfFit 8 = .ok (.ireturn, 1) by decide +kernel)
def f_X5_fitting_l5 (q : Nat) (y2 : Int32) : Int32 × Int32 × zM → Option ((Int32 × Int32 × zM) ⊕ (Int32 × zM))
  | (y3, y4, M) =>
    if (M 1 0) ≤ y4 then
      some (.inr ((y3, M)))
    else
      (f_X0_become 23 1 M).bind fun (M3 : zM) =>
      (zwr M3 30 y2 y4).bind fun (M4 : zM) =>
      (f_X0_pays 23 q y2 M4).bind fun ((v7, M8) : Int32 × zM) =>
      if v7 = 0 then
        (some (y4 + 1)).bind fun (n10 : Int32) =>
        some (.inl ((y3, n10, M8)))
      else
        (some ((y3 ||| (1 <<< ((y4 + 1) &&& 31))))).bind fun (n12 : Int32) =>
        (some (y4 + 1)).bind fun (n14 : Int32) =>
        some (.inl ((n12, n14, M8)))
def f_X5_fitting (q : Nat) (x2 : Int32) (M : zM) : Option (Int32 × zM) :=
  zIter (f_X5_fitting_l5 q x2) 1000 (0, (-1), M)
theorem cd_X5_fitting : zCd yX5_fitting cX5_fitting 5 (some .int) 2 := ⟨w519, w64, ⟨by decide, by decide⟩, by decide +kernel⟩
set_option maxHeartbeats 4000000 in
set_option maxRecDepth 20000 in
theorem ok_X5_fitting {q : Nat} {x2 : Int32} {M : zM} {y : Int32 × zM} (hq : isS q) (h : f_X5_fitting q x2 M = some y) : zRuns yX5_fitting cX5_fitting 5 (some .int) 5 114 [.ref 0, .ref q, .int x2] M (some (.int y.1)) y.2 := by
  refine zRuns_of (by decide +kernel) (Nat.le_of_ble_eq_true rfl) (fun E Z hE => ?_)
  have h := zB_top h
  change VV E 5 0 [(0, Value.ref 0), (1, Value.ref q), (2, Value.int x2)] [] M
  refine V_iconst 0 (by decide) Z (show decode cX5_fitting 0 = .ok (.iconst 0, 1) by decide +kernel) ?_
  refine V_istore_n [(3, Value.int 0), (0, Value.ref 0), (1, Value.ref q), (2, Value.int x2)] Z (by decide) rfl rfl (show decode cX5_fitting 1 = .ok (.istore_n 3, 1) by decide +kernel) ?_
  refine V_iconst (-1) (by decide) Z (show decode cX5_fitting 2 = .ok (.iconst (-1), 1) by decide +kernel) ?_
  refine V_istore [(4, Value.int (-1)), (3, Value.int 0), (0, Value.ref 0), (1, Value.ref q), (2, Value.int x2)] Z (by decide) rfl (show decode cX5_fitting 3 = .ok (.istore 4, 2) by decide +kernel) ?_
  refine V_sub [2, 3, 4, 1, 0] rfl ?_
  refine zIter_loop' (K := some) (fun s : Int32 × Int32 × zM => VV E 5 5 [(0, Value.ref 0), (1, Value.ref q), (2, Value.int x2), (3, Value.int s.1), (4, Value.int s.2.1)] [] s.2.2) (fun K1 s c1_i c1_r h => ?_) _ _ h
  obtain ⟨y3, y4, M⟩ := s
  change VV E 5 5 [(0, Value.ref 0), (1, Value.ref q), (2, Value.int x2), (3, Value.int y3), (4, Value.int y4)] [] M
  refine V_iload 4 Z rfl (show decode cX5_fitting 5 = .ok (.iload 4, 2) by decide +kernel) ?_
  refine V_aload_n 0 Z rfl rfl (show decode cX5_fitting 7 = .ok (.aload_n 0, 1) by decide +kernel) ?_
  refine V_getR 0 1 Z zc4 (by decide) rfl (by decide) rfl (by decide) ⟨rfl, rfl, rfl⟩ w216 (show decode cX5_fitting 8 = .ok (.getfield 10, 3) by decide +kernel) ?_
  refine V_getI 0 Z zc0 (isH_lt isH_1) (shH isH_1) (by decide) rfl ⟨rfl, rfl, rfl⟩ w93 (show decode cX5_fitting 11 = .ok (.getfield 59, 3) by decide +kernel) ?_
  refine V_icmp_ge 66 Z (by decide) (show decode cX5_fitting 14 = .ok (.if_icmp .ge 52, 3) by decide +kernel) (fun c1 => ?_) (fun c1 => ?_)
  · have h := zB_pos c1 h
    refine V_iload_n 3 Z rfl rfl (show decode cX5_fitting 66 = .ok (.iload_n 3, 1) by decide +kernel) ?_
    have h := c1_r _ h
    exact V_iretM Z hE h (show decode cX5_fitting 67 = .ok (.ireturn, 1) by decide +kernel)
  · have h := zB_neg c1 h
    refine V_aload_n 0 Z rfl rfl (show decode cX5_fitting 17 = .ok (.aload_n 0, 1) by decide +kernel) ?_
    refine V_getR 2 23 Z zc4 (by decide) rfl (by decide) rfl (by decide) ⟨rfl, rfl, rfl⟩ w218 (show decode cX5_fitting 18 = .ok (.getfield 19, 3) by decide +kernel) ?_
    refine V_aload_n 0 Z rfl rfl (show decode cX5_fitting 21 = .ok (.aload_n 0, 1) by decide +kernel) ?_
    refine V_getR 0 1 Z zc4 (by decide) rfl (by decide) rfl (by decide) ⟨rfl, rfl, rfl⟩ w216 (show decode cX5_fitting 22 = .ok (.getfield 10, 3) by decide +kernel) ?_
    obtain ⟨M3, e2, h⟩ := zB_bind h
    refine V_callV (rest := []) 1 Z (ok_X0_become isH_23 isH_1 e2) cd_X0_become zc0 (isH_lt isH_23) (shH isH_23) w412 w413 w414 rfl (show decode cX5_fitting 25 = .ok (.invokevirtual 164, 3) by decide +kernel) rfl ?_
    refine V_aload_n 0 Z rfl rfl (show decode cX5_fitting 28 = .ok (.aload_n 0, 1) by decide +kernel) ?_
    refine V_getR 2 23 Z zc4 (by decide) rfl (by decide) rfl (by decide) ⟨rfl, rfl, rfl⟩ w218 (show decode cX5_fitting 29 = .ok (.getfield 19, 3) by decide +kernel) ?_
    refine V_getR 7 30 Z zc0 (isH_lt isH_23) (shH isH_23) (by decide) rfl (by decide) ⟨rfl, rfl, rfl⟩ w109 (show decode cX5_fitting 32 = .ok (.getfield 114, 3) by decide +kernel) ?_
    refine V_iload_n 2 Z rfl rfl (show decode cX5_fitting 35 = .ok (.iload_n 2, 1) by decide +kernel) ?_
    refine V_iload 4 Z rfl (show decode cX5_fitting 36 = .ok (.iload 4, 2) by decide +kernel) ?_
    obtain ⟨M4, e5, h⟩ := zB_bind h
    refine V_iast Z e5 (show decode cX5_fitting 38 = .ok (.iastore, 1) by decide +kernel) ?_
    refine V_aload_n 0 Z rfl rfl (show decode cX5_fitting 39 = .ok (.aload_n 0, 1) by decide +kernel) ?_
    refine V_getR 2 23 Z zc4 (by decide) rfl (by decide) rfl (by decide) ⟨rfl, rfl, rfl⟩ w218 (show decode cX5_fitting 40 = .ok (.getfield 19, 3) by decide +kernel) ?_
    refine V_aload_n 1 Z rfl rfl (show decode cX5_fitting 43 = .ok (.aload_n 1, 1) by decide +kernel) ?_
    refine V_iload_n 2 Z rfl rfl (show decode cX5_fitting 44 = .ok (.iload_n 2, 1) by decide +kernel) ?_
    obtain ⟨⟨v7, M8⟩, e6, h⟩ := zB_bind h
    refine V_callV (rest := []) 2 Z (ok_X0_pays isH_23 hq e6) cd_X0_pays zc0 (isH_lt isH_23) (shH isH_23) w520 w521 w522 rfl (show decode cX5_fitting 45 = .ok (.invokevirtual 260, 3) by decide +kernel) rfl ?_
    refine V_if_eq 60 Z (by decide) (show decode cX5_fitting 48 = .ok (.ifCond .eq 12, 3) by decide +kernel) (fun c9 => ?_) (fun c9 => ?_)
    · have h := zB_pos c9 h
      obtain ⟨n10, e11, h⟩ := zB_let h
      refine V_iinck 1 1 4 n10 [(4, Value.int n10), (0, Value.ref 0), (1, Value.ref q), (2, Value.int x2), (3, Value.int y3)] Z (by decide) (by decide) rfl e11 rfl (show decode cX5_fitting 60 = .ok (.iinc 4 1, 3) by decide +kernel) ?_
      refine V_goto 5 Z (by decide) (show decode cX5_fitting 63 = .ok (.goto (-58), 3) by decide +kernel) ?_
      refine V_sub [1, 2, 3, 4, 0] rfl ?_
      exact c1_i _ h
    · have h := zB_neg c9 h
      refine V_iload_n 3 Z rfl rfl (show decode cX5_fitting 51 = .ok (.iload_n 3, 1) by decide +kernel) ?_
      refine V_iconst 1 (by decide) Z (show decode cX5_fitting 52 = .ok (.iconst 1, 1) by decide +kernel) ?_
      refine V_iload 4 Z rfl (show decode cX5_fitting 53 = .ok (.iload 4, 2) by decide +kernel) ?_
      refine V_iconst 1 (by decide) Z (show decode cX5_fitting 55 = .ok (.iconst 1, 1) by decide +kernel) ?_
      refine V_iadd Z (show decode cX5_fitting 56 = .ok (.iadd, 1) by decide +kernel) ?_
      refine V_ishl Z (show decode cX5_fitting 57 = .ok (.ishl, 1) by decide +kernel) ?_
      refine V_ior Z (show decode cX5_fitting 58 = .ok (.ior, 1) by decide +kernel) ?_
      obtain ⟨n12, e13, h⟩ := zB_let h
      refine V_nm e13 ?_
      refine V_istore_n [(3, Value.int n12), (0, Value.ref 0), (1, Value.ref q), (2, Value.int x2), (4, Value.int y4)] Z (by decide) rfl rfl (show decode cX5_fitting 59 = .ok (.istore_n 3, 1) by decide +kernel) ?_
      obtain ⟨n14, e15, h⟩ := zB_let h
      refine V_iinck 1 1 4 n14 [(4, Value.int n14), (3, Value.int n12), (0, Value.ref 0), (1, Value.ref q), (2, Value.int x2)] Z (by decide) (by decide) rfl e15 rfl (show decode cX5_fitting 60 = .ok (.iinc 4 1, 3) by decide +kernel) ?_
      refine V_goto 5 Z (by decide) (show decode cX5_fitting 63 = .ok (.goto (-58), 3) by decide +kernel) ?_
      refine V_sub [2, 3, 4, 1, 0] rfl ?_
      exact c1_i _ h
def f_X5_fits (x1 : Int32) (x2 : Int32) (M : zM) : Option (Int32 × zM) :=
  (f_X5_faultOfFit x1 x2 M).bind fun (v2 : Int32) =>
  if v2 < 0 then
    (zrr 37 x1).bind fun (q4 : Nat) =>
    (f_X5_fitting q4 x2 M).bind fun ((v7, M8) : Int32 × zM) =>
    (f_J6_bitCount_0f7a4 v7 M8).bind fun (v10 : Int32) =>
    some ((v10, M8))
  else
    (f_X5_finding v2 M).bind fun ((v12, M13) : Int32 × zM) =>
    some ((v12, M13))
theorem cd_X5_fits : zCd yX5_fits cX5_fits 4 (some .int) 2 := ⟨w508, w64, ⟨by decide, by decide⟩, by decide +kernel⟩
set_option maxHeartbeats 4000000 in
set_option maxRecDepth 20000 in
theorem ok_X5_fits {x1 : Int32} {x2 : Int32} {M : zM} {y : Int32 × zM}  (h : f_X5_fits x1 x2 M = some y) : zRuns yX5_fits cX5_fits 4 (some .int) 6 138 [.ref 0, .int x1, .int x2] M (some (.int y.1)) y.2 := by
  refine zRuns_of (by decide +kernel) (Nat.le_of_ble_eq_true rfl) (fun E Z hE => ?_)
  have h := zB_top h
  change VV E 4 0 [(0, Value.ref 0), (1, Value.int x1), (2, Value.int x2)] [] M
  refine V_aload_n 0 Z rfl rfl (show decode cX5_fits 0 = .ok (.aload_n 0, 1) by decide +kernel) ?_
  refine V_iload_n 1 Z rfl rfl (show decode cX5_fits 1 = .ok (.iload_n 1, 1) by decide +kernel) ?_
  refine V_iload_n 2 Z rfl rfl (show decode cX5_fits 2 = .ok (.iload_n 2, 1) by decide +kernel) ?_
  obtain ⟨v2, e1, h⟩ := zB_bind h
  refine V_callV (rest := []) 2 Z (ok_X5_faultOfFit  e1) cd_X5_faultOfFit zc4 (by decide) rfl w509 w511 w5 rfl (show decode cX5_fits 3 = .ok (.invokevirtual 198, 3) by decide +kernel) rfl ?_
  refine V_istore_n [(3, Value.int v2), (0, Value.ref 0), (1, Value.int x1), (2, Value.int x2)] Z (by decide) rfl rfl (show decode cX5_fits 6 = .ok (.istore_n 3, 1) by decide +kernel) ?_
  refine V_iload_n 0 Z rfl rfl (show decode cX5_fits 7 = .ok (.iload_n 3, 1) by decide +kernel) ?_
  refine V_if_lt 17 Z (by decide) (show decode cX5_fits 8 = .ok (.ifCond .lt 9, 3) by decide +kernel) (fun c3 => ?_) (fun c3 => ?_)
  · have h := zB_pos c3 h
    refine V_aload_n 1 Z rfl rfl (show decode cX5_fits 17 = .ok (.aload_n 0, 1) by decide +kernel) ?_
    refine V_aload_n 1 Z rfl rfl (show decode cX5_fits 18 = .ok (.aload_n 0, 1) by decide +kernel) ?_
    refine V_getR 5 37 Z zc4 (by decide) rfl (by decide) rfl (by decide) ⟨rfl, rfl, rfl⟩ w221 (show decode cX5_fits 19 = .ok (.getfield 38, 3) by decide +kernel) ?_
    refine V_iload_n 2 Z rfl rfl (show decode cX5_fits 22 = .ok (.iload_n 1, 1) by decide +kernel) ?_
    obtain ⟨q4, e5, h⟩ := zB_bind h
    refine V_aald 1 Z e5 (by decide) (fun _ => rfl) (by intro rs h; cases h; rfl) (show decode cX5_fits 23 = .ok (.aaload, 1) by decide +kernel) ?_
    have hq4 := zrr_S e5
    refine V_iload_n 3 Z rfl rfl (show decode cX5_fits 24 = .ok (.iload_n 2, 1) by decide +kernel) ?_
    obtain ⟨⟨v7, M8⟩, e6, h⟩ := zB_bind h
    refine V_callV (rest := []) 2 Z (ok_X5_fitting hq4 e6) cd_X5_fitting zc4 (by decide) rfl w516 w518 w6 rfl (show decode cX5_fits 25 = .ok (.invokevirtual 201, 3) by decide +kernel) rfl ?_
    obtain ⟨v10, e9, h⟩ := zB_bind h
    refine V_callS (rest := []) 1 Z (ok_J6_bitCount_0f7a4  e9) cd_J6_bitCount_0f7a4 w351 w352 rfl (show decode cX5_fits 28 = .ok (.invokestatic 190, 3) by decide +kernel) rfl ?_
    exact V_iretM Z hE h (show decode cX5_fits 31 = .ok (.ireturn, 1) by decide +kernel)
  · have h := zB_neg c3 h
    refine V_aload_n 1 Z rfl rfl (show decode cX5_fits 11 = .ok (.aload_n 0, 1) by decide +kernel) ?_
    refine V_iload_n 0 Z rfl rfl (show decode cX5_fits 12 = .ok (.iload_n 3, 1) by decide +kernel) ?_
    obtain ⟨⟨v12, M13⟩, e11, h⟩ := zB_bind h
    refine V_callV (rest := []) 1 Z (ok_X5_finding  e11) cd_X5_finding zc4 (by decide) rfl w248 w250 w0 rfl (show decode cX5_fits 13 = .ok (.invokevirtual 55, 3) by decide +kernel) rfl ?_
    exact V_iretM Z hE h (show decode cX5_fits 16 = .ok (.ireturn, 1) by decide +kernel)
def f_X5_wish (x1 : Int32) (x2 : Int32) (M : zM) : Option (Int32 × zM) :=
  (f_X5_faultOfFit x1 x2 M).bind fun (v2 : Int32) =>
  if v2 < 0 then
    (zrr 37 x1).bind fun (q4 : Nat) =>
    (f_X5_fitting q4 x2 M).bind fun ((v7, M8) : Int32 × zM) =>
    if v7 = 0 then
      (f_X5_finding 3 M8).bind fun ((v13, M14) : Int32 × zM) =>
      some ((v13, M14))
    else
      (f_X5_lowest v7 M8).bind fun (v11 : Int32) =>
      some (((v11 - 1), M8))
  else
    (f_X5_finding v2 M).bind fun ((v16, M17) : Int32 × zM) =>
    some ((v16, M17))
theorem cd_X5_wish : zCd yX5_wish cX5_wish 5 (some .int) 2 := ⟨w527, w64, ⟨by decide, by decide⟩, by decide +kernel⟩
set_option maxHeartbeats 4000000 in
set_option maxRecDepth 20000 in
theorem ok_X5_wish {x1 : Int32} {x2 : Int32} {M : zM} {y : Int32 × zM}  (h : f_X5_wish x1 x2 M = some y) : zRuns yX5_wish cX5_wish 5 (some .int) 6 138 [.ref 0, .int x1, .int x2] M (some (.int y.1)) y.2 := by
  refine zRuns_of (by decide +kernel) (Nat.le_of_ble_eq_true rfl) (fun E Z hE => ?_)
  have h := zB_top h
  change VV E 5 0 [(0, Value.ref 0), (1, Value.int x1), (2, Value.int x2)] [] M
  refine V_aload_n 0 Z rfl rfl (show decode cX5_wish 0 = .ok (.aload_n 0, 1) by decide +kernel) ?_
  refine V_iload_n 1 Z rfl rfl (show decode cX5_wish 1 = .ok (.iload_n 1, 1) by decide +kernel) ?_
  refine V_iload_n 2 Z rfl rfl (show decode cX5_wish 2 = .ok (.iload_n 2, 1) by decide +kernel) ?_
  obtain ⟨v2, e1, h⟩ := zB_bind h
  refine V_callV (rest := []) 2 Z (ok_X5_faultOfFit  e1) cd_X5_faultOfFit zc4 (by decide) rfl w509 w511 w5 rfl (show decode cX5_wish 3 = .ok (.invokevirtual 198, 3) by decide +kernel) rfl ?_
  refine V_istore_n [(3, Value.int v2), (0, Value.ref 0), (1, Value.int x1), (2, Value.int x2)] Z (by decide) rfl rfl (show decode cX5_wish 6 = .ok (.istore_n 3, 1) by decide +kernel) ?_
  refine V_iload_n 0 Z rfl rfl (show decode cX5_wish 7 = .ok (.iload_n 3, 1) by decide +kernel) ?_
  refine V_if_lt 17 Z (by decide) (show decode cX5_wish 8 = .ok (.ifCond .lt 9, 3) by decide +kernel) (fun c3 => ?_) (fun c3 => ?_)
  · have h := zB_pos c3 h
    refine V_aload_n 1 Z rfl rfl (show decode cX5_wish 17 = .ok (.aload_n 0, 1) by decide +kernel) ?_
    refine V_aload_n 1 Z rfl rfl (show decode cX5_wish 18 = .ok (.aload_n 0, 1) by decide +kernel) ?_
    refine V_getR 5 37 Z zc4 (by decide) rfl (by decide) rfl (by decide) ⟨rfl, rfl, rfl⟩ w221 (show decode cX5_wish 19 = .ok (.getfield 38, 3) by decide +kernel) ?_
    refine V_iload_n 2 Z rfl rfl (show decode cX5_wish 22 = .ok (.iload_n 1, 1) by decide +kernel) ?_
    obtain ⟨q4, e5, h⟩ := zB_bind h
    refine V_aald 1 Z e5 (by decide) (fun _ => rfl) (by intro rs h; cases h; rfl) (show decode cX5_wish 23 = .ok (.aaload, 1) by decide +kernel) ?_
    have hq4 := zrr_S e5
    refine V_iload_n 3 Z rfl rfl (show decode cX5_wish 24 = .ok (.iload_n 2, 1) by decide +kernel) ?_
    obtain ⟨⟨v7, M8⟩, e6, h⟩ := zB_bind h
    refine V_callV (rest := []) 2 Z (ok_X5_fitting hq4 e6) cd_X5_fitting zc4 (by decide) rfl w516 w518 w6 rfl (show decode cX5_wish 25 = .ok (.invokevirtual 201, 3) by decide +kernel) rfl ?_
    refine V_istore [(4, Value.int v7), (3, Value.int v2), (0, Value.ref 0), (1, Value.int x1), (2, Value.int x2)] Z (by decide) rfl (show decode cX5_wish 28 = .ok (.istore 4, 2) by decide +kernel) ?_
    refine V_iload 0 Z rfl (show decode cX5_wish 30 = .ok (.iload 4, 2) by decide +kernel) ?_
    refine V_if_ne 43 Z (by decide) (show decode cX5_wish 32 = .ok (.ifCond .ne 11, 3) by decide +kernel) (fun c9 => ?_) (fun c9 => ?_)
    · have h := zB_neg c9 h
      refine V_iload 0 Z rfl (show decode cX5_wish 43 = .ok (.iload 4, 2) by decide +kernel) ?_
      obtain ⟨v11, e10, h⟩ := zB_bind h
      refine V_callS (rest := []) 1 Z (ok_X5_lowest  e10) cd_X5_lowest w528 w349 rfl (show decode cX5_wish 45 = .ok (.invokestatic 205, 3) by decide +kernel) rfl ?_
      refine V_iconst 1 (by decide) Z (show decode cX5_wish 48 = .ok (.iconst 1, 1) by decide +kernel) ?_
      refine V_isub Z (show decode cX5_wish 49 = .ok (.isub, 1) by decide +kernel) ?_
      exact V_iretM Z hE h (show decode cX5_wish 50 = .ok (.ireturn, 1) by decide +kernel)
    · have h := zB_pos c9 h
      refine V_aload_n 2 Z rfl rfl (show decode cX5_wish 35 = .ok (.aload_n 0, 1) by decide +kernel) ?_
      refine V_iconst 3 (by decide) Z (show decode cX5_wish 36 = .ok (.iconst 3, 1) by decide +kernel) ?_
      obtain ⟨⟨v13, M14⟩, e12, h⟩ := zB_bind h
      refine V_callV (rest := []) 1 Z (ok_X5_finding  e12) cd_X5_finding zc4 (by decide) rfl w248 w250 w0 rfl (show decode cX5_wish 37 = .ok (.invokevirtual 55, 3) by decide +kernel) rfl ?_
      refine V_goto 50 Z (by decide) (show decode cX5_wish 40 = .ok (.goto 10, 3) by decide +kernel) ?_
      exact V_iretM Z hE h (show decode cX5_wish 50 = .ok (.ireturn, 1) by decide +kernel)
  · have h := zB_neg c3 h
    refine V_aload_n 1 Z rfl rfl (show decode cX5_wish 11 = .ok (.aload_n 0, 1) by decide +kernel) ?_
    refine V_iload_n 0 Z rfl rfl (show decode cX5_wish 12 = .ok (.iload_n 3, 1) by decide +kernel) ?_
    obtain ⟨⟨v16, M17⟩, e15, h⟩ := zB_bind h
    refine V_callV (rest := []) 1 Z (ok_X5_finding  e15) cd_X5_finding zc4 (by decide) rfl w248 w250 w0 rfl (show decode cX5_wish 13 = .ok (.invokevirtual 55, 3) by decide +kernel) rfl ?_
    exact V_iretM Z hE h (show decode cX5_wish 16 = .ok (.ireturn, 1) by decide +kernel)
def f_X5_moths_j63 (M : zM) : Option (Int32 × zM) :=
  (f_X0_hanging 1 M).bind fun (v2 : Int32) =>
  (f_J6_bitCount_0f7a4 v2 M).bind fun (v4 : Int32) =>
  some ((v4, M))
def f_X5_moths_l38 (y1 : Int32) : Int32 × zM → Option ((Int32 × zM) ⊕ (Int32 × zM))
  | (y2, M) =>
    if y1 ≤ y2 then
      (f_X5_moths_j63  M).bind fun z => some (Sum.inr z)
    else
      (f_X0_moth 1 M).bind fun (M11 : zM) =>
      (f_X0_passDay 1 M11).bind fun (M13 : zM) =>
      (some (y2 + 1)).bind fun (n14 : Int32) =>
      some (.inl ((n14, M13)))
def f_X5_moths (x1 : Int32) (M : zM) : Option (Int32 × zM) :=
  (f_X5_within x1 1 20 M).bind fun (v6 : Int32) =>
  if v6 = 0 then
    (f_X5_finding 0 M).bind fun ((v20, M21) : Int32 × zM) =>
    some ((v20, M21))
  else
    if ((M 1 10) + x1) ≤ 99999 then
      zIter (f_X5_moths_l38 x1) 1000 (0, M)
    else
      (f_X5_finding 4 M).bind fun ((v17, M18) : Int32 × zM) =>
      some ((v17, M18))
theorem cd_X5_moths : zCd yX5_moths cX5_moths 3 (some .int) 1 := ⟨w532, w64, ⟨by decide, by decide⟩, by decide +kernel⟩
set_option maxHeartbeats 4000000 in
set_option maxRecDepth 20000 in
theorem ok_X5_moths {x1 : Int32} {M : zM} {y : Int32 × zM}  (h : f_X5_moths x1 M = some y) : zRuns yX5_moths cX5_moths 3 (some .int) 4 91 [.ref 0, .int x1] M (some (.int y.1)) y.2 := by
  refine zRuns_of (by decide +kernel) (Nat.le_of_ble_eq_true rfl) (fun E Z hE => ?_)
  have h := zB_top h
  change VV E 3 0 [(0, Value.ref 0), (1, Value.int x1)] [] M
  have J63 : ∀ (M : zM), (f_X5_moths_j63  M).bind some = some y → VV E 3 63 [(0, Value.ref 0)] [] M := by
    intro  M h
    refine V_aload_n 0 Z rfl rfl (show decode cX5_moths 63 = .ok (.aload_n 0, 1) by decide +kernel) ?_
    refine V_getR 0 1 Z zc4 (by decide) rfl (by decide) rfl (by decide) ⟨rfl, rfl, rfl⟩ w216 (show decode cX5_moths 64 = .ok (.getfield 10, 3) by decide +kernel) ?_
    obtain ⟨v2, e1, h⟩ := zB_bind h
    refine V_callV (rest := []) 0 Z (ok_X0_hanging isH_1 e1) cd_X0_hanging zc0 (isH_lt isH_1) (shH isH_1) w391 w344 w345 rfl (show decode cX5_moths 67 = .ok (.invokevirtual 143, 3) by decide +kernel) rfl ?_
    obtain ⟨v4, e3, h⟩ := zB_bind h
    refine V_callS (rest := []) 1 Z (ok_J6_bitCount_0f7a4  e3) cd_J6_bitCount_0f7a4 w351 w352 rfl (show decode cX5_moths 70 = .ok (.invokestatic 190, 3) by decide +kernel) rfl ?_
    exact V_iretM Z hE h (show decode cX5_moths 73 = .ok (.ireturn, 1) by decide +kernel)
  refine V_iload_n 1 Z rfl rfl (show decode cX5_moths 0 = .ok (.iload_n 1, 1) by decide +kernel) ?_
  refine V_iconst 1 (by decide) Z (show decode cX5_moths 1 = .ok (.iconst 1, 1) by decide +kernel) ?_
  refine V_bipush 20 (by decide) Z (show decode cX5_moths 2 = .ok (.bipush 20, 2) by decide +kernel) ?_
  obtain ⟨v6, e5, h⟩ := zB_bind h
  refine V_callS (rest := []) 3 Z (ok_X5_within  e5) cd_X5_within w245 w246 rfl (show decode cX5_moths 4 = .ok (.invokestatic 51, 3) by decide +kernel) rfl ?_
  refine V_if_ne 16 Z (by decide) (show decode cX5_moths 7 = .ok (.ifCond .ne 9, 3) by decide +kernel) (fun c7 => ?_) (fun c7 => ?_)
  · have h := zB_neg c7 h
    refine V_aload_n 0 Z rfl rfl (show decode cX5_moths 16 = .ok (.aload_n 0, 1) by decide +kernel) ?_
    refine V_getR 0 1 Z zc4 (by decide) rfl (by decide) rfl (by decide) ⟨rfl, rfl, rfl⟩ w216 (show decode cX5_moths 17 = .ok (.getfield 10, 3) by decide +kernel) ?_
    refine V_getI 10 Z zc0 (isH_lt isH_1) (shH isH_1) (by decide) rfl ⟨rfl, rfl, rfl⟩ w117 (show decode cX5_moths 20 = .ok (.getfield 133, 3) by decide +kernel) ?_
    refine V_iload_n 1 Z rfl rfl (show decode cX5_moths 23 = .ok (.iload_n 1, 1) by decide +kernel) ?_
    refine V_iadd Z (show decode cX5_moths 24 = .ok (.iadd, 1) by decide +kernel) ?_
    refine V_ldc 99999 Z w291 (show decode cX5_moths 25 = .ok (.ldc 104, 2) by decide +kernel) ?_
    refine V_icmp_le 36 Z (by decide) (show decode cX5_moths 27 = .ok (.if_icmp .le 9, 3) by decide +kernel) (fun c8 => ?_) (fun c8 => ?_)
    · have h := zB_pos c8 h
      refine V_iconst 0 (by decide) Z (show decode cX5_moths 36 = .ok (.iconst 0, 1) by decide +kernel) ?_
      refine V_istore_n [(2, Value.int 0), (0, Value.ref 0), (1, Value.int x1)] Z (by decide) rfl rfl (show decode cX5_moths 37 = .ok (.istore_n 2, 1) by decide +kernel) ?_
      refine V_sub [1, 2, 0] rfl ?_
      refine zIter_loop' (K := some) (fun s : Int32 × zM => VV E 3 38 [(0, Value.ref 0), (1, Value.int x1), (2, Value.int s.1)] [] s.2) (fun K1 s c1_i c1_r h => ?_) _ _ h
      obtain ⟨y2, M⟩ := s
      change VV E 3 38 [(0, Value.ref 0), (1, Value.int x1), (2, Value.int y2)] [] M
      refine V_iload_n 2 Z rfl rfl (show decode cX5_moths 38 = .ok (.iload_n 2, 1) by decide +kernel) ?_
      refine V_iload_n 1 Z rfl rfl (show decode cX5_moths 39 = .ok (.iload_n 1, 1) by decide +kernel) ?_
      refine V_icmp_ge 63 Z (by decide) (show decode cX5_moths 40 = .ok (.if_icmp .ge 23, 3) by decide +kernel) (fun c9 => ?_) (fun c9 => ?_)
      · have h := zB_pos c9 h
        refine V_sub [0] rfl ?_
        have h := zB_lift c1_r h
        exact J63 _ h
      · have h := zB_neg c9 h
        refine V_aload_n 0 Z rfl rfl (show decode cX5_moths 43 = .ok (.aload_n 0, 1) by decide +kernel) ?_
        refine V_getR 0 1 Z zc4 (by decide) rfl (by decide) rfl (by decide) ⟨rfl, rfl, rfl⟩ w216 (show decode cX5_moths 44 = .ok (.getfield 10, 3) by decide +kernel) ?_
        obtain ⟨M11, e10, h⟩ := zB_bind h
        refine V_callV (rest := []) 0 Z (ok_X0_moth isH_1 e10) cd_X0_moth zc0 (isH_lt isH_1) (shH isH_1) w533 w534 w535 rfl (show decode cX5_moths 47 = .ok (.invokevirtual 208, 3) by decide +kernel) rfl ?_
        refine V_aload_n 0 Z rfl rfl (show decode cX5_moths 50 = .ok (.aload_n 0, 1) by decide +kernel) ?_
        refine V_getR 0 1 Z zc4 (by decide) rfl (by decide) rfl (by decide) ⟨rfl, rfl, rfl⟩ w216 (show decode cX5_moths 51 = .ok (.getfield 10, 3) by decide +kernel) ?_
        obtain ⟨M13, e12, h⟩ := zB_bind h
        refine V_callV (rest := []) 0 Z (ok_X0_passDay isH_1 e12) cd_X0_passDay zc0 (isH_lt isH_1) (shH isH_1) w435 w336 w337 rfl (show decode cX5_moths 54 = .ok (.invokevirtual 171, 3) by decide +kernel) rfl ?_
        obtain ⟨n14, e15, h⟩ := zB_let h
        refine V_iinck 1 1 2 n14 [(2, Value.int n14), (0, Value.ref 0), (1, Value.int x1)] Z (by decide) (by decide) rfl e15 rfl (show decode cX5_moths 57 = .ok (.iinc 2 1, 3) by decide +kernel) ?_
        refine V_goto 38 Z (by decide) (show decode cX5_moths 60 = .ok (.goto (-22), 3) by decide +kernel) ?_
        refine V_sub [1, 2, 0] rfl ?_
        exact c1_i _ h
    · have h := zB_neg c8 h
      refine V_aload_n 0 Z rfl rfl (show decode cX5_moths 30 = .ok (.aload_n 0, 1) by decide +kernel) ?_
      refine V_iconst 4 (by decide) Z (show decode cX5_moths 31 = .ok (.iconst 4, 1) by decide +kernel) ?_
      obtain ⟨⟨v17, M18⟩, e16, h⟩ := zB_bind h
      refine V_callV (rest := []) 1 Z (ok_X5_finding  e16) cd_X5_finding zc4 (by decide) rfl w248 w250 w0 rfl (show decode cX5_moths 32 = .ok (.invokevirtual 55, 3) by decide +kernel) rfl ?_
      exact V_iretM Z hE h (show decode cX5_moths 35 = .ok (.ireturn, 1) by decide +kernel)
  · have h := zB_pos c7 h
    refine V_aload_n 0 Z rfl rfl (show decode cX5_moths 10 = .ok (.aload_n 0, 1) by decide +kernel) ?_
    refine V_iconst 0 (by decide) Z (show decode cX5_moths 11 = .ok (.iconst 0, 1) by decide +kernel) ?_
    obtain ⟨⟨v20, M21⟩, e19, h⟩ := zB_bind h
    refine V_callV (rest := []) 1 Z (ok_X5_finding  e19) cd_X5_finding zc4 (by decide) rfl w248 w250 w0 rfl (show decode cX5_moths 12 = .ok (.invokevirtual 55, 3) by decide +kernel) rfl ?_
    exact V_iretM Z hE h (show decode cX5_moths 15 = .ok (.ireturn, 1) by decide +kernel)
