/-! Generated walks: X3_has X4_append X5_within X5_finding X5_name X5_isName X5_of X5_changed X5_isNameOrNone X5_change X5_isPerson -/
def f_X3_has (q : Nat) (x1 : Int32) (x2 : Int32) (M : zM) : Option (Int32) :=
  if x1 < 0 then
    some ((0 : Int32))
  else
    if x2 < 0 then
      some ((0 : Int32))
    else
      if (M q 2) < x1 then
        some ((0 : Int32))
      else
        if ((M q 2) - x1) < x2 then
          some ((0 : Int32))
        else
          some ((1 : Int32))
theorem cd_X3_has : zCd yX3_has cX3_has 3 (some .boolean) 2 := ⟨w717, w68, ⟨by decide, by decide⟩, by decide +kernel⟩
set_option maxHeartbeats 4000000 in
set_option maxRecDepth 20000 in
theorem ok_X3_has {q : Nat} {x1 : Int32} {x2 : Int32} {M : zM} {y : Int32} (hq : isS q) (h : f_X3_has q x1 x2 M = some y) : zRuns yX3_has cX3_has 3 (some .boolean) 0 0 [.ref q, .int x1, .int x2] M (some (.int y)) M := by
  refine zRuns_of (by decide +kernel) (Nat.le_of_ble_eq_true rfl) (fun E Z hE => ?_)
  have h := zB_top h
  change VV E 3 0 [(0, Value.ref q), (1, Value.int x1), (2, Value.int x2)] [] M
  refine V_iload_n 1 Z rfl rfl (show decode cX3_has 0 = .ok (.iload_n 1, 1) by decide +kernel) ?_
  refine V_if_lt 30 Z (by decide) (show decode cX3_has 1 = .ok (.ifCond .lt 29, 3) by decide +kernel) (fun c1 => ?_) (fun c1 => ?_)
  · have h := zB_pos c1 h
    refine V_iconst 0 (by decide) Z (show decode cX3_has 30 = .ok (.iconst 0, 1) by decide +kernel) ?_
    exact V_zretP Z hE h rfl (show decode cX3_has 31 = .ok (.ireturn, 1) by decide +kernel)
  · have h := zB_neg c1 h
    refine V_iload_n 2 Z rfl rfl (show decode cX3_has 4 = .ok (.iload_n 2, 1) by decide +kernel) ?_
    refine V_if_lt 30 Z (by decide) (show decode cX3_has 5 = .ok (.ifCond .lt 25, 3) by decide +kernel) (fun c2 => ?_) (fun c2 => ?_)
    · have h := zB_pos c2 h
      refine V_iconst 0 (by decide) Z (show decode cX3_has 30 = .ok (.iconst 0, 1) by decide +kernel) ?_
      exact V_zretP Z hE h rfl (show decode cX3_has 31 = .ok (.ireturn, 1) by decide +kernel)
    · have h := zB_neg c2 h
      refine V_iload_n 1 Z rfl rfl (show decode cX3_has 8 = .ok (.iload_n 1, 1) by decide +kernel) ?_
      refine V_aload_n 0 Z rfl rfl (show decode cX3_has 9 = .ok (.aload_n 0, 1) by decide +kernel) ?_
      refine V_getI 2 Z zc2 (isS_lt hq) (shS hq) (by decide) rfl ⟨rfl, rfl, rfl⟩ w206 (show decode cX3_has 10 = .ok (.getfield 19, 3) by decide +kernel) ?_
      refine V_icmp_gt 30 Z (by decide) (show decode cX3_has 13 = .ok (.if_icmp .gt 17, 3) by decide +kernel) (fun c3 => ?_) (fun c3 => ?_)
      · have h := zB_pos c3 h
        refine V_iconst 0 (by decide) Z (show decode cX3_has 30 = .ok (.iconst 0, 1) by decide +kernel) ?_
        exact V_zretP Z hE h rfl (show decode cX3_has 31 = .ok (.ireturn, 1) by decide +kernel)
      · have h := zB_neg c3 h
        refine V_iload_n 2 Z rfl rfl (show decode cX3_has 16 = .ok (.iload_n 2, 1) by decide +kernel) ?_
        refine V_aload_n 0 Z rfl rfl (show decode cX3_has 17 = .ok (.aload_n 0, 1) by decide +kernel) ?_
        refine V_getI 2 Z zc2 (isS_lt hq) (shS hq) (by decide) rfl ⟨rfl, rfl, rfl⟩ w206 (show decode cX3_has 18 = .ok (.getfield 19, 3) by decide +kernel) ?_
        refine V_iload_n 1 Z rfl rfl (show decode cX3_has 21 = .ok (.iload_n 1, 1) by decide +kernel) ?_
        refine V_isub Z (show decode cX3_has 22 = .ok (.isub, 1) by decide +kernel) ?_
        refine V_icmp_gt 30 Z (by decide) (show decode cX3_has 23 = .ok (.if_icmp .gt 7, 3) by decide +kernel) (fun c4 => ?_) (fun c4 => ?_)
        · have h := zB_pos c4 h
          refine V_iconst 0 (by decide) Z (show decode cX3_has 30 = .ok (.iconst 0, 1) by decide +kernel) ?_
          exact V_zretP Z hE h rfl (show decode cX3_has 31 = .ok (.ireturn, 1) by decide +kernel)
        · have h := zB_neg c4 h
          refine V_iconst 1 (by decide) Z (show decode cX3_has 26 = .ok (.iconst 1, 1) by decide +kernel) ?_
          refine V_goto 31 Z (by decide) (show decode cX3_has 27 = .ok (.goto 4, 3) by decide +kernel) ?_
          exact V_zretP Z hE h rfl (show decode cX3_has 31 = .ok (.ireturn, 1) by decide +kernel)
def f_X4_append (x1 : Int32) (M : zM) : Option (zM) :=
  if 120 ≤ (M 34 1) then
    some (M)
  else
    (zwr M 35 (M 34 1) x1).bind fun (M2 : zM) =>
    (some (zU M2 34 1 (((M2 34 1) + 1)))).bind fun (M4 : zM) =>
    some (M4)
theorem cd_X4_append : zCd yX4_append cX4_append 2 none 1 := ⟨w553, w66, ⟨by decide, by decide⟩, by decide +kernel⟩
set_option maxHeartbeats 4000000 in
set_option maxRecDepth 20000 in
theorem ok_X4_append {x1 : Int32} {M : zM} {y : zM}  (h : f_X4_append x1 M = some y) : zRuns yX4_append cX4_append 2 none 0 0 [.ref 34, .int x1] M none y := by
  refine zRuns_of (by decide +kernel) (Nat.le_of_ble_eq_true rfl) (fun E Z hE => ?_)
  have h := zB_top h
  change VV E 2 0 [(0, Value.ref 34), (1, Value.int x1)] [] M
  refine V_aload_n 0 Z rfl rfl (show decode cX4_append 0 = .ok (.aload_n 0, 1) by decide +kernel) ?_
  refine V_getI 1 Z zc3 (by decide) rfl (by decide) rfl ⟨rfl, rfl, rfl⟩ w165 (show decode cX4_append 1 = .ok (.getfield 15, 3) by decide +kernel) ?_
  refine V_bipush 120 (by decide) Z (show decode cX4_append 4 = .ok (.bipush 120, 2) by decide +kernel) ?_
  refine V_icmp_ge 29 Z (by decide) (show decode cX4_append 6 = .ok (.if_icmp .ge 23, 3) by decide +kernel) (fun c1 => ?_) (fun c1 => ?_)
  · have h := zB_pos c1 h
    exact V_vretM Z hE h (show decode cX4_append 29 = .ok (.return_, 1) by decide +kernel)
  · have h := zB_neg c1 h
    refine V_aload_n 0 Z rfl rfl (show decode cX4_append 9 = .ok (.aload_n 0, 1) by decide +kernel) ?_
    refine V_getR 0 35 Z zc3 (by decide) rfl (by decide) rfl (by decide) ⟨rfl, rfl, rfl⟩ w164 (show decode cX4_append 10 = .ok (.getfield 9, 3) by decide +kernel) ?_
    refine V_aload_n 0 Z rfl rfl (show decode cX4_append 13 = .ok (.aload_n 0, 1) by decide +kernel) ?_
    refine V_getI 1 Z zc3 (by decide) rfl (by decide) rfl ⟨rfl, rfl, rfl⟩ w165 (show decode cX4_append 14 = .ok (.getfield 15, 3) by decide +kernel) ?_
    refine V_iload_n 1 Z rfl rfl (show decode cX4_append 17 = .ok (.iload_n 1, 1) by decide +kernel) ?_
    obtain ⟨M2, e3, h⟩ := zB_bind h
    refine V_iast Z e3 (show decode cX4_append 18 = .ok (.iastore, 1) by decide +kernel) ?_
    refine V_aload_n 0 Z rfl rfl (show decode cX4_append 19 = .ok (.aload_n 0, 1) by decide +kernel) ?_
    refine V_dup rfl Z (show decode cX4_append 20 = .ok (.dup, 1) by decide +kernel) ?_
    refine V_getI 1 Z zc3 (by decide) rfl (by decide) rfl ⟨rfl, rfl, rfl⟩ w165 (show decode cX4_append 21 = .ok (.getfield 15, 3) by decide +kernel) ?_
    refine V_iconst 1 (by decide) Z (show decode cX4_append 24 = .ok (.iconst 1, 1) by decide +kernel) ?_
    refine V_iadd Z (show decode cX4_append 25 = .ok (.iadd, 1) by decide +kernel) ?_
    obtain ⟨M4, e5, h⟩ := zB_let h
    refine V_putI 1 Z zc3 (by decide) rfl (by decide) rfl ⟨rfl, rfl, rfl⟩ rfl rfl w165 (show decode cX4_append 26 = .ok (.putfield 15, 3) by decide +kernel) ?_
    refine V_nmM e5 ?_
    exact V_vretM Z hE h (show decode cX4_append 29 = .ok (.return_, 1) by decide +kernel)
def f_X5_within (x0 : Int32) (x1 : Int32) (x2 : Int32) (M : zM) : Option (Int32) :=
  if x0 < x1 then
    some ((0 : Int32))
  else
    if x2 < x0 then
      some ((0 : Int32))
    else
      some ((1 : Int32))
theorem cd_X5_within : zCd yX5_within cX5_within 3 (some .boolean) 3 := ⟨w247, w64, ⟨by decide, by decide⟩, by decide +kernel⟩
set_option maxHeartbeats 4000000 in
set_option maxRecDepth 20000 in
theorem ok_X5_within {x0 : Int32} {x1 : Int32} {x2 : Int32} {M : zM} {y : Int32}  (h : f_X5_within x0 x1 x2 M = some y) : zRuns yX5_within cX5_within 3 (some .boolean) 0 0 [.int x0, .int x1, .int x2] M (some (.int y)) M := by
  refine zRuns_of (by decide +kernel) (Nat.le_of_ble_eq_true rfl) (fun E Z hE => ?_)
  have h := zB_top h
  change VV E 3 0 [(0, Value.int x0), (1, Value.int x1), (2, Value.int x2)] [] M
  refine V_iload_n 0 Z rfl rfl (show decode cX5_within 0 = .ok (.iload_n 0, 1) by decide +kernel) ?_
  refine V_iload_n 1 Z rfl rfl (show decode cX5_within 1 = .ok (.iload_n 1, 1) by decide +kernel) ?_
  refine V_icmp_lt 14 Z (by decide) (show decode cX5_within 2 = .ok (.if_icmp .lt 12, 3) by decide +kernel) (fun c1 => ?_) (fun c1 => ?_)
  · have h := zB_pos c1 h
    refine V_iconst 0 (by decide) Z (show decode cX5_within 14 = .ok (.iconst 0, 1) by decide +kernel) ?_
    exact V_zretP Z hE h rfl (show decode cX5_within 15 = .ok (.ireturn, 1) by decide +kernel)
  · have h := zB_neg c1 h
    refine V_iload_n 0 Z rfl rfl (show decode cX5_within 5 = .ok (.iload_n 0, 1) by decide +kernel) ?_
    refine V_iload_n 2 Z rfl rfl (show decode cX5_within 6 = .ok (.iload_n 2, 1) by decide +kernel) ?_
    refine V_icmp_gt 14 Z (by decide) (show decode cX5_within 7 = .ok (.if_icmp .gt 7, 3) by decide +kernel) (fun c2 => ?_) (fun c2 => ?_)
    · have h := zB_pos c2 h
      refine V_iconst 0 (by decide) Z (show decode cX5_within 14 = .ok (.iconst 0, 1) by decide +kernel) ?_
      exact V_zretP Z hE h rfl (show decode cX5_within 15 = .ok (.ireturn, 1) by decide +kernel)
    · have h := zB_neg c2 h
      refine V_iconst 1 (by decide) Z (show decode cX5_within 10 = .ok (.iconst 1, 1) by decide +kernel) ?_
      refine V_goto 15 Z (by decide) (show decode cX5_within 11 = .ok (.goto 4, 3) by decide +kernel) ?_
      exact V_zretP Z hE h rfl (show decode cX5_within 15 = .ok (.ireturn, 1) by decide +kernel)
def f_X5_finding (x1 : Int32) (M : zM) : Option (Int32 × zM) :=
  (zrd M 38 x1).bind fun (v1 : Int32) =>
  (zwr M 38 x1 (v1 + 1)).bind fun (M3 : zM) =>
  some ((((-1000001) - x1), M3))
theorem cd_X5_finding : zCd yX5_finding cX5_finding 2 (some .int) 1 := ⟨w251, w64, ⟨by decide, by decide⟩, by decide +kernel⟩
set_option maxHeartbeats 4000000 in
set_option maxRecDepth 20000 in
theorem ok_X5_finding {x1 : Int32} {M : zM} {y : Int32 × zM}  (h : f_X5_finding x1 M = some y) : zRuns yX5_finding cX5_finding 2 (some .int) 0 0 [.ref 0, .int x1] M (some (.int y.1)) y.2 := by
  refine zRuns_of (by decide +kernel) (Nat.le_of_ble_eq_true rfl) (fun E Z hE => ?_)
  have h := zB_top h
  change VV E 2 0 [(0, Value.ref 0), (1, Value.int x1)] [] M
  refine V_aload_n 0 Z rfl rfl (show decode cX5_finding 0 = .ok (.aload_n 0, 1) by decide +kernel) ?_
  refine V_getR 6 38 Z zc4 (by decide) rfl (by decide) rfl (by decide) ⟨rfl, rfl, rfl⟩ w222 (show decode cX5_finding 1 = .ok (.getfield 42, 3) by decide +kernel) ?_
  refine V_iload_n 1 Z rfl rfl (show decode cX5_finding 4 = .ok (.iload_n 1, 1) by decide +kernel) ?_
  refine V_dup2 rfl rfl Z (show decode cX5_finding 5 = .ok (.dup2, 1) by decide +kernel) ?_
  obtain ⟨v1, e2, h⟩ := zB_bind h
  refine V_iald Z e2 (show decode cX5_finding 6 = .ok (.iaload, 1) by decide +kernel) ?_
  refine V_iconst 1 (by decide) Z (show decode cX5_finding 7 = .ok (.iconst 1, 1) by decide +kernel) ?_
  refine V_iadd Z (show decode cX5_finding 8 = .ok (.iadd, 1) by decide +kernel) ?_
  obtain ⟨M3, e4, h⟩ := zB_bind h
  refine V_iast Z e4 (show decode cX5_finding 9 = .ok (.iastore, 1) by decide +kernel) ?_
  refine V_ldcw (-1000001) Z w252 (show decode cX5_finding 10 = .ok (.ldc_w 259, 3) by decide +kernel) ?_
  refine V_iload_n 1 Z rfl rfl (show decode cX5_finding 13 = .ok (.iload_n 1, 1) by decide +kernel) ?_
  refine V_isub Z (show decode cX5_finding 14 = .ok (.isub, 1) by decide +kernel) ?_
  exact V_iretM Z hE h (show decode cX5_finding 15 = .ok (.ireturn, 1) by decide +kernel)
def f_X5_name_j20 (M : zM) : Option (Int32 × zM) :=
  (f_X5_finding 0 M).bind fun ((v2, M3) : Int32 × zM) =>
  some ((v2, M3))
def f_X5_name (x1 : Int32) (x2 : Int32) (M : zM) : Option (Int32 × zM) :=
  (f_X5_within x1 0 6 M).bind fun (v5 : Int32) =>
  if v5 = 0 then
    f_X5_name_j20  M
  else
    (f_X5_within x2 0 99 M).bind fun (v8 : Int32) =>
    if v8 = 0 then
      f_X5_name_j20  M
    else
      if (M 1 0) < 8 then
        (f_X0_hangUp 1 x1 x2 0 (-1) M).bind fun ((v12, M13) : Int32 × zM) =>
        some ((v12, M13))
      else
        (f_X5_finding 1 M).bind fun ((v15, M16) : Int32 × zM) =>
        some ((v15, M16))
theorem cd_X5_name : zCd yX5_name cX5_name 3 (some .int) 2 := ⟨w244, w64, ⟨by decide, by decide⟩, by decide +kernel⟩
set_option maxHeartbeats 4000000 in
set_option maxRecDepth 20000 in
theorem ok_X5_name {x1 : Int32} {x2 : Int32} {M : zM} {y : Int32 × zM}  (h : f_X5_name x1 x2 M = some y) : zRuns yX5_name cX5_name 3 (some .int) 1 24 [.ref 0, .int x1, .int x2] M (some (.int y.1)) y.2 := by
  refine zRuns_of (by decide +kernel) (Nat.le_of_ble_eq_true rfl) (fun E Z hE => ?_)
  have h := zB_top h
  change VV E 3 0 [(0, Value.ref 0), (1, Value.int x1), (2, Value.int x2)] [] M
  have J20 : ∀ (M : zM), (f_X5_name_j20  M).bind some = some y → VV E 3 20 [(0, Value.ref 0)] [] M := by
    intro  M h
    refine V_aload_n 0 Z rfl rfl (show decode cX5_name 20 = .ok (.aload_n 0, 1) by decide +kernel) ?_
    refine V_iconst 0 (by decide) Z (show decode cX5_name 21 = .ok (.iconst 0, 1) by decide +kernel) ?_
    obtain ⟨⟨v2, M3⟩, e1, h⟩ := zB_bind h
    refine V_callV (rest := []) 1 Z (ok_X5_finding  e1) cd_X5_finding zc4 (by decide) rfl w248 w250 w0 rfl (show decode cX5_name 22 = .ok (.invokevirtual 55, 3) by decide +kernel) rfl ?_
    exact V_iretM Z hE h (show decode cX5_name 25 = .ok (.ireturn, 1) by decide +kernel)
  refine V_iload_n 1 Z rfl rfl (show decode cX5_name 0 = .ok (.iload_n 1, 1) by decide +kernel) ?_
  refine V_iconst 0 (by decide) Z (show decode cX5_name 1 = .ok (.iconst 0, 1) by decide +kernel) ?_
  refine V_bipush 6 (by decide) Z (show decode cX5_name 2 = .ok (.bipush 6, 2) by decide +kernel) ?_
  obtain ⟨v5, e4, h⟩ := zB_bind h
  refine V_callS (rest := []) 3 Z (ok_X5_within  e4) cd_X5_within w245 w246 rfl (show decode cX5_name 4 = .ok (.invokestatic 51, 3) by decide +kernel) rfl ?_
  refine V_if_eq 20 Z (by decide) (show decode cX5_name 7 = .ok (.ifCond .eq 13, 3) by decide +kernel) (fun c6 => ?_) (fun c6 => ?_)
  · have h := zB_pos c6 h
    refine V_sub [0] rfl ?_
    exact J20 _ h
  · have h := zB_neg c6 h
    refine V_iload_n 2 Z rfl rfl (show decode cX5_name 10 = .ok (.iload_n 2, 1) by decide +kernel) ?_
    refine V_iconst 0 (by decide) Z (show decode cX5_name 11 = .ok (.iconst 0, 1) by decide +kernel) ?_
    refine V_bipush 99 (by decide) Z (show decode cX5_name 12 = .ok (.bipush 99, 2) by decide +kernel) ?_
    obtain ⟨v8, e7, h⟩ := zB_bind h
    refine V_callS (rest := []) 3 Z (ok_X5_within  e7) cd_X5_within w245 w246 rfl (show decode cX5_name 14 = .ok (.invokestatic 51, 3) by decide +kernel) rfl ?_
    refine V_if_ne 26 Z (by decide) (show decode cX5_name 17 = .ok (.ifCond .ne 9, 3) by decide +kernel) (fun c9 => ?_) (fun c9 => ?_)
    · have h := zB_neg c9 h
      refine V_aload_n 0 Z rfl rfl (show decode cX5_name 26 = .ok (.aload_n 0, 1) by decide +kernel) ?_
      refine V_getR 0 1 Z zc4 (by decide) rfl (by decide) rfl (by decide) ⟨rfl, rfl, rfl⟩ w216 (show decode cX5_name 27 = .ok (.getfield 10, 3) by decide +kernel) ?_
      refine V_getI 0 Z zc0 (isH_lt isH_1) (shH isH_1) (by decide) rfl ⟨rfl, rfl, rfl⟩ w93 (show decode cX5_name 30 = .ok (.getfield 59, 3) by decide +kernel) ?_
      refine V_bipush 8 (by decide) Z (show decode cX5_name 33 = .ok (.bipush 8, 2) by decide +kernel) ?_
      refine V_icmp_lt 44 Z (by decide) (show decode cX5_name 35 = .ok (.if_icmp .lt 9, 3) by decide +kernel) (fun c10 => ?_) (fun c10 => ?_)
      · have h := zB_pos c10 h
        refine V_aload_n 0 Z rfl rfl (show decode cX5_name 44 = .ok (.aload_n 0, 1) by decide +kernel) ?_
        refine V_getR 0 1 Z zc4 (by decide) rfl (by decide) rfl (by decide) ⟨rfl, rfl, rfl⟩ w216 (show decode cX5_name 45 = .ok (.getfield 10, 3) by decide +kernel) ?_
        refine V_iload_n 1 Z rfl rfl (show decode cX5_name 48 = .ok (.iload_n 1, 1) by decide +kernel) ?_
        refine V_iload_n 2 Z rfl rfl (show decode cX5_name 49 = .ok (.iload_n 2, 1) by decide +kernel) ?_
        refine V_iconst 0 (by decide) Z (show decode cX5_name 50 = .ok (.iconst 0, 1) by decide +kernel) ?_
        refine V_iconst (-1) (by decide) Z (show decode cX5_name 51 = .ok (.iconst (-1), 1) by decide +kernel) ?_
        obtain ⟨⟨v12, M13⟩, e11, h⟩ := zB_bind h
        refine V_callV (rest := []) 4 Z (ok_X0_hangUp isH_1 e11) cd_X0_hangUp zc0 (isH_lt isH_1) (shH isH_1) w253 w254 w255 rfl (show decode cX5_name 52 = .ok (.invokevirtual 63, 3) by decide +kernel) rfl ?_
        exact V_iretM Z hE h (show decode cX5_name 55 = .ok (.ireturn, 1) by decide +kernel)
      · have h := zB_neg c10 h
        refine V_aload_n 0 Z rfl rfl (show decode cX5_name 38 = .ok (.aload_n 0, 1) by decide +kernel) ?_
        refine V_iconst 1 (by decide) Z (show decode cX5_name 39 = .ok (.iconst 1, 1) by decide +kernel) ?_
        obtain ⟨⟨v15, M16⟩, e14, h⟩ := zB_bind h
        refine V_callV (rest := []) 1 Z (ok_X5_finding  e14) cd_X5_finding zc4 (by decide) rfl w248 w250 w0 rfl (show decode cX5_name 40 = .ok (.invokevirtual 55, 3) by decide +kernel) rfl ?_
        exact V_iretM Z hE h (show decode cX5_name 43 = .ok (.ireturn, 1) by decide +kernel)
    · have h := zB_pos c9 h
      refine V_sub [0] rfl ?_
      exact J20 _ h
def f_X5_isName (x1 : Int32) (M : zM) : Option (Int32) :=
  (f_X5_within x1 0 ((M 1 0) - 1) M).bind fun (v2 : Int32) =>
  (zbo v2).bind fun (b3 : Int32) =>
  some (b3)
theorem cd_X5_isName : zCd yX5_isName cX5_isName 2 (some .boolean) 1 := ⟨w264, w64, ⟨by decide, by decide⟩, by decide +kernel⟩
set_option maxHeartbeats 4000000 in
set_option maxRecDepth 20000 in
theorem ok_X5_isName {x1 : Int32} {M : zM} {y : Int32}  (h : f_X5_isName x1 M = some y) : zRuns yX5_isName cX5_isName 2 (some .boolean) 1 22 [.ref 0, .int x1] M (some (.int y)) M := by
  refine zRuns_of (by decide +kernel) (Nat.le_of_ble_eq_true rfl) (fun E Z hE => ?_)
  have h := zB_top h
  change VV E 2 0 [(0, Value.ref 0), (1, Value.int x1)] [] M
  refine V_iload_n 1 Z rfl rfl (show decode cX5_isName 0 = .ok (.iload_n 1, 1) by decide +kernel) ?_
  refine V_iconst 0 (by decide) Z (show decode cX5_isName 1 = .ok (.iconst 0, 1) by decide +kernel) ?_
  refine V_aload_n 0 Z rfl rfl (show decode cX5_isName 2 = .ok (.aload_n 0, 1) by decide +kernel) ?_
  refine V_getR 0 1 Z zc4 (by decide) rfl (by decide) rfl (by decide) ⟨rfl, rfl, rfl⟩ w216 (show decode cX5_isName 3 = .ok (.getfield 10, 3) by decide +kernel) ?_
  refine V_getI 0 Z zc0 (isH_lt isH_1) (shH isH_1) (by decide) rfl ⟨rfl, rfl, rfl⟩ w93 (show decode cX5_isName 6 = .ok (.getfield 59, 3) by decide +kernel) ?_
  refine V_iconst 1 (by decide) Z (show decode cX5_isName 9 = .ok (.iconst 1, 1) by decide +kernel) ?_
  refine V_isub Z (show decode cX5_isName 10 = .ok (.isub, 1) by decide +kernel) ?_
  obtain ⟨v2, e1, h⟩ := zB_bind h
  refine V_callS (rest := []) 3 Z (ok_X5_within  e1) cd_X5_within w245 w246 rfl (show decode cX5_isName 11 = .ok (.invokestatic 51, 3) by decide +kernel) rfl ?_
  obtain ⟨b3, e4, h⟩ := zB_bind h
  refine V_nm (zbo_v e4).1 ?_
  exact V_zretP Z hE h (zbo_v e4).2 (show decode cX5_isName 14 = .ok (.ireturn, 1) by decide +kernel)
def f_X5_of (x1 : Int32) (x2 : Int32) (M : zM) : Option (Int32 × zM) :=
  (f_X5_isName x1 M).bind fun (v2 : Int32) =>
  if v2 = 0 then
    (f_X5_finding 0 M).bind fun ((v38, M39) : Int32 × zM) =>
    some ((v38, M39))
  else
    if x2 = 0 then
      (zrd M 2 x1).bind fun (v5 : Int32) =>
      some ((v5, M))
    else
      if x2 = 1 then
        (zrd M 3 x1).bind fun (v8 : Int32) =>
        some ((v8, M))
      else
        if x2 = 2 then
          (zrd M 4 x1).bind fun (v11 : Int32) =>
          some ((v11, M))
        else
          if x2 = 3 then
            (zrd M 5 x1).bind fun (v14 : Int32) =>
            some ((v14, M))
          else
            if x2 = 4 then
              (zrd M 6 x1).bind fun (v17 : Int32) =>
              some ((v17, M))
            else
              if x2 = 5 then
                (f_X0_due 1 x1 M).bind fun (v21 : Int32) =>
                some ((v21, M))
              else
                if x2 = 6 then
                  (zrd M 2 x1).bind fun (v23 : Int32) =>
                  (f_X1_fades v23 M).bind fun (v26 : Int32) =>
                  some ((v26, M))
                else
                  if x2 = 7 then
                    (f_X0_hangs 1 x1 M).bind fun (v29 : Int32) =>
                    if v29 = 0 then
                      some ((0, M))
                    else
                      some ((1, M))
                  else
                    if x2 = 8 then
                      (f_X0_foesOf 1 x1 M).bind fun (v33 : Int32) =>
                      some ((v33, M))
                    else
                      (f_X5_finding 0 M).bind fun ((v35, M36) : Int32 × zM) =>
                      some ((v35, M36))
theorem cd_X5_of : zCd yX5_of cX5_of 3 (some .int) 2 := ⟨w260, w64, ⟨by decide, by decide⟩, by decide +kernel⟩
set_option maxHeartbeats 4000000 in
set_option maxRecDepth 20000 in
theorem ok_X5_of {x1 : Int32} {x2 : Int32} {M : zM} {y : Int32 × zM}  (h : f_X5_of x1 x2 M = some y) : zRuns yX5_of cX5_of 3 (some .int) 2 46 [.ref 0, .int x1, .int x2] M (some (.int y.1)) y.2 := by
  refine zRuns_of (by decide +kernel) (Nat.le_of_ble_eq_true rfl) (fun E Z hE => ?_)
  have h := zB_top h
  change VV E 3 0 [(0, Value.ref 0), (1, Value.int x1), (2, Value.int x2)] [] M
  refine V_aload_n 0 Z rfl rfl (show decode cX5_of 0 = .ok (.aload_n 0, 1) by decide +kernel) ?_
  refine V_iload_n 1 Z rfl rfl (show decode cX5_of 1 = .ok (.iload_n 1, 1) by decide +kernel) ?_
  obtain ⟨v2, e1, h⟩ := zB_bind h
  refine V_callV (rest := []) 1 Z (ok_X5_isName  e1) cd_X5_isName zc4 (by decide) rfl w261 w263 w1 rfl (show decode cX5_of 2 = .ok (.invokevirtual 67, 3) by decide +kernel) rfl ?_
  refine V_if_ne 14 Z (by decide) (show decode cX5_of 5 = .ok (.ifCond .ne 9, 3) by decide +kernel) (fun c3 => ?_) (fun c3 => ?_)
  · have h := zB_neg c3 h
    refine V_iload_n 2 Z rfl rfl (show decode cX5_of 14 = .ok (.iload_n 2, 1) by decide +kernel) ?_
    rcases zB_ite h with ⟨c4, h⟩ | ⟨c4, h⟩
    · refine V_tabE (off := 49) 0 64 Z c4 (show decode cX5_of 15 = .ok (.tableswitch 147 0 8 #[49, 59, 69, 79, 89, 99, 108, 121, 138], 49) by decide +kernel) (by decide) ?_
      refine V_aload_n 0 Z rfl rfl (show decode cX5_of 64 = .ok (.aload_n 0, 1) by decide +kernel) ?_
      refine V_getR 0 1 Z zc4 (by decide) rfl (by decide) rfl (by decide) ⟨rfl, rfl, rfl⟩ w216 (show decode cX5_of 65 = .ok (.getfield 10, 3) by decide +kernel) ?_
      refine V_getR 1 2 Z zc0 (isH_lt isH_1) (shH isH_1) (by decide) rfl (by decide) ⟨rfl, rfl, rfl⟩ w96 (show decode cX5_of 68 = .ok (.getfield 71, 3) by decide +kernel) ?_
      refine V_iload_n 1 Z rfl rfl (show decode cX5_of 71 = .ok (.iload_n 1, 1) by decide +kernel) ?_
      obtain ⟨v5, e6, h⟩ := zB_bind h
      refine V_iald Z e6 (show decode cX5_of 72 = .ok (.iaload, 1) by decide +kernel) ?_
      exact V_iretM Z hE h (show decode cX5_of 73 = .ok (.ireturn, 1) by decide +kernel)
    · skip
      rcases zB_ite h with ⟨c7, h⟩ | ⟨c7, h⟩
      · refine V_tabE (off := 59) 1 74 Z c7 (show decode cX5_of 15 = .ok (.tableswitch 147 0 8 #[49, 59, 69, 79, 89, 99, 108, 121, 138], 49) by decide +kernel) (by decide) ?_
        refine V_aload_n 0 Z rfl rfl (show decode cX5_of 74 = .ok (.aload_n 0, 1) by decide +kernel) ?_
        refine V_getR 0 1 Z zc4 (by decide) rfl (by decide) rfl (by decide) ⟨rfl, rfl, rfl⟩ w216 (show decode cX5_of 75 = .ok (.getfield 10, 3) by decide +kernel) ?_
        refine V_getR 2 3 Z zc0 (isH_lt isH_1) (shH isH_1) (by decide) rfl (by decide) ⟨rfl, rfl, rfl⟩ w98 (show decode cX5_of 78 = .ok (.getfield 74, 3) by decide +kernel) ?_
        refine V_iload_n 1 Z rfl rfl (show decode cX5_of 81 = .ok (.iload_n 1, 1) by decide +kernel) ?_
        obtain ⟨v8, e9, h⟩ := zB_bind h
        refine V_iald Z e9 (show decode cX5_of 82 = .ok (.iaload, 1) by decide +kernel) ?_
        exact V_iretM Z hE h (show decode cX5_of 83 = .ok (.ireturn, 1) by decide +kernel)
      · skip
        rcases zB_ite h with ⟨c10, h⟩ | ⟨c10, h⟩
        · refine V_tabE (off := 69) 2 84 Z c10 (show decode cX5_of 15 = .ok (.tableswitch 147 0 8 #[49, 59, 69, 79, 89, 99, 108, 121, 138], 49) by decide +kernel) (by decide) ?_
          refine V_aload_n 0 Z rfl rfl (show decode cX5_of 84 = .ok (.aload_n 0, 1) by decide +kernel) ?_
          refine V_getR 0 1 Z zc4 (by decide) rfl (by decide) rfl (by decide) ⟨rfl, rfl, rfl⟩ w216 (show decode cX5_of 85 = .ok (.getfield 10, 3) by decide +kernel) ?_
          refine V_getR 3 4 Z zc0 (isH_lt isH_1) (shH isH_1) (by decide) rfl (by decide) ⟨rfl, rfl, rfl⟩ w100 (show decode cX5_of 88 = .ok (.getfield 77, 3) by decide +kernel) ?_
          refine V_iload_n 1 Z rfl rfl (show decode cX5_of 91 = .ok (.iload_n 1, 1) by decide +kernel) ?_
          obtain ⟨v11, e12, h⟩ := zB_bind h
          refine V_iald Z e12 (show decode cX5_of 92 = .ok (.iaload, 1) by decide +kernel) ?_
          exact V_iretM Z hE h (show decode cX5_of 93 = .ok (.ireturn, 1) by decide +kernel)
        · skip
          rcases zB_ite h with ⟨c13, h⟩ | ⟨c13, h⟩
          · refine V_tabE (off := 79) 3 94 Z c13 (show decode cX5_of 15 = .ok (.tableswitch 147 0 8 #[49, 59, 69, 79, 89, 99, 108, 121, 138], 49) by decide +kernel) (by decide) ?_
            refine V_aload_n 0 Z rfl rfl (show decode cX5_of 94 = .ok (.aload_n 0, 1) by decide +kernel) ?_
            refine V_getR 0 1 Z zc4 (by decide) rfl (by decide) rfl (by decide) ⟨rfl, rfl, rfl⟩ w216 (show decode cX5_of 95 = .ok (.getfield 10, 3) by decide +kernel) ?_
            refine V_getR 4 5 Z zc0 (isH_lt isH_1) (shH isH_1) (by decide) rfl (by decide) ⟨rfl, rfl, rfl⟩ w102 (show decode cX5_of 98 = .ok (.getfield 80, 3) by decide +kernel) ?_
            refine V_iload_n 1 Z rfl rfl (show decode cX5_of 101 = .ok (.iload_n 1, 1) by decide +kernel) ?_
            obtain ⟨v14, e15, h⟩ := zB_bind h
            refine V_iald Z e15 (show decode cX5_of 102 = .ok (.iaload, 1) by decide +kernel) ?_
            exact V_iretM Z hE h (show decode cX5_of 103 = .ok (.ireturn, 1) by decide +kernel)
          · skip
            rcases zB_ite h with ⟨c16, h⟩ | ⟨c16, h⟩
            · refine V_tabE (off := 89) 4 104 Z c16 (show decode cX5_of 15 = .ok (.tableswitch 147 0 8 #[49, 59, 69, 79, 89, 99, 108, 121, 138], 49) by decide +kernel) (by decide) ?_
              refine V_aload_n 0 Z rfl rfl (show decode cX5_of 104 = .ok (.aload_n 0, 1) by decide +kernel) ?_
              refine V_getR 0 1 Z zc4 (by decide) rfl (by decide) rfl (by decide) ⟨rfl, rfl, rfl⟩ w216 (show decode cX5_of 105 = .ok (.getfield 10, 3) by decide +kernel) ?_
              refine V_getR 5 6 Z zc0 (isH_lt isH_1) (shH isH_1) (by decide) rfl (by decide) ⟨rfl, rfl, rfl⟩ w104 (show decode cX5_of 108 = .ok (.getfield 83, 3) by decide +kernel) ?_
              refine V_iload_n 1 Z rfl rfl (show decode cX5_of 111 = .ok (.iload_n 1, 1) by decide +kernel) ?_
              obtain ⟨v17, e18, h⟩ := zB_bind h
              refine V_iald Z e18 (show decode cX5_of 112 = .ok (.iaload, 1) by decide +kernel) ?_
              exact V_iretM Z hE h (show decode cX5_of 113 = .ok (.ireturn, 1) by decide +kernel)
            · skip
              rcases zB_ite h with ⟨c19, h⟩ | ⟨c19, h⟩
              · refine V_tabE (off := 99) 5 114 Z c19 (show decode cX5_of 15 = .ok (.tableswitch 147 0 8 #[49, 59, 69, 79, 89, 99, 108, 121, 138], 49) by decide +kernel) (by decide) ?_
                refine V_aload_n 0 Z rfl rfl (show decode cX5_of 114 = .ok (.aload_n 0, 1) by decide +kernel) ?_
                refine V_getR 0 1 Z zc4 (by decide) rfl (by decide) rfl (by decide) ⟨rfl, rfl, rfl⟩ w216 (show decode cX5_of 115 = .ok (.getfield 10, 3) by decide +kernel) ?_
                refine V_iload_n 1 Z rfl rfl (show decode cX5_of 118 = .ok (.iload_n 1, 1) by decide +kernel) ?_
                obtain ⟨v21, e20, h⟩ := zB_bind h
                refine V_callV (rest := []) 1 Z (ok_X0_due isH_1 e20) cd_X0_due zc0 (isH_lt isH_1) (shH isH_1) w265 w266 w267 rfl (show decode cX5_of 119 = .ok (.invokevirtual 86, 3) by decide +kernel) rfl ?_
                exact V_iretM Z hE h (show decode cX5_of 122 = .ok (.ireturn, 1) by decide +kernel)
              · skip
                rcases zB_ite h with ⟨c22, h⟩ | ⟨c22, h⟩
                · refine V_tabE (off := 108) 6 123 Z c22 (show decode cX5_of 15 = .ok (.tableswitch 147 0 8 #[49, 59, 69, 79, 89, 99, 108, 121, 138], 49) by decide +kernel) (by decide) ?_
                  refine V_aload_n 0 Z rfl rfl (show decode cX5_of 123 = .ok (.aload_n 0, 1) by decide +kernel) ?_
                  refine V_getR 0 1 Z zc4 (by decide) rfl (by decide) rfl (by decide) ⟨rfl, rfl, rfl⟩ w216 (show decode cX5_of 124 = .ok (.getfield 10, 3) by decide +kernel) ?_
                  refine V_getR 1 2 Z zc0 (isH_lt isH_1) (shH isH_1) (by decide) rfl (by decide) ⟨rfl, rfl, rfl⟩ w96 (show decode cX5_of 127 = .ok (.getfield 71, 3) by decide +kernel) ?_
                  refine V_iload_n 1 Z rfl rfl (show decode cX5_of 130 = .ok (.iload_n 1, 1) by decide +kernel) ?_
                  obtain ⟨v23, e24, h⟩ := zB_bind h
                  refine V_iald Z e24 (show decode cX5_of 131 = .ok (.iaload, 1) by decide +kernel) ?_
                  obtain ⟨v26, e25, h⟩ := zB_bind h
                  refine V_callS (rest := []) 1 Z (ok_X1_fades  e25) cd_X1_fades w272 w273 rfl (show decode cX5_of 132 = .ok (.invokestatic 89, 3) by decide +kernel) rfl ?_
                  exact V_iretM Z hE h (show decode cX5_of 135 = .ok (.ireturn, 1) by decide +kernel)
                · skip
                  rcases zB_ite h with ⟨c27, h⟩ | ⟨c27, h⟩
                  · refine V_tabE (off := 121) 7 136 Z c27 (show decode cX5_of 15 = .ok (.tableswitch 147 0 8 #[49, 59, 69, 79, 89, 99, 108, 121, 138], 49) by decide +kernel) (by decide) ?_
                    refine V_aload_n 0 Z rfl rfl (show decode cX5_of 136 = .ok (.aload_n 0, 1) by decide +kernel) ?_
                    refine V_getR 0 1 Z zc4 (by decide) rfl (by decide) rfl (by decide) ⟨rfl, rfl, rfl⟩ w216 (show decode cX5_of 137 = .ok (.getfield 10, 3) by decide +kernel) ?_
                    refine V_iload_n 1 Z rfl rfl (show decode cX5_of 140 = .ok (.iload_n 1, 1) by decide +kernel) ?_
                    obtain ⟨v29, e28, h⟩ := zB_bind h
                    refine V_callV (rest := []) 1 Z (ok_X0_hangs isH_1 e28) cd_X0_hangs zc0 (isH_lt isH_1) (shH isH_1) w275 w276 w277 rfl (show decode cX5_of 141 = .ok (.invokevirtual 94, 3) by decide +kernel) rfl ?_
                    refine V_if_eq 151 Z (by decide) (show decode cX5_of 144 = .ok (.ifCond .eq 7, 3) by decide +kernel) (fun c30 => ?_) (fun c30 => ?_)
                    · have h := zB_pos c30 h
                      refine V_iconst 0 (by decide) Z (show decode cX5_of 151 = .ok (.iconst 0, 1) by decide +kernel) ?_
                      exact V_iretM Z hE h (show decode cX5_of 152 = .ok (.ireturn, 1) by decide +kernel)
                    · have h := zB_neg c30 h
                      refine V_iconst 1 (by decide) Z (show decode cX5_of 147 = .ok (.iconst 1, 1) by decide +kernel) ?_
                      refine V_goto 152 Z (by decide) (show decode cX5_of 148 = .ok (.goto 4, 3) by decide +kernel) ?_
                      exact V_iretM Z hE h (show decode cX5_of 152 = .ok (.ireturn, 1) by decide +kernel)
                  · skip
                    rcases zB_ite h with ⟨c31, h⟩ | ⟨c31, h⟩
                    · refine V_tabE (off := 138) 8 153 Z c31 (show decode cX5_of 15 = .ok (.tableswitch 147 0 8 #[49, 59, 69, 79, 89, 99, 108, 121, 138], 49) by decide +kernel) (by decide) ?_
                      refine V_aload_n 0 Z rfl rfl (show decode cX5_of 153 = .ok (.aload_n 0, 1) by decide +kernel) ?_
                      refine V_getR 0 1 Z zc4 (by decide) rfl (by decide) rfl (by decide) ⟨rfl, rfl, rfl⟩ w216 (show decode cX5_of 154 = .ok (.getfield 10, 3) by decide +kernel) ?_
                      refine V_iload_n 1 Z rfl rfl (show decode cX5_of 157 = .ok (.iload_n 1, 1) by decide +kernel) ?_
                      obtain ⟨v33, e32, h⟩ := zB_bind h
                      refine V_callV (rest := []) 1 Z (ok_X0_foesOf isH_1 e32) cd_X0_foesOf zc0 (isH_lt isH_1) (shH isH_1) w279 w280 w281 rfl (show decode cX5_of 158 = .ok (.invokevirtual 97, 3) by decide +kernel) rfl ?_
                      exact V_iretM Z hE h (show decode cX5_of 161 = .ok (.ireturn, 1) by decide +kernel)
                    · skip
                      refine V_tabOut 162 Z (show decode cX5_of 15 = .ok (.tableswitch 147 0 8 #[49, 59, 69, 79, 89, 99, 108, 121, 138], 49) by decide +kernel) (z_out (fun i h1 h2 e => by
                          rcases (show i = 0 ∨ i = 1 ∨ i = 2 ∨ i = 3 ∨ i = 4 ∨ i = 5 ∨ i = 6 ∨ i = 7 ∨ i = 8 by omega) with rfl | rfl | rfl | rfl | rfl | rfl | rfl | rfl | rfl
                          · exact c4 e
                          · exact c7 e
                          · exact c10 e
                          · exact c13 e
                          · exact c16 e
                          · exact c19 e
                          · exact c22 e
                          · exact c27 e
                          · exact c31 e)) (by decide) ?_
                      refine V_aload_n 0 Z rfl rfl (show decode cX5_of 162 = .ok (.aload_n 0, 1) by decide +kernel) ?_
                      refine V_iconst 0 (by decide) Z (show decode cX5_of 163 = .ok (.iconst 0, 1) by decide +kernel) ?_
                      obtain ⟨⟨v35, M36⟩, e34, h⟩ := zB_bind h
                      refine V_callV (rest := []) 1 Z (ok_X5_finding  e34) cd_X5_finding zc4 (by decide) rfl w248 w250 w0 rfl (show decode cX5_of 164 = .ok (.invokevirtual 55, 3) by decide +kernel) rfl ?_
                      exact V_iretM Z hE h (show decode cX5_of 167 = .ok (.ireturn, 1) by decide +kernel)
  · have h := zB_pos c3 h
    refine V_aload_n 0 Z rfl rfl (show decode cX5_of 8 = .ok (.aload_n 0, 1) by decide +kernel) ?_
    refine V_iconst 0 (by decide) Z (show decode cX5_of 9 = .ok (.iconst 0, 1) by decide +kernel) ?_
    obtain ⟨⟨v38, M39⟩, e37, h⟩ := zB_bind h
    refine V_callV (rest := []) 1 Z (ok_X5_finding  e37) cd_X5_finding zc4 (by decide) rfl w248 w250 w0 rfl (show decode cX5_of 10 = .ok (.invokevirtual 55, 3) by decide +kernel) rfl ?_
    exact V_iretM Z hE h (show decode cX5_of 13 = .ok (.ireturn, 1) by decide +kernel)
def f_X5_changed (a : Nat) (x2 : Int32) (x3 : Int32) (x4 : Int32) (M : zM) : Option (Int32 × zM) :=
  if x4 = 0 then
    (f_X5_finding 0 M).bind fun ((v7, M8) : Int32 × zM) =>
    some ((v7, M8))
  else
    (zrd M a x2).bind fun (v2 : Int32) =>
    (zwr M a x2 x3).bind fun (M4 : zM) =>
    some ((v2, M4))
theorem cd_X5_changed : zCd yX5_changed cX5_changed 6 (some .int) 4 := ⟨w290, w64, ⟨by decide, by decide⟩, by decide +kernel⟩
set_option maxHeartbeats 4000000 in
set_option maxRecDepth 20000 in
theorem ok_X5_changed {a : Nat} {x2 : Int32} {x3 : Int32} {x4 : Int32} {M : zM} {y : Int32 × zM}  (h : f_X5_changed a x2 x3 x4 M = some y) : zRuns yX5_changed cX5_changed 6 (some .int) 1 21 [.ref 0, .ref a, .int x2, .int x3, .int x4] M (some (.int y.1)) y.2 := by
  refine zRuns_of (by decide +kernel) (Nat.le_of_ble_eq_true rfl) (fun E Z hE => ?_)
  have h := zB_top h
  change VV E 6 0 [(0, Value.ref 0), (1, Value.ref a), (2, Value.int x2), (3, Value.int x3), (4, Value.int x4)] [] M
  refine V_iload 4 Z rfl (show decode cX5_changed 0 = .ok (.iload 4, 2) by decide +kernel) ?_
  refine V_if_ne 11 Z (by decide) (show decode cX5_changed 2 = .ok (.ifCond .ne 9, 3) by decide +kernel) (fun c1 => ?_) (fun c1 => ?_)
  · have h := zB_neg c1 h
    refine V_aload_n 1 Z rfl rfl (show decode cX5_changed 11 = .ok (.aload_n 1, 1) by decide +kernel) ?_
    refine V_iload_n 2 Z rfl rfl (show decode cX5_changed 12 = .ok (.iload_n 2, 1) by decide +kernel) ?_
    obtain ⟨v2, e3, h⟩ := zB_bind h
    refine V_iald Z e3 (show decode cX5_changed 13 = .ok (.iaload, 1) by decide +kernel) ?_
    refine V_istore [(5, Value.int v2), (0, Value.ref 0), (1, Value.ref a), (2, Value.int x2), (3, Value.int x3), (4, Value.int x4)] Z (by decide) rfl (show decode cX5_changed 14 = .ok (.istore 5, 2) by decide +kernel) ?_
    refine V_aload_n 2 Z rfl rfl (show decode cX5_changed 16 = .ok (.aload_n 1, 1) by decide +kernel) ?_
    refine V_iload_n 3 Z rfl rfl (show decode cX5_changed 17 = .ok (.iload_n 2, 1) by decide +kernel) ?_
    refine V_iload_n 4 Z rfl rfl (show decode cX5_changed 18 = .ok (.iload_n 3, 1) by decide +kernel) ?_
    obtain ⟨M4, e5, h⟩ := zB_bind h
    refine V_iast Z e5 (show decode cX5_changed 19 = .ok (.iastore, 1) by decide +kernel) ?_
    refine V_iload 0 Z rfl (show decode cX5_changed 20 = .ok (.iload 5, 2) by decide +kernel) ?_
    exact V_iretM Z hE h (show decode cX5_changed 22 = .ok (.ireturn, 1) by decide +kernel)
  · have h := zB_pos c1 h
    refine V_aload_n 0 Z rfl rfl (show decode cX5_changed 5 = .ok (.aload_n 0, 1) by decide +kernel) ?_
    refine V_iconst 0 (by decide) Z (show decode cX5_changed 6 = .ok (.iconst 0, 1) by decide +kernel) ?_
    obtain ⟨⟨v7, M8⟩, e6, h⟩ := zB_bind h
    refine V_callV (rest := []) 1 Z (ok_X5_finding  e6) cd_X5_finding zc4 (by decide) rfl w248 w250 w0 rfl (show decode cX5_changed 7 = .ok (.invokevirtual 55, 3) by decide +kernel) rfl ?_
    exact V_iretM Z hE h (show decode cX5_changed 10 = .ok (.ireturn, 1) by decide +kernel)
def f_X5_isNameOrNone (x1 : Int32) (M : zM) : Option (Int32) :=
  (f_X5_within x1 (-1) ((M 1 0) - 1) M).bind fun (v2 : Int32) =>
  (zbo v2).bind fun (b3 : Int32) =>
  some (b3)
theorem cd_X5_isNameOrNone : zCd yX5_isNameOrNone cX5_isNameOrNone 2 (some .boolean) 1 := ⟨w295, w64, ⟨by decide, by decide⟩, by decide +kernel⟩
set_option maxHeartbeats 4000000 in
set_option maxRecDepth 20000 in
theorem ok_X5_isNameOrNone {x1 : Int32} {M : zM} {y : Int32}  (h : f_X5_isNameOrNone x1 M = some y) : zRuns yX5_isNameOrNone cX5_isNameOrNone 2 (some .boolean) 1 22 [.ref 0, .int x1] M (some (.int y)) M := by
  refine zRuns_of (by decide +kernel) (Nat.le_of_ble_eq_true rfl) (fun E Z hE => ?_)
  have h := zB_top h
  change VV E 2 0 [(0, Value.ref 0), (1, Value.int x1)] [] M
  refine V_iload_n 1 Z rfl rfl (show decode cX5_isNameOrNone 0 = .ok (.iload_n 1, 1) by decide +kernel) ?_
  refine V_iconst (-1) (by decide) Z (show decode cX5_isNameOrNone 1 = .ok (.iconst (-1), 1) by decide +kernel) ?_
  refine V_aload_n 0 Z rfl rfl (show decode cX5_isNameOrNone 2 = .ok (.aload_n 0, 1) by decide +kernel) ?_
  refine V_getR 0 1 Z zc4 (by decide) rfl (by decide) rfl (by decide) ⟨rfl, rfl, rfl⟩ w216 (show decode cX5_isNameOrNone 3 = .ok (.getfield 10, 3) by decide +kernel) ?_
  refine V_getI 0 Z zc0 (isH_lt isH_1) (shH isH_1) (by decide) rfl ⟨rfl, rfl, rfl⟩ w93 (show decode cX5_isNameOrNone 6 = .ok (.getfield 59, 3) by decide +kernel) ?_
  refine V_iconst 1 (by decide) Z (show decode cX5_isNameOrNone 9 = .ok (.iconst 1, 1) by decide +kernel) ?_
  refine V_isub Z (show decode cX5_isNameOrNone 10 = .ok (.isub, 1) by decide +kernel) ?_
  obtain ⟨v2, e1, h⟩ := zB_bind h
  refine V_callS (rest := []) 3 Z (ok_X5_within  e1) cd_X5_within w245 w246 rfl (show decode cX5_isNameOrNone 11 = .ok (.invokestatic 51, 3) by decide +kernel) rfl ?_
  obtain ⟨b3, e4, h⟩ := zB_bind h
  refine V_nm (zbo_v e4).1 ?_
  exact V_zretP Z hE h (zbo_v e4).2 (show decode cX5_isNameOrNone 14 = .ok (.ireturn, 1) by decide +kernel)
def f_X5_change_j160 (s0 : Int32) (s1 : Int32) (s2 : Int32) (M : zM) : Option (Int32 × zM) :=
  (f_X5_changed 6 s2 s1 s0 M).bind fun ((v2, M3) : Int32 × zM) =>
  some ((v2, M3))
def f_X5_change_j159 (s0 : Int32) (s1 : Int32) (M : zM) : Option (Int32 × zM) :=
  f_X5_change_j160 0 s0 s1 M
def f_X5_change (x1 : Int32) (x2 : Int32) (x3 : Int32) (M : zM) : Option (Int32 × zM) :=
  (f_X5_isName x1 M).bind fun (v5 : Int32) =>
  if v5 = 0 then
    (f_X5_finding 0 M).bind fun ((v40, M41) : Int32 × zM) =>
    some ((v40, M41))
  else
    if x2 = 0 then
      (f_X5_within x3 0 6 M).bind fun (v9 : Int32) =>
      (f_X5_changed 2 x1 x3 v9 M).bind fun ((v11, M12) : Int32 × zM) =>
      some ((v11, M12))
    else
      if x2 = 1 then
        (f_X5_within x3 0 99 M).bind fun (v15 : Int32) =>
        (f_X5_changed 3 x1 x3 v15 M).bind fun ((v17, M18) : Int32 × zM) =>
        some ((v17, M18))
      else
        if x2 = 2 then
          (f_X5_within x3 0 99 M).bind fun (v21 : Int32) =>
          (f_X5_changed 4 x1 x3 v21 M).bind fun ((v23, M24) : Int32 × zM) =>
          some ((v23, M24))
        else
          if x2 = 3 then
            (f_X5_within x3 0 99999 M).bind fun (v27 : Int32) =>
            (f_X5_changed 5 x1 x3 v27 M).bind fun ((v29, M30) : Int32 × zM) =>
            some ((v29, M30))
          else
            if x2 = 4 then
              (f_X5_isNameOrNone x3 M).bind fun (v33 : Int32) =>
              if v33 = 0 then
                f_X5_change_j159 x3 x1 M
              else
                if x3 = x1 then
                  f_X5_change_j159 x3 x1 M
                else
                  f_X5_change_j160 1 x3 x1 M
            else
              (f_X5_finding 0 M).bind fun ((v37, M38) : Int32 × zM) =>
              some ((v37, M38))
theorem cd_X5_change : zCd yX5_change cX5_change 4 (some .int) 3 := ⟨w286, w64, ⟨by decide, by decide⟩, by decide +kernel⟩
set_option maxHeartbeats 4000000 in
set_option maxRecDepth 20000 in
theorem ok_X5_change {x1 : Int32} {x2 : Int32} {x3 : Int32} {M : zM} {y : Int32 × zM}  (h : f_X5_change x1 x2 x3 M = some y) : zRuns yX5_change cX5_change 4 (some .int) 2 46 [.ref 0, .int x1, .int x2, .int x3] M (some (.int y.1)) y.2 := by
  refine zRuns_of (by decide +kernel) (Nat.le_of_ble_eq_true rfl) (fun E Z hE => ?_)
  have h := zB_top h
  change VV E 4 0 [(0, Value.ref 0), (1, Value.int x1), (2, Value.int x2), (3, Value.int x3)] [] M
  have J160 : ∀ (s0 : Int32) (s1 : Int32) (s2 : Int32) (M : zM), (f_X5_change_j160 s0 s1 s2 M).bind some = some y → VV E 4 160 [] [Value.int s0, Value.int s1, Value.int s2, Value.ref 6, Value.ref 0] M := by
    intro s0 s1 s2 M h
    obtain ⟨⟨v2, M3⟩, e1, h⟩ := zB_bind h
    refine V_callV (rest := []) 4 Z (ok_X5_changed  e1) cd_X5_changed zc4 (by decide) rfl w287 w289 w2 rfl (show decode cX5_change 160 = .ok (.invokevirtual 100, 3) by decide +kernel) rfl ?_
    exact V_iretM Z hE h (show decode cX5_change 163 = .ok (.ireturn, 1) by decide +kernel)
  have J159 : ∀ (s0 : Int32) (s1 : Int32) (M : zM), (f_X5_change_j159 s0 s1 M).bind some = some y → VV E 4 159 [] [Value.int s0, Value.int s1, Value.ref 6, Value.ref 0] M := by
    intro s0 s1 M h
    refine V_iconst 0 (by decide) Z (show decode cX5_change 159 = .ok (.iconst 0, 1) by decide +kernel) ?_
    exact J160 _ _ _ _ h
  refine V_aload_n 0 Z rfl rfl (show decode cX5_change 0 = .ok (.aload_n 0, 1) by decide +kernel) ?_
  refine V_iload_n 1 Z rfl rfl (show decode cX5_change 1 = .ok (.iload_n 1, 1) by decide +kernel) ?_
  obtain ⟨v5, e4, h⟩ := zB_bind h
  refine V_callV (rest := []) 1 Z (ok_X5_isName  e4) cd_X5_isName zc4 (by decide) rfl w261 w263 w1 rfl (show decode cX5_change 2 = .ok (.invokevirtual 67, 3) by decide +kernel) rfl ?_
  refine V_if_ne 14 Z (by decide) (show decode cX5_change 5 = .ok (.ifCond .ne 9, 3) by decide +kernel) (fun c6 => ?_) (fun c6 => ?_)
  · have h := zB_neg c6 h
    refine V_iload_n 2 Z rfl rfl (show decode cX5_change 14 = .ok (.iload_n 2, 1) by decide +kernel) ?_
    rcases zB_ite h with ⟨c7, h⟩ | ⟨c7, h⟩
    · refine V_tabE (off := 33) 0 48 Z c7 (show decode cX5_change 15 = .ok (.tableswitch 149 0 4 #[33, 54, 75, 96, 117], 33) by decide +kernel) (by decide) ?_
      refine V_aload_n 0 Z rfl rfl (show decode cX5_change 48 = .ok (.aload_n 0, 1) by decide +kernel) ?_
      refine V_aload_n 0 Z rfl rfl (show decode cX5_change 49 = .ok (.aload_n 0, 1) by decide +kernel) ?_
      refine V_getR 0 1 Z zc4 (by decide) rfl (by decide) rfl (by decide) ⟨rfl, rfl, rfl⟩ w216 (show decode cX5_change 50 = .ok (.getfield 10, 3) by decide +kernel) ?_
      refine V_getR 1 2 Z zc0 (isH_lt isH_1) (shH isH_1) (by decide) rfl (by decide) ⟨rfl, rfl, rfl⟩ w96 (show decode cX5_change 53 = .ok (.getfield 71, 3) by decide +kernel) ?_
      refine V_iload_n 1 Z rfl rfl (show decode cX5_change 56 = .ok (.iload_n 1, 1) by decide +kernel) ?_
      refine V_iload_n 3 Z rfl rfl (show decode cX5_change 57 = .ok (.iload_n 3, 1) by decide +kernel) ?_
      refine V_iload_n 3 Z rfl rfl (show decode cX5_change 58 = .ok (.iload_n 3, 1) by decide +kernel) ?_
      refine V_iconst 0 (by decide) Z (show decode cX5_change 59 = .ok (.iconst 0, 1) by decide +kernel) ?_
      refine V_bipush 6 (by decide) Z (show decode cX5_change 60 = .ok (.bipush 6, 2) by decide +kernel) ?_
      obtain ⟨v9, e8, h⟩ := zB_bind h
      refine V_callS (rest := [_, _, _, _]) 3 Z (ok_X5_within  e8) cd_X5_within w245 w246 rfl (show decode cX5_change 62 = .ok (.invokestatic 51, 3) by decide +kernel) rfl ?_
      obtain ⟨⟨v11, M12⟩, e10, h⟩ := zB_bind h
      refine V_callV (rest := []) 4 Z (ok_X5_changed  e10) cd_X5_changed zc4 (by decide) rfl w287 w289 w2 rfl (show decode cX5_change 65 = .ok (.invokevirtual 100, 3) by decide +kernel) rfl ?_
      exact V_iretM Z hE h (show decode cX5_change 68 = .ok (.ireturn, 1) by decide +kernel)
    · skip
      rcases zB_ite h with ⟨c13, h⟩ | ⟨c13, h⟩
      · refine V_tabE (off := 54) 1 69 Z c13 (show decode cX5_change 15 = .ok (.tableswitch 149 0 4 #[33, 54, 75, 96, 117], 33) by decide +kernel) (by decide) ?_
        refine V_aload_n 0 Z rfl rfl (show decode cX5_change 69 = .ok (.aload_n 0, 1) by decide +kernel) ?_
        refine V_aload_n 0 Z rfl rfl (show decode cX5_change 70 = .ok (.aload_n 0, 1) by decide +kernel) ?_
        refine V_getR 0 1 Z zc4 (by decide) rfl (by decide) rfl (by decide) ⟨rfl, rfl, rfl⟩ w216 (show decode cX5_change 71 = .ok (.getfield 10, 3) by decide +kernel) ?_
        refine V_getR 2 3 Z zc0 (isH_lt isH_1) (shH isH_1) (by decide) rfl (by decide) ⟨rfl, rfl, rfl⟩ w98 (show decode cX5_change 74 = .ok (.getfield 74, 3) by decide +kernel) ?_
        refine V_iload_n 1 Z rfl rfl (show decode cX5_change 77 = .ok (.iload_n 1, 1) by decide +kernel) ?_
        refine V_iload_n 3 Z rfl rfl (show decode cX5_change 78 = .ok (.iload_n 3, 1) by decide +kernel) ?_
        refine V_iload_n 3 Z rfl rfl (show decode cX5_change 79 = .ok (.iload_n 3, 1) by decide +kernel) ?_
        refine V_iconst 0 (by decide) Z (show decode cX5_change 80 = .ok (.iconst 0, 1) by decide +kernel) ?_
        refine V_bipush 99 (by decide) Z (show decode cX5_change 81 = .ok (.bipush 99, 2) by decide +kernel) ?_
        obtain ⟨v15, e14, h⟩ := zB_bind h
        refine V_callS (rest := [_, _, _, _]) 3 Z (ok_X5_within  e14) cd_X5_within w245 w246 rfl (show decode cX5_change 83 = .ok (.invokestatic 51, 3) by decide +kernel) rfl ?_
        obtain ⟨⟨v17, M18⟩, e16, h⟩ := zB_bind h
        refine V_callV (rest := []) 4 Z (ok_X5_changed  e16) cd_X5_changed zc4 (by decide) rfl w287 w289 w2 rfl (show decode cX5_change 86 = .ok (.invokevirtual 100, 3) by decide +kernel) rfl ?_
        exact V_iretM Z hE h (show decode cX5_change 89 = .ok (.ireturn, 1) by decide +kernel)
      · skip
        rcases zB_ite h with ⟨c19, h⟩ | ⟨c19, h⟩
        · refine V_tabE (off := 75) 2 90 Z c19 (show decode cX5_change 15 = .ok (.tableswitch 149 0 4 #[33, 54, 75, 96, 117], 33) by decide +kernel) (by decide) ?_
          refine V_aload_n 0 Z rfl rfl (show decode cX5_change 90 = .ok (.aload_n 0, 1) by decide +kernel) ?_
          refine V_aload_n 0 Z rfl rfl (show decode cX5_change 91 = .ok (.aload_n 0, 1) by decide +kernel) ?_
          refine V_getR 0 1 Z zc4 (by decide) rfl (by decide) rfl (by decide) ⟨rfl, rfl, rfl⟩ w216 (show decode cX5_change 92 = .ok (.getfield 10, 3) by decide +kernel) ?_
          refine V_getR 3 4 Z zc0 (isH_lt isH_1) (shH isH_1) (by decide) rfl (by decide) ⟨rfl, rfl, rfl⟩ w100 (show decode cX5_change 95 = .ok (.getfield 77, 3) by decide +kernel) ?_
          refine V_iload_n 1 Z rfl rfl (show decode cX5_change 98 = .ok (.iload_n 1, 1) by decide +kernel) ?_
          refine V_iload_n 3 Z rfl rfl (show decode cX5_change 99 = .ok (.iload_n 3, 1) by decide +kernel) ?_
          refine V_iload_n 3 Z rfl rfl (show decode cX5_change 100 = .ok (.iload_n 3, 1) by decide +kernel) ?_
          refine V_iconst 0 (by decide) Z (show decode cX5_change 101 = .ok (.iconst 0, 1) by decide +kernel) ?_
          refine V_bipush 99 (by decide) Z (show decode cX5_change 102 = .ok (.bipush 99, 2) by decide +kernel) ?_
          obtain ⟨v21, e20, h⟩ := zB_bind h
          refine V_callS (rest := [_, _, _, _]) 3 Z (ok_X5_within  e20) cd_X5_within w245 w246 rfl (show decode cX5_change 104 = .ok (.invokestatic 51, 3) by decide +kernel) rfl ?_
          obtain ⟨⟨v23, M24⟩, e22, h⟩ := zB_bind h
          refine V_callV (rest := []) 4 Z (ok_X5_changed  e22) cd_X5_changed zc4 (by decide) rfl w287 w289 w2 rfl (show decode cX5_change 107 = .ok (.invokevirtual 100, 3) by decide +kernel) rfl ?_
          exact V_iretM Z hE h (show decode cX5_change 110 = .ok (.ireturn, 1) by decide +kernel)
        · skip
          rcases zB_ite h with ⟨c25, h⟩ | ⟨c25, h⟩
          · refine V_tabE (off := 96) 3 111 Z c25 (show decode cX5_change 15 = .ok (.tableswitch 149 0 4 #[33, 54, 75, 96, 117], 33) by decide +kernel) (by decide) ?_
            refine V_aload_n 0 Z rfl rfl (show decode cX5_change 111 = .ok (.aload_n 0, 1) by decide +kernel) ?_
            refine V_aload_n 0 Z rfl rfl (show decode cX5_change 112 = .ok (.aload_n 0, 1) by decide +kernel) ?_
            refine V_getR 0 1 Z zc4 (by decide) rfl (by decide) rfl (by decide) ⟨rfl, rfl, rfl⟩ w216 (show decode cX5_change 113 = .ok (.getfield 10, 3) by decide +kernel) ?_
            refine V_getR 4 5 Z zc0 (isH_lt isH_1) (shH isH_1) (by decide) rfl (by decide) ⟨rfl, rfl, rfl⟩ w102 (show decode cX5_change 116 = .ok (.getfield 80, 3) by decide +kernel) ?_
            refine V_iload_n 1 Z rfl rfl (show decode cX5_change 119 = .ok (.iload_n 1, 1) by decide +kernel) ?_
            refine V_iload_n 3 Z rfl rfl (show decode cX5_change 120 = .ok (.iload_n 3, 1) by decide +kernel) ?_
            refine V_iload_n 3 Z rfl rfl (show decode cX5_change 121 = .ok (.iload_n 3, 1) by decide +kernel) ?_
            refine V_iconst 0 (by decide) Z (show decode cX5_change 122 = .ok (.iconst 0, 1) by decide +kernel) ?_
            refine V_ldc 99999 Z w291 (show decode cX5_change 123 = .ok (.ldc 104, 2) by decide +kernel) ?_
            obtain ⟨v27, e26, h⟩ := zB_bind h
            refine V_callS (rest := [_, _, _, _]) 3 Z (ok_X5_within  e26) cd_X5_within w245 w246 rfl (show decode cX5_change 125 = .ok (.invokestatic 51, 3) by decide +kernel) rfl ?_
            obtain ⟨⟨v29, M30⟩, e28, h⟩ := zB_bind h
            refine V_callV (rest := []) 4 Z (ok_X5_changed  e28) cd_X5_changed zc4 (by decide) rfl w287 w289 w2 rfl (show decode cX5_change 128 = .ok (.invokevirtual 100, 3) by decide +kernel) rfl ?_
            exact V_iretM Z hE h (show decode cX5_change 131 = .ok (.ireturn, 1) by decide +kernel)
          · skip
            rcases zB_ite h with ⟨c31, h⟩ | ⟨c31, h⟩
            · refine V_tabE (off := 117) 4 132 Z c31 (show decode cX5_change 15 = .ok (.tableswitch 149 0 4 #[33, 54, 75, 96, 117], 33) by decide +kernel) (by decide) ?_
              refine V_aload_n 0 Z rfl rfl (show decode cX5_change 132 = .ok (.aload_n 0, 1) by decide +kernel) ?_
              refine V_aload_n 0 Z rfl rfl (show decode cX5_change 133 = .ok (.aload_n 0, 1) by decide +kernel) ?_
              refine V_getR 0 1 Z zc4 (by decide) rfl (by decide) rfl (by decide) ⟨rfl, rfl, rfl⟩ w216 (show decode cX5_change 134 = .ok (.getfield 10, 3) by decide +kernel) ?_
              refine V_getR 5 6 Z zc0 (isH_lt isH_1) (shH isH_1) (by decide) rfl (by decide) ⟨rfl, rfl, rfl⟩ w104 (show decode cX5_change 137 = .ok (.getfield 83, 3) by decide +kernel) ?_
              refine V_iload_n 1 Z rfl rfl (show decode cX5_change 140 = .ok (.iload_n 1, 1) by decide +kernel) ?_
              refine V_iload_n 3 Z rfl rfl (show decode cX5_change 141 = .ok (.iload_n 3, 1) by decide +kernel) ?_
              refine V_aload_n 0 Z rfl rfl (show decode cX5_change 142 = .ok (.aload_n 0, 1) by decide +kernel) ?_
              refine V_iload_n 3 Z rfl rfl (show decode cX5_change 143 = .ok (.iload_n 3, 1) by decide +kernel) ?_
              obtain ⟨v33, e32, h⟩ := zB_bind h
              refine V_callV (rest := [_, _, _, _]) 1 Z (ok_X5_isNameOrNone  e32) cd_X5_isNameOrNone zc4 (by decide) rfl w292 w294 w3 rfl (show decode cX5_change 144 = .ok (.invokevirtual 105, 3) by decide +kernel) rfl ?_
              refine V_if_eq 159 Z (by decide) (show decode cX5_change 147 = .ok (.ifCond .eq 12, 3) by decide +kernel) (fun c34 => ?_) (fun c34 => ?_)
              · have h := zB_pos c34 h
                refine V_sub [] rfl ?_
                exact J159 _ _ _ h
              · have h := zB_neg c34 h
                refine V_iload_n 3 Z rfl rfl (show decode cX5_change 150 = .ok (.iload_n 3, 1) by decide +kernel) ?_
                refine V_iload_n 1 Z rfl rfl (show decode cX5_change 151 = .ok (.iload_n 1, 1) by decide +kernel) ?_
                refine V_icmp_eq 159 Z (by decide) (show decode cX5_change 152 = .ok (.if_icmp .eq 7, 3) by decide +kernel) (fun c35 => ?_) (fun c35 => ?_)
                · have h := zB_pos c35 h
                  refine V_sub [] rfl ?_
                  exact J159 _ _ _ h
                · have h := zB_neg c35 h
                  refine V_iconst 1 (by decide) Z (show decode cX5_change 155 = .ok (.iconst 1, 1) by decide +kernel) ?_
                  refine V_goto 160 Z (by decide) (show decode cX5_change 156 = .ok (.goto 4, 3) by decide +kernel) ?_
                  refine V_sub [] rfl ?_
                  exact J160 _ _ _ _ h
            · skip
              refine V_tabOut 164 Z (show decode cX5_change 15 = .ok (.tableswitch 149 0 4 #[33, 54, 75, 96, 117], 33) by decide +kernel) (z_out (fun i h1 h2 e => by
                  rcases (show i = 0 ∨ i = 1 ∨ i = 2 ∨ i = 3 ∨ i = 4 by omega) with rfl | rfl | rfl | rfl | rfl
                  · exact c7 e
                  · exact c13 e
                  · exact c19 e
                  · exact c25 e
                  · exact c31 e)) (by decide) ?_
              refine V_aload_n 0 Z rfl rfl (show decode cX5_change 164 = .ok (.aload_n 0, 1) by decide +kernel) ?_
              refine V_iconst 0 (by decide) Z (show decode cX5_change 165 = .ok (.iconst 0, 1) by decide +kernel) ?_
              obtain ⟨⟨v37, M38⟩, e36, h⟩ := zB_bind h
              refine V_callV (rest := []) 1 Z (ok_X5_finding  e36) cd_X5_finding zc4 (by decide) rfl w248 w250 w0 rfl (show decode cX5_change 166 = .ok (.invokevirtual 55, 3) by decide +kernel) rfl ?_
              exact V_iretM Z hE h (show decode cX5_change 169 = .ok (.ireturn, 1) by decide +kernel)
  · have h := zB_pos c6 h
    refine V_aload_n 0 Z rfl rfl (show decode cX5_change 8 = .ok (.aload_n 0, 1) by decide +kernel) ?_
    refine V_iconst 0 (by decide) Z (show decode cX5_change 9 = .ok (.iconst 0, 1) by decide +kernel) ?_
    obtain ⟨⟨v40, M41⟩, e39, h⟩ := zB_bind h
    refine V_callV (rest := []) 1 Z (ok_X5_finding  e39) cd_X5_finding zc4 (by decide) rfl w248 w250 w0 rfl (show decode cX5_change 10 = .ok (.invokevirtual 55, 3) by decide +kernel) rfl ?_
    exact V_iretM Z hE h (show decode cX5_change 13 = .ok (.ireturn, 1) by decide +kernel)
def f_X5_isPerson (x0 : Int32) (M : zM) : Option (Int32) :=
  (f_X5_within x0 0 5 M).bind fun (v2 : Int32) =>
  (zbo v2).bind fun (b3 : Int32) =>
  some (b3)
theorem cd_X5_isPerson : zCd yX5_isPerson cX5_isPerson 1 (some .boolean) 1 := ⟨w302, w64, ⟨by decide, by decide⟩, by decide +kernel⟩
set_option maxHeartbeats 4000000 in
set_option maxRecDepth 20000 in
theorem ok_X5_isPerson {x0 : Int32} {M : zM} {y : Int32}  (h : f_X5_isPerson x0 M = some y) : zRuns yX5_isPerson cX5_isPerson 1 (some .boolean) 1 22 [.int x0] M (some (.int y)) M := by
  refine zRuns_of (by decide +kernel) (Nat.le_of_ble_eq_true rfl) (fun E Z hE => ?_)
  have h := zB_top h
  change VV E 1 0 [(0, Value.int x0)] [] M
  refine V_iload_n 0 Z rfl rfl (show decode cX5_isPerson 0 = .ok (.iload_n 0, 1) by decide +kernel) ?_
  refine V_iconst 0 (by decide) Z (show decode cX5_isPerson 1 = .ok (.iconst 0, 1) by decide +kernel) ?_
  refine V_iconst 5 (by decide) Z (show decode cX5_isPerson 2 = .ok (.iconst 5, 1) by decide +kernel) ?_
  obtain ⟨v2, e1, h⟩ := zB_bind h
  refine V_callS (rest := []) 3 Z (ok_X5_within  e1) cd_X5_within w245 w246 rfl (show decode cX5_isPerson 3 = .ok (.invokestatic 51, 3) by decide +kernel) rfl ?_
  obtain ⟨b3, e4, h⟩ := zB_bind h
  refine V_nm (zbo_v e4).1 ?_
  exact V_zretP Z hE h (zbo_v e4).2 (show decode cX5_isPerson 6 = .ok (.ireturn, 1) by decide +kernel)
