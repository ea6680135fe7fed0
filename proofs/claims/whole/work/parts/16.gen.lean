/-! Generated walks: X5_person X5_personOf X5_isOrder X5_order X5_at X5_go X5_now X5_mend X5_wears X5_ahead -/
def f_X5_person (x1 : Int32) (x2 : Int32) (x3 : Int32) (M : zM) : Option (Int32 × zM) :=
  (f_X5_isPerson x1 M).bind fun (v2 : Int32) =>
  if v2 = 0 then
    (f_X5_finding 0 M).bind fun ((v20, M21) : Int32 × zM) =>
    some ((v20, M21))
  else
    if x2 = 0 then
      (f_X5_within x3 0 9999 M).bind fun (v6 : Int32) =>
      (f_X5_changed 7 x1 x3 v6 M).bind fun ((v8, M9) : Int32 × zM) =>
      some ((v8, M9))
    else
      if x2 = 1 then
        (f_X5_isNameOrNone x3 M).bind fun (v12 : Int32) =>
        (f_X5_changed 8 x1 x3 v12 M).bind fun ((v14, M15) : Int32 × zM) =>
        some ((v14, M15))
      else
        (f_X5_finding 0 M).bind fun ((v17, M18) : Int32 × zM) =>
        some ((v17, M18))
theorem cd_X5_person : zCd yX5_person cX5_person 4 (some .int) 3 := ⟨w299, w64, ⟨by decide, by decide⟩, by decide +kernel⟩
set_option maxHeartbeats 4000000 in
set_option maxRecDepth 20000 in
theorem ok_X5_person {x1 : Int32} {x2 : Int32} {x3 : Int32} {M : zM} {y : Int32 × zM}  (h : f_X5_person x1 x2 x3 M = some y) : zRuns yX5_person cX5_person 4 (some .int) 2 46 [.ref 0, .int x1, .int x2, .int x3] M (some (.int y.1)) y.2 := by
  refine zRuns_of (by decide +kernel) (Nat.le_of_ble_eq_true rfl) (fun E Z hE => ?_)
  have h := zB_top h
  change VV E 4 0 [(0, Value.ref 0), (1, Value.int x1), (2, Value.int x2), (3, Value.int x3)] [] M
  refine V_iload_n 1 Z rfl rfl (show decode cX5_person 0 = .ok (.iload_n 1, 1) by decide +kernel) ?_
  obtain ⟨v2, e1, h⟩ := zB_bind h
  refine V_callS (rest := []) 1 Z (ok_X5_isPerson  e1) cd_X5_isPerson w300 w301 rfl (show decode cX5_person 1 = .ok (.invokestatic 108, 3) by decide +kernel) rfl ?_
  refine V_if_ne 13 Z (by decide) (show decode cX5_person 4 = .ok (.ifCond .ne 9, 3) by decide +kernel) (fun c3 => ?_) (fun c3 => ?_)
  · have h := zB_neg c3 h
    refine V_iload_n 2 Z rfl rfl (show decode cX5_person 13 = .ok (.iload_n 2, 1) by decide +kernel) ?_
    rcases zB_ite h with ⟨c4, h⟩ | ⟨c4, h⟩
    · refine V_lookE 0 40 Z c4 (show decode cX5_person 14 = .ok (.lookupswitch 67 #[(0, 26), (1, 48)], 26) by decide +kernel) (by decide) ?_
      refine V_aload_n 0 Z rfl rfl (show decode cX5_person 40 = .ok (.aload_n 0, 1) by decide +kernel) ?_
      refine V_aload_n 0 Z rfl rfl (show decode cX5_person 41 = .ok (.aload_n 0, 1) by decide +kernel) ?_
      refine V_getR 0 1 Z zc4 (by decide) rfl (by decide) rfl (by decide) ⟨rfl, rfl, rfl⟩ w216 (show decode cX5_person 42 = .ok (.getfield 10, 3) by decide +kernel) ?_
      refine V_getR 6 7 Z zc0 (isH_lt isH_1) (shH isH_1) (by decide) rfl (by decide) ⟨rfl, rfl, rfl⟩ w106 (show decode cX5_person 45 = .ok (.getfield 111, 3) by decide +kernel) ?_
      refine V_iload_n 1 Z rfl rfl (show decode cX5_person 48 = .ok (.iload_n 1, 1) by decide +kernel) ?_
      refine V_iload_n 3 Z rfl rfl (show decode cX5_person 49 = .ok (.iload_n 3, 1) by decide +kernel) ?_
      refine V_iload_n 3 Z rfl rfl (show decode cX5_person 50 = .ok (.iload_n 3, 1) by decide +kernel) ?_
      refine V_iconst 0 (by decide) Z (show decode cX5_person 51 = .ok (.iconst 0, 1) by decide +kernel) ?_
      refine V_sipush 9999 (by decide) Z (show decode cX5_person 52 = .ok (.sipush 9999, 3) by decide +kernel) ?_
      obtain ⟨v6, e5, h⟩ := zB_bind h
      refine V_callS (rest := [_, _, _, _]) 3 Z (ok_X5_within  e5) cd_X5_within w245 w246 rfl (show decode cX5_person 55 = .ok (.invokestatic 51, 3) by decide +kernel) rfl ?_
      obtain ⟨⟨v8, M9⟩, e7, h⟩ := zB_bind h
      refine V_callV (rest := []) 4 Z (ok_X5_changed  e7) cd_X5_changed zc4 (by decide) rfl w287 w289 w2 rfl (show decode cX5_person 58 = .ok (.invokevirtual 100, 3) by decide +kernel) rfl ?_
      exact V_iretM Z hE h (show decode cX5_person 61 = .ok (.ireturn, 1) by decide +kernel)
    · skip
      rcases zB_ite h with ⟨c10, h⟩ | ⟨c10, h⟩
      · refine V_lookE 1 62 Z c10 (show decode cX5_person 14 = .ok (.lookupswitch 67 #[(0, 26), (1, 48)], 26) by decide +kernel) (by decide) ?_
        refine V_aload_n 0 Z rfl rfl (show decode cX5_person 62 = .ok (.aload_n 0, 1) by decide +kernel) ?_
        refine V_aload_n 0 Z rfl rfl (show decode cX5_person 63 = .ok (.aload_n 0, 1) by decide +kernel) ?_
        refine V_getR 0 1 Z zc4 (by decide) rfl (by decide) rfl (by decide) ⟨rfl, rfl, rfl⟩ w216 (show decode cX5_person 64 = .ok (.getfield 10, 3) by decide +kernel) ?_
        refine V_getR 7 8 Z zc0 (isH_lt isH_1) (shH isH_1) (by decide) rfl (by decide) ⟨rfl, rfl, rfl⟩ w109 (show decode cX5_person 67 = .ok (.getfield 114, 3) by decide +kernel) ?_
        refine V_iload_n 1 Z rfl rfl (show decode cX5_person 70 = .ok (.iload_n 1, 1) by decide +kernel) ?_
        refine V_iload_n 3 Z rfl rfl (show decode cX5_person 71 = .ok (.iload_n 3, 1) by decide +kernel) ?_
        refine V_aload_n 0 Z rfl rfl (show decode cX5_person 72 = .ok (.aload_n 0, 1) by decide +kernel) ?_
        refine V_iload_n 3 Z rfl rfl (show decode cX5_person 73 = .ok (.iload_n 3, 1) by decide +kernel) ?_
        obtain ⟨v12, e11, h⟩ := zB_bind h
        refine V_callV (rest := [_, _, _, _]) 1 Z (ok_X5_isNameOrNone  e11) cd_X5_isNameOrNone zc4 (by decide) rfl w292 w294 w3 rfl (show decode cX5_person 74 = .ok (.invokevirtual 105, 3) by decide +kernel) rfl ?_
        obtain ⟨⟨v14, M15⟩, e13, h⟩ := zB_bind h
        refine V_callV (rest := []) 4 Z (ok_X5_changed  e13) cd_X5_changed zc4 (by decide) rfl w287 w289 w2 rfl (show decode cX5_person 77 = .ok (.invokevirtual 100, 3) by decide +kernel) rfl ?_
        exact V_iretM Z hE h (show decode cX5_person 80 = .ok (.ireturn, 1) by decide +kernel)
      · skip
        refine V_lookD 81 Z (show decode cX5_person 14 = .ok (.lookupswitch 67 #[(0, 26), (1, 48)], 26) by decide +kernel) (by
            intro p hp e
            simp only [List.mem_cons, List.not_mem_nil, or_false] at hp
            rcases hp with rfl | rfl
            · exact c4 e
            · exact c10 e) (by decide) ?_
        refine V_aload_n 0 Z rfl rfl (show decode cX5_person 81 = .ok (.aload_n 0, 1) by decide +kernel) ?_
        refine V_iconst 0 (by decide) Z (show decode cX5_person 82 = .ok (.iconst 0, 1) by decide +kernel) ?_
        obtain ⟨⟨v17, M18⟩, e16, h⟩ := zB_bind h
        refine V_callV (rest := []) 1 Z (ok_X5_finding  e16) cd_X5_finding zc4 (by decide) rfl w248 w250 w0 rfl (show decode cX5_person 83 = .ok (.invokevirtual 55, 3) by decide +kernel) rfl ?_
        exact V_iretM Z hE h (show decode cX5_person 86 = .ok (.ireturn, 1) by decide +kernel)
  · have h := zB_pos c3 h
    refine V_aload_n 0 Z rfl rfl (show decode cX5_person 7 = .ok (.aload_n 0, 1) by decide +kernel) ?_
    refine V_iconst 0 (by decide) Z (show decode cX5_person 8 = .ok (.iconst 0, 1) by decide +kernel) ?_
    obtain ⟨⟨v20, M21⟩, e19, h⟩ := zB_bind h
    refine V_callV (rest := []) 1 Z (ok_X5_finding  e19) cd_X5_finding zc4 (by decide) rfl w248 w250 w0 rfl (show decode cX5_person 9 = .ok (.invokevirtual 55, 3) by decide +kernel) rfl ?_
    exact V_iretM Z hE h (show decode cX5_person 12 = .ok (.ireturn, 1) by decide +kernel)
def f_X5_personOf (x1 : Int32) (x2 : Int32) (M : zM) : Option (Int32 × zM) :=
  (f_X5_isPerson x1 M).bind fun (v2 : Int32) =>
  if v2 = 0 then
    (f_X5_finding 0 M).bind fun ((v18, M19) : Int32 × zM) =>
    some ((v18, M19))
  else
    if x2 = 0 then
      (zrd M 7 x1).bind fun (v5 : Int32) =>
      some ((v5, M))
    else
      if x2 = 1 then
        (zrd M 8 x1).bind fun (v8 : Int32) =>
        some ((v8, M))
      else
        if x2 = 2 then
          (f_X0_placeOf 1 x1 M).bind fun ((v12, M13) : Int32 × zM) =>
          some ((v12, M13))
        else
          (f_X5_finding 0 M).bind fun ((v15, M16) : Int32 × zM) =>
          some ((v15, M16))
theorem cd_X5_personOf : zCd yX5_personOf cX5_personOf 3 (some .int) 2 := ⟨w306, w64, ⟨by decide, by decide⟩, by decide +kernel⟩
set_option maxHeartbeats 4000000 in
set_option maxRecDepth 20000 in
theorem ok_X5_personOf {x1 : Int32} {x2 : Int32} {M : zM} {y : Int32 × zM}  (h : f_X5_personOf x1 x2 M = some y) : zRuns yX5_personOf cX5_personOf 3 (some .int) 2 47 [.ref 0, .int x1, .int x2] M (some (.int y.1)) y.2 := by
  refine zRuns_of (by decide +kernel) (Nat.le_of_ble_eq_true rfl) (fun E Z hE => ?_)
  have h := zB_top h
  change VV E 3 0 [(0, Value.ref 0), (1, Value.int x1), (2, Value.int x2)] [] M
  refine V_iload_n 1 Z rfl rfl (show decode cX5_personOf 0 = .ok (.iload_n 1, 1) by decide +kernel) ?_
  obtain ⟨v2, e1, h⟩ := zB_bind h
  refine V_callS (rest := []) 1 Z (ok_X5_isPerson  e1) cd_X5_isPerson w300 w301 rfl (show decode cX5_personOf 1 = .ok (.invokestatic 108, 3) by decide +kernel) rfl ?_
  refine V_if_ne 13 Z (by decide) (show decode cX5_personOf 4 = .ok (.ifCond .ne 9, 3) by decide +kernel) (fun c3 => ?_) (fun c3 => ?_)
  · have h := zB_neg c3 h
    refine V_iload_n 2 Z rfl rfl (show decode cX5_personOf 13 = .ok (.iload_n 2, 1) by decide +kernel) ?_
    rcases zB_ite h with ⟨c4, h⟩ | ⟨c4, h⟩
    · refine V_tabE (off := 26) 0 40 Z c4 (show decode cX5_personOf 14 = .ok (.tableswitch 55 0 2 #[26, 36, 46], 26) by decide +kernel) (by decide) ?_
      refine V_aload_n 0 Z rfl rfl (show decode cX5_personOf 40 = .ok (.aload_n 0, 1) by decide +kernel) ?_
      refine V_getR 0 1 Z zc4 (by decide) rfl (by decide) rfl (by decide) ⟨rfl, rfl, rfl⟩ w216 (show decode cX5_personOf 41 = .ok (.getfield 10, 3) by decide +kernel) ?_
      refine V_getR 6 7 Z zc0 (isH_lt isH_1) (shH isH_1) (by decide) rfl (by decide) ⟨rfl, rfl, rfl⟩ w106 (show decode cX5_personOf 44 = .ok (.getfield 111, 3) by decide +kernel) ?_
      refine V_iload_n 1 Z rfl rfl (show decode cX5_personOf 47 = .ok (.iload_n 1, 1) by decide +kernel) ?_
      obtain ⟨v5, e6, h⟩ := zB_bind h
      refine V_iald Z e6 (show decode cX5_personOf 48 = .ok (.iaload, 1) by decide +kernel) ?_
      exact V_iretM Z hE h (show decode cX5_personOf 49 = .ok (.ireturn, 1) by decide +kernel)
    · skip
      rcases zB_ite h with ⟨c7, h⟩ | ⟨c7, h⟩
      · refine V_tabE (off := 36) 1 50 Z c7 (show decode cX5_personOf 14 = .ok (.tableswitch 55 0 2 #[26, 36, 46], 26) by decide +kernel) (by decide) ?_
        refine V_aload_n 0 Z rfl rfl (show decode cX5_personOf 50 = .ok (.aload_n 0, 1) by decide +kernel) ?_
        refine V_getR 0 1 Z zc4 (by decide) rfl (by decide) rfl (by decide) ⟨rfl, rfl, rfl⟩ w216 (show decode cX5_personOf 51 = .ok (.getfield 10, 3) by decide +kernel) ?_
        refine V_getR 7 8 Z zc0 (isH_lt isH_1) (shH isH_1) (by decide) rfl (by decide) ⟨rfl, rfl, rfl⟩ w109 (show decode cX5_personOf 54 = .ok (.getfield 114, 3) by decide +kernel) ?_
        refine V_iload_n 1 Z rfl rfl (show decode cX5_personOf 57 = .ok (.iload_n 1, 1) by decide +kernel) ?_
        obtain ⟨v8, e9, h⟩ := zB_bind h
        refine V_iald Z e9 (show decode cX5_personOf 58 = .ok (.iaload, 1) by decide +kernel) ?_
        exact V_iretM Z hE h (show decode cX5_personOf 59 = .ok (.ireturn, 1) by decide +kernel)
      · skip
        rcases zB_ite h with ⟨c10, h⟩ | ⟨c10, h⟩
        · refine V_tabE (off := 46) 2 60 Z c10 (show decode cX5_personOf 14 = .ok (.tableswitch 55 0 2 #[26, 36, 46], 26) by decide +kernel) (by decide) ?_
          refine V_aload_n 0 Z rfl rfl (show decode cX5_personOf 60 = .ok (.aload_n 0, 1) by decide +kernel) ?_
          refine V_getR 0 1 Z zc4 (by decide) rfl (by decide) rfl (by decide) ⟨rfl, rfl, rfl⟩ w216 (show decode cX5_personOf 61 = .ok (.getfield 10, 3) by decide +kernel) ?_
          refine V_iload_n 1 Z rfl rfl (show decode cX5_personOf 64 = .ok (.iload_n 1, 1) by decide +kernel) ?_
          obtain ⟨⟨v12, M13⟩, e11, h⟩ := zB_bind h
          refine V_callV (rest := []) 1 Z (ok_X0_placeOf isH_1 e11) cd_X0_placeOf zc0 (isH_lt isH_1) (shH isH_1) w307 w308 w309 rfl (show decode cX5_personOf 65 = .ok (.invokevirtual 117, 3) by decide +kernel) rfl ?_
          exact V_iretM Z hE h (show decode cX5_personOf 68 = .ok (.ireturn, 1) by decide +kernel)
        · skip
          refine V_tabOut 69 Z (show decode cX5_personOf 14 = .ok (.tableswitch 55 0 2 #[26, 36, 46], 26) by decide +kernel) (z_out (fun i h1 h2 e => by
              rcases (show i = 0 ∨ i = 1 ∨ i = 2 by omega) with rfl | rfl | rfl
              · exact c4 e
              · exact c7 e
              · exact c10 e)) (by decide) ?_
          refine V_aload_n 0 Z rfl rfl (show decode cX5_personOf 69 = .ok (.aload_n 0, 1) by decide +kernel) ?_
          refine V_iconst 0 (by decide) Z (show decode cX5_personOf 70 = .ok (.iconst 0, 1) by decide +kernel) ?_
          obtain ⟨⟨v15, M16⟩, e14, h⟩ := zB_bind h
          refine V_callV (rest := []) 1 Z (ok_X5_finding  e14) cd_X5_finding zc4 (by decide) rfl w248 w250 w0 rfl (show decode cX5_personOf 71 = .ok (.invokevirtual 55, 3) by decide +kernel) rfl ?_
          exact V_iretM Z hE h (show decode cX5_personOf 74 = .ok (.ireturn, 1) by decide +kernel)
  · have h := zB_pos c3 h
    refine V_aload_n 0 Z rfl rfl (show decode cX5_personOf 7 = .ok (.aload_n 0, 1) by decide +kernel) ?_
    refine V_iconst 0 (by decide) Z (show decode cX5_personOf 8 = .ok (.iconst 0, 1) by decide +kernel) ?_
    obtain ⟨⟨v18, M19⟩, e17, h⟩ := zB_bind h
    refine V_callV (rest := []) 1 Z (ok_X5_finding  e17) cd_X5_finding zc4 (by decide) rfl w248 w250 w0 rfl (show decode cX5_personOf 9 = .ok (.invokevirtual 55, 3) by decide +kernel) rfl ?_
    exact V_iretM Z hE h (show decode cX5_personOf 12 = .ok (.ireturn, 1) by decide +kernel)
def f_X5_isOrder (x0 : Int32) (M : zM) : Option (Int32) :=
  (f_X5_within x0 0 719 M).bind fun (v2 : Int32) =>
  (zbo v2).bind fun (b3 : Int32) =>
  some (b3)
theorem cd_X5_isOrder : zCd yX5_isOrder cX5_isOrder 1 (some .boolean) 1 := ⟨w321, w64, ⟨by decide, by decide⟩, by decide +kernel⟩
set_option maxHeartbeats 4000000 in
set_option maxRecDepth 20000 in
theorem ok_X5_isOrder {x0 : Int32} {M : zM} {y : Int32}  (h : f_X5_isOrder x0 M = some y) : zRuns yX5_isOrder cX5_isOrder 1 (some .boolean) 1 22 [.int x0] M (some (.int y)) M := by
  refine zRuns_of (by decide +kernel) (Nat.le_of_ble_eq_true rfl) (fun E Z hE => ?_)
  have h := zB_top h
  change VV E 1 0 [(0, Value.int x0)] [] M
  refine V_iload_n 0 Z rfl rfl (show decode cX5_isOrder 0 = .ok (.iload_n 0, 1) by decide +kernel) ?_
  refine V_iconst 0 (by decide) Z (show decode cX5_isOrder 1 = .ok (.iconst 0, 1) by decide +kernel) ?_
  refine V_sipush 719 (by decide) Z (show decode cX5_isOrder 2 = .ok (.sipush 719, 3) by decide +kernel) ?_
  obtain ⟨v2, e1, h⟩ := zB_bind h
  refine V_callS (rest := []) 3 Z (ok_X5_within  e1) cd_X5_within w245 w246 rfl (show decode cX5_isOrder 5 = .ok (.invokestatic 51, 3) by decide +kernel) rfl ?_
  obtain ⟨b3, e4, h⟩ := zB_bind h
  refine V_nm (zbo_v e4).1 ?_
  exact V_zretP Z hE h (zbo_v e4).2 (show decode cX5_isOrder 8 = .ok (.ireturn, 1) by decide +kernel)
def f_X5_order (x1 : Int32) (M : zM) : Option (Int32 × zM) :=
  (f_X5_isOrder x1 M).bind fun (v2 : Int32) =>
  if v2 = 0 then
    (f_X5_finding 0 M).bind fun ((v9, M10) : Int32 × zM) =>
    some ((v9, M10))
  else
    (some ((M 1 9))).bind fun (n4 : Int32) =>
    (some (zU M 1 9 x1)).bind fun (M6 : zM) =>
    some ((n4, M6))
theorem cd_X5_order : zCd yX5_order cX5_order 3 (some .int) 1 := ⟨w318, w64, ⟨by decide, by decide⟩, by decide +kernel⟩
set_option maxHeartbeats 4000000 in
set_option maxRecDepth 20000 in
theorem ok_X5_order {x1 : Int32} {M : zM} {y : Int32 × zM}  (h : f_X5_order x1 M = some y) : zRuns yX5_order cX5_order 3 (some .int) 2 42 [.ref 0, .int x1] M (some (.int y.1)) y.2 := by
  refine zRuns_of (by decide +kernel) (Nat.le_of_ble_eq_true rfl) (fun E Z hE => ?_)
  have h := zB_top h
  change VV E 3 0 [(0, Value.ref 0), (1, Value.int x1)] [] M
  refine V_iload_n 1 Z rfl rfl (show decode cX5_order 0 = .ok (.iload_n 1, 1) by decide +kernel) ?_
  obtain ⟨v2, e1, h⟩ := zB_bind h
  refine V_callS (rest := []) 1 Z (ok_X5_isOrder  e1) cd_X5_isOrder w319 w320 rfl (show decode cX5_order 1 = .ok (.invokestatic 120, 3) by decide +kernel) rfl ?_
  refine V_if_ne 13 Z (by decide) (show decode cX5_order 4 = .ok (.ifCond .ne 9, 3) by decide +kernel) (fun c3 => ?_) (fun c3 => ?_)
  · have h := zB_neg c3 h
    refine V_aload_n 0 Z rfl rfl (show decode cX5_order 13 = .ok (.aload_n 0, 1) by decide +kernel) ?_
    refine V_getR 0 1 Z zc4 (by decide) rfl (by decide) rfl (by decide) ⟨rfl, rfl, rfl⟩ w216 (show decode cX5_order 14 = .ok (.getfield 10, 3) by decide +kernel) ?_
    refine V_getI 9 Z zc0 (isH_lt isH_1) (shH isH_1) (by decide) rfl ⟨rfl, rfl, rfl⟩ w114 (show decode cX5_order 17 = .ok (.getfield 123, 3) by decide +kernel) ?_
    obtain ⟨n4, e5, h⟩ := zB_let h
    refine V_nm e5 ?_
    refine V_istore_n [(2, Value.int n4), (0, Value.ref 0), (1, Value.int x1)] Z (by decide) rfl rfl (show decode cX5_order 20 = .ok (.istore_n 2, 1) by decide +kernel) ?_
    refine V_aload_n 1 Z rfl rfl (show decode cX5_order 21 = .ok (.aload_n 0, 1) by decide +kernel) ?_
    refine V_getR 0 1 Z zc4 (by decide) rfl (by decide) rfl (by decide) ⟨rfl, rfl, rfl⟩ w216 (show decode cX5_order 22 = .ok (.getfield 10, 3) by decide +kernel) ?_
    refine V_iload_n 2 Z rfl rfl (show decode cX5_order 25 = .ok (.iload_n 1, 1) by decide +kernel) ?_
    obtain ⟨M6, e7, h⟩ := zB_let h
    refine V_putI 9 Z zc0 (isH_lt isH_1) (shH isH_1) (by decide) rfl ⟨rfl, rfl, rfl⟩ rfl rfl w114 (show decode cX5_order 26 = .ok (.putfield 123, 3) by decide +kernel) ?_
    refine V_nmM e7 ?_
    refine V_iload_n 0 Z rfl rfl (show decode cX5_order 29 = .ok (.iload_n 2, 1) by decide +kernel) ?_
    exact V_iretM Z hE h (show decode cX5_order 30 = .ok (.ireturn, 1) by decide +kernel)
  · have h := zB_pos c3 h
    refine V_aload_n 0 Z rfl rfl (show decode cX5_order 7 = .ok (.aload_n 0, 1) by decide +kernel) ?_
    refine V_iconst 0 (by decide) Z (show decode cX5_order 8 = .ok (.iconst 0, 1) by decide +kernel) ?_
    obtain ⟨⟨v9, M10⟩, e8, h⟩ := zB_bind h
    refine V_callV (rest := []) 1 Z (ok_X5_finding  e8) cd_X5_finding zc4 (by decide) rfl w248 w250 w0 rfl (show decode cX5_order 9 = .ok (.invokevirtual 55, 3) by decide +kernel) rfl ?_
    exact V_iretM Z hE h (show decode cX5_order 12 = .ok (.ireturn, 1) by decide +kernel)
def f_X5_at_j16 (M : zM) : Option (Int32 × zM) :=
  (f_X5_finding 0 M).bind fun ((v2, M3) : Int32 × zM) =>
  some ((v2, M3))
def f_X5_at (x1 : Int32) (x2 : Int32) (M : zM) : Option (Int32 × zM) :=
  (f_X5_isOrder x1 M).bind fun (v5 : Int32) =>
  if v5 = 0 then
    f_X5_at_j16  M
  else
    (f_X5_within x2 0 5 M).bind fun (v8 : Int32) =>
    if v8 = 0 then
      f_X5_at_j16  M
    else
      (f_X0_lineUp 1 x1 M).bind fun (M11 : zM) =>
      (zrd M11 10 x2).bind fun (v12 : Int32) =>
      some ((v12, M11))
theorem cd_X5_at : zCd yX5_at cX5_at 3 (some .int) 2 := ⟨w325, w64, ⟨by decide, by decide⟩, by decide +kernel⟩
set_option maxHeartbeats 4000000 in
set_option maxRecDepth 20000 in
theorem ok_X5_at {x1 : Int32} {x2 : Int32} {M : zM} {y : Int32 × zM}  (h : f_X5_at x1 x2 M = some y) : zRuns yX5_at cX5_at 3 (some .int) 2 42 [.ref 0, .int x1, .int x2] M (some (.int y.1)) y.2 := by
  refine zRuns_of (by decide +kernel) (Nat.le_of_ble_eq_true rfl) (fun E Z hE => ?_)
  have h := zB_top h
  change VV E 3 0 [(0, Value.ref 0), (1, Value.int x1), (2, Value.int x2)] [] M
  have J16 : ∀ (M : zM), (f_X5_at_j16  M).bind some = some y → VV E 3 16 [(0, Value.ref 0)] [] M := by
    intro  M h
    refine V_aload_n 0 Z rfl rfl (show decode cX5_at 16 = .ok (.aload_n 0, 1) by decide +kernel) ?_
    refine V_iconst 0 (by decide) Z (show decode cX5_at 17 = .ok (.iconst 0, 1) by decide +kernel) ?_
    obtain ⟨⟨v2, M3⟩, e1, h⟩ := zB_bind h
    refine V_callV (rest := []) 1 Z (ok_X5_finding  e1) cd_X5_finding zc4 (by decide) rfl w248 w250 w0 rfl (show decode cX5_at 18 = .ok (.invokevirtual 55, 3) by decide +kernel) rfl ?_
    exact V_iretM Z hE h (show decode cX5_at 21 = .ok (.ireturn, 1) by decide +kernel)
  refine V_iload_n 1 Z rfl rfl (show decode cX5_at 0 = .ok (.iload_n 1, 1) by decide +kernel) ?_
  obtain ⟨v5, e4, h⟩ := zB_bind h
  refine V_callS (rest := []) 1 Z (ok_X5_isOrder  e4) cd_X5_isOrder w319 w320 rfl (show decode cX5_at 1 = .ok (.invokestatic 120, 3) by decide +kernel) rfl ?_
  refine V_if_eq 16 Z (by decide) (show decode cX5_at 4 = .ok (.ifCond .eq 12, 3) by decide +kernel) (fun c6 => ?_) (fun c6 => ?_)
  · have h := zB_pos c6 h
    refine V_sub [0] rfl ?_
    exact J16 _ h
  · have h := zB_neg c6 h
    refine V_iload_n 2 Z rfl rfl (show decode cX5_at 7 = .ok (.iload_n 2, 1) by decide +kernel) ?_
    refine V_iconst 0 (by decide) Z (show decode cX5_at 8 = .ok (.iconst 0, 1) by decide +kernel) ?_
    refine V_iconst 5 (by decide) Z (show decode cX5_at 9 = .ok (.iconst 5, 1) by decide +kernel) ?_
    obtain ⟨v8, e7, h⟩ := zB_bind h
    refine V_callS (rest := []) 3 Z (ok_X5_within  e7) cd_X5_within w245 w246 rfl (show decode cX5_at 10 = .ok (.invokestatic 51, 3) by decide +kernel) rfl ?_
    refine V_if_ne 22 Z (by decide) (show decode cX5_at 13 = .ok (.ifCond .ne 9, 3) by decide +kernel) (fun c9 => ?_) (fun c9 => ?_)
    · have h := zB_neg c9 h
      refine V_aload_n 0 Z rfl rfl (show decode cX5_at 22 = .ok (.aload_n 0, 1) by decide +kernel) ?_
      refine V_getR 0 1 Z zc4 (by decide) rfl (by decide) rfl (by decide) ⟨rfl, rfl, rfl⟩ w216 (show decode cX5_at 23 = .ok (.getfield 10, 3) by decide +kernel) ?_
      refine V_iload_n 1 Z rfl rfl (show decode cX5_at 26 = .ok (.iload_n 1, 1) by decide +kernel) ?_
      obtain ⟨M11, e10, h⟩ := zB_bind h
      refine V_callV (rest := []) 1 Z (ok_X0_lineUp isH_1 e10) cd_X0_lineUp zc0 (isH_lt isH_1) (shH isH_1) w326 w312 w313 rfl (show decode cX5_at 27 = .ok (.invokevirtual 126, 3) by decide +kernel) rfl ?_
      refine V_aload_n 0 Z rfl rfl (show decode cX5_at 30 = .ok (.aload_n 0, 1) by decide +kernel) ?_
      refine V_getR 0 1 Z zc4 (by decide) rfl (by decide) rfl (by decide) ⟨rfl, rfl, rfl⟩ w216 (show decode cX5_at 31 = .ok (.getfield 10, 3) by decide +kernel) ?_
      refine V_getR 13 10 Z zc0 (isH_lt isH_1) (shH isH_1) (by decide) rfl (by decide) ⟨rfl, rfl, rfl⟩ w123 (show decode cX5_at 34 = .ok (.getfield 130, 3) by decide +kernel) ?_
      refine V_iload_n 2 Z rfl rfl (show decode cX5_at 37 = .ok (.iload_n 2, 1) by decide +kernel) ?_
      obtain ⟨v12, e13, h⟩ := zB_bind h
      refine V_iald Z e13 (show decode cX5_at 38 = .ok (.iaload, 1) by decide +kernel) ?_
      exact V_iretM Z hE h (show decode cX5_at 39 = .ok (.ireturn, 1) by decide +kernel)
    · have h := zB_pos c9 h
      refine V_sub [0] rfl ?_
      exact J16 _ h
def f_X5_go (x1 : Int32) (M : zM) : Option (Int32 × zM) :=
  (f_X5_within x1 1 60 M).bind fun (v2 : Int32) =>
  if v2 = 0 then
    (f_X5_finding 0 M).bind fun ((v13, M14) : Int32 × zM) =>
    some ((v13, M14))
  else
    if ((M 1 10) + x1) ≤ 99999 then
      (f_X0_pass 1 x1 M).bind fun (M6 : zM) =>
      (f_X0_purses 1 M6).bind fun (v8 : Int32) =>
      some ((v8, M6))
    else
      (f_X5_finding 4 M).bind fun ((v10, M11) : Int32 × zM) =>
      some ((v10, M11))
theorem cd_X5_go : zCd yX5_go cX5_go 2 (some .int) 1 := ⟨w330, w64, ⟨by decide, by decide⟩, by decide +kernel⟩
set_option maxHeartbeats 4000000 in
set_option maxRecDepth 20000 in
theorem ok_X5_go {x1 : Int32} {M : zM} {y : Int32 × zM}  (h : f_X5_go x1 M = some y) : zRuns yX5_go cX5_go 2 (some .int) 5 113 [.ref 0, .int x1] M (some (.int y.1)) y.2 := by
  refine zRuns_of (by decide +kernel) (Nat.le_of_ble_eq_true rfl) (fun E Z hE => ?_)
  have h := zB_top h
  change VV E 2 0 [(0, Value.ref 0), (1, Value.int x1)] [] M
  refine V_iload_n 1 Z rfl rfl (show decode cX5_go 0 = .ok (.iload_n 1, 1) by decide +kernel) ?_
  refine V_iconst 1 (by decide) Z (show decode cX5_go 1 = .ok (.iconst 1, 1) by decide +kernel) ?_
  refine V_bipush 60 (by decide) Z (show decode cX5_go 2 = .ok (.bipush 60, 2) by decide +kernel) ?_
  obtain ⟨v2, e1, h⟩ := zB_bind h
  refine V_callS (rest := []) 3 Z (ok_X5_within  e1) cd_X5_within w245 w246 rfl (show decode cX5_go 4 = .ok (.invokestatic 51, 3) by decide +kernel) rfl ?_
  refine V_if_ne 16 Z (by decide) (show decode cX5_go 7 = .ok (.ifCond .ne 9, 3) by decide +kernel) (fun c3 => ?_) (fun c3 => ?_)
  · have h := zB_neg c3 h
    refine V_aload_n 0 Z rfl rfl (show decode cX5_go 16 = .ok (.aload_n 0, 1) by decide +kernel) ?_
    refine V_getR 0 1 Z zc4 (by decide) rfl (by decide) rfl (by decide) ⟨rfl, rfl, rfl⟩ w216 (show decode cX5_go 17 = .ok (.getfield 10, 3) by decide +kernel) ?_
    refine V_getI 10 Z zc0 (isH_lt isH_1) (shH isH_1) (by decide) rfl ⟨rfl, rfl, rfl⟩ w117 (show decode cX5_go 20 = .ok (.getfield 133, 3) by decide +kernel) ?_
    refine V_iload_n 1 Z rfl rfl (show decode cX5_go 23 = .ok (.iload_n 1, 1) by decide +kernel) ?_
    refine V_iadd Z (show decode cX5_go 24 = .ok (.iadd, 1) by decide +kernel) ?_
    refine V_ldc 99999 Z w291 (show decode cX5_go 25 = .ok (.ldc 104, 2) by decide +kernel) ?_
    refine V_icmp_le 36 Z (by decide) (show decode cX5_go 27 = .ok (.if_icmp .le 9, 3) by decide +kernel) (fun c4 => ?_) (fun c4 => ?_)
    · have h := zB_pos c4 h
      refine V_aload_n 0 Z rfl rfl (show decode cX5_go 36 = .ok (.aload_n 0, 1) by decide +kernel) ?_
      refine V_getR 0 1 Z zc4 (by decide) rfl (by decide) rfl (by decide) ⟨rfl, rfl, rfl⟩ w216 (show decode cX5_go 37 = .ok (.getfield 10, 3) by decide +kernel) ?_
      refine V_iload_n 1 Z rfl rfl (show decode cX5_go 40 = .ok (.iload_n 1, 1) by decide +kernel) ?_
      obtain ⟨M6, e5, h⟩ := zB_bind h
      refine V_callV (rest := []) 1 Z (ok_X0_pass isH_1 e5) cd_X0_pass zc0 (isH_lt isH_1) (shH isH_1) w331 w332 w333 rfl (show decode cX5_go 41 = .ok (.invokevirtual 136, 3) by decide +kernel) rfl ?_
      refine V_aload_n 0 Z rfl rfl (show decode cX5_go 44 = .ok (.aload_n 0, 1) by decide +kernel) ?_
      refine V_getR 0 1 Z zc4 (by decide) rfl (by decide) rfl (by decide) ⟨rfl, rfl, rfl⟩ w216 (show decode cX5_go 45 = .ok (.getfield 10, 3) by decide +kernel) ?_
      obtain ⟨v8, e7, h⟩ := zB_bind h
      refine V_callV (rest := []) 0 Z (ok_X0_purses isH_1 e7) cd_X0_purses zc0 (isH_lt isH_1) (shH isH_1) w383 w384 w385 rfl (show decode cX5_go 48 = .ok (.invokevirtual 139, 3) by decide +kernel) rfl ?_
      exact V_iretM Z hE h (show decode cX5_go 51 = .ok (.ireturn, 1) by decide +kernel)
    · have h := zB_neg c4 h
      refine V_aload_n 0 Z rfl rfl (show decode cX5_go 30 = .ok (.aload_n 0, 1) by decide +kernel) ?_
      refine V_iconst 4 (by decide) Z (show decode cX5_go 31 = .ok (.iconst 4, 1) by decide +kernel) ?_
      obtain ⟨⟨v10, M11⟩, e9, h⟩ := zB_bind h
      refine V_callV (rest := []) 1 Z (ok_X5_finding  e9) cd_X5_finding zc4 (by decide) rfl w248 w250 w0 rfl (show decode cX5_go 32 = .ok (.invokevirtual 55, 3) by decide +kernel) rfl ?_
      exact V_iretM Z hE h (show decode cX5_go 35 = .ok (.ireturn, 1) by decide +kernel)
  · have h := zB_pos c3 h
    refine V_aload_n 0 Z rfl rfl (show decode cX5_go 10 = .ok (.aload_n 0, 1) by decide +kernel) ?_
    refine V_iconst 0 (by decide) Z (show decode cX5_go 11 = .ok (.iconst 0, 1) by decide +kernel) ?_
    obtain ⟨⟨v13, M14⟩, e12, h⟩ := zB_bind h
    refine V_callV (rest := []) 1 Z (ok_X5_finding  e12) cd_X5_finding zc4 (by decide) rfl w248 w250 w0 rfl (show decode cX5_go 12 = .ok (.invokevirtual 55, 3) by decide +kernel) rfl ?_
    exact V_iretM Z hE h (show decode cX5_go 15 = .ok (.ireturn, 1) by decide +kernel)
def f_X5_now (x1 : Int32) (M : zM) : Option (Int32 × zM) :=
  if x1 = 0 then
    some (((M 1 10), M))
  else
    if x1 = 1 then
      (f_X0_hanging 1 M).bind fun (v4 : Int32) =>
      some ((v4, M))
    else
      if x1 = 2 then
        (f_X0_purses 1 M).bind fun (v7 : Int32) =>
        some ((v7, M))
      else
        if x1 = 3 then
          (f_X0_debts 1 M).bind fun (v10 : Int32) =>
          some ((v10, M))
        else
          if x1 = 4 then
            some (((M 1 11), M))
          else
            if x1 = 5 then
              some (((M 1 9), M))
            else
              (f_X5_finding 0 M).bind fun ((v14, M15) : Int32 × zM) =>
              some ((v14, M15))
theorem cd_X5_now : zCd yX5_now cX5_now 2 (some .int) 1 := ⟨w390, w64, ⟨by decide, by decide⟩, by decide +kernel⟩
set_option maxHeartbeats 4000000 in
set_option maxRecDepth 20000 in
theorem ok_X5_now {x1 : Int32} {M : zM} {y : Int32 × zM}  (h : f_X5_now x1 M = some y) : zRuns yX5_now cX5_now 2 (some .int) 2 43 [.ref 0, .int x1] M (some (.int y.1)) y.2 := by
  refine zRuns_of (by decide +kernel) (Nat.le_of_ble_eq_true rfl) (fun E Z hE => ?_)
  have h := zB_top h
  change VV E 2 0 [(0, Value.ref 0), (1, Value.int x1)] [] M
  refine V_iload_n 1 Z rfl rfl (show decode cX5_now 0 = .ok (.iload_n 1, 1) by decide +kernel) ?_
  rcases zB_ite h with ⟨c1, h⟩ | ⟨c1, h⟩
  · refine V_tabE (off := 39) 0 40 Z c1 (show decode cX5_now 1 = .ok (.tableswitch 87 0 5 #[39, 47, 55, 63, 71, 79], 39) by decide +kernel) (by decide) ?_
    refine V_aload_n 0 Z rfl rfl (show decode cX5_now 40 = .ok (.aload_n 0, 1) by decide +kernel) ?_
    refine V_getR 0 1 Z zc4 (by decide) rfl (by decide) rfl (by decide) ⟨rfl, rfl, rfl⟩ w216 (show decode cX5_now 41 = .ok (.getfield 10, 3) by decide +kernel) ?_
    refine V_getI 10 Z zc0 (isH_lt isH_1) (shH isH_1) (by decide) rfl ⟨rfl, rfl, rfl⟩ w117 (show decode cX5_now 44 = .ok (.getfield 133, 3) by decide +kernel) ?_
    exact V_iretM Z hE h (show decode cX5_now 47 = .ok (.ireturn, 1) by decide +kernel)
  · skip
    rcases zB_ite h with ⟨c2, h⟩ | ⟨c2, h⟩
    · refine V_tabE (off := 47) 1 48 Z c2 (show decode cX5_now 1 = .ok (.tableswitch 87 0 5 #[39, 47, 55, 63, 71, 79], 39) by decide +kernel) (by decide) ?_
      refine V_aload_n 0 Z rfl rfl (show decode cX5_now 48 = .ok (.aload_n 0, 1) by decide +kernel) ?_
      refine V_getR 0 1 Z zc4 (by decide) rfl (by decide) rfl (by decide) ⟨rfl, rfl, rfl⟩ w216 (show decode cX5_now 49 = .ok (.getfield 10, 3) by decide +kernel) ?_
      obtain ⟨v4, e3, h⟩ := zB_bind h
      refine V_callV (rest := []) 0 Z (ok_X0_hanging isH_1 e3) cd_X0_hanging zc0 (isH_lt isH_1) (shH isH_1) w391 w344 w345 rfl (show decode cX5_now 52 = .ok (.invokevirtual 143, 3) by decide +kernel) rfl ?_
      exact V_iretM Z hE h (show decode cX5_now 55 = .ok (.ireturn, 1) by decide +kernel)
    · skip
      rcases zB_ite h with ⟨c5, h⟩ | ⟨c5, h⟩
      · refine V_tabE (off := 55) 2 56 Z c5 (show decode cX5_now 1 = .ok (.tableswitch 87 0 5 #[39, 47, 55, 63, 71, 79], 39) by decide +kernel) (by decide) ?_
        refine V_aload_n 0 Z rfl rfl (show decode cX5_now 56 = .ok (.aload_n 0, 1) by decide +kernel) ?_
        refine V_getR 0 1 Z zc4 (by decide) rfl (by decide) rfl (by decide) ⟨rfl, rfl, rfl⟩ w216 (show decode cX5_now 57 = .ok (.getfield 10, 3) by decide +kernel) ?_
        obtain ⟨v7, e6, h⟩ := zB_bind h
        refine V_callV (rest := []) 0 Z (ok_X0_purses isH_1 e6) cd_X0_purses zc0 (isH_lt isH_1) (shH isH_1) w383 w384 w385 rfl (show decode cX5_now 60 = .ok (.invokevirtual 139, 3) by decide +kernel) rfl ?_
        exact V_iretM Z hE h (show decode cX5_now 63 = .ok (.ireturn, 1) by decide +kernel)
      · skip
        rcases zB_ite h with ⟨c8, h⟩ | ⟨c8, h⟩
        · refine V_tabE (off := 63) 3 64 Z c8 (show decode cX5_now 1 = .ok (.tableswitch 87 0 5 #[39, 47, 55, 63, 71, 79], 39) by decide +kernel) (by decide) ?_
          refine V_aload_n 0 Z rfl rfl (show decode cX5_now 64 = .ok (.aload_n 0, 1) by decide +kernel) ?_
          refine V_getR 0 1 Z zc4 (by decide) rfl (by decide) rfl (by decide) ⟨rfl, rfl, rfl⟩ w216 (show decode cX5_now 65 = .ok (.getfield 10, 3) by decide +kernel) ?_
          obtain ⟨v10, e9, h⟩ := zB_bind h
          refine V_callV (rest := []) 0 Z (ok_X0_debts isH_1 e9) cd_X0_debts zc0 (isH_lt isH_1) (shH isH_1) w392 w393 w394 rfl (show decode cX5_now 68 = .ok (.invokevirtual 146, 3) by decide +kernel) rfl ?_
          exact V_iretM Z hE h (show decode cX5_now 71 = .ok (.ireturn, 1) by decide +kernel)
        · skip
          rcases zB_ite h with ⟨c11, h⟩ | ⟨c11, h⟩
          · refine V_tabE (off := 71) 4 72 Z c11 (show decode cX5_now 1 = .ok (.tableswitch 87 0 5 #[39, 47, 55, 63, 71, 79], 39) by decide +kernel) (by decide) ?_
            refine V_aload_n 0 Z rfl rfl (show decode cX5_now 72 = .ok (.aload_n 0, 1) by decide +kernel) ?_
            refine V_getR 0 1 Z zc4 (by decide) rfl (by decide) rfl (by decide) ⟨rfl, rfl, rfl⟩ w216 (show decode cX5_now 73 = .ok (.getfield 10, 3) by decide +kernel) ?_
            refine V_getI 11 Z zc0 (isH_lt isH_1) (shH isH_1) (by decide) rfl ⟨rfl, rfl, rfl⟩ w119 (show decode cX5_now 76 = .ok (.getfield 149, 3) by decide +kernel) ?_
            exact V_iretM Z hE h (show decode cX5_now 79 = .ok (.ireturn, 1) by decide +kernel)
          · skip
            rcases zB_ite h with ⟨c12, h⟩ | ⟨c12, h⟩
            · refine V_tabE (off := 79) 5 80 Z c12 (show decode cX5_now 1 = .ok (.tableswitch 87 0 5 #[39, 47, 55, 63, 71, 79], 39) by decide +kernel) (by decide) ?_
              refine V_aload_n 0 Z rfl rfl (show decode cX5_now 80 = .ok (.aload_n 0, 1) by decide +kernel) ?_
              refine V_getR 0 1 Z zc4 (by decide) rfl (by decide) rfl (by decide) ⟨rfl, rfl, rfl⟩ w216 (show decode cX5_now 81 = .ok (.getfield 10, 3) by decide +kernel) ?_
              refine V_getI 9 Z zc0 (isH_lt isH_1) (shH isH_1) (by decide) rfl ⟨rfl, rfl, rfl⟩ w114 (show decode cX5_now 84 = .ok (.getfield 123, 3) by decide +kernel) ?_
              exact V_iretM Z hE h (show decode cX5_now 87 = .ok (.ireturn, 1) by decide +kernel)
            · skip
              refine V_tabOut 88 Z (show decode cX5_now 1 = .ok (.tableswitch 87 0 5 #[39, 47, 55, 63, 71, 79], 39) by decide +kernel) (z_out (fun i h1 h2 e => by
                  rcases (show i = 0 ∨ i = 1 ∨ i = 2 ∨ i = 3 ∨ i = 4 ∨ i = 5 by omega) with rfl | rfl | rfl | rfl | rfl | rfl
                  · exact c1 e
                  · exact c2 e
                  · exact c5 e
                  · exact c8 e
                  · exact c11 e
                  · exact c12 e)) (by decide) ?_
              refine V_aload_n 0 Z rfl rfl (show decode cX5_now 88 = .ok (.aload_n 0, 1) by decide +kernel) ?_
              refine V_iconst 0 (by decide) Z (show decode cX5_now 89 = .ok (.iconst 0, 1) by decide +kernel) ?_
              obtain ⟨⟨v14, M15⟩, e13, h⟩ := zB_bind h
              refine V_callV (rest := []) 1 Z (ok_X5_finding  e13) cd_X5_finding zc4 (by decide) rfl w248 w250 w0 rfl (show decode cX5_now 90 = .ok (.invokevirtual 55, 3) by decide +kernel) rfl ?_
              exact V_iretM Z hE h (show decode cX5_now 93 = .ok (.ireturn, 1) by decide +kernel)
def f_X5_mend_j25 (M : zM) : Option (Int32 × zM) :=
  (f_X5_finding 0 M).bind fun ((v2, M3) : Int32 × zM) =>
  some ((v2, M3))
def f_X5_mend (x1 : Int32) (x2 : Int32) (x3 : Int32) (M : zM) : Option (Int32 × zM) :=
  (f_X5_isName x1 M).bind fun (v5 : Int32) =>
  if v5 = 0 then
    f_X5_mend_j25  M
  else
    (f_X5_isPerson x2 M).bind fun (v8 : Int32) =>
    if v8 = 0 then
      f_X5_mend_j25  M
    else
      (f_X5_within x3 0 99 M).bind fun (v11 : Int32) =>
      if v11 = 0 then
        f_X5_mend_j25  M
      else
        (zrd M 7 x2).bind fun (v13 : Int32) =>
        if x3 ≤ v13 then
          (zrd M 7 x2).bind fun (v16 : Int32) =>
          (zwr M 7 x2 (v16 - x3)).bind fun (M18 : zM) =>
          (zrd M18 4 x1).bind fun (v20 : Int32) =>
          (zwr M18 4 x1 (if 0 < (v20 - x3) then (v20 - x3) else 0)).bind fun (M22 : zM) =>
          (zrd M22 4 x1).bind fun (v24 : Int32) =>
          some ((v24, M22))
        else
          (f_X5_finding 4 M).bind fun ((v27, M28) : Int32 × zM) =>
          some ((v27, M28))
theorem cd_X5_mend : zCd yX5_mend cX5_mend 4 (some .int) 3 := ⟨w399, w64, ⟨by decide, by decide⟩, by decide +kernel⟩
set_option maxHeartbeats 4000000 in
set_option maxRecDepth 20000 in
theorem ok_X5_mend {x1 : Int32} {x2 : Int32} {x3 : Int32} {M : zM} {y : Int32 × zM}  (h : f_X5_mend x1 x2 x3 M = some y) : zRuns yX5_mend cX5_mend 4 (some .int) 2 43 [.ref 0, .int x1, .int x2, .int x3] M (some (.int y.1)) y.2 := by
  refine zRuns_of (by decide +kernel) (Nat.le_of_ble_eq_true rfl) (fun E Z hE => ?_)
  have h := zB_top h
  change VV E 4 0 [(0, Value.ref 0), (1, Value.int x1), (2, Value.int x2), (3, Value.int x3)] [] M
  have J25 : ∀ (M : zM), (f_X5_mend_j25  M).bind some = some y → VV E 4 25 [(0, Value.ref 0)] [] M := by
    intro  M h
    refine V_aload_n 0 Z rfl rfl (show decode cX5_mend 25 = .ok (.aload_n 0, 1) by decide +kernel) ?_
    refine V_iconst 0 (by decide) Z (show decode cX5_mend 26 = .ok (.iconst 0, 1) by decide +kernel) ?_
    obtain ⟨⟨v2, M3⟩, e1, h⟩ := zB_bind h
    refine V_callV (rest := []) 1 Z (ok_X5_finding  e1) cd_X5_finding zc4 (by decide) rfl w248 w250 w0 rfl (show decode cX5_mend 27 = .ok (.invokevirtual 55, 3) by decide +kernel) rfl ?_
    exact V_iretM Z hE h (show decode cX5_mend 30 = .ok (.ireturn, 1) by decide +kernel)
  refine V_aload_n 0 Z rfl rfl (show decode cX5_mend 0 = .ok (.aload_n 0, 1) by decide +kernel) ?_
  refine V_iload_n 1 Z rfl rfl (show decode cX5_mend 1 = .ok (.iload_n 1, 1) by decide +kernel) ?_
  obtain ⟨v5, e4, h⟩ := zB_bind h
  refine V_callV (rest := []) 1 Z (ok_X5_isName  e4) cd_X5_isName zc4 (by decide) rfl w261 w263 w1 rfl (show decode cX5_mend 2 = .ok (.invokevirtual 67, 3) by decide +kernel) rfl ?_
  refine V_if_eq 25 Z (by decide) (show decode cX5_mend 5 = .ok (.ifCond .eq 20, 3) by decide +kernel) (fun c6 => ?_) (fun c6 => ?_)
  · have h := zB_pos c6 h
    refine V_sub [0] rfl ?_
    exact J25 _ h
  · have h := zB_neg c6 h
    refine V_iload_n 2 Z rfl rfl (show decode cX5_mend 8 = .ok (.iload_n 2, 1) by decide +kernel) ?_
    obtain ⟨v8, e7, h⟩ := zB_bind h
    refine V_callS (rest := []) 1 Z (ok_X5_isPerson  e7) cd_X5_isPerson w300 w301 rfl (show decode cX5_mend 9 = .ok (.invokestatic 108, 3) by decide +kernel) rfl ?_
    refine V_if_eq 25 Z (by decide) (show decode cX5_mend 12 = .ok (.ifCond .eq 13, 3) by decide +kernel) (fun c9 => ?_) (fun c9 => ?_)
    · have h := zB_pos c9 h
      refine V_sub [0] rfl ?_
      exact J25 _ h
    · have h := zB_neg c9 h
      refine V_iload_n 3 Z rfl rfl (show decode cX5_mend 15 = .ok (.iload_n 3, 1) by decide +kernel) ?_
      refine V_iconst 0 (by decide) Z (show decode cX5_mend 16 = .ok (.iconst 0, 1) by decide +kernel) ?_
      refine V_bipush 99 (by decide) Z (show decode cX5_mend 17 = .ok (.bipush 99, 2) by decide +kernel) ?_
      obtain ⟨v11, e10, h⟩ := zB_bind h
      refine V_callS (rest := []) 3 Z (ok_X5_within  e10) cd_X5_within w245 w246 rfl (show decode cX5_mend 19 = .ok (.invokestatic 51, 3) by decide +kernel) rfl ?_
      refine V_if_ne 31 Z (by decide) (show decode cX5_mend 22 = .ok (.ifCond .ne 9, 3) by decide +kernel) (fun c12 => ?_) (fun c12 => ?_)
      · have h := zB_neg c12 h
        refine V_aload_n 0 Z rfl rfl (show decode cX5_mend 31 = .ok (.aload_n 0, 1) by decide +kernel) ?_
        refine V_getR 0 1 Z zc4 (by decide) rfl (by decide) rfl (by decide) ⟨rfl, rfl, rfl⟩ w216 (show decode cX5_mend 32 = .ok (.getfield 10, 3) by decide +kernel) ?_
        refine V_getR 6 7 Z zc0 (isH_lt isH_1) (shH isH_1) (by decide) rfl (by decide) ⟨rfl, rfl, rfl⟩ w106 (show decode cX5_mend 35 = .ok (.getfield 111, 3) by decide +kernel) ?_
        refine V_iload_n 2 Z rfl rfl (show decode cX5_mend 38 = .ok (.iload_n 2, 1) by decide +kernel) ?_
        obtain ⟨v13, e14, h⟩ := zB_bind h
        refine V_iald Z e14 (show decode cX5_mend 39 = .ok (.iaload, 1) by decide +kernel) ?_
        refine V_iload_n 3 Z rfl rfl (show decode cX5_mend 40 = .ok (.iload_n 3, 1) by decide +kernel) ?_
        refine V_icmp_ge 50 Z (by decide) (show decode cX5_mend 41 = .ok (.if_icmp .ge 9, 3) by decide +kernel) (fun c15 => ?_) (fun c15 => ?_)
        · have h := zB_pos c15 h
          refine V_aload_n 0 Z rfl rfl (show decode cX5_mend 50 = .ok (.aload_n 0, 1) by decide +kernel) ?_
          refine V_getR 0 1 Z zc4 (by decide) rfl (by decide) rfl (by decide) ⟨rfl, rfl, rfl⟩ w216 (show decode cX5_mend 51 = .ok (.getfield 10, 3) by decide +kernel) ?_
          refine V_getR 6 7 Z zc0 (isH_lt isH_1) (shH isH_1) (by decide) rfl (by decide) ⟨rfl, rfl, rfl⟩ w106 (show decode cX5_mend 54 = .ok (.getfield 111, 3) by decide +kernel) ?_
          refine V_iload_n 2 Z rfl rfl (show decode cX5_mend 57 = .ok (.iload_n 2, 1) by decide +kernel) ?_
          refine V_dup2 rfl rfl Z (show decode cX5_mend 58 = .ok (.dup2, 1) by decide +kernel) ?_
          obtain ⟨v16, e17, h⟩ := zB_bind h
          refine V_iald Z e17 (show decode cX5_mend 59 = .ok (.iaload, 1) by decide +kernel) ?_
          refine V_iload_n 3 Z rfl rfl (show decode cX5_mend 60 = .ok (.iload_n 3, 1) by decide +kernel) ?_
          refine V_isub Z (show decode cX5_mend 61 = .ok (.isub, 1) by decide +kernel) ?_
          obtain ⟨M18, e19, h⟩ := zB_bind h
          refine V_iast Z e19 (show decode cX5_mend 62 = .ok (.iastore, 1) by decide +kernel) ?_
          refine V_aload_n 0 Z rfl rfl (show decode cX5_mend 63 = .ok (.aload_n 0, 1) by decide +kernel) ?_
          refine V_getR 0 1 Z zc4 (by decide) rfl (by decide) rfl (by decide) ⟨rfl, rfl, rfl⟩ w216 (show decode cX5_mend 64 = .ok (.getfield 10, 3) by decide +kernel) ?_
          refine V_getR 3 4 Z zc0 (isH_lt isH_1) (shH isH_1) (by decide) rfl (by decide) ⟨rfl, rfl, rfl⟩ w100 (show decode cX5_mend 67 = .ok (.getfield 77, 3) by decide +kernel) ?_
          refine V_iload_n 1 Z rfl rfl (show decode cX5_mend 70 = .ok (.iload_n 1, 1) by decide +kernel) ?_
          refine V_iconst 0 (by decide) Z (show decode cX5_mend 71 = .ok (.iconst 0, 1) by decide +kernel) ?_
          refine V_aload_n 0 Z rfl rfl (show decode cX5_mend 72 = .ok (.aload_n 0, 1) by decide +kernel) ?_
          refine V_getR 0 1 Z zc4 (by decide) rfl (by decide) rfl (by decide) ⟨rfl, rfl, rfl⟩ w216 (show decode cX5_mend 73 = .ok (.getfield 10, 3) by decide +kernel) ?_
          refine V_getR 3 4 Z zc0 (isH_lt isH_1) (shH isH_1) (by decide) rfl (by decide) ⟨rfl, rfl, rfl⟩ w100 (show decode cX5_mend 76 = .ok (.getfield 77, 3) by decide +kernel) ?_
          refine V_iload_n 1 Z rfl rfl (show decode cX5_mend 79 = .ok (.iload_n 1, 1) by decide +kernel) ?_
          obtain ⟨v20, e21, h⟩ := zB_bind h
          refine V_iald Z e21 (show decode cX5_mend 80 = .ok (.iaload, 1) by decide +kernel) ?_
          refine V_iload_n 3 Z rfl rfl (show decode cX5_mend 81 = .ok (.iload_n 3, 1) by decide +kernel) ?_
          refine V_isub Z (show decode cX5_mend 82 = .ok (.isub, 1) by decide +kernel) ?_
          refine V_max Z w400 w401 w71 w402 (show decode cX5_mend 83 = .ok (.invokestatic 152, 3) by decide +kernel) rfl ?_
          obtain ⟨M22, e23, h⟩ := zB_bind h
          refine V_iast Z e23 (show decode cX5_mend 86 = .ok (.iastore, 1) by decide +kernel) ?_
          refine V_aload_n 0 Z rfl rfl (show decode cX5_mend 87 = .ok (.aload_n 0, 1) by decide +kernel) ?_
          refine V_getR 0 1 Z zc4 (by decide) rfl (by decide) rfl (by decide) ⟨rfl, rfl, rfl⟩ w216 (show decode cX5_mend 88 = .ok (.getfield 10, 3) by decide +kernel) ?_
          refine V_getR 3 4 Z zc0 (isH_lt isH_1) (shH isH_1) (by decide) rfl (by decide) ⟨rfl, rfl, rfl⟩ w100 (show decode cX5_mend 91 = .ok (.getfield 77, 3) by decide +kernel) ?_
          refine V_iload_n 1 Z rfl rfl (show decode cX5_mend 94 = .ok (.iload_n 1, 1) by decide +kernel) ?_
          obtain ⟨v24, e25, h⟩ := zB_bind h
          refine V_iald Z e25 (show decode cX5_mend 95 = .ok (.iaload, 1) by decide +kernel) ?_
          exact V_iretM Z hE h (show decode cX5_mend 96 = .ok (.ireturn, 1) by decide +kernel)
        · have h := zB_neg c15 h
          refine V_aload_n 0 Z rfl rfl (show decode cX5_mend 44 = .ok (.aload_n 0, 1) by decide +kernel) ?_
          refine V_iconst 4 (by decide) Z (show decode cX5_mend 45 = .ok (.iconst 4, 1) by decide +kernel) ?_
          obtain ⟨⟨v27, M28⟩, e26, h⟩ := zB_bind h
          refine V_callV (rest := []) 1 Z (ok_X5_finding  e26) cd_X5_finding zc4 (by decide) rfl w248 w250 w0 rfl (show decode cX5_mend 46 = .ok (.invokevirtual 55, 3) by decide +kernel) rfl ?_
          exact V_iretM Z hE h (show decode cX5_mend 49 = .ok (.ireturn, 1) by decide +kernel)
      · have h := zB_pos c12 h
        refine V_sub [0] rfl ?_
        exact J25 _ h
def f_X5_wears (x1 : Int32) (M : zM) : Option (Int32 × zM) :=
  (f_X5_isPerson x1 M).bind fun (v2 : Int32) =>
  if v2 = 0 then
    (f_X5_finding 0 M).bind fun ((v9, M10) : Int32 × zM) =>
    some ((v9, M10))
  else
    (f_X0_draw 1 (M 1 9) M).bind fun (M5 : zM) =>
    (zrd M5 11 x1).bind fun (v6 : Int32) =>
    some ((v6, M5))
theorem cd_X5_wears : zCd yX5_wears cX5_wears 2 (some .int) 1 := ⟨w406, w64, ⟨by decide, by decide⟩, by decide +kernel⟩
set_option maxHeartbeats 4000000 in
set_option maxRecDepth 20000 in
theorem ok_X5_wears {x1 : Int32} {M : zM} {y : Int32 × zM}  (h : f_X5_wears x1 M = some y) : zRuns yX5_wears cX5_wears 2 (some .int) 3 68 [.ref 0, .int x1] M (some (.int y.1)) y.2 := by
  refine zRuns_of (by decide +kernel) (Nat.le_of_ble_eq_true rfl) (fun E Z hE => ?_)
  have h := zB_top h
  change VV E 2 0 [(0, Value.ref 0), (1, Value.int x1)] [] M
  refine V_iload_n 1 Z rfl rfl (show decode cX5_wears 0 = .ok (.iload_n 1, 1) by decide +kernel) ?_
  obtain ⟨v2, e1, h⟩ := zB_bind h
  refine V_callS (rest := []) 1 Z (ok_X5_isPerson  e1) cd_X5_isPerson w300 w301 rfl (show decode cX5_wears 1 = .ok (.invokestatic 108, 3) by decide +kernel) rfl ?_
  refine V_if_ne 13 Z (by decide) (show decode cX5_wears 4 = .ok (.ifCond .ne 9, 3) by decide +kernel) (fun c3 => ?_) (fun c3 => ?_)
  · have h := zB_neg c3 h
    refine V_aload_n 0 Z rfl rfl (show decode cX5_wears 13 = .ok (.aload_n 0, 1) by decide +kernel) ?_
    refine V_getR 0 1 Z zc4 (by decide) rfl (by decide) rfl (by decide) ⟨rfl, rfl, rfl⟩ w216 (show decode cX5_wears 14 = .ok (.getfield 10, 3) by decide +kernel) ?_
    refine V_aload_n 0 Z rfl rfl (show decode cX5_wears 17 = .ok (.aload_n 0, 1) by decide +kernel) ?_
    refine V_getR 0 1 Z zc4 (by decide) rfl (by decide) rfl (by decide) ⟨rfl, rfl, rfl⟩ w216 (show decode cX5_wears 18 = .ok (.getfield 10, 3) by decide +kernel) ?_
    refine V_getI 9 Z zc0 (isH_lt isH_1) (shH isH_1) (by decide) rfl ⟨rfl, rfl, rfl⟩ w114 (show decode cX5_wears 21 = .ok (.getfield 123, 3) by decide +kernel) ?_
    obtain ⟨M5, e4, h⟩ := zB_bind h
    refine V_callV (rest := []) 1 Z (ok_X0_draw isH_1 e4) cd_X0_draw zc0 (isH_lt isH_1) (shH isH_1) w407 w340 w341 rfl (show decode cX5_wears 24 = .ok (.invokevirtual 158, 3) by decide +kernel) rfl ?_
    refine V_aload_n 0 Z rfl rfl (show decode cX5_wears 27 = .ok (.aload_n 0, 1) by decide +kernel) ?_
    refine V_getR 0 1 Z zc4 (by decide) rfl (by decide) rfl (by decide) ⟨rfl, rfl, rfl⟩ w216 (show decode cX5_wears 28 = .ok (.getfield 10, 3) by decide +kernel) ?_
    refine V_getR 14 11 Z zc0 (isH_lt isH_1) (shH isH_1) (by decide) rfl (by decide) ⟨rfl, rfl, rfl⟩ w125 (show decode cX5_wears 31 = .ok (.getfield 161, 3) by decide +kernel) ?_
    refine V_iload_n 1 Z rfl rfl (show decode cX5_wears 34 = .ok (.iload_n 1, 1) by decide +kernel) ?_
    obtain ⟨v6, e7, h⟩ := zB_bind h
    refine V_iald Z e7 (show decode cX5_wears 35 = .ok (.iaload, 1) by decide +kernel) ?_
    exact V_iretM Z hE h (show decode cX5_wears 36 = .ok (.ireturn, 1) by decide +kernel)
  · have h := zB_pos c3 h
    refine V_aload_n 0 Z rfl rfl (show decode cX5_wears 7 = .ok (.aload_n 0, 1) by decide +kernel) ?_
    refine V_iconst 0 (by decide) Z (show decode cX5_wears 8 = .ok (.iconst 0, 1) by decide +kernel) ?_
    obtain ⟨⟨v9, M10⟩, e8, h⟩ := zB_bind h
    refine V_callV (rest := []) 1 Z (ok_X5_finding  e8) cd_X5_finding zc4 (by decide) rfl w248 w250 w0 rfl (show decode cX5_wears 9 = .ok (.invokevirtual 55, 3) by decide +kernel) rfl ?_
    exact V_iretM Z hE h (show decode cX5_wears 12 = .ok (.ireturn, 1) by decide +kernel)
def f_X5_ahead_j17 (M : zM) : Option (Int32 × zM) :=
  (f_X5_finding 0 M).bind fun ((v2, M3) : Int32 × zM) =>
  some ((v2, M3))
def f_X5_ahead (x1 : Int32) (x2 : Int32) (M : zM) : Option (Int32 × zM) :=
  (f_X5_isPerson x1 M).bind fun (v5 : Int32) =>
  if v5 = 0 then
    f_X5_ahead_j17  M
  else
    (f_X5_within x2 0 100 M).bind fun (v8 : Int32) =>
    if v8 = 0 then
      f_X5_ahead_j17  M
    else
      (f_X0_become 23 1 M).bind fun (M11 : zM) =>
      (f_X0_pass 23 x2 M11).bind fun (M13 : zM) =>
      (zrd M13 29 x1).bind fun (v14 : Int32) =>
      some ((v14, M13))
theorem cd_X5_ahead : zCd yX5_ahead cX5_ahead 3 (some .int) 2 := ⟨w411, w64, ⟨by decide, by decide⟩, by decide +kernel⟩
set_option maxHeartbeats 4000000 in
set_option maxRecDepth 20000 in
theorem ok_X5_ahead {x1 : Int32} {x2 : Int32} {M : zM} {y : Int32 × zM}  (h : f_X5_ahead x1 x2 M = some y) : zRuns yX5_ahead cX5_ahead 3 (some .int) 5 113 [.ref 0, .int x1, .int x2] M (some (.int y.1)) y.2 := by
  refine zRuns_of (by decide +kernel) (Nat.le_of_ble_eq_true rfl) (fun E Z hE => ?_)
  have h := zB_top h
  change VV E 3 0 [(0, Value.ref 0), (1, Value.int x1), (2, Value.int x2)] [] M
  have J17 : ∀ (M : zM), (f_X5_ahead_j17  M).bind some = some y → VV E 3 17 [(0, Value.ref 0)] [] M := by
    intro  M h
    refine V_aload_n 0 Z rfl rfl (show decode cX5_ahead 17 = .ok (.aload_n 0, 1) by decide +kernel) ?_
    refine V_iconst 0 (by decide) Z (show decode cX5_ahead 18 = .ok (.iconst 0, 1) by decide +kernel) ?_
    obtain ⟨⟨v2, M3⟩, e1, h⟩ := zB_bind h
    refine V_callV (rest := []) 1 Z (ok_X5_finding  e1) cd_X5_finding zc4 (by decide) rfl w248 w250 w0 rfl (show decode cX5_ahead 19 = .ok (.invokevirtual 55, 3) by decide +kernel) rfl ?_
    exact V_iretM Z hE h (show decode cX5_ahead 22 = .ok (.ireturn, 1) by decide +kernel)
  refine V_iload_n 1 Z rfl rfl (show decode cX5_ahead 0 = .ok (.iload_n 1, 1) by decide +kernel) ?_
  obtain ⟨v5, e4, h⟩ := zB_bind h
  refine V_callS (rest := []) 1 Z (ok_X5_isPerson  e4) cd_X5_isPerson w300 w301 rfl (show decode cX5_ahead 1 = .ok (.invokestatic 108, 3) by decide +kernel) rfl ?_
  refine V_if_eq 17 Z (by decide) (show decode cX5_ahead 4 = .ok (.ifCond .eq 13, 3) by decide +kernel) (fun c6 => ?_) (fun c6 => ?_)
  · have h := zB_pos c6 h
    refine V_sub [0] rfl ?_
    exact J17 _ h
  · have h := zB_neg c6 h
    refine V_iload_n 2 Z rfl rfl (show decode cX5_ahead 7 = .ok (.iload_n 2, 1) by decide +kernel) ?_
    refine V_iconst 0 (by decide) Z (show decode cX5_ahead 8 = .ok (.iconst 0, 1) by decide +kernel) ?_
    refine V_bipush 100 (by decide) Z (show decode cX5_ahead 9 = .ok (.bipush 100, 2) by decide +kernel) ?_
    obtain ⟨v8, e7, h⟩ := zB_bind h
    refine V_callS (rest := []) 3 Z (ok_X5_within  e7) cd_X5_within w245 w246 rfl (show decode cX5_ahead 11 = .ok (.invokestatic 51, 3) by decide +kernel) rfl ?_
    refine V_if_ne 23 Z (by decide) (show decode cX5_ahead 14 = .ok (.ifCond .ne 9, 3) by decide +kernel) (fun c9 => ?_) (fun c9 => ?_)
    · have h := zB_neg c9 h
      refine V_aload_n 0 Z rfl rfl (show decode cX5_ahead 23 = .ok (.aload_n 0, 1) by decide +kernel) ?_
      refine V_getR 2 23 Z zc4 (by decide) rfl (by decide) rfl (by decide) ⟨rfl, rfl, rfl⟩ w218 (show decode cX5_ahead 24 = .ok (.getfield 19, 3) by decide +kernel) ?_
      refine V_aload_n 0 Z rfl rfl (show decode cX5_ahead 27 = .ok (.aload_n 0, 1) by decide +kernel) ?_
      refine V_getR 0 1 Z zc4 (by decide) rfl (by decide) rfl (by decide) ⟨rfl, rfl, rfl⟩ w216 (show decode cX5_ahead 28 = .ok (.getfield 10, 3) by decide +kernel) ?_
      obtain ⟨M11, e10, h⟩ := zB_bind h
      refine V_callV (rest := []) 1 Z (ok_X0_become isH_23 isH_1 e10) cd_X0_become zc0 (isH_lt isH_23) (shH isH_23) w412 w413 w414 rfl (show decode cX5_ahead 31 = .ok (.invokevirtual 164, 3) by decide +kernel) rfl ?_
      refine V_aload_n 0 Z rfl rfl (show decode cX5_ahead 34 = .ok (.aload_n 0, 1) by decide +kernel) ?_
      refine V_getR 2 23 Z zc4 (by decide) rfl (by decide) rfl (by decide) ⟨rfl, rfl, rfl⟩ w218 (show decode cX5_ahead 35 = .ok (.getfield 19, 3) by decide +kernel) ?_
      refine V_iload_n 2 Z rfl rfl (show decode cX5_ahead 38 = .ok (.iload_n 2, 1) by decide +kernel) ?_
      obtain ⟨M13, e12, h⟩ := zB_bind h
      refine V_callV (rest := []) 1 Z (ok_X0_pass isH_23 e12) cd_X0_pass zc0 (isH_lt isH_23) (shH isH_23) w331 w332 w333 rfl (show decode cX5_ahead 39 = .ok (.invokevirtual 136, 3) by decide +kernel) rfl ?_
      refine V_aload_n 0 Z rfl rfl (show decode cX5_ahead 42 = .ok (.aload_n 0, 1) by decide +kernel) ?_
      refine V_getR 2 23 Z zc4 (by decide) rfl (by decide) rfl (by decide) ⟨rfl, rfl, rfl⟩ w218 (show decode cX5_ahead 43 = .ok (.getfield 19, 3) by decide +kernel) ?_
      refine V_getR 6 29 Z zc0 (isH_lt isH_23) (shH isH_23) (by decide) rfl (by decide) ⟨rfl, rfl, rfl⟩ w106 (show decode cX5_ahead 46 = .ok (.getfield 111, 3) by decide +kernel) ?_
      refine V_iload_n 1 Z rfl rfl (show decode cX5_ahead 49 = .ok (.iload_n 1, 1) by decide +kernel) ?_
      obtain ⟨v14, e15, h⟩ := zB_bind h
      refine V_iald Z e15 (show decode cX5_ahead 50 = .ok (.iaload, 1) by decide +kernel) ?_
      exact V_iretM Z hE h (show decode cX5_ahead 51 = .ok (.ireturn, 1) by decide +kernel)
    · have h := zB_pos c9 h
      refine V_sub [0] rfl ?_
      exact J17 _ h
