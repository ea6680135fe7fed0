/-! Generated walks: X5_write X5_copy X5_load X5_judge X5_image X5_undo X5_tear -/
def f_X5_write (x1 : Int32) (x2 : Int32) (x3 : Int32) (M : zM) : Option (Int32 × zM) :=
  (f_X5_isSheet x1 M).bind fun (v2 : Int32) =>
  if v2 = 0 then
    (f_X5_finding 0 M).bind fun ((v23, M24) : Int32 × zM) =>
    some ((v23, M24))
  else
    (zrr 37 x1).bind fun (q4 : Nat) =>
    if (M q4 1) = 0 then
      (f_X5_finding 5 M).bind fun ((v20, M21) : Int32 × zM) =>
      some ((v20, M21))
    else
      (zrr 37 x1).bind fun (q7 : Nat) =>
      (f_X5_within x2 0 ((M q7 2) - 1) M).bind fun (v10 : Int32) =>
      if v10 = 0 then
        (f_X5_finding 0 M).bind fun ((v17, M18) : Int32 × zM) =>
        some ((v17, M18))
      else
        (zrr 37 x1).bind fun (q12 : Nat) =>
        (f_X3_put q12 x2 x3 M).bind fun (M15 : zM) =>
        some ((1, M15))
theorem cd_X5_write : zCd yX5_write cX5_write 4 (some .int) 3 := ⟨w705, w64, ⟨by decide, by decide⟩, by decide +kernel⟩
set_option maxHeartbeats 4000000 in
set_option maxRecDepth 20000 in
theorem ok_X5_write {x1 : Int32} {x2 : Int32} {x3 : Int32} {M : zM} {y : Int32 × zM}  (h : f_X5_write x1 x2 x3 M = some y) : zRuns yX5_write cX5_write 4 (some .int) 2 42 [.ref 0, .int x1, .int x2, .int x3] M (some (.int y.1)) y.2 := by
  refine zRuns_of (by decide +kernel) (Nat.le_of_ble_eq_true rfl) (fun E Z hE => ?_)
  have h := zB_top h
  change VV E 4 0 [(0, Value.ref 0), (1, Value.int x1), (2, Value.int x2), (3, Value.int x3)] [] M
  refine V_iload_n 1 Z rfl rfl (show decode cX5_write 0 = .ok (.iload_n 1, 1) by decide +kernel) ?_
  obtain ⟨v2, e1, h⟩ := zB_bind h
  refine V_callS (rest := []) 1 Z (ok_X5_isSheet  e1) cd_X5_isSheet w513 w514 rfl (show decode cX5_write 1 = .ok (.invokestatic 230, 3) by decide +kernel) rfl ?_
  refine V_if_ne 13 Z (by decide) (show decode cX5_write 4 = .ok (.ifCond .ne 9, 3) by decide +kernel) (fun c3 => ?_) (fun c3 => ?_)
  · have h := zB_neg c3 h
    refine V_aload_n 0 Z rfl rfl (show decode cX5_write 13 = .ok (.aload_n 0, 1) by decide +kernel) ?_
    refine V_getR 5 37 Z zc4 (by decide) rfl (by decide) rfl (by decide) ⟨rfl, rfl, rfl⟩ w221 (show decode cX5_write 14 = .ok (.getfield 38, 3) by decide +kernel) ?_
    refine V_iload_n 1 Z rfl rfl (show decode cX5_write 17 = .ok (.iload_n 1, 1) by decide +kernel) ?_
    obtain ⟨q4, e5, h⟩ := zB_bind h
    refine V_aald 1 Z e5 (by decide) (fun _ => rfl) (by intro rs h; cases h; rfl) (show decode cX5_write 18 = .ok (.aaload, 1) by decide +kernel) ?_
    have hq4 := zrr_S e5
    refine V_getI 1 Z zc2 (isS_lt hq4) (shS hq4) (by decide) rfl ⟨rfl, rfl, rfl⟩ w205 (show decode cX5_write 19 = .ok (.getfield 238, 3) by decide +kernel) ?_
    refine V_if_ne 31 Z (by decide) (show decode cX5_write 22 = .ok (.ifCond .ne 9, 3) by decide +kernel) (fun c6 => ?_) (fun c6 => ?_)
    · have h := zB_neg c6 h
      refine V_iload_n 2 Z rfl rfl (show decode cX5_write 31 = .ok (.iload_n 2, 1) by decide +kernel) ?_
      refine V_iconst 0 (by decide) Z (show decode cX5_write 32 = .ok (.iconst 0, 1) by decide +kernel) ?_
      refine V_aload_n 0 Z rfl rfl (show decode cX5_write 33 = .ok (.aload_n 0, 1) by decide +kernel) ?_
      refine V_getR 5 37 Z zc4 (by decide) rfl (by decide) rfl (by decide) ⟨rfl, rfl, rfl⟩ w221 (show decode cX5_write 34 = .ok (.getfield 38, 3) by decide +kernel) ?_
      refine V_iload_n 1 Z rfl rfl (show decode cX5_write 37 = .ok (.iload_n 1, 1) by decide +kernel) ?_
      obtain ⟨q7, e8, h⟩ := zB_bind h
      refine V_aald 1 Z e8 (by decide) (fun _ => rfl) (by intro rs h; cases h; rfl) (show decode cX5_write 38 = .ok (.aaload, 1) by decide +kernel) ?_
      have hq7 := zrr_S e8
      refine V_getI 2 Z zc2 (isS_lt hq7) (shS hq7) (by decide) rfl ⟨rfl, rfl, rfl⟩ w208 (show decode cX5_write 39 = .ok (.getfield 237, 3) by decide +kernel) ?_
      refine V_iconst 1 (by decide) Z (show decode cX5_write 42 = .ok (.iconst 1, 1) by decide +kernel) ?_
      refine V_isub Z (show decode cX5_write 43 = .ok (.isub, 1) by decide +kernel) ?_
      obtain ⟨v10, e9, h⟩ := zB_bind h
      refine V_callS (rest := []) 3 Z (ok_X5_within  e9) cd_X5_within w245 w246 rfl (show decode cX5_write 44 = .ok (.invokestatic 51, 3) by decide +kernel) rfl ?_
      refine V_if_ne 56 Z (by decide) (show decode cX5_write 47 = .ok (.ifCond .ne 9, 3) by decide +kernel) (fun c11 => ?_) (fun c11 => ?_)
      · have h := zB_neg c11 h
        refine V_aload_n 0 Z rfl rfl (show decode cX5_write 56 = .ok (.aload_n 0, 1) by decide +kernel) ?_
        refine V_getR 5 37 Z zc4 (by decide) rfl (by decide) rfl (by decide) ⟨rfl, rfl, rfl⟩ w221 (show decode cX5_write 57 = .ok (.getfield 38, 3) by decide +kernel) ?_
        refine V_iload_n 1 Z rfl rfl (show decode cX5_write 60 = .ok (.iload_n 1, 1) by decide +kernel) ?_
        obtain ⟨q12, e13, h⟩ := zB_bind h
        refine V_aald 1 Z e13 (by decide) (fun _ => rfl) (by intro rs h; cases h; rfl) (show decode cX5_write 61 = .ok (.aaload, 1) by decide +kernel) ?_
        have hq12 := zrr_S e13
        refine V_iload_n 2 Z rfl rfl (show decode cX5_write 62 = .ok (.iload_n 2, 1) by decide +kernel) ?_
        refine V_iload_n 3 Z rfl rfl (show decode cX5_write 63 = .ok (.iload_n 3, 1) by decide +kernel) ?_
        obtain ⟨M15, e14, h⟩ := zB_bind h
        refine V_callV (rest := []) 2 Z (ok_X3_put hq12 e14) cd_X3_put zc2 (isS_lt hq12) (shS hq12) w706 w707 w708 rfl (show decode cX5_write 64 = .ok (.invokevirtual 241, 3) by decide +kernel) rfl ?_
        refine V_iconst 1 (by decide) Z (show decode cX5_write 67 = .ok (.iconst 1, 1) by decide +kernel) ?_
        exact V_iretM Z hE h (show decode cX5_write 68 = .ok (.ireturn, 1) by decide +kernel)
      · have h := zB_pos c11 h
        refine V_aload_n 0 Z rfl rfl (show decode cX5_write 50 = .ok (.aload_n 0, 1) by decide +kernel) ?_
        refine V_iconst 0 (by decide) Z (show decode cX5_write 51 = .ok (.iconst 0, 1) by decide +kernel) ?_
        obtain ⟨⟨v17, M18⟩, e16, h⟩ := zB_bind h
        refine V_callV (rest := []) 1 Z (ok_X5_finding  e16) cd_X5_finding zc4 (by decide) rfl w248 w250 w0 rfl (show decode cX5_write 52 = .ok (.invokevirtual 55, 3) by decide +kernel) rfl ?_
        exact V_iretM Z hE h (show decode cX5_write 55 = .ok (.ireturn, 1) by decide +kernel)
    · have h := zB_pos c6 h
      refine V_aload_n 0 Z rfl rfl (show decode cX5_write 25 = .ok (.aload_n 0, 1) by decide +kernel) ?_
      refine V_iconst 5 (by decide) Z (show decode cX5_write 26 = .ok (.iconst 5, 1) by decide +kernel) ?_
      obtain ⟨⟨v20, M21⟩, e19, h⟩ := zB_bind h
      refine V_callV (rest := []) 1 Z (ok_X5_finding  e19) cd_X5_finding zc4 (by decide) rfl w248 w250 w0 rfl (show decode cX5_write 27 = .ok (.invokevirtual 55, 3) by decide +kernel) rfl ?_
      exact V_iretM Z hE h (show decode cX5_write 30 = .ok (.ireturn, 1) by decide +kernel)
  · have h := zB_pos c3 h
    refine V_aload_n 0 Z rfl rfl (show decode cX5_write 7 = .ok (.aload_n 0, 1) by decide +kernel) ?_
    refine V_iconst 0 (by decide) Z (show decode cX5_write 8 = .ok (.iconst 0, 1) by decide +kernel) ?_
    obtain ⟨⟨v23, M24⟩, e22, h⟩ := zB_bind h
    refine V_callV (rest := []) 1 Z (ok_X5_finding  e22) cd_X5_finding zc4 (by decide) rfl w248 w250 w0 rfl (show decode cX5_write 9 = .ok (.invokevirtual 55, 3) by decide +kernel) rfl ?_
    exact V_iretM Z hE h (show decode cX5_write 12 = .ok (.ireturn, 1) by decide +kernel)
def f_X5_copy_j108 (M : zM) : Option (Int32 × zM) :=
  (f_X5_finding 0 M).bind fun ((v2, M3) : Int32 × zM) =>
  some ((v2, M3))
def f_X5_copy_j44 (M : zM) : Option (Int32 × zM) :=
  (f_X5_finding 5 M).bind fun ((v5, M6) : Int32 × zM) =>
  some ((v5, M6))
def f_X5_copy_j14 (M : zM) : Option (Int32 × zM) :=
  (f_X5_finding 0 M).bind fun ((v8, M9) : Int32 × zM) =>
  some ((v8, M9))
def f_X5_copy (x1 : Int32) (x2 : Int32) (x3 : Int32) (x4 : Int32) (x5 : Int32) (M : zM) : Option (Int32 × zM) :=
  (f_X5_isSheet x1 M).bind fun (v11 : Int32) =>
  if v11 = 0 then
    f_X5_copy_j14  M
  else
    (f_X5_isSheet x3 M).bind fun (v14 : Int32) =>
    if v14 = 0 then
      f_X5_copy_j14  M
    else
      (zrr 37 x1).bind fun (q16 : Nat) =>
      if (M q16 1) = 0 then
        f_X5_copy_j44  M
      else
        (zrr 37 x3).bind fun (q19 : Nat) =>
        if (M q19 1) = 0 then
          f_X5_copy_j44  M
        else
          (zrr 37 x1).bind fun (q22 : Nat) =>
          (zrr 37 x3).bind fun (q24 : Nat) =>
          if (M q22 1) = (M q24 1) then
            (zrr 37 x1).bind fun (q27 : Nat) =>
            (f_X3_has q27 x2 x5 M).bind fun (v30 : Int32) =>
            if v30 = 0 then
              f_X5_copy_j108  M
            else
              (zrr 37 x3).bind fun (q32 : Nat) =>
              (f_X3_has q32 x4 x5 M).bind fun (v35 : Int32) =>
              if v35 = 0 then
                f_X5_copy_j108  M
              else
                (zrr 37 x1).bind fun (q37 : Nat) =>
                (zrr 37 x3).bind fun (q39 : Nat) =>
                (zcp M (q37 + 1) x2 (q39 + 1) x4 x5).bind fun (M41 : zM) =>
                some ((x5, M41))
          else
            (f_X5_finding 2 M).bind fun ((v44, M45) : Int32 × zM) =>
            some ((v44, M45))
theorem cd_X5_copy : zCd yX5_copy cX5_copy 6 (some .int) 5 := ⟨w713, w64, ⟨by decide, by decide⟩, by decide +kernel⟩
set_option maxHeartbeats 4000000 in
set_option maxRecDepth 20000 in
theorem ok_X5_copy {x1 : Int32} {x2 : Int32} {x3 : Int32} {x4 : Int32} {x5 : Int32} {M : zM} {y : Int32 × zM}  (h : f_X5_copy x1 x2 x3 x4 x5 M = some y) : zRuns yX5_copy cX5_copy 6 (some .int) 2 42 [.ref 0, .int x1, .int x2, .int x3, .int x4, .int x5] M (some (.int y.1)) y.2 := by
  refine zRuns_of (by decide +kernel) (Nat.le_of_ble_eq_true rfl) (fun E Z hE => ?_)
  have h := zB_top h
  change VV E 6 0 [(0, Value.ref 0), (1, Value.int x1), (2, Value.int x2), (3, Value.int x3), (4, Value.int x4), (5, Value.int x5)] [] M
  have J108 : ∀ (M : zM), (f_X5_copy_j108  M).bind some = some y → VV E 6 108 [(0, Value.ref 0)] [] M := by
    intro  M h
    refine V_aload_n 0 Z rfl rfl (show decode cX5_copy 108 = .ok (.aload_n 0, 1) by decide +kernel) ?_
    refine V_iconst 0 (by decide) Z (show decode cX5_copy 109 = .ok (.iconst 0, 1) by decide +kernel) ?_
    obtain ⟨⟨v2, M3⟩, e1, h⟩ := zB_bind h
    refine V_callV (rest := []) 1 Z (ok_X5_finding  e1) cd_X5_finding zc4 (by decide) rfl w248 w250 w0 rfl (show decode cX5_copy 110 = .ok (.invokevirtual 55, 3) by decide +kernel) rfl ?_
    exact V_iretM Z hE h (show decode cX5_copy 113 = .ok (.ireturn, 1) by decide +kernel)
  have J44 : ∀ (M : zM), (f_X5_copy_j44  M).bind some = some y → VV E 6 44 [(0, Value.ref 0)] [] M := by
    intro  M h
    refine V_aload_n 0 Z rfl rfl (show decode cX5_copy 44 = .ok (.aload_n 0, 1) by decide +kernel) ?_
    refine V_iconst 5 (by decide) Z (show decode cX5_copy 45 = .ok (.iconst 5, 1) by decide +kernel) ?_
    obtain ⟨⟨v5, M6⟩, e4, h⟩ := zB_bind h
    refine V_callV (rest := []) 1 Z (ok_X5_finding  e4) cd_X5_finding zc4 (by decide) rfl w248 w250 w0 rfl (show decode cX5_copy 46 = .ok (.invokevirtual 55, 3) by decide +kernel) rfl ?_
    exact V_iretM Z hE h (show decode cX5_copy 49 = .ok (.ireturn, 1) by decide +kernel)
  have J14 : ∀ (M : zM), (f_X5_copy_j14  M).bind some = some y → VV E 6 14 [(0, Value.ref 0)] [] M := by
    intro  M h
    refine V_aload_n 0 Z rfl rfl (show decode cX5_copy 14 = .ok (.aload_n 0, 1) by decide +kernel) ?_
    refine V_iconst 0 (by decide) Z (show decode cX5_copy 15 = .ok (.iconst 0, 1) by decide +kernel) ?_
    obtain ⟨⟨v8, M9⟩, e7, h⟩ := zB_bind h
    refine V_callV (rest := []) 1 Z (ok_X5_finding  e7) cd_X5_finding zc4 (by decide) rfl w248 w250 w0 rfl (show decode cX5_copy 16 = .ok (.invokevirtual 55, 3) by decide +kernel) rfl ?_
    exact V_iretM Z hE h (show decode cX5_copy 19 = .ok (.ireturn, 1) by decide +kernel)
  refine V_iload_n 1 Z rfl rfl (show decode cX5_copy 0 = .ok (.iload_n 1, 1) by decide +kernel) ?_
  obtain ⟨v11, e10, h⟩ := zB_bind h
  refine V_callS (rest := []) 1 Z (ok_X5_isSheet  e10) cd_X5_isSheet w513 w514 rfl (show decode cX5_copy 1 = .ok (.invokestatic 230, 3) by decide +kernel) rfl ?_
  refine V_if_eq 14 Z (by decide) (show decode cX5_copy 4 = .ok (.ifCond .eq 10, 3) by decide +kernel) (fun c12 => ?_) (fun c12 => ?_)
  · have h := zB_pos c12 h
    refine V_sub [0] rfl ?_
    exact J14 _ h
  · have h := zB_neg c12 h
    refine V_iload_n 3 Z rfl rfl (show decode cX5_copy 7 = .ok (.iload_n 3, 1) by decide +kernel) ?_
    obtain ⟨v14, e13, h⟩ := zB_bind h
    refine V_callS (rest := []) 1 Z (ok_X5_isSheet  e13) cd_X5_isSheet w513 w514 rfl (show decode cX5_copy 8 = .ok (.invokestatic 230, 3) by decide +kernel) rfl ?_
    refine V_if_ne 20 Z (by decide) (show decode cX5_copy 11 = .ok (.ifCond .ne 9, 3) by decide +kernel) (fun c15 => ?_) (fun c15 => ?_)
    · have h := zB_neg c15 h
      refine V_aload_n 0 Z rfl rfl (show decode cX5_copy 20 = .ok (.aload_n 0, 1) by decide +kernel) ?_
      refine V_getR 5 37 Z zc4 (by decide) rfl (by decide) rfl (by decide) ⟨rfl, rfl, rfl⟩ w221 (show decode cX5_copy 21 = .ok (.getfield 38, 3) by decide +kernel) ?_
      refine V_iload_n 1 Z rfl rfl (show decode cX5_copy 24 = .ok (.iload_n 1, 1) by decide +kernel) ?_
      obtain ⟨q16, e17, h⟩ := zB_bind h
      refine V_aald 1 Z e17 (by decide) (fun _ => rfl) (by intro rs h; cases h; rfl) (show decode cX5_copy 25 = .ok (.aaload, 1) by decide +kernel) ?_
      have hq16 := zrr_S e17
      refine V_getI 1 Z zc2 (isS_lt hq16) (shS hq16) (by decide) rfl ⟨rfl, rfl, rfl⟩ w205 (show decode cX5_copy 26 = .ok (.getfield 238, 3) by decide +kernel) ?_
      refine V_if_eq 44 Z (by decide) (show decode cX5_copy 29 = .ok (.ifCond .eq 15, 3) by decide +kernel) (fun c18 => ?_) (fun c18 => ?_)
      · have h := zB_pos c18 h
        refine V_sub [0] rfl ?_
        exact J44 _ h
      · have h := zB_neg c18 h
        refine V_aload_n 0 Z rfl rfl (show decode cX5_copy 32 = .ok (.aload_n 0, 1) by decide +kernel) ?_
        refine V_getR 5 37 Z zc4 (by decide) rfl (by decide) rfl (by decide) ⟨rfl, rfl, rfl⟩ w221 (show decode cX5_copy 33 = .ok (.getfield 38, 3) by decide +kernel) ?_
        refine V_iload_n 3 Z rfl rfl (show decode cX5_copy 36 = .ok (.iload_n 3, 1) by decide +kernel) ?_
        obtain ⟨q19, e20, h⟩ := zB_bind h
        refine V_aald 1 Z e20 (by decide) (fun _ => rfl) (by intro rs h; cases h; rfl) (show decode cX5_copy 37 = .ok (.aaload, 1) by decide +kernel) ?_
        have hq19 := zrr_S e20
        refine V_getI 1 Z zc2 (isS_lt hq19) (shS hq19) (by decide) rfl ⟨rfl, rfl, rfl⟩ w205 (show decode cX5_copy 38 = .ok (.getfield 238, 3) by decide +kernel) ?_
        refine V_if_ne 50 Z (by decide) (show decode cX5_copy 41 = .ok (.ifCond .ne 9, 3) by decide +kernel) (fun c21 => ?_) (fun c21 => ?_)
        · have h := zB_neg c21 h
          refine V_aload_n 0 Z rfl rfl (show decode cX5_copy 50 = .ok (.aload_n 0, 1) by decide +kernel) ?_
          refine V_getR 5 37 Z zc4 (by decide) rfl (by decide) rfl (by decide) ⟨rfl, rfl, rfl⟩ w221 (show decode cX5_copy 51 = .ok (.getfield 38, 3) by decide +kernel) ?_
          refine V_iload_n 1 Z rfl rfl (show decode cX5_copy 54 = .ok (.iload_n 1, 1) by decide +kernel) ?_
          obtain ⟨q22, e23, h⟩ := zB_bind h
          refine V_aald 1 Z e23 (by decide) (fun _ => rfl) (by intro rs h; cases h; rfl) (show decode cX5_copy 55 = .ok (.aaload, 1) by decide +kernel) ?_
          have hq22 := zrr_S e23
          refine V_getI 1 Z zc2 (isS_lt hq22) (shS hq22) (by decide) rfl ⟨rfl, rfl, rfl⟩ w205 (show decode cX5_copy 56 = .ok (.getfield 238, 3) by decide +kernel) ?_
          refine V_aload_n 0 Z rfl rfl (show decode cX5_copy 59 = .ok (.aload_n 0, 1) by decide +kernel) ?_
          refine V_getR 5 37 Z zc4 (by decide) rfl (by decide) rfl (by decide) ⟨rfl, rfl, rfl⟩ w221 (show decode cX5_copy 60 = .ok (.getfield 38, 3) by decide +kernel) ?_
          refine V_iload_n 3 Z rfl rfl (show decode cX5_copy 63 = .ok (.iload_n 3, 1) by decide +kernel) ?_
          obtain ⟨q24, e25, h⟩ := zB_bind h
          refine V_aald 1 Z e25 (by decide) (fun _ => rfl) (by intro rs h; cases h; rfl) (show decode cX5_copy 64 = .ok (.aaload, 1) by decide +kernel) ?_
          have hq24 := zrr_S e25
          refine V_getI 1 Z zc2 (isS_lt hq24) (shS hq24) (by decide) rfl ⟨rfl, rfl, rfl⟩ w205 (show decode cX5_copy 65 = .ok (.getfield 238, 3) by decide +kernel) ?_
          refine V_icmp_eq 77 Z (by decide) (show decode cX5_copy 68 = .ok (.if_icmp .eq 9, 3) by decide +kernel) (fun c26 => ?_) (fun c26 => ?_)
          · have h := zB_pos c26 h
            refine V_aload_n 0 Z rfl rfl (show decode cX5_copy 77 = .ok (.aload_n 0, 1) by decide +kernel) ?_
            refine V_getR 5 37 Z zc4 (by decide) rfl (by decide) rfl (by decide) ⟨rfl, rfl, rfl⟩ w221 (show decode cX5_copy 78 = .ok (.getfield 38, 3) by decide +kernel) ?_
            refine V_iload_n 1 Z rfl rfl (show decode cX5_copy 81 = .ok (.iload_n 1, 1) by decide +kernel) ?_
            obtain ⟨q27, e28, h⟩ := zB_bind h
            refine V_aald 1 Z e28 (by decide) (fun _ => rfl) (by intro rs h; cases h; rfl) (show decode cX5_copy 82 = .ok (.aaload, 1) by decide +kernel) ?_
            have hq27 := zrr_S e28
            refine V_iload_n 2 Z rfl rfl (show decode cX5_copy 83 = .ok (.iload_n 2, 1) by decide +kernel) ?_
            refine V_iload 5 Z rfl (show decode cX5_copy 84 = .ok (.iload 5, 2) by decide +kernel) ?_
            obtain ⟨v30, e29, h⟩ := zB_bind h
            refine V_callV (rest := []) 2 Z (ok_X3_has hq27 e29) cd_X3_has zc2 (isS_lt hq27) (shS hq27) w714 w715 w716 rfl (show decode cX5_copy 86 = .ok (.invokevirtual 244, 3) by decide +kernel) rfl ?_
            refine V_if_eq 108 Z (by decide) (show decode cX5_copy 89 = .ok (.ifCond .eq 19, 3) by decide +kernel) (fun c31 => ?_) (fun c31 => ?_)
            · have h := zB_pos c31 h
              refine V_sub [0] rfl ?_
              exact J108 _ h
            · have h := zB_neg c31 h
              refine V_aload_n 0 Z rfl rfl (show decode cX5_copy 92 = .ok (.aload_n 0, 1) by decide +kernel) ?_
              refine V_getR 5 37 Z zc4 (by decide) rfl (by decide) rfl (by decide) ⟨rfl, rfl, rfl⟩ w221 (show decode cX5_copy 93 = .ok (.getfield 38, 3) by decide +kernel) ?_
              refine V_iload_n 3 Z rfl rfl (show decode cX5_copy 96 = .ok (.iload_n 3, 1) by decide +kernel) ?_
              obtain ⟨q32, e33, h⟩ := zB_bind h
              refine V_aald 1 Z e33 (by decide) (fun _ => rfl) (by intro rs h; cases h; rfl) (show decode cX5_copy 97 = .ok (.aaload, 1) by decide +kernel) ?_
              have hq32 := zrr_S e33
              refine V_iload 4 Z rfl (show decode cX5_copy 98 = .ok (.iload 4, 2) by decide +kernel) ?_
              refine V_iload 5 Z rfl (show decode cX5_copy 100 = .ok (.iload 5, 2) by decide +kernel) ?_
              obtain ⟨v35, e34, h⟩ := zB_bind h
              refine V_callV (rest := []) 2 Z (ok_X3_has hq32 e34) cd_X3_has zc2 (isS_lt hq32) (shS hq32) w714 w715 w716 rfl (show decode cX5_copy 102 = .ok (.invokevirtual 244, 3) by decide +kernel) rfl ?_
              refine V_if_ne 114 Z (by decide) (show decode cX5_copy 105 = .ok (.ifCond .ne 9, 3) by decide +kernel) (fun c36 => ?_) (fun c36 => ?_)
              · have h := zB_neg c36 h
                refine V_aload_n 0 Z rfl rfl (show decode cX5_copy 114 = .ok (.aload_n 0, 1) by decide +kernel) ?_
                refine V_getR 5 37 Z zc4 (by decide) rfl (by decide) rfl (by decide) ⟨rfl, rfl, rfl⟩ w221 (show decode cX5_copy 115 = .ok (.getfield 38, 3) by decide +kernel) ?_
                refine V_iload_n 1 Z rfl rfl (show decode cX5_copy 118 = .ok (.iload_n 1, 1) by decide +kernel) ?_
                obtain ⟨q37, e38, h⟩ := zB_bind h
                refine V_aald 1 Z e38 (by decide) (fun _ => rfl) (by intro rs h; cases h; rfl) (show decode cX5_copy 119 = .ok (.aaload, 1) by decide +kernel) ?_
                have hq37 := zrr_S e38
                refine V_getR 0 (q37 + 1) Z zc2 (isS_lt hq37) (shS hq37) (by decide) rfl (isS_ne hq37 1) ⟨rfl, rfl, rfl⟩ w203 (show decode cX5_copy 120 = .ok (.getfield 247, 3) by decide +kernel) ?_
                refine V_iload_n 2 Z rfl rfl (show decode cX5_copy 123 = .ok (.iload_n 2, 1) by decide +kernel) ?_
                refine V_aload_n 0 Z rfl rfl (show decode cX5_copy 124 = .ok (.aload_n 0, 1) by decide +kernel) ?_
                refine V_getR 5 37 Z zc4 (by decide) rfl (by decide) rfl (by decide) ⟨rfl, rfl, rfl⟩ w221 (show decode cX5_copy 125 = .ok (.getfield 38, 3) by decide +kernel) ?_
                refine V_iload_n 3 Z rfl rfl (show decode cX5_copy 128 = .ok (.iload_n 3, 1) by decide +kernel) ?_
                obtain ⟨q39, e40, h⟩ := zB_bind h
                refine V_aald 1 Z e40 (by decide) (fun _ => rfl) (by intro rs h; cases h; rfl) (show decode cX5_copy 129 = .ok (.aaload, 1) by decide +kernel) ?_
                have hq39 := zrr_S e40
                refine V_getR 0 (q39 + 1) Z zc2 (isS_lt hq39) (shS hq39) (by decide) rfl (isS_ne hq39 1) ⟨rfl, rfl, rfl⟩ w203 (show decode cX5_copy 130 = .ok (.getfield 247, 3) by decide +kernel) ?_
                refine V_iload 4 Z rfl (show decode cX5_copy 133 = .ok (.iload 4, 2) by decide +kernel) ?_
                refine V_iload 5 Z rfl (show decode cX5_copy 135 = .ok (.iload 5, 2) by decide +kernel) ?_
                obtain ⟨M41, e42, h⟩ := zB_bind h
                refine V_copy Z e42 (isS_ltp hq37 1) (isS_ltp hq39 1) w718 w418 w417 w73 (show decode cX5_copy 137 = .ok (.invokestatic 250, 3) by decide +kernel) rfl ?_
                refine V_iload 5 Z rfl (show decode cX5_copy 140 = .ok (.iload 5, 2) by decide +kernel) ?_
                exact V_iretM Z hE h (show decode cX5_copy 142 = .ok (.ireturn, 1) by decide +kernel)
              · have h := zB_pos c36 h
                refine V_sub [0] rfl ?_
                exact J108 _ h
          · have h := zB_neg c26 h
            refine V_aload_n 0 Z rfl rfl (show decode cX5_copy 71 = .ok (.aload_n 0, 1) by decide +kernel) ?_
            refine V_iconst 2 (by decide) Z (show decode cX5_copy 72 = .ok (.iconst 2, 1) by decide +kernel) ?_
            obtain ⟨⟨v44, M45⟩, e43, h⟩ := zB_bind h
            refine V_callV (rest := []) 1 Z (ok_X5_finding  e43) cd_X5_finding zc4 (by decide) rfl w248 w250 w0 rfl (show decode cX5_copy 73 = .ok (.invokevirtual 55, 3) by decide +kernel) rfl ?_
            exact V_iretM Z hE h (show decode cX5_copy 76 = .ok (.ireturn, 1) by decide +kernel)
        · have h := zB_pos c21 h
          refine V_sub [0] rfl ?_
          exact J44 _ h
    · have h := zB_pos c15 h
      refine V_sub [0] rfl ?_
      exact J14 _ h
def f_X5_load_l35 (y2 : Nat) : Int32 × zM → Option ((Int32 × zM) ⊕ (Int32 × zM))
  | (y3, M) =>
    if (M y2 2) ≤ y3 then
      some (.inr ((y3, M)))
    else
      if 6 ≤ y3 then
        some (.inr ((y3, M)))
      else
        (zrd M (y2 + 1) y3).bind fun (v9 : Int32) =>
        (f_X5_within v9 0 9999 M).bind fun (v12 : Int32) =>
        if v12 = 0 then
          some (.inr ((y3, M)))
        else
          (zrd M (y2 + 1) y3).bind fun (v14 : Int32) =>
          (zwr M 7 y3 v14).bind fun (M16 : zM) =>
          (some (y3 + 1)).bind fun (n18 : Int32) =>
          some (.inl ((n18, M16)))
def f_X5_load (x1 : Int32) (M : zM) : Option (Int32 × zM) :=
  (f_X5_isSheet x1 M).bind fun (v2 : Int32) =>
  if v2 = 0 then
    (f_X5_finding 0 M).bind fun ((v24, M25) : Int32 × zM) =>
    some ((v24, M25))
  else
    (zrr 37 x1).bind fun (q4 : Nat) =>
    if (M q4 1) = 0 then
      (f_X5_finding 5 M).bind fun ((v21, M22) : Int32 × zM) =>
      some ((v21, M22))
    else
      zIter (f_X5_load_l35 q4) 1000 (0, M)
theorem cd_X5_load : zCd yX5_load cX5_load 4 (some .int) 1 := ⟨w722, w64, ⟨by decide, by decide⟩, by decide +kernel⟩
set_option maxHeartbeats 4000000 in
set_option maxRecDepth 20000 in
theorem ok_X5_load {x1 : Int32} {M : zM} {y : Int32 × zM}  (h : f_X5_load x1 M = some y) : zRuns yX5_load cX5_load 4 (some .int) 2 42 [.ref 0, .int x1] M (some (.int y.1)) y.2 := by
  refine zRuns_of (by decide +kernel) (Nat.le_of_ble_eq_true rfl) (fun E Z hE => ?_)
  have h := zB_top h
  change VV E 4 0 [(0, Value.ref 0), (1, Value.int x1)] [] M
  refine V_iload_n 1 Z rfl rfl (show decode cX5_load 0 = .ok (.iload_n 1, 1) by decide +kernel) ?_
  obtain ⟨v2, e1, h⟩ := zB_bind h
  refine V_callS (rest := []) 1 Z (ok_X5_isSheet  e1) cd_X5_isSheet w513 w514 rfl (show decode cX5_load 1 = .ok (.invokestatic 230, 3) by decide +kernel) rfl ?_
  refine V_if_ne 13 Z (by decide) (show decode cX5_load 4 = .ok (.ifCond .ne 9, 3) by decide +kernel) (fun c3 => ?_) (fun c3 => ?_)
  · have h := zB_neg c3 h
    refine V_aload_n 0 Z rfl rfl (show decode cX5_load 13 = .ok (.aload_n 0, 1) by decide +kernel) ?_
    refine V_getR 5 37 Z zc4 (by decide) rfl (by decide) rfl (by decide) ⟨rfl, rfl, rfl⟩ w221 (show decode cX5_load 14 = .ok (.getfield 38, 3) by decide +kernel) ?_
    refine V_iload_n 1 Z rfl rfl (show decode cX5_load 17 = .ok (.iload_n 1, 1) by decide +kernel) ?_
    obtain ⟨q4, e5, h⟩ := zB_bind h
    refine V_aald 1 Z e5 (by decide) (fun _ => rfl) (by intro rs h; cases h; rfl) (show decode cX5_load 18 = .ok (.aaload, 1) by decide +kernel) ?_
    have hq4 := zrr_S e5
    refine V_astore_n [(2, Value.ref q4), (0, Value.ref 0), (1, Value.int x1)] Z (by decide) rfl rfl (show decode cX5_load 19 = .ok (.astore_n 2, 1) by decide +kernel) ?_
    refine V_aload_n 0 Z rfl rfl (show decode cX5_load 20 = .ok (.aload_n 2, 1) by decide +kernel) ?_
    refine V_getI 1 Z zc2 (isS_lt hq4) (shS hq4) (by decide) rfl ⟨rfl, rfl, rfl⟩ w205 (show decode cX5_load 21 = .ok (.getfield 238, 3) by decide +kernel) ?_
    refine V_if_ne 33 Z (by decide) (show decode cX5_load 24 = .ok (.ifCond .ne 9, 3) by decide +kernel) (fun c6 => ?_) (fun c6 => ?_)
    · have h := zB_neg c6 h
      refine V_iconst 0 (by decide) Z (show decode cX5_load 33 = .ok (.iconst 0, 1) by decide +kernel) ?_
      refine V_istore_n [(3, Value.int 0), (2, Value.ref q4), (0, Value.ref 0), (1, Value.int x1)] Z (by decide) rfl rfl (show decode cX5_load 34 = .ok (.istore_n 3, 1) by decide +kernel) ?_
      refine V_sub [2, 1, 0] rfl ?_
      refine zIter_loop' (K := some) (fun s : Int32 × zM => VV E 4 35 [(0, Value.ref 0), (2, Value.ref q4), (3, Value.int s.1)] [] s.2) (fun K1 s c1_i c1_r h => ?_) _ _ h
      obtain ⟨y3, M⟩ := s
      change VV E 4 35 [(0, Value.ref 0), (2, Value.ref q4), (3, Value.int y3)] [] M
      refine V_iload_n 2 Z rfl rfl (show decode cX5_load 35 = .ok (.iload_n 3, 1) by decide +kernel) ?_
      refine V_aload_n 1 Z rfl rfl (show decode cX5_load 36 = .ok (.aload_n 2, 1) by decide +kernel) ?_
      refine V_getI 2 Z zc2 (isS_lt hq4) (shS hq4) (by decide) rfl ⟨rfl, rfl, rfl⟩ w208 (show decode cX5_load 37 = .ok (.getfield 237, 3) by decide +kernel) ?_
      refine V_icmp_ge 86 Z (by decide) (show decode cX5_load 40 = .ok (.if_icmp .ge 46, 3) by decide +kernel) (fun c7 => ?_) (fun c7 => ?_)
      · have h := zB_pos c7 h
        refine V_iload_n 2 Z rfl rfl (show decode cX5_load 86 = .ok (.iload_n 3, 1) by decide +kernel) ?_
        have h := c1_r _ h
        exact V_iretM Z hE h (show decode cX5_load 87 = .ok (.ireturn, 1) by decide +kernel)
      · have h := zB_neg c7 h
        refine V_iload_n 2 Z rfl rfl (show decode cX5_load 43 = .ok (.iload_n 3, 1) by decide +kernel) ?_
        refine V_bipush 6 (by decide) Z (show decode cX5_load 44 = .ok (.bipush 6, 2) by decide +kernel) ?_
        refine V_icmp_ge 86 Z (by decide) (show decode cX5_load 46 = .ok (.if_icmp .ge 40, 3) by decide +kernel) (fun c8 => ?_) (fun c8 => ?_)
        · have h := zB_pos c8 h
          refine V_iload_n 2 Z rfl rfl (show decode cX5_load 86 = .ok (.iload_n 3, 1) by decide +kernel) ?_
          have h := c1_r _ h
          exact V_iretM Z hE h (show decode cX5_load 87 = .ok (.ireturn, 1) by decide +kernel)
        · have h := zB_neg c8 h
          refine V_aload_n 1 Z rfl rfl (show decode cX5_load 49 = .ok (.aload_n 2, 1) by decide +kernel) ?_
          refine V_getR 0 (q4 + 1) Z zc2 (isS_lt hq4) (shS hq4) (by decide) rfl (isS_ne hq4 1) ⟨rfl, rfl, rfl⟩ w203 (show decode cX5_load 50 = .ok (.getfield 247, 3) by decide +kernel) ?_
          refine V_iload_n 2 Z rfl rfl (show decode cX5_load 53 = .ok (.iload_n 3, 1) by decide +kernel) ?_
          obtain ⟨v9, e10, h⟩ := zB_bind h
          refine V_iald Z e10 (show decode cX5_load 54 = .ok (.iaload, 1) by decide +kernel) ?_
          refine V_iconst 0 (by decide) Z (show decode cX5_load 55 = .ok (.iconst 0, 1) by decide +kernel) ?_
          refine V_sipush 9999 (by decide) Z (show decode cX5_load 56 = .ok (.sipush 9999, 3) by decide +kernel) ?_
          obtain ⟨v12, e11, h⟩ := zB_bind h
          refine V_callS (rest := []) 3 Z (ok_X5_within  e11) cd_X5_within w245 w246 rfl (show decode cX5_load 59 = .ok (.invokestatic 51, 3) by decide +kernel) rfl ?_
          refine V_if_eq 86 Z (by decide) (show decode cX5_load 62 = .ok (.ifCond .eq 24, 3) by decide +kernel) (fun c13 => ?_) (fun c13 => ?_)
          · have h := zB_pos c13 h
            refine V_iload_n 2 Z rfl rfl (show decode cX5_load 86 = .ok (.iload_n 3, 1) by decide +kernel) ?_
            have h := c1_r _ h
            exact V_iretM Z hE h (show decode cX5_load 87 = .ok (.ireturn, 1) by decide +kernel)
          · have h := zB_neg c13 h
            refine V_aload_n 0 Z rfl rfl (show decode cX5_load 65 = .ok (.aload_n 0, 1) by decide +kernel) ?_
            refine V_getR 0 1 Z zc4 (by decide) rfl (by decide) rfl (by decide) ⟨rfl, rfl, rfl⟩ w216 (show decode cX5_load 66 = .ok (.getfield 10, 3) by decide +kernel) ?_
            refine V_getR 6 7 Z zc0 (isH_lt isH_1) (shH isH_1) (by decide) rfl (by decide) ⟨rfl, rfl, rfl⟩ w106 (show decode cX5_load 69 = .ok (.getfield 111, 3) by decide +kernel) ?_
            refine V_iload_n 2 Z rfl rfl (show decode cX5_load 72 = .ok (.iload_n 3, 1) by decide +kernel) ?_
            refine V_aload_n 1 Z rfl rfl (show decode cX5_load 73 = .ok (.aload_n 2, 1) by decide +kernel) ?_
            refine V_getR 0 (q4 + 1) Z zc2 (isS_lt hq4) (shS hq4) (by decide) rfl (isS_ne hq4 1) ⟨rfl, rfl, rfl⟩ w203 (show decode cX5_load 74 = .ok (.getfield 247, 3) by decide +kernel) ?_
            refine V_iload_n 2 Z rfl rfl (show decode cX5_load 77 = .ok (.iload_n 3, 1) by decide +kernel) ?_
            obtain ⟨v14, e15, h⟩ := zB_bind h
            refine V_iald Z e15 (show decode cX5_load 78 = .ok (.iaload, 1) by decide +kernel) ?_
            obtain ⟨M16, e17, h⟩ := zB_bind h
            refine V_iast Z e17 (show decode cX5_load 79 = .ok (.iastore, 1) by decide +kernel) ?_
            obtain ⟨n18, e19, h⟩ := zB_let h
            refine V_iinck 1 1 2 n18 [(3, Value.int n18), (0, Value.ref 0), (2, Value.ref q4)] Z (by decide) (by decide) rfl e19 rfl (show decode cX5_load 80 = .ok (.iinc 3 1, 3) by decide +kernel) ?_
            refine V_goto 35 Z (by decide) (show decode cX5_load 83 = .ok (.goto (-48), 3) by decide +kernel) ?_
            refine V_sub [1, 2, 0] rfl ?_
            exact c1_i _ h
    · have h := zB_pos c6 h
      refine V_aload_n 1 Z rfl rfl (show decode cX5_load 27 = .ok (.aload_n 0, 1) by decide +kernel) ?_
      refine V_iconst 5 (by decide) Z (show decode cX5_load 28 = .ok (.iconst 5, 1) by decide +kernel) ?_
      obtain ⟨⟨v21, M22⟩, e20, h⟩ := zB_bind h
      refine V_callV (rest := []) 1 Z (ok_X5_finding  e20) cd_X5_finding zc4 (by decide) rfl w248 w250 w0 rfl (show decode cX5_load 29 = .ok (.invokevirtual 55, 3) by decide +kernel) rfl ?_
      exact V_iretM Z hE h (show decode cX5_load 32 = .ok (.ireturn, 1) by decide +kernel)
  · have h := zB_pos c3 h
    refine V_aload_n 0 Z rfl rfl (show decode cX5_load 7 = .ok (.aload_n 0, 1) by decide +kernel) ?_
    refine V_iconst 0 (by decide) Z (show decode cX5_load 8 = .ok (.iconst 0, 1) by decide +kernel) ?_
    obtain ⟨⟨v24, M25⟩, e23, h⟩ := zB_bind h
    refine V_callV (rest := []) 1 Z (ok_X5_finding  e23) cd_X5_finding zc4 (by decide) rfl w248 w250 w0 rfl (show decode cX5_load 9 = .ok (.invokevirtual 55, 3) by decide +kernel) rfl ?_
    exact V_iretM Z hE h (show decode cX5_load 12 = .ok (.ireturn, 1) by decide +kernel)
def f_X5_judge_l49 (y2 : Nat) (M : zM) : Int32 → Option ((Int32) ⊕ (Int32 × zM))
  | y3 =>
    if (M y2 2) ≤ y3 then
      some (.inr ((0, M)))
    else
      if 6 ≤ y3 then
        some (.inr (((1 + y3), M)))
      else
        (zrd M (y2 + 1) y3).bind fun (v11 : Int32) =>
        (zrd M 11 y3).bind fun (v13 : Int32) =>
        if v11 = v13 then
          (some (y3 + 1)).bind fun (n16 : Int32) =>
          some (.inl (n16))
        else
          some (.inr (((1 + y3), M)))
def f_X5_judge (x1 : Int32) (M : zM) : Option (Int32 × zM) :=
  (f_X5_isSheet x1 M).bind fun (v2 : Int32) =>
  if v2 = 0 then
    (f_X5_finding 0 M).bind fun ((v22, M23) : Int32 × zM) =>
    some ((v22, M23))
  else
    (zrr 37 x1).bind fun (q4 : Nat) =>
    if (M q4 1) = 0 then
      (f_X5_finding 5 M).bind fun ((v19, M20) : Int32 × zM) =>
      some ((v19, M20))
    else
      (f_X0_draw 1 (M 1 9) M).bind fun (M8 : zM) =>
      zIter (f_X5_judge_l49 q4 M8) 1000 (0 : Int32)
theorem cd_X5_judge : zCd yX5_judge cX5_judge 4 (some .int) 1 := ⟨w726, w64, ⟨by decide, by decide⟩, by decide +kernel⟩
set_option maxHeartbeats 4000000 in
set_option maxRecDepth 20000 in
theorem ok_X5_judge {x1 : Int32} {M : zM} {y : Int32 × zM}  (h : f_X5_judge x1 M = some y) : zRuns yX5_judge cX5_judge 4 (some .int) 3 68 [.ref 0, .int x1] M (some (.int y.1)) y.2 := by
  refine zRuns_of (by decide +kernel) (Nat.le_of_ble_eq_true rfl) (fun E Z hE => ?_)
  have h := zB_top h
  change VV E 4 0 [(0, Value.ref 0), (1, Value.int x1)] [] M
  refine V_iload_n 1 Z rfl rfl (show decode cX5_judge 0 = .ok (.iload_n 1, 1) by decide +kernel) ?_
  obtain ⟨v2, e1, h⟩ := zB_bind h
  refine V_callS (rest := []) 1 Z (ok_X5_isSheet  e1) cd_X5_isSheet w513 w514 rfl (show decode cX5_judge 1 = .ok (.invokestatic 230, 3) by decide +kernel) rfl ?_
  refine V_if_ne 13 Z (by decide) (show decode cX5_judge 4 = .ok (.ifCond .ne 9, 3) by decide +kernel) (fun c3 => ?_) (fun c3 => ?_)
  · have h := zB_neg c3 h
    refine V_aload_n 0 Z rfl rfl (show decode cX5_judge 13 = .ok (.aload_n 0, 1) by decide +kernel) ?_
    refine V_getR 5 37 Z zc4 (by decide) rfl (by decide) rfl (by decide) ⟨rfl, rfl, rfl⟩ w221 (show decode cX5_judge 14 = .ok (.getfield 38, 3) by decide +kernel) ?_
    refine V_iload_n 1 Z rfl rfl (show decode cX5_judge 17 = .ok (.iload_n 1, 1) by decide +kernel) ?_
    obtain ⟨q4, e5, h⟩ := zB_bind h
    refine V_aald 1 Z e5 (by decide) (fun _ => rfl) (by intro rs h; cases h; rfl) (show decode cX5_judge 18 = .ok (.aaload, 1) by decide +kernel) ?_
    have hq4 := zrr_S e5
    refine V_astore_n [(2, Value.ref q4), (0, Value.ref 0), (1, Value.int x1)] Z (by decide) rfl rfl (show decode cX5_judge 19 = .ok (.astore_n 2, 1) by decide +kernel) ?_
    refine V_aload_n 0 Z rfl rfl (show decode cX5_judge 20 = .ok (.aload_n 2, 1) by decide +kernel) ?_
    refine V_getI 1 Z zc2 (isS_lt hq4) (shS hq4) (by decide) rfl ⟨rfl, rfl, rfl⟩ w205 (show decode cX5_judge 21 = .ok (.getfield 238, 3) by decide +kernel) ?_
    refine V_if_ne 33 Z (by decide) (show decode cX5_judge 24 = .ok (.ifCond .ne 9, 3) by decide +kernel) (fun c6 => ?_) (fun c6 => ?_)
    · have h := zB_neg c6 h
      refine V_aload_n 1 Z rfl rfl (show decode cX5_judge 33 = .ok (.aload_n 0, 1) by decide +kernel) ?_
      refine V_getR 0 1 Z zc4 (by decide) rfl (by decide) rfl (by decide) ⟨rfl, rfl, rfl⟩ w216 (show decode cX5_judge 34 = .ok (.getfield 10, 3) by decide +kernel) ?_
      refine V_aload_n 1 Z rfl rfl (show decode cX5_judge 37 = .ok (.aload_n 0, 1) by decide +kernel) ?_
      refine V_getR 0 1 Z zc4 (by decide) rfl (by decide) rfl (by decide) ⟨rfl, rfl, rfl⟩ w216 (show decode cX5_judge 38 = .ok (.getfield 10, 3) by decide +kernel) ?_
      refine V_getI 9 Z zc0 (isH_lt isH_1) (shH isH_1) (by decide) rfl ⟨rfl, rfl, rfl⟩ w114 (show decode cX5_judge 41 = .ok (.getfield 123, 3) by decide +kernel) ?_
      obtain ⟨M8, e7, h⟩ := zB_bind h
      refine V_callV (rest := []) 1 Z (ok_X0_draw isH_1 e7) cd_X0_draw zc0 (isH_lt isH_1) (shH isH_1) w407 w340 w341 rfl (show decode cX5_judge 44 = .ok (.invokevirtual 158, 3) by decide +kernel) rfl ?_
      refine V_iconst 0 (by decide) Z (show decode cX5_judge 47 = .ok (.iconst 0, 1) by decide +kernel) ?_
      refine V_istore_n [(3, Value.int 0), (2, Value.ref q4), (0, Value.ref 0), (1, Value.int x1)] Z (by decide) rfl rfl (show decode cX5_judge 48 = .ok (.istore_n 3, 1) by decide +kernel) ?_
      refine V_sub [2, 1, 0] rfl ?_
      refine zIter_loop' (K := some) (fun s : Int32 => VV E 4 49 [(0, Value.ref 0), (2, Value.ref q4), (3, Value.int s)] [] M8) (fun K1 y3 c1_i c1_r h => ?_) _ _ h
      refine V_iload_n 2 Z rfl rfl (show decode cX5_judge 49 = .ok (.iload_n 3, 1) by decide +kernel) ?_
      refine V_aload_n 1 Z rfl rfl (show decode cX5_judge 50 = .ok (.aload_n 2, 1) by decide +kernel) ?_
      refine V_getI 2 Z zc2 (isS_lt hq4) (shS hq4) (by decide) rfl ⟨rfl, rfl, rfl⟩ w208 (show decode cX5_judge 51 = .ok (.getfield 237, 3) by decide +kernel) ?_
      refine V_icmp_ge 91 Z (by decide) (show decode cX5_judge 54 = .ok (.if_icmp .ge 37, 3) by decide +kernel) (fun c9 => ?_) (fun c9 => ?_)
      · have h := zB_pos c9 h
        refine V_iconst 0 (by decide) Z (show decode cX5_judge 91 = .ok (.iconst 0, 1) by decide +kernel) ?_
        have h := c1_r _ h
        exact V_iretM Z hE h (show decode cX5_judge 92 = .ok (.ireturn, 1) by decide +kernel)
      · have h := zB_neg c9 h
        refine V_iload_n 2 Z rfl rfl (show decode cX5_judge 57 = .ok (.iload_n 3, 1) by decide +kernel) ?_
        refine V_bipush 6 (by decide) Z (show decode cX5_judge 58 = .ok (.bipush 6, 2) by decide +kernel) ?_
        refine V_icmp_ge 81 Z (by decide) (show decode cX5_judge 60 = .ok (.if_icmp .ge 21, 3) by decide +kernel) (fun c10 => ?_) (fun c10 => ?_)
        · have h := zB_pos c10 h
          refine V_iconst 1 (by decide) Z (show decode cX5_judge 81 = .ok (.iconst 1, 1) by decide +kernel) ?_
          refine V_iload_n 2 Z rfl rfl (show decode cX5_judge 82 = .ok (.iload_n 3, 1) by decide +kernel) ?_
          refine V_iadd Z (show decode cX5_judge 83 = .ok (.iadd, 1) by decide +kernel) ?_
          have h := c1_r _ h
          exact V_iretM Z hE h (show decode cX5_judge 84 = .ok (.ireturn, 1) by decide +kernel)
        · have h := zB_neg c10 h
          refine V_aload_n 1 Z rfl rfl (show decode cX5_judge 63 = .ok (.aload_n 2, 1) by decide +kernel) ?_
          refine V_getR 0 (q4 + 1) Z zc2 (isS_lt hq4) (shS hq4) (by decide) rfl (isS_ne hq4 1) ⟨rfl, rfl, rfl⟩ w203 (show decode cX5_judge 64 = .ok (.getfield 247, 3) by decide +kernel) ?_
          refine V_iload_n 2 Z rfl rfl (show decode cX5_judge 67 = .ok (.iload_n 3, 1) by decide +kernel) ?_
          obtain ⟨v11, e12, h⟩ := zB_bind h
          refine V_iald Z e12 (show decode cX5_judge 68 = .ok (.iaload, 1) by decide +kernel) ?_
          refine V_aload_n 0 Z rfl rfl (show decode cX5_judge 69 = .ok (.aload_n 0, 1) by decide +kernel) ?_
          refine V_getR 0 1 Z zc4 (by decide) rfl (by decide) rfl (by decide) ⟨rfl, rfl, rfl⟩ w216 (show decode cX5_judge 70 = .ok (.getfield 10, 3) by decide +kernel) ?_
          refine V_getR 14 11 Z zc0 (isH_lt isH_1) (shH isH_1) (by decide) rfl (by decide) ⟨rfl, rfl, rfl⟩ w125 (show decode cX5_judge 73 = .ok (.getfield 161, 3) by decide +kernel) ?_
          refine V_iload_n 2 Z rfl rfl (show decode cX5_judge 76 = .ok (.iload_n 3, 1) by decide +kernel) ?_
          obtain ⟨v13, e14, h⟩ := zB_bind h
          refine V_iald Z e14 (show decode cX5_judge 77 = .ok (.iaload, 1) by decide +kernel) ?_
          refine V_icmp_eq 85 Z (by decide) (show decode cX5_judge 78 = .ok (.if_icmp .eq 7, 3) by decide +kernel) (fun c15 => ?_) (fun c15 => ?_)
          · have h := zB_pos c15 h
            obtain ⟨n16, e17, h⟩ := zB_let h
            refine V_iinck 1 1 2 n16 [(3, Value.int n16), (0, Value.ref 0), (2, Value.ref q4)] Z (by decide) (by decide) rfl e17 rfl (show decode cX5_judge 85 = .ok (.iinc 3 1, 3) by decide +kernel) ?_
            refine V_goto 49 Z (by decide) (show decode cX5_judge 88 = .ok (.goto (-39), 3) by decide +kernel) ?_
            refine V_sub [1, 2, 0] rfl ?_
            exact c1_i _ h
          · have h := zB_neg c15 h
            refine V_iconst 1 (by decide) Z (show decode cX5_judge 81 = .ok (.iconst 1, 1) by decide +kernel) ?_
            refine V_iload_n 2 Z rfl rfl (show decode cX5_judge 82 = .ok (.iload_n 3, 1) by decide +kernel) ?_
            refine V_iadd Z (show decode cX5_judge 83 = .ok (.iadd, 1) by decide +kernel) ?_
            have h := c1_r _ h
            exact V_iretM Z hE h (show decode cX5_judge 84 = .ok (.ireturn, 1) by decide +kernel)
    · have h := zB_pos c6 h
      refine V_aload_n 1 Z rfl rfl (show decode cX5_judge 27 = .ok (.aload_n 0, 1) by decide +kernel) ?_
      refine V_iconst 5 (by decide) Z (show decode cX5_judge 28 = .ok (.iconst 5, 1) by decide +kernel) ?_
      obtain ⟨⟨v19, M20⟩, e18, h⟩ := zB_bind h
      refine V_callV (rest := []) 1 Z (ok_X5_finding  e18) cd_X5_finding zc4 (by decide) rfl w248 w250 w0 rfl (show decode cX5_judge 29 = .ok (.invokevirtual 55, 3) by decide +kernel) rfl ?_
      exact V_iretM Z hE h (show decode cX5_judge 32 = .ok (.ireturn, 1) by decide +kernel)
  · have h := zB_pos c3 h
    refine V_aload_n 0 Z rfl rfl (show decode cX5_judge 7 = .ok (.aload_n 0, 1) by decide +kernel) ?_
    refine V_iconst 0 (by decide) Z (show decode cX5_judge 8 = .ok (.iconst 0, 1) by decide +kernel) ?_
    obtain ⟨⟨v22, M23⟩, e21, h⟩ := zB_bind h
    refine V_callV (rest := []) 1 Z (ok_X5_finding  e21) cd_X5_finding zc4 (by decide) rfl w248 w250 w0 rfl (show decode cX5_judge 9 = .ok (.invokevirtual 55, 3) by decide +kernel) rfl ?_
    exact V_iretM Z hE h (show decode cX5_judge 12 = .ok (.ireturn, 1) by decide +kernel)
def f_X5_image (M : zM) : Option (Int32 × zM) :=
  (f_X0_become 12 1 M).bind fun (M2 : zM) =>
  (some (zU M2 0 7 1)).bind fun (M3 : zM) =>
  some ((1, M3))
theorem cd_X5_image : zCd yX5_image cX5_image 1 (some .int) 0 := ⟨w730, w64, ⟨by decide, by decide⟩, by decide +kernel⟩
set_option maxHeartbeats 4000000 in
set_option maxRecDepth 20000 in
theorem ok_X5_image {M : zM} {y : Int32 × zM}  (h : f_X5_image  M = some y) : zRuns yX5_image cX5_image 1 (some .int) 2 61 [.ref 0] M (some (.int y.1)) y.2 := by
  refine zRuns_of (by decide +kernel) (Nat.le_of_ble_eq_true rfl) (fun E Z hE => ?_)
  have h := zB_top h
  change VV E 1 0 [(0, Value.ref 0)] [] M
  refine V_aload_n 0 Z rfl rfl (show decode cX5_image 0 = .ok (.aload_n 0, 1) by decide +kernel) ?_
  refine V_getR 1 12 Z zc4 (by decide) rfl (by decide) rfl (by decide) ⟨rfl, rfl, rfl⟩ w217 (show decode cX5_image 1 = .ok (.getfield 16, 3) by decide +kernel) ?_
  refine V_aload_n 0 Z rfl rfl (show decode cX5_image 4 = .ok (.aload_n 0, 1) by decide +kernel) ?_
  refine V_getR 0 1 Z zc4 (by decide) rfl (by decide) rfl (by decide) ⟨rfl, rfl, rfl⟩ w216 (show decode cX5_image 5 = .ok (.getfield 10, 3) by decide +kernel) ?_
  obtain ⟨M2, e1, h⟩ := zB_bind h
  refine V_callV (rest := []) 1 Z (ok_X0_become isH_12 isH_1 e1) cd_X0_become zc0 (isH_lt isH_12) (shH isH_12) w412 w413 w414 rfl (show decode cX5_image 8 = .ok (.invokevirtual 164, 3) by decide +kernel) rfl ?_
  refine V_aload_n 0 Z rfl rfl (show decode cX5_image 11 = .ok (.aload_n 0, 1) by decide +kernel) ?_
  refine V_iconst 1 (by decide) Z (show decode cX5_image 12 = .ok (.iconst 1, 1) by decide +kernel) ?_
  obtain ⟨M3, e4, h⟩ := zB_let h
  refine V_putZ 7 Z zc4 (by decide) rfl (by decide) rfl ⟨rfl, rfl, rfl⟩ rfl rfl rfl w223 (show decode cX5_image 13 = .ok (.putfield 46, 3) by decide +kernel) ?_
  refine V_nmM e4 ?_
  refine V_iconst 1 (by decide) Z (show decode cX5_image 16 = .ok (.iconst 1, 1) by decide +kernel) ?_
  exact V_iretM Z hE h (show decode cX5_image 17 = .ok (.ireturn, 1) by decide +kernel)
def f_X5_undo (M : zM) : Option (Int32 × zM) :=
  if (M 0 7) = 0 then
    (f_X5_finding 3 M).bind fun ((v5, M6) : Int32 × zM) =>
    some ((v5, M6))
  else
    (f_X0_become 1 12 M).bind fun (M3 : zM) =>
    some (((M3 1 10), M3))
theorem cd_X5_undo : zCd yX5_undo cX5_undo 1 (some .int) 0 := ⟨w734, w64, ⟨by decide, by decide⟩, by decide +kernel⟩
set_option maxHeartbeats 4000000 in
set_option maxRecDepth 20000 in
theorem ok_X5_undo {M : zM} {y : Int32 × zM}  (h : f_X5_undo  M = some y) : zRuns yX5_undo cX5_undo 1 (some .int) 2 61 [.ref 0] M (some (.int y.1)) y.2 := by
  refine zRuns_of (by decide +kernel) (Nat.le_of_ble_eq_true rfl) (fun E Z hE => ?_)
  have h := zB_top h
  change VV E 1 0 [(0, Value.ref 0)] [] M
  refine V_aload_n 0 Z rfl rfl (show decode cX5_undo 0 = .ok (.aload_n 0, 1) by decide +kernel) ?_
  refine V_getI 7 Z zc4 (by decide) rfl (by decide) rfl ⟨rfl, rfl, rfl⟩ w223 (show decode cX5_undo 1 = .ok (.getfield 46, 3) by decide +kernel) ?_
  refine V_if_ne 13 Z (by decide) (show decode cX5_undo 4 = .ok (.ifCond .ne 9, 3) by decide +kernel) (fun c1 => ?_) (fun c1 => ?_)
  · have h := zB_neg c1 h
    refine V_aload_n 0 Z rfl rfl (show decode cX5_undo 13 = .ok (.aload_n 0, 1) by decide +kernel) ?_
    refine V_getR 0 1 Z zc4 (by decide) rfl (by decide) rfl (by decide) ⟨rfl, rfl, rfl⟩ w216 (show decode cX5_undo 14 = .ok (.getfield 10, 3) by decide +kernel) ?_
    refine V_aload_n 0 Z rfl rfl (show decode cX5_undo 17 = .ok (.aload_n 0, 1) by decide +kernel) ?_
    refine V_getR 1 12 Z zc4 (by decide) rfl (by decide) rfl (by decide) ⟨rfl, rfl, rfl⟩ w217 (show decode cX5_undo 18 = .ok (.getfield 16, 3) by decide +kernel) ?_
    obtain ⟨M3, e2, h⟩ := zB_bind h
    refine V_callV (rest := []) 1 Z (ok_X0_become isH_1 isH_12 e2) cd_X0_become zc0 (isH_lt isH_1) (shH isH_1) w412 w413 w414 rfl (show decode cX5_undo 21 = .ok (.invokevirtual 164, 3) by decide +kernel) rfl ?_
    refine V_aload_n 0 Z rfl rfl (show decode cX5_undo 24 = .ok (.aload_n 0, 1) by decide +kernel) ?_
    refine V_getR 0 1 Z zc4 (by decide) rfl (by decide) rfl (by decide) ⟨rfl, rfl, rfl⟩ w216 (show decode cX5_undo 25 = .ok (.getfield 10, 3) by decide +kernel) ?_
    refine V_getI 10 Z zc0 (isH_lt isH_1) (shH isH_1) (by decide) rfl ⟨rfl, rfl, rfl⟩ w117 (show decode cX5_undo 28 = .ok (.getfield 133, 3) by decide +kernel) ?_
    exact V_iretM Z hE h (show decode cX5_undo 31 = .ok (.ireturn, 1) by decide +kernel)
  · have h := zB_pos c1 h
    refine V_aload_n 0 Z rfl rfl (show decode cX5_undo 7 = .ok (.aload_n 0, 1) by decide +kernel) ?_
    refine V_iconst 3 (by decide) Z (show decode cX5_undo 8 = .ok (.iconst 3, 1) by decide +kernel) ?_
    obtain ⟨⟨v5, M6⟩, e4, h⟩ := zB_bind h
    refine V_callV (rest := []) 1 Z (ok_X5_finding  e4) cd_X5_finding zc4 (by decide) rfl w248 w250 w0 rfl (show decode cX5_undo 9 = .ok (.invokevirtual 55, 3) by decide +kernel) rfl ?_
    exact V_iretM Z hE h (show decode cX5_undo 12 = .ok (.ireturn, 1) by decide +kernel)
def f_X5_tear_j12 (s0 : Int32) (M : zM) : Option (Int32 × zM) :=
  (some (zU M 0 7 0)).bind fun (M1 : zM) =>
  some ((s0, M1))
def f_X5_tear (M : zM) : Option (Int32 × zM) :=
  if (M 0 7) = 0 then
    f_X5_tear_j12 0 M
  else
    f_X5_tear_j12 1 M
theorem cd_X5_tear : zCd yX5_tear cX5_tear 2 (some .int) 0 := ⟨w738, w64, ⟨by decide, by decide⟩, by decide +kernel⟩
set_option maxHeartbeats 4000000 in
set_option maxRecDepth 20000 in
theorem ok_X5_tear {M : zM} {y : Int32 × zM}  (h : f_X5_tear  M = some y) : zRuns yX5_tear cX5_tear 2 (some .int) 0 0 [.ref 0] M (some (.int y.1)) y.2 := by
  refine zRuns_of (by decide +kernel) (Nat.le_of_ble_eq_true rfl) (fun E Z hE => ?_)
  have h := zB_top h
  change VV E 2 0 [(0, Value.ref 0)] [] M
  have J12 : ∀ (s0 : Int32) (M : zM), (f_X5_tear_j12 s0 M).bind some = some y → VV E 2 12 [(0, Value.ref 0)] [Value.int s0] M := by
    intro s0 M h
    refine V_istore_n [(1, Value.int s0), (0, Value.ref 0)] Z (by decide) rfl rfl (show decode cX5_tear 12 = .ok (.istore_n 1, 1) by decide +kernel) ?_
    refine V_aload_n 1 Z rfl rfl (show decode cX5_tear 13 = .ok (.aload_n 0, 1) by decide +kernel) ?_
    refine V_iconst 0 (by decide) Z (show decode cX5_tear 14 = .ok (.iconst 0, 1) by decide +kernel) ?_
    obtain ⟨M1, e2, h⟩ := zB_let h
    refine V_putZ 7 Z zc4 (by decide) rfl (by decide) rfl ⟨rfl, rfl, rfl⟩ rfl rfl rfl w223 (show decode cX5_tear 15 = .ok (.putfield 46, 3) by decide +kernel) ?_
    refine V_nmM e2 ?_
    refine V_iload_n 0 Z rfl rfl (show decode cX5_tear 18 = .ok (.iload_n 1, 1) by decide +kernel) ?_
    exact V_iretM Z hE h (show decode cX5_tear 19 = .ok (.ireturn, 1) by decide +kernel)
  refine V_aload_n 0 Z rfl rfl (show decode cX5_tear 0 = .ok (.aload_n 0, 1) by decide +kernel) ?_
  refine V_getI 7 Z zc4 (by decide) rfl (by decide) rfl ⟨rfl, rfl, rfl⟩ w223 (show decode cX5_tear 1 = .ok (.getfield 46, 3) by decide +kernel) ?_
  refine V_if_eq 11 Z (by decide) (show decode cX5_tear 4 = .ok (.ifCond .eq 7, 3) by decide +kernel) (fun c3 => ?_) (fun c3 => ?_)
  · have h := zB_pos c3 h
    refine V_iconst 0 (by decide) Z (show decode cX5_tear 11 = .ok (.iconst 0, 1) by decide +kernel) ?_
    exact J12 _ _ h
  · have h := zB_neg c3 h
    refine V_iconst 1 (by decide) Z (show decode cX5_tear 7 = .ok (.iconst 1, 1) by decide +kernel) ?_
    refine V_goto 12 Z (by decide) (show decode cX5_tear 8 = .ok (.goto 4, 3) by decide +kernel) ?_
    exact J12 _ _ h
