/-! Generated walks: X5_judge X5_image X5_undo X5_tear X5_count X5_status X6_finding X6_within X6_become X6_copyRow X6_putBack X6_orNone X6_has X6_bits X6_isName X6_isPerson -/
def f_X5_judge_l49 (y2 : Nat) (M : zM) : Int32 → Option ((Int32) ⊕ (Int32 × zM))
  | y3 =>
    if (M y2 2) ≤ y3 then
      some (.inr ((0, M)))
    else
      if 6 ≤ y3 then
        some (.inr (((1 + y3), M)))
      else
        (zrd M (y2 + 1) y3).bind fun (v11 : Int32) =>
        (zrd M 11 y3).bind fun (v13 : Int32) =>
        if v11 = v13 then
          (some (y3 + 1)).bind fun (x16 : Int32) =>
          some (.inl (x16))
        else
          some (.inr (((1 + y3), M)))
def f_X5_judge (x1 : Int32) (M : zM) : Option (Int32 × zM) :=
  (f_X5_isSheet x1 M).bind fun (v2 : Int32) =>
  if v2 = 0 then
    (f_X5_finding 0 M).bind fun ((v22, M23) : Int32 × zM) =>
    some ((v22, M23))
  else
    (zrr 37 x1).bind fun (q4 : Nat) =>
    if (M q4 1) = 0 then
      (f_X5_finding 5 M).bind fun ((v19, M20) : Int32 × zM) =>
      some ((v19, M20))
    else
      (f_X0_draw 1 (M 1 9) M).bind fun (M8 : zM) =>
      zIter (f_X5_judge_l49 q4 M8) 1000 (0 : Int32)
theorem cd_X5_judge : zCd yX5_judge cX5_judge 4 (some .int) 1 := ⟨w726, w64, ⟨by decide, by decide⟩, by decide +kernel⟩
set_option maxHeartbeats 4000000 in
set_option maxRecDepth 20000 in
theorem ok_X5_judge {x1 : Int32} {M : zM} {y : Int32 × zM}  (h : f_X5_judge x1 M = some y) : zRuns yX5_judge cX5_judge 4 (some .int) 3 68 [.ref 0, .int x1] M (some (.int y.1)) y.2 := by
  refine zRuns_of (by decide +kernel) (Nat.le_of_ble_eq_true rfl) (fun E Z hE => ?_)
  have h := zB_top h
  change VV E 4 0 [(0, Value.ref 0), (1, Value.int x1)] [] M
  refine V_iload_n 1 Z rfl rfl (show decode cX5_judge 0 = .ok (.iload_n 1, 1) by decide +kernel) ?_
  obtain ⟨v2, e1, h⟩ := zB_bind h
  refine V_callS (rest := []) 1 Z (ok_X5_isSheet  e1) cd_X5_isSheet w513 w514 rfl (show decode cX5_judge 1 = .ok (.invokestatic 230, 3) by decide +kernel) rfl ?_
  refine V_if_ne 13 Z (by decide) (show decode cX5_judge 4 = .ok (.ifCond .ne 9, 3) by decide +kernel) (fun c3 => ?_) (fun c3 => ?_)
  · have h := zB_neg c3 h
    refine V_aload_n 0 Z rfl rfl (show decode cX5_judge 13 = .ok (.aload_n 0, 1) by decide +kernel) ?_
    refine V_getR 5 37 Z zc4 (by decide) rfl (by decide) rfl (by decide) ⟨rfl, rfl, rfl⟩ w221 (show decode cX5_judge 14 = .ok (.getfield 38, 3) by decide +kernel) ?_
    refine V_iload_n 1 Z rfl rfl (show decode cX5_judge 17 = .ok (.iload_n 1, 1) by decide +kernel) ?_
    obtain ⟨q4, e5, h⟩ := zB_bind h
    refine V_aald 1 Z e5 (by decide) (fun _ => rfl) (by intro rs h; cases h; rfl) (show decode cX5_judge 18 = .ok (.aaload, 1) by decide +kernel) ?_
    have hq4 := zrr_S e5
    refine V_astore_n [(2, Value.ref q4), (0, Value.ref 0), (1, Value.int x1)] Z (by decide) rfl rfl (show decode cX5_judge 19 = .ok (.astore_n 2, 1) by decide +kernel) ?_
    refine V_aload_n 0 Z rfl rfl (show decode cX5_judge 20 = .ok (.aload_n 2, 1) by decide +kernel) ?_
    refine V_getI 1 Z zc2 (isS_lt hq4) (shS hq4) (by decide) rfl ⟨rfl, rfl, rfl⟩ w205 (show decode cX5_judge 21 = .ok (.getfield 238, 3) by decide +kernel) ?_
    refine V_if_ne 33 Z (by decide) (show decode cX5_judge 24 = .ok (.ifCond .ne 9, 3) by decide +kernel) (fun c6 => ?_) (fun c6 => ?_)
    · have h := zB_neg c6 h
      refine V_aload_n 1 Z rfl rfl (show decode cX5_judge 33 = .ok (.aload_n 0, 1) by decide +kernel) ?_
      refine V_getR 0 1 Z zc4 (by decide) rfl (by decide) rfl (by decide) ⟨rfl, rfl, rfl⟩ w216 (show decode cX5_judge 34 = .ok (.getfield 10, 3) by decide +kernel) ?_
      refine V_aload_n 1 Z rfl rfl (show decode cX5_judge 37 = .ok (.aload_n 0, 1) by decide +kernel) ?_
      refine V_getR 0 1 Z zc4 (by decide) rfl (by decide) rfl (by decide) ⟨rfl, rfl, rfl⟩ w216 (show decode cX5_judge 38 = .ok (.getfield 10, 3) by decide +kernel) ?_
      refine V_getI 9 Z zc0 (isH_lt isH_1) (shH isH_1) (by decide) rfl ⟨rfl, rfl, rfl⟩ w114 (show decode cX5_judge 41 = .ok (.getfield 123, 3) by decide +kernel) ?_
      obtain ⟨M8, e7, h⟩ := zB_bind h
      refine V_callV (rest := []) 1 Z (ok_X0_draw isH_1 e7) cd_X0_draw zc0 (isH_lt isH_1) (shH isH_1) w407 w340 w341 rfl (show decode cX5_judge 44 = .ok (.invokevirtual 158, 3) by decide +kernel) rfl ?_
      refine V_iconst 0 (by decide) Z (show decode cX5_judge 47 = .ok (.iconst 0, 1) by decide +kernel) ?_
      refine V_istore_n [(3, Value.int 0), (2, Value.ref q4), (0, Value.ref 0), (1, Value.int x1)] Z (by decide) rfl rfl (show decode cX5_judge 48 = .ok (.istore_n 3, 1) by decide +kernel) ?_
      refine V_sub [2, 1, 0] rfl ?_
      refine zIter_loop' (K := some) (fun s : Int32 => VV E 4 49 [(0, Value.ref 0), (2, Value.ref q4), (3, Value.int s)] [] M8) (fun K1 y3 c1_i c1_r h => ?_) _ _ h
      refine V_iload_n 2 Z rfl rfl (show decode cX5_judge 49 = .ok (.iload_n 3, 1) by decide +kernel) ?_
      refine V_aload_n 1 Z rfl rfl (show decode cX5_judge 50 = .ok (.aload_n 2, 1) by decide +kernel) ?_
      refine V_getI 2 Z zc2 (isS_lt hq4) (shS hq4) (by decide) rfl ⟨rfl, rfl, rfl⟩ w208 (show decode cX5_judge 51 = .ok (.getfield 237, 3) by decide +kernel) ?_
      refine V_icmp_ge 91 Z (by decide) (show decode cX5_judge 54 = .ok (.if_icmp .ge 37, 3) by decide +kernel) (fun c9 => ?_) (fun c9 => ?_)
      · have h := zB_pos c9 h
        refine V_iconst 0 (by decide) Z (show decode cX5_judge 91 = .ok (.iconst 0, 1) by decide +kernel) ?_
        have h := c1_r _ h
        exact V_iretM Z hE h (show decode cX5_judge 92 = .ok (.ireturn, 1) by decide +kernel)
      · have h := zB_neg c9 h
        refine V_iload_n 2 Z rfl rfl (show decode cX5_judge 57 = .ok (.iload_n 3, 1) by decide +kernel) ?_
        refine V_bipush 6 (by decide) Z (show decode cX5_judge 58 = .ok (.bipush 6, 2) by decide +kernel) ?_
        refine V_icmp_ge 81 Z (by decide) (show decode cX5_judge 60 = .ok (.if_icmp .ge 21, 3) by decide +kernel) (fun c10 => ?_) (fun c10 => ?_)
        · have h := zB_pos c10 h
          refine V_iconst 1 (by decide) Z (show decode cX5_judge 81 = .ok (.iconst 1, 1) by decide +kernel) ?_
          refine V_iload_n 2 Z rfl rfl (show decode cX5_judge 82 = .ok (.iload_n 3, 1) by decide +kernel) ?_
          refine V_iadd Z (show decode cX5_judge 83 = .ok (.iadd, 1) by decide +kernel) ?_
          have h := c1_r _ h
          exact V_iretM Z hE h (show decode cX5_judge 84 = .ok (.ireturn, 1) by decide +kernel)
        · have h := zB_neg c10 h
          refine V_aload_n 1 Z rfl rfl (show decode cX5_judge 63 = .ok (.aload_n 2, 1) by decide +kernel) ?_
          refine V_getR 0 (q4 + 1) Z zc2 (isS_lt hq4) (shS hq4) (by decide) rfl (isS_ne hq4 1) ⟨rfl, rfl, rfl⟩ w203 (show decode cX5_judge 64 = .ok (.getfield 247, 3) by decide +kernel) ?_
          refine V_iload_n 2 Z rfl rfl (show decode cX5_judge 67 = .ok (.iload_n 3, 1) by decide +kernel) ?_
          obtain ⟨v11, e12, h⟩ := zB_bind h
          refine V_iald Z e12 (show decode cX5_judge 68 = .ok (.iaload, 1) by decide +kernel) ?_
          refine V_aload_n 0 Z rfl rfl (show decode cX5_judge 69 = .ok (.aload_n 0, 1) by decide +kernel) ?_
          refine V_getR 0 1 Z zc4 (by decide) rfl (by decide) rfl (by decide) ⟨rfl, rfl, rfl⟩ w216 (show decode cX5_judge 70 = .ok (.getfield 10, 3) by decide +kernel) ?_
          refine V_getR 14 11 Z zc0 (isH_lt isH_1) (shH isH_1) (by decide) rfl (by decide) ⟨rfl, rfl, rfl⟩ w125 (show decode cX5_judge 73 = .ok (.getfield 161, 3) by decide +kernel) ?_
          refine V_iload_n 2 Z rfl rfl (show decode cX5_judge 76 = .ok (.iload_n 3, 1) by decide +kernel) ?_
          obtain ⟨v13, e14, h⟩ := zB_bind h
          refine V_iald Z e14 (show decode cX5_judge 77 = .ok (.iaload, 1) by decide +kernel) ?_
          refine V_icmp_eq 85 Z (by decide) (show decode cX5_judge 78 = .ok (.if_icmp .eq 7, 3) by decide +kernel) (fun c15 => ?_) (fun c15 => ?_)
          · have h := zB_pos c15 h
            obtain ⟨x16, e17, h⟩ := zB_let h
            refine V_iinc (n := 1) 2 x16 [(3, Value.int x16), (0, Value.ref 0), (2, Value.ref q4)] Z (by decide) rfl e17 rfl (show decode cX5_judge 85 = .ok (.iinc 3 1, 3) by decide +kernel) ?_
            refine V_goto 49 Z (by decide) (show decode cX5_judge 88 = .ok (.goto (-39), 3) by decide +kernel) ?_
            refine V_sub [1, 2, 0] rfl ?_
            exact c1_i _ h
          · have h := zB_neg c15 h
            refine V_iconst 1 (by decide) Z (show decode cX5_judge 81 = .ok (.iconst 1, 1) by decide +kernel) ?_
            refine V_iload_n 2 Z rfl rfl (show decode cX5_judge 82 = .ok (.iload_n 3, 1) by decide +kernel) ?_
            refine V_iadd Z (show decode cX5_judge 83 = .ok (.iadd, 1) by decide +kernel) ?_
            have h := c1_r _ h
            exact V_iretM Z hE h (show decode cX5_judge 84 = .ok (.ireturn, 1) by decide +kernel)
    · have h := zB_pos c6 h
      refine V_aload_n 1 Z rfl rfl (show decode cX5_judge 27 = .ok (.aload_n 0, 1) by decide +kernel) ?_
      refine V_iconst 5 (by decide) Z (show decode cX5_judge 28 = .ok (.iconst 5, 1) by decide +kernel) ?_
      obtain ⟨⟨v19, M20⟩, e18, h⟩ := zB_bind h
      refine V_callV (rest := []) 1 Z (ok_X5_finding  e18) cd_X5_finding zc4 (by decide) rfl w248 w250 w0 rfl (show decode cX5_judge 29 = .ok (.invokevirtual 55, 3) by decide +kernel) rfl ?_
      exact V_iretM Z hE h (show decode cX5_judge 32 = .ok (.ireturn, 1) by decide +kernel)
  · have h := zB_pos c3 h
    refine V_aload_n 0 Z rfl rfl (show decode cX5_judge 7 = .ok (.aload_n 0, 1) by decide +kernel) ?_
    refine V_iconst 0 (by decide) Z (show decode cX5_judge 8 = .ok (.iconst 0, 1) by decide +kernel) ?_
    obtain ⟨⟨v22, M23⟩, e21, h⟩ := zB_bind h
    refine V_callV (rest := []) 1 Z (ok_X5_finding  e21) cd_X5_finding zc4 (by decide) rfl w248 w250 w0 rfl (show decode cX5_judge 9 = .ok (.invokevirtual 55, 3) by decide +kernel) rfl ?_
    exact V_iretM Z hE h (show decode cX5_judge 12 = .ok (.ireturn, 1) by decide +kernel)
def f_X5_image (M : zM) : Option (Int32 × zM) :=
  (f_X0_become 12 1 M).bind fun (M2 : zM) =>
  (some (zU M2 0 7 1)).bind fun (M3 : zM) =>
  some ((1, M3))
theorem cd_X5_image : zCd yX5_image cX5_image 1 (some .int) 0 := ⟨w730, w64, ⟨by decide, by decide⟩, by decide +kernel⟩
set_option maxHeartbeats 4000000 in
set_option maxRecDepth 20000 in
theorem ok_X5_image {M : zM} {y : Int32 × zM}  (h : f_X5_image  M = some y) : zRuns yX5_image cX5_image 1 (some .int) 2 61 [.ref 0] M (some (.int y.1)) y.2 := by
  refine zRuns_of (by decide +kernel) (Nat.le_of_ble_eq_true rfl) (fun E Z hE => ?_)
  have h := zB_top h
  change VV E 1 0 [(0, Value.ref 0)] [] M
  refine V_aload_n 0 Z rfl rfl (show decode cX5_image 0 = .ok (.aload_n 0, 1) by decide +kernel) ?_
  refine V_getR 1 12 Z zc4 (by decide) rfl (by decide) rfl (by decide) ⟨rfl, rfl, rfl⟩ w217 (show decode cX5_image 1 = .ok (.getfield 16, 3) by decide +kernel) ?_
  refine V_aload_n 0 Z rfl rfl (show decode cX5_image 4 = .ok (.aload_n 0, 1) by decide +kernel) ?_
  refine V_getR 0 1 Z zc4 (by decide) rfl (by decide) rfl (by decide) ⟨rfl, rfl, rfl⟩ w216 (show decode cX5_image 5 = .ok (.getfield 10, 3) by decide +kernel) ?_
  obtain ⟨M2, e1, h⟩ := zB_bind h
  refine V_callV (rest := []) 1 Z (ok_X0_become isH_12 isH_1 e1) cd_X0_become zc0 (isH_lt isH_12) (shH isH_12) w412 w413 w414 rfl (show decode cX5_image 8 = .ok (.invokevirtual 164, 3) by decide +kernel) rfl ?_
  refine V_aload_n 0 Z rfl rfl (show decode cX5_image 11 = .ok (.aload_n 0, 1) by decide +kernel) ?_
  refine V_iconst 1 (by decide) Z (show decode cX5_image 12 = .ok (.iconst 1, 1) by decide +kernel) ?_
  obtain ⟨M3, e4, h⟩ := zB_let h
  refine V_putZ 7 Z zc4 (by decide) rfl (by decide) rfl ⟨rfl, rfl, rfl⟩ rfl rfl rfl w223 (show decode cX5_image 13 = .ok (.putfield 46, 3) by decide +kernel) ?_
  refine V_nmM e4 ?_
  refine V_iconst 1 (by decide) Z (show decode cX5_image 16 = .ok (.iconst 1, 1) by decide +kernel) ?_
  exact V_iretM Z hE h (show decode cX5_image 17 = .ok (.ireturn, 1) by decide +kernel)
def f_X5_undo (M : zM) : Option (Int32 × zM) :=
  if (M 0 7) = 0 then
    (f_X5_finding 3 M).bind fun ((v5, M6) : Int32 × zM) =>
    some ((v5, M6))
  else
    (f_X0_become 1 12 M).bind fun (M3 : zM) =>
    some (((M3 1 10), M3))
theorem cd_X5_undo : zCd yX5_undo cX5_undo 1 (some .int) 0 := ⟨w734, w64, ⟨by decide, by decide⟩, by decide +kernel⟩
set_option maxHeartbeats 4000000 in
set_option maxRecDepth 20000 in
theorem ok_X5_undo {M : zM} {y : Int32 × zM}  (h : f_X5_undo  M = some y) : zRuns yX5_undo cX5_undo 1 (some .int) 2 61 [.ref 0] M (some (.int y.1)) y.2 := by
  refine zRuns_of (by decide +kernel) (Nat.le_of_ble_eq_true rfl) (fun E Z hE => ?_)
  have h := zB_top h
  change VV E 1 0 [(0, Value.ref 0)] [] M
  refine V_aload_n 0 Z rfl rfl (show decode cX5_undo 0 = .ok (.aload_n 0, 1) by decide +kernel) ?_
  refine V_getI 7 Z zc4 (by decide) rfl (by decide) rfl ⟨rfl, rfl, rfl⟩ w223 (show decode cX5_undo 1 = .ok (.getfield 46, 3) by decide +kernel) ?_
  refine V_if_ne 13 Z (by decide) (show decode cX5_undo 4 = .ok (.ifCond .ne 9, 3) by decide +kernel) (fun c1 => ?_) (fun c1 => ?_)
  · have h := zB_neg c1 h
    refine V_aload_n 0 Z rfl rfl (show decode cX5_undo 13 = .ok (.aload_n 0, 1) by decide +kernel) ?_
    refine V_getR 0 1 Z zc4 (by decide) rfl (by decide) rfl (by decide) ⟨rfl, rfl, rfl⟩ w216 (show decode cX5_undo 14 = .ok (.getfield 10, 3) by decide +kernel) ?_
    refine V_aload_n 0 Z rfl rfl (show decode cX5_undo 17 = .ok (.aload_n 0, 1) by decide +kernel) ?_
    refine V_getR 1 12 Z zc4 (by decide) rfl (by decide) rfl (by decide) ⟨rfl, rfl, rfl⟩ w217 (show decode cX5_undo 18 = .ok (.getfield 16, 3) by decide +kernel) ?_
    obtain ⟨M3, e2, h⟩ := zB_bind h
    refine V_callV (rest := []) 1 Z (ok_X0_become isH_1 isH_12 e2) cd_X0_become zc0 (isH_lt isH_1) (shH isH_1) w412 w413 w414 rfl (show decode cX5_undo 21 = .ok (.invokevirtual 164, 3) by decide +kernel) rfl ?_
    refine V_aload_n 0 Z rfl rfl (show decode cX5_undo 24 = .ok (.aload_n 0, 1) by decide +kernel) ?_
    refine V_getR 0 1 Z zc4 (by decide) rfl (by decide) rfl (by decide) ⟨rfl, rfl, rfl⟩ w216 (show decode cX5_undo 25 = .ok (.getfield 10, 3) by decide +kernel) ?_
    refine V_getI 10 Z zc0 (isH_lt isH_1) (shH isH_1) (by decide) rfl ⟨rfl, rfl, rfl⟩ w117 (show decode cX5_undo 28 = .ok (.getfield 133, 3) by decide +kernel) ?_
    exact V_iretM Z hE h (show decode cX5_undo 31 = .ok (.ireturn, 1) by decide +kernel)
  · have h := zB_pos c1 h
    refine V_aload_n 0 Z rfl rfl (show decode cX5_undo 7 = .ok (.aload_n 0, 1) by decide +kernel) ?_
    refine V_iconst 3 (by decide) Z (show decode cX5_undo 8 = .ok (.iconst 3, 1) by decide +kernel) ?_
    obtain ⟨⟨v5, M6⟩, e4, h⟩ := zB_bind h
    refine V_callV (rest := []) 1 Z (ok_X5_finding  e4) cd_X5_finding zc4 (by decide) rfl w248 w250 w0 rfl (show decode cX5_undo 9 = .ok (.invokevirtual 55, 3) by decide +kernel) rfl ?_
    exact V_iretM Z hE h (show decode cX5_undo 12 = .ok (.ireturn, 1) by decide +kernel)
def f_X5_tear_j12 (s0 : Int32) (M : zM) : Option (Int32 × zM) :=
  (some (zU M 0 7 0)).bind fun (M1 : zM) =>
  some ((s0, M1))
def f_X5_tear (M : zM) : Option (Int32 × zM) :=
  if (M 0 7) = 0 then
    f_X5_tear_j12 0 M
  else
    f_X5_tear_j12 1 M
theorem cd_X5_tear : zCd yX5_tear cX5_tear 2 (some .int) 0 := ⟨w738, w64, ⟨by decide, by decide⟩, by decide +kernel⟩
set_option maxHeartbeats 4000000 in
set_option maxRecDepth 20000 in
theorem ok_X5_tear {M : zM} {y : Int32 × zM}  (h : f_X5_tear  M = some y) : zRuns yX5_tear cX5_tear 2 (some .int) 0 0 [.ref 0] M (some (.int y.1)) y.2 := by
  refine zRuns_of (by decide +kernel) (Nat.le_of_ble_eq_true rfl) (fun E Z hE => ?_)
  have h := zB_top h
  change VV E 2 0 [(0, Value.ref 0)] [] M
  have J12 : ∀ (s0 : Int32) (M : zM), (f_X5_tear_j12 s0 M).bind some = some y → VV E 2 12 [(0, Value.ref 0)] [Value.int s0] M := by
    intro s0 M h
    refine V_istore_n [(1, Value.int s0), (0, Value.ref 0)] Z (by decide) rfl rfl (show decode cX5_tear 12 = .ok (.istore_n 1, 1) by decide +kernel) ?_
    refine V_aload_n 1 Z rfl rfl (show decode cX5_tear 13 = .ok (.aload_n 0, 1) by decide +kernel) ?_
    refine V_iconst 0 (by decide) Z (show decode cX5_tear 14 = .ok (.iconst 0, 1) by decide +kernel) ?_
    obtain ⟨M1, e2, h⟩ := zB_let h
    refine V_putZ 7 Z zc4 (by decide) rfl (by decide) rfl ⟨rfl, rfl, rfl⟩ rfl rfl rfl w223 (show decode cX5_tear 15 = .ok (.putfield 46, 3) by decide +kernel) ?_
    refine V_nmM e2 ?_
    refine V_iload_n 0 Z rfl rfl (show decode cX5_tear 18 = .ok (.iload_n 1, 1) by decide +kernel) ?_
    exact V_iretM Z hE h (show decode cX5_tear 19 = .ok (.ireturn, 1) by decide +kernel)
  refine V_aload_n 0 Z rfl rfl (show decode cX5_tear 0 = .ok (.aload_n 0, 1) by decide +kernel) ?_
  refine V_getI 7 Z zc4 (by decide) rfl (by decide) rfl ⟨rfl, rfl, rfl⟩ w223 (show decode cX5_tear 1 = .ok (.getfield 46, 3) by decide +kernel) ?_
  refine V_if_eq 11 Z (by decide) (show decode cX5_tear 4 = .ok (.ifCond .eq 7, 3) by decide +kernel) (fun c3 => ?_) (fun c3 => ?_)
  · have h := zB_pos c3 h
    refine V_iconst 0 (by decide) Z (show decode cX5_tear 11 = .ok (.iconst 0, 1) by decide +kernel) ?_
    exact J12 _ _ h
  · have h := zB_neg c3 h
    refine V_iconst 1 (by decide) Z (show decode cX5_tear 7 = .ok (.iconst 1, 1) by decide +kernel) ?_
    refine V_goto 12 Z (by decide) (show decode cX5_tear 8 = .ok (.goto 4, 3) by decide +kernel) ?_
    exact J12 _ _ h
def f_X5_count (x1 : Int32) (M : zM) : Option (Int32 × zM) :=
  if x1 = 0 then
    some (((M 1 10), M))
  else
    if x1 = 1 then
      some (((M 1 0), M))
    else
      if x1 = 2 then
        (f_X0_hanging 1 M).bind fun (v5 : Int32) =>
        (f_J6_bitCount_0f7a4 v5 M).bind fun (v7 : Int32) =>
        some ((v7, M))
      else
        if x1 = 3 then
          some (((M 1 11), M))
        else
          if x1 = 4 then
            (f_X0_purses 1 M).bind fun (v11 : Int32) =>
            some ((v11, M))
          else
            if x1 = 5 then
              some (((M 34 1), M))
            else
              if x1 = 6 then
                some (((M 1 12), M))
              else
                if x1 = 7 then
                  (f_X0_spotsHeld 1 M).bind fun (v16 : Int32) =>
                  some ((v16, M))
                else
                  (f_X5_finding 0 M).bind fun ((v18, M19) : Int32 × zM) =>
                  some ((v18, M19))
theorem cd_X5_count : zCd yX5_count cX5_count 2 (some .int) 1 := ⟨w742, w64, ⟨by decide, by decide⟩, by decide +kernel⟩
set_option maxHeartbeats 4000000 in
set_option maxRecDepth 20000 in
theorem ok_X5_count {x1 : Int32} {M : zM} {y : Int32 × zM}  (h : f_X5_count x1 M = some y) : zRuns yX5_count cX5_count 2 (some .int) 2 43 [.ref 0, .int x1] M (some (.int y.1)) y.2 := by
  refine zRuns_of (by decide +kernel) (Nat.le_of_ble_eq_true rfl) (fun E Z hE => ?_)
  have h := zB_top h
  change VV E 2 0 [(0, Value.ref 0), (1, Value.int x1)] [] M
  refine V_iload_n 1 Z rfl rfl (show decode cX5_count 0 = .ok (.iload_n 1, 1) by decide +kernel) ?_
  rcases zB_ite h with ⟨c1, h⟩ | ⟨c1, h⟩
  · refine V_tabE (off := 47) 0 48 Z c1 (show decode cX5_count 1 = .ok (.tableswitch 114 0 7 #[47, 55, 63, 74, 82, 90, 98, 106], 47) by decide +kernel) (by decide) ?_
    refine V_aload_n 0 Z rfl rfl (show decode cX5_count 48 = .ok (.aload_n 0, 1) by decide +kernel) ?_
    refine V_getR 0 1 Z zc4 (by decide) rfl (by decide) rfl (by decide) ⟨rfl, rfl, rfl⟩ w216 (show decode cX5_count 49 = .ok (.getfield 10, 3) by decide +kernel) ?_
    refine V_getI 10 Z zc0 (isH_lt isH_1) (shH isH_1) (by decide) rfl ⟨rfl, rfl, rfl⟩ w117 (show decode cX5_count 52 = .ok (.getfield 133, 3) by decide +kernel) ?_
    exact V_iretM Z hE h (show decode cX5_count 55 = .ok (.ireturn, 1) by decide +kernel)
  · skip
    rcases zB_ite h with ⟨c2, h⟩ | ⟨c2, h⟩
    · refine V_tabE (off := 55) 1 56 Z c2 (show decode cX5_count 1 = .ok (.tableswitch 114 0 7 #[47, 55, 63, 74, 82, 90, 98, 106], 47) by decide +kernel) (by decide) ?_
      refine V_aload_n 0 Z rfl rfl (show decode cX5_count 56 = .ok (.aload_n 0, 1) by decide +kernel) ?_
      refine V_getR 0 1 Z zc4 (by decide) rfl (by decide) rfl (by decide) ⟨rfl, rfl, rfl⟩ w216 (show decode cX5_count 57 = .ok (.getfield 10, 3) by decide +kernel) ?_
      refine V_getI 0 Z zc0 (isH_lt isH_1) (shH isH_1) (by decide) rfl ⟨rfl, rfl, rfl⟩ w93 (show decode cX5_count 60 = .ok (.getfield 59, 3) by decide +kernel) ?_
      exact V_iretM Z hE h (show decode cX5_count 63 = .ok (.ireturn, 1) by decide +kernel)
    · skip
      rcases zB_ite h with ⟨c3, h⟩ | ⟨c3, h⟩
      · refine V_tabE (off := 63) 2 64 Z c3 (show decode cX5_count 1 = .ok (.tableswitch 114 0 7 #[47, 55, 63, 74, 82, 90, 98, 106], 47) by decide +kernel) (by decide) ?_
        refine V_aload_n 0 Z rfl rfl (show decode cX5_count 64 = .ok (.aload_n 0, 1) by decide +kernel) ?_
        refine V_getR 0 1 Z zc4 (by decide) rfl (by decide) rfl (by decide) ⟨rfl, rfl, rfl⟩ w216 (show decode cX5_count 65 = .ok (.getfield 10, 3) by decide +kernel) ?_
        obtain ⟨v5, e4, h⟩ := zB_bind h
        refine V_callV (rest := []) 0 Z (ok_X0_hanging isH_1 e4) cd_X0_hanging zc0 (isH_lt isH_1) (shH isH_1) w391 w344 w345 rfl (show decode cX5_count 68 = .ok (.invokevirtual 143, 3) by decide +kernel) rfl ?_
        obtain ⟨v7, e6, h⟩ := zB_bind h
        refine V_callS (rest := []) 1 Z (ok_J6_bitCount_0f7a4  e6) cd_J6_bitCount_0f7a4 w351 w352 rfl (show decode cX5_count 71 = .ok (.invokestatic 190, 3) by decide +kernel) rfl ?_
        exact V_iretM Z hE h (show decode cX5_count 74 = .ok (.ireturn, 1) by decide +kernel)
      · skip
        rcases zB_ite h with ⟨c8, h⟩ | ⟨c8, h⟩
        · refine V_tabE (off := 74) 3 75 Z c8 (show decode cX5_count 1 = .ok (.tableswitch 114 0 7 #[47, 55, 63, 74, 82, 90, 98, 106], 47) by decide +kernel) (by decide) ?_
          refine V_aload_n 0 Z rfl rfl (show decode cX5_count 75 = .ok (.aload_n 0, 1) by decide +kernel) ?_
          refine V_getR 0 1 Z zc4 (by decide) rfl (by decide) rfl (by decide) ⟨rfl, rfl, rfl⟩ w216 (show decode cX5_count 76 = .ok (.getfield 10, 3) by decide +kernel) ?_
          refine V_getI 11 Z zc0 (isH_lt isH_1) (shH isH_1) (by decide) rfl ⟨rfl, rfl, rfl⟩ w119 (show decode cX5_count 79 = .ok (.getfield 149, 3) by decide +kernel) ?_
          exact V_iretM Z hE h (show decode cX5_count 82 = .ok (.ireturn, 1) by decide +kernel)
        · skip
          rcases zB_ite h with ⟨c9, h⟩ | ⟨c9, h⟩
          · refine V_tabE (off := 82) 4 83 Z c9 (show decode cX5_count 1 = .ok (.tableswitch 114 0 7 #[47, 55, 63, 74, 82, 90, 98, 106], 47) by decide +kernel) (by decide) ?_
            refine V_aload_n 0 Z rfl rfl (show decode cX5_count 83 = .ok (.aload_n 0, 1) by decide +kernel) ?_
            refine V_getR 0 1 Z zc4 (by decide) rfl (by decide) rfl (by decide) ⟨rfl, rfl, rfl⟩ w216 (show decode cX5_count 84 = .ok (.getfield 10, 3) by decide +kernel) ?_
            obtain ⟨v11, e10, h⟩ := zB_bind h
            refine V_callV (rest := []) 0 Z (ok_X0_purses isH_1 e10) cd_X0_purses zc0 (isH_lt isH_1) (shH isH_1) w383 w384 w385 rfl (show decode cX5_count 87 = .ok (.invokevirtual 139, 3) by decide +kernel) rfl ?_
            exact V_iretM Z hE h (show decode cX5_count 90 = .ok (.ireturn, 1) by decide +kernel)
          · skip
            rcases zB_ite h with ⟨c12, h⟩ | ⟨c12, h⟩
            · refine V_tabE (off := 90) 5 91 Z c12 (show decode cX5_count 1 = .ok (.tableswitch 114 0 7 #[47, 55, 63, 74, 82, 90, 98, 106], 47) by decide +kernel) (by decide) ?_
              refine V_aload_n 0 Z rfl rfl (show decode cX5_count 91 = .ok (.aload_n 0, 1) by decide +kernel) ?_
              refine V_getR 3 34 Z zc4 (by decide) rfl (by decide) rfl (by decide) ⟨rfl, rfl, rfl⟩ w219 (show decode cX5_count 92 = .ok (.getfield 25, 3) by decide +kernel) ?_
              refine V_getI 1 Z zc3 (by decide) rfl (by decide) rfl ⟨rfl, rfl, rfl⟩ w166 (show decode cX5_count 95 = .ok (.getfield 214, 3) by decide +kernel) ?_
              exact V_iretM Z hE h (show decode cX5_count 98 = .ok (.ireturn, 1) by decide +kernel)
            · skip
              rcases zB_ite h with ⟨c13, h⟩ | ⟨c13, h⟩
              · refine V_tabE (off := 98) 6 99 Z c13 (show decode cX5_count 1 = .ok (.tableswitch 114 0 7 #[47, 55, 63, 74, 82, 90, 98, 106], 47) by decide +kernel) (by decide) ?_
                refine V_aload_n 0 Z rfl rfl (show decode cX5_count 99 = .ok (.aload_n 0, 1) by decide +kernel) ?_
                refine V_getR 0 1 Z zc4 (by decide) rfl (by decide) rfl (by decide) ⟨rfl, rfl, rfl⟩ w216 (show decode cX5_count 100 = .ok (.getfield 10, 3) by decide +kernel) ?_
                refine V_getI 12 Z zc0 (isH_lt isH_1) (shH isH_1) (by decide) rfl ⟨rfl, rfl, rfl⟩ w121 (show decode cX5_count 103 = .ok (.getfield 211, 3) by decide +kernel) ?_
                exact V_iretM Z hE h (show decode cX5_count 106 = .ok (.ireturn, 1) by decide +kernel)
              · skip
                rcases zB_ite h with ⟨c14, h⟩ | ⟨c14, h⟩
                · refine V_tabE (off := 106) 7 107 Z c14 (show decode cX5_count 1 = .ok (.tableswitch 114 0 7 #[47, 55, 63, 74, 82, 90, 98, 106], 47) by decide +kernel) (by decide) ?_
                  refine V_aload_n 0 Z rfl rfl (show decode cX5_count 107 = .ok (.aload_n 0, 1) by decide +kernel) ?_
                  refine V_getR 0 1 Z zc4 (by decide) rfl (by decide) rfl (by decide) ⟨rfl, rfl, rfl⟩ w216 (show decode cX5_count 108 = .ok (.getfield 10, 3) by decide +kernel) ?_
                  obtain ⟨v16, e15, h⟩ := zB_bind h
                  refine V_callV (rest := []) 0 Z (ok_X0_spotsHeld isH_1 e15) cd_X0_spotsHeld zc0 (isH_lt isH_1) (shH isH_1) w743 w744 w745 rfl (show decode cX5_count 111 = .ok (.invokevirtual 256, 3) by decide +kernel) rfl ?_
                  exact V_iretM Z hE h (show decode cX5_count 114 = .ok (.ireturn, 1) by decide +kernel)
                · skip
                  refine V_tabOut 115 Z (show decode cX5_count 1 = .ok (.tableswitch 114 0 7 #[47, 55, 63, 74, 82, 90, 98, 106], 47) by decide +kernel) (z_out (fun i h1 h2 e => by
                      rcases (show i = 0 ∨ i = 1 ∨ i = 2 ∨ i = 3 ∨ i = 4 ∨ i = 5 ∨ i = 6 ∨ i = 7 by omega) with rfl | rfl | rfl | rfl | rfl | rfl | rfl | rfl
                      · exact c1 e
                      · exact c2 e
                      · exact c3 e
                      · exact c8 e
                      · exact c9 e
                      · exact c12 e
                      · exact c13 e
                      · exact c14 e)) (by decide) ?_
                  refine V_aload_n 0 Z rfl rfl (show decode cX5_count 115 = .ok (.aload_n 0, 1) by decide +kernel) ?_
                  refine V_iconst 0 (by decide) Z (show decode cX5_count 116 = .ok (.iconst 0, 1) by decide +kernel) ?_
                  obtain ⟨⟨v18, M19⟩, e17, h⟩ := zB_bind h
                  refine V_callV (rest := []) 1 Z (ok_X5_finding  e17) cd_X5_finding zc4 (by decide) rfl w248 w250 w0 rfl (show decode cX5_count 117 = .ok (.invokevirtual 55, 3) by decide +kernel) rfl ?_
                  exact V_iretM Z hE h (show decode cX5_count 120 = .ok (.ireturn, 1) by decide +kernel)
def f_X5_status_l31 (M : zM) : Int32 × Int32 → Option ((Int32 × Int32) ⊕ (Int32 × zM))
  | (y2, y3) =>
    if 7 ≤ y3 then
      some (.inr ((y2, M)))
    else
      (zrd M 38 y3).bind fun (v6 : Int32) =>
      (some ((y2 + v6))).bind fun (x8 : Int32) =>
      (some (y3 + 1)).bind fun (x10 : Int32) =>
      some (.inl ((x8, x10)))
def f_X5_status (x1 : Int32) (M : zM) : Option (Int32 × zM) :=
  (f_X5_within x1 (-1) 6 M).bind fun (v2 : Int32) =>
  if v2 = 0 then
    (f_X5_finding 0 M).bind fun ((v15, M16) : Int32 × zM) =>
    some ((v15, M16))
  else
    if x1 < 0 then
      zIter (f_X5_status_l31 M) 1000 (0, 0)
    else
      (zrd M 38 x1).bind fun (v12 : Int32) =>
      some ((v12, M))
theorem cd_X5_status : zCd yX5_status cX5_status 4 (some .int) 1 := ⟨w750, w64, ⟨by decide, by decide⟩, by decide +kernel⟩
set_option maxHeartbeats 4000000 in
set_option maxRecDepth 20000 in
theorem ok_X5_status {x1 : Int32} {M : zM} {y : Int32 × zM}  (h : f_X5_status x1 M = some y) : zRuns yX5_status cX5_status 4 (some .int) 1 22 [.ref 0, .int x1] M (some (.int y.1)) y.2 := by
  refine zRuns_of (by decide +kernel) (Nat.le_of_ble_eq_true rfl) (fun E Z hE => ?_)
  have h := zB_top h
  change VV E 4 0 [(0, Value.ref 0), (1, Value.int x1)] [] M
  refine V_iload_n 1 Z rfl rfl (show decode cX5_status 0 = .ok (.iload_n 1, 1) by decide +kernel) ?_
  refine V_iconst (-1) (by decide) Z (show decode cX5_status 1 = .ok (.iconst (-1), 1) by decide +kernel) ?_
  refine V_bipush 6 (by decide) Z (show decode cX5_status 2 = .ok (.bipush 6, 2) by decide +kernel) ?_
  obtain ⟨v2, e1, h⟩ := zB_bind h
  refine V_callS (rest := []) 3 Z (ok_X5_within  e1) cd_X5_within w245 w246 rfl (show decode cX5_status 4 = .ok (.invokestatic 51, 3) by decide +kernel) rfl ?_
  refine V_if_ne 16 Z (by decide) (show decode cX5_status 7 = .ok (.ifCond .ne 9, 3) by decide +kernel) (fun c3 => ?_) (fun c3 => ?_)
  · have h := zB_neg c3 h
    refine V_iload_n 1 Z rfl rfl (show decode cX5_status 16 = .ok (.iload_n 1, 1) by decide +kernel) ?_
    refine V_if_lt 27 Z (by decide) (show decode cX5_status 17 = .ok (.ifCond .lt 10, 3) by decide +kernel) (fun c4 => ?_) (fun c4 => ?_)
    · have h := zB_pos c4 h
      refine V_iconst 0 (by decide) Z (show decode cX5_status 27 = .ok (.iconst 0, 1) by decide +kernel) ?_
      refine V_istore_n [(2, Value.int 0), (0, Value.ref 0), (1, Value.int x1)] Z (by decide) rfl rfl (show decode cX5_status 28 = .ok (.istore_n 2, 1) by decide +kernel) ?_
      refine V_iconst 0 (by decide) Z (show decode cX5_status 29 = .ok (.iconst 0, 1) by decide +kernel) ?_
      refine V_istore_n [(3, Value.int 0), (2, Value.int 0), (0, Value.ref 0), (1, Value.int x1)] Z (by decide) rfl rfl (show decode cX5_status 30 = .ok (.istore_n 3, 1) by decide +kernel) ?_
      refine V_sub [2, 1, 0] rfl ?_
      refine zIter_loop' (K := some) (fun s : Int32 × Int32 => VV E 4 31 [(0, Value.ref 0), (2, Value.int s.1), (3, Value.int s.2)] [] M) (fun K1 s c1_i c1_r h => ?_) _ _ h
      obtain ⟨y2, y3⟩ := s
      change VV E 4 31 [(0, Value.ref 0), (2, Value.int y2), (3, Value.int y3)] [] M
      refine V_iload_n 2 Z rfl rfl (show decode cX5_status 31 = .ok (.iload_n 3, 1) by decide +kernel) ?_
      refine V_bipush 7 (by decide) Z (show decode cX5_status 32 = .ok (.bipush 7, 2) by decide +kernel) ?_
      refine V_icmp_ge 52 Z (by decide) (show decode cX5_status 34 = .ok (.if_icmp .ge 18, 3) by decide +kernel) (fun c5 => ?_) (fun c5 => ?_)
      · have h := zB_pos c5 h
        refine V_iload_n 1 Z rfl rfl (show decode cX5_status 52 = .ok (.iload_n 2, 1) by decide +kernel) ?_
        have h := c1_r _ h
        exact V_iretM Z hE h (show decode cX5_status 53 = .ok (.ireturn, 1) by decide +kernel)
      · have h := zB_neg c5 h
        refine V_iload_n 1 Z rfl rfl (show decode cX5_status 37 = .ok (.iload_n 2, 1) by decide +kernel) ?_
        refine V_aload_n 0 Z rfl rfl (show decode cX5_status 38 = .ok (.aload_n 0, 1) by decide +kernel) ?_
        refine V_getR 6 38 Z zc4 (by decide) rfl (by decide) rfl (by decide) ⟨rfl, rfl, rfl⟩ w222 (show decode cX5_status 39 = .ok (.getfield 42, 3) by decide +kernel) ?_
        refine V_iload_n 2 Z rfl rfl (show decode cX5_status 42 = .ok (.iload_n 3, 1) by decide +kernel) ?_
        obtain ⟨v6, e7, h⟩ := zB_bind h
        refine V_iald Z e7 (show decode cX5_status 43 = .ok (.iaload, 1) by decide +kernel) ?_
        refine V_iadd Z (show decode cX5_status 44 = .ok (.iadd, 1) by decide +kernel) ?_
        obtain ⟨x8, e9, h⟩ := zB_let h
        refine V_nm e9 ?_
        refine V_istore_n [(2, Value.int x8), (0, Value.ref 0), (3, Value.int y3)] Z (by decide) rfl rfl (show decode cX5_status 45 = .ok (.istore_n 2, 1) by decide +kernel) ?_
        obtain ⟨x10, e11, h⟩ := zB_let h
        refine V_iinc (n := 1) 2 x10 [(3, Value.int x10), (2, Value.int x8), (0, Value.ref 0)] Z (by decide) rfl e11 rfl (show decode cX5_status 46 = .ok (.iinc 3 1, 3) by decide +kernel) ?_
        refine V_goto 31 Z (by decide) (show decode cX5_status 49 = .ok (.goto (-18), 3) by decide +kernel) ?_
        refine V_sub [2, 1, 0] rfl ?_
        exact c1_i _ h
    · have h := zB_neg c4 h
      refine V_aload_n 0 Z rfl rfl (show decode cX5_status 20 = .ok (.aload_n 0, 1) by decide +kernel) ?_
      refine V_getR 6 38 Z zc4 (by decide) rfl (by decide) rfl (by decide) ⟨rfl, rfl, rfl⟩ w222 (show decode cX5_status 21 = .ok (.getfield 42, 3) by decide +kernel) ?_
      refine V_iload_n 1 Z rfl rfl (show decode cX5_status 24 = .ok (.iload_n 1, 1) by decide +kernel) ?_
      obtain ⟨v12, e13, h⟩ := zB_bind h
      refine V_iald Z e13 (show decode cX5_status 25 = .ok (.iaload, 1) by decide +kernel) ?_
      exact V_iretM Z hE h (show decode cX5_status 26 = .ok (.ireturn, 1) by decide +kernel)
  · have h := zB_pos c3 h
    refine V_aload_n 0 Z rfl rfl (show decode cX5_status 10 = .ok (.aload_n 0, 1) by decide +kernel) ?_
    refine V_iconst 0 (by decide) Z (show decode cX5_status 11 = .ok (.iconst 0, 1) by decide +kernel) ?_
    obtain ⟨⟨v15, M16⟩, e14, h⟩ := zB_bind h
    refine V_callV (rest := []) 1 Z (ok_X5_finding  e14) cd_X5_finding zc4 (by decide) rfl w248 w250 w0 rfl (show decode cX5_status 12 = .ok (.invokevirtual 55, 3) by decide +kernel) rfl ?_
    exact V_iretM Z hE h (show decode cX5_status 15 = .ok (.ireturn, 1) by decide +kernel)
def f_X6_finding (x1 : Int32) (M : zM) : Option (Int32 × zM) :=
  (zrd M 51 (((-1000001) - x1) + 1)).bind fun (v1 : Int32) =>
  (zwr M 51 (((-1000001) - x1) + 1) (v1 + 1)).bind fun (M3 : zM) =>
  (zrd M3 51 0).bind fun (v5 : Int32) =>
  (zwr M3 51 0 (v5 + 1)).bind fun (M7 : zM) =>
  some ((x1, M7))
theorem cd_X6_finding : zCd yX6_finding cX6_finding 2 (some .int) 1 := ⟨w847, w69, ⟨by decide, by decide⟩, by decide +kernel⟩
set_option maxHeartbeats 4000000 in
set_option maxRecDepth 20000 in
theorem ok_X6_finding {x1 : Int32} {M : zM} {y : Int32 × zM}  (h : f_X6_finding x1 M = some y) : zRuns yX6_finding cX6_finding 2 (some .int) 0 0 [.ref 47, .int x1] M (some (.int y.1)) y.2 := by
  refine zRuns_of (by decide +kernel) (Nat.le_of_ble_eq_true rfl) (fun E Z hE => ?_)
  have h := zB_top h
  change VV E 2 0 [(0, Value.ref 47), (1, Value.int x1)] [] M
  refine V_aload_n 0 Z rfl rfl (show decode cX6_finding 0 = .ok (.aload_n 0, 1) by decide +kernel) ?_
  refine V_getR 4 51 Z zc5 (by decide) rfl (by decide) rfl (by decide) ⟨rfl, rfl, rfl⟩ w770 (show decode cX6_finding 1 = .ok (.getfield 19, 3) by decide +kernel) ?_
  refine V_ldc (-1000001) Z w843 (show decode cX6_finding 4 = .ok (.ldc 66, 2) by decide +kernel) ?_
  refine V_iload_n 1 Z rfl rfl (show decode cX6_finding 6 = .ok (.iload_n 1, 1) by decide +kernel) ?_
  refine V_isub Z (show decode cX6_finding 7 = .ok (.isub, 1) by decide +kernel) ?_
  refine V_iconst 1 (by decide) Z (show decode cX6_finding 8 = .ok (.iconst 1, 1) by decide +kernel) ?_
  refine V_iadd Z (show decode cX6_finding 9 = .ok (.iadd, 1) by decide +kernel) ?_
  refine V_dup2 rfl rfl Z (show decode cX6_finding 10 = .ok (.dup2, 1) by decide +kernel) ?_
  obtain ⟨v1, e2, h⟩ := zB_bind h
  refine V_iald Z e2 (show decode cX6_finding 11 = .ok (.iaload, 1) by decide +kernel) ?_
  refine V_iconst 1 (by decide) Z (show decode cX6_finding 12 = .ok (.iconst 1, 1) by decide +kernel) ?_
  refine V_iadd Z (show decode cX6_finding 13 = .ok (.iadd, 1) by decide +kernel) ?_
  obtain ⟨M3, e4, h⟩ := zB_bind h
  refine V_iast Z e4 (show decode cX6_finding 14 = .ok (.iastore, 1) by decide +kernel) ?_
  refine V_aload_n 0 Z rfl rfl (show decode cX6_finding 15 = .ok (.aload_n 0, 1) by decide +kernel) ?_
  refine V_getR 4 51 Z zc5 (by decide) rfl (by decide) rfl (by decide) ⟨rfl, rfl, rfl⟩ w770 (show decode cX6_finding 16 = .ok (.getfield 19, 3) by decide +kernel) ?_
  refine V_iconst 0 (by decide) Z (show decode cX6_finding 19 = .ok (.iconst 0, 1) by decide +kernel) ?_
  refine V_dup2 rfl rfl Z (show decode cX6_finding 20 = .ok (.dup2, 1) by decide +kernel) ?_
  obtain ⟨v5, e6, h⟩ := zB_bind h
  refine V_iald Z e6 (show decode cX6_finding 21 = .ok (.iaload, 1) by decide +kernel) ?_
  refine V_iconst 1 (by decide) Z (show decode cX6_finding 22 = .ok (.iconst 1, 1) by decide +kernel) ?_
  refine V_iadd Z (show decode cX6_finding 23 = .ok (.iadd, 1) by decide +kernel) ?_
  obtain ⟨M7, e8, h⟩ := zB_bind h
  refine V_iast Z e8 (show decode cX6_finding 24 = .ok (.iastore, 1) by decide +kernel) ?_
  refine V_iload_n 1 Z rfl rfl (show decode cX6_finding 25 = .ok (.iload_n 1, 1) by decide +kernel) ?_
  exact V_iretM Z hE h (show decode cX6_finding 26 = .ok (.ireturn, 1) by decide +kernel)
def f_X6_within (x0 : Int32) (x1 : Int32) (x2 : Int32) (M : zM) : Option (Int32) :=
  if x0 < x1 then
    some ((0 : Int32))
  else
    if x2 < x0 then
      some ((0 : Int32))
    else
      some ((1 : Int32))
theorem cd_X6_within : zCd yX6_within cX6_within 3 (some .boolean) 3 := ⟨w842, w69, ⟨by decide, by decide⟩, by decide +kernel⟩
set_option maxHeartbeats 4000000 in
set_option maxRecDepth 20000 in
theorem ok_X6_within {x0 : Int32} {x1 : Int32} {x2 : Int32} {M : zM} {y : Int32}  (h : f_X6_within x0 x1 x2 M = some y) : zRuns yX6_within cX6_within 3 (some .boolean) 0 0 [.int x0, .int x1, .int x2] M (some (.int y)) M := by
  refine zRuns_of (by decide +kernel) (Nat.le_of_ble_eq_true rfl) (fun E Z hE => ?_)
  have h := zB_top h
  change VV E 3 0 [(0, Value.int x0), (1, Value.int x1), (2, Value.int x2)] [] M
  refine V_iload_n 0 Z rfl rfl (show decode cX6_within 0 = .ok (.iload_n 0, 1) by decide +kernel) ?_
  refine V_iload_n 1 Z rfl rfl (show decode cX6_within 1 = .ok (.iload_n 1, 1) by decide +kernel) ?_
  refine V_icmp_lt 14 Z (by decide) (show decode cX6_within 2 = .ok (.if_icmp .lt 12, 3) by decide +kernel) (fun c1 => ?_) (fun c1 => ?_)
  · have h := zB_pos c1 h
    refine V_iconst 0 (by decide) Z (show decode cX6_within 14 = .ok (.iconst 0, 1) by decide +kernel) ?_
    exact V_zretP Z hE h rfl (show decode cX6_within 15 = .ok (.ireturn, 1) by decide +kernel)
  · have h := zB_neg c1 h
    refine V_iload_n 0 Z rfl rfl (show decode cX6_within 5 = .ok (.iload_n 0, 1) by decide +kernel) ?_
    refine V_iload_n 2 Z rfl rfl (show decode cX6_within 6 = .ok (.iload_n 2, 1) by decide +kernel) ?_
    refine V_icmp_gt 14 Z (by decide) (show decode cX6_within 7 = .ok (.if_icmp .gt 7, 3) by decide +kernel) (fun c2 => ?_) (fun c2 => ?_)
    · have h := zB_pos c2 h
      refine V_iconst 0 (by decide) Z (show decode cX6_within 14 = .ok (.iconst 0, 1) by decide +kernel) ?_
      exact V_zretP Z hE h rfl (show decode cX6_within 15 = .ok (.ireturn, 1) by decide +kernel)
    · have h := zB_neg c2 h
      refine V_iconst 1 (by decide) Z (show decode cX6_within 10 = .ok (.iconst 1, 1) by decide +kernel) ?_
      refine V_goto 15 Z (by decide) (show decode cX6_within 11 = .ok (.goto 4, 3) by decide +kernel) ?_
      exact V_zretP Z hE h rfl (show decode cX6_within 15 = .ok (.ireturn, 1) by decide +kernel)
def f_X6_become (x1 : Int32) (x2 : Int32) (M : zM) : Option (Int32 × zM) :=
  (zrd M 48 x1).bind fun (v1 : Int32) =>
  (zwr M 48 x1 x2).bind fun (M3 : zM) =>
  some ((v1, M3))
theorem cd_X6_become : zCd yX6_become cX6_become 4 (some .int) 2 := ⟨w900, w69, ⟨by decide, by decide⟩, by decide +kernel⟩
set_option maxHeartbeats 4000000 in
set_option maxRecDepth 20000 in
theorem ok_X6_become {x1 : Int32} {x2 : Int32} {M : zM} {y : Int32 × zM}  (h : f_X6_become x1 x2 M = some y) : zRuns yX6_become cX6_become 4 (some .int) 0 0 [.ref 47, .int x1, .int x2] M (some (.int y.1)) y.2 := by
  refine zRuns_of (by decide +kernel) (Nat.le_of_ble_eq_true rfl) (fun E Z hE => ?_)
  have h := zB_top h
  change VV E 4 0 [(0, Value.ref 47), (1, Value.int x1), (2, Value.int x2)] [] M
  refine V_aload_n 0 Z rfl rfl (show decode cX6_become 0 = .ok (.aload_n 0, 1) by decide +kernel) ?_
  refine V_getR 0 48 Z zc5 (by decide) rfl (by decide) rfl (by decide) ⟨rfl, rfl, rfl⟩ w766 (show decode cX6_become 1 = .ok (.getfield 9, 3) by decide +kernel) ?_
  refine V_iload_n 1 Z rfl rfl (show decode cX6_become 4 = .ok (.iload_n 1, 1) by decide +kernel) ?_
  obtain ⟨v1, e2, h⟩ := zB_bind h
  refine V_iald Z e2 (show decode cX6_become 5 = .ok (.iaload, 1) by decide +kernel) ?_
  refine V_istore_n [(3, Value.int v1), (0, Value.ref 47), (1, Value.int x1), (2, Value.int x2)] Z (by decide) rfl rfl (show decode cX6_become 6 = .ok (.istore_n 3, 1) by decide +kernel) ?_
  refine V_aload_n 1 Z rfl rfl (show decode cX6_become 7 = .ok (.aload_n 0, 1) by decide +kernel) ?_
  refine V_getR 0 48 Z zc5 (by decide) rfl (by decide) rfl (by decide) ⟨rfl, rfl, rfl⟩ w766 (show decode cX6_become 8 = .ok (.getfield 9, 3) by decide +kernel) ?_
  refine V_iload_n 2 Z rfl rfl (show decode cX6_become 11 = .ok (.iload_n 1, 1) by decide +kernel) ?_
  refine V_iload_n 3 Z rfl rfl (show decode cX6_become 12 = .ok (.iload_n 2, 1) by decide +kernel) ?_
  obtain ⟨M3, e4, h⟩ := zB_bind h
  refine V_iast Z e4 (show decode cX6_become 13 = .ok (.iastore, 1) by decide +kernel) ?_
  refine V_iload_n 0 Z rfl rfl (show decode cX6_become 14 = .ok (.iload_n 3, 1) by decide +kernel) ?_
  exact V_iretM Z hE h (show decode cX6_become 15 = .ok (.ireturn, 1) by decide +kernel)
def f_X6_copyRow_l2 (a : Nat) (b : Nat) : Int32 × zM → Option ((Int32 × zM) ⊕ (zM))
  | (y2, M) =>
    if 67 ≤ y2 then
      some (.inr (M))
    else
      (zrd M a y2).bind fun (v2 : Int32) =>
      (zwr M b y2 v2).bind fun (M4 : zM) =>
      (some (y2 + 1)).bind fun (x6 : Int32) =>
      some (.inl ((x6, M4)))
def f_X6_copyRow (a : Nat) (b : Nat) (M : zM) : Option (zM) :=
  zIter (f_X6_copyRow_l2 a b) 1000 (0, M)
theorem cd_X6_copyRow : zCd yX6_copyRow cX6_copyRow 3 none 2 := ⟨w1001, w69, ⟨by decide, by decide⟩, by decide +kernel⟩
set_option maxHeartbeats 4000000 in
set_option maxRecDepth 20000 in
theorem ok_X6_copyRow {a : Nat} {b : Nat} {M : zM} {y : zM}  (h : f_X6_copyRow a b M = some y) : zRuns yX6_copyRow cX6_copyRow 3 none 0 0 [.ref a, .ref b] M none y := by
  refine zRuns_of (by decide +kernel) (Nat.le_of_ble_eq_true rfl) (fun E Z hE => ?_)
  have h := zB_top h
  change VV E 3 0 [(0, Value.ref a), (1, Value.ref b)] [] M
  refine V_iconst 0 (by decide) Z (show decode cX6_copyRow 0 = .ok (.iconst 0, 1) by decide +kernel) ?_
  refine V_istore_n [(2, Value.int 0), (0, Value.ref a), (1, Value.ref b)] Z (by decide) rfl rfl (show decode cX6_copyRow 1 = .ok (.istore_n 2, 1) by decide +kernel) ?_
  refine V_sub [1, 2, 0] rfl ?_
  refine zIter_loop' (K := some) (fun s : Int32 × zM => VV E 3 2 [(0, Value.ref a), (1, Value.ref b), (2, Value.int s.1)] [] s.2) (fun K1 s c1_i c1_r h => ?_) _ _ h
  obtain ⟨y2, M⟩ := s
  change VV E 3 2 [(0, Value.ref a), (1, Value.ref b), (2, Value.int y2)] [] M
  refine V_iload_n 2 Z rfl rfl (show decode cX6_copyRow 2 = .ok (.iload_n 2, 1) by decide +kernel) ?_
  refine V_bipush 67 (by decide) Z (show decode cX6_copyRow 3 = .ok (.bipush 67, 2) by decide +kernel) ?_
  refine V_icmp_ge 20 Z (by decide) (show decode cX6_copyRow 5 = .ok (.if_icmp .ge 15, 3) by decide +kernel) (fun c1 => ?_) (fun c1 => ?_)
  · have h := zB_pos c1 h
    have h := c1_r _ h
    exact V_vretM Z hE h (show decode cX6_copyRow 20 = .ok (.return_, 1) by decide +kernel)
  · have h := zB_neg c1 h
    refine V_aload_n 1 Z rfl rfl (show decode cX6_copyRow 8 = .ok (.aload_n 1, 1) by decide +kernel) ?_
    refine V_iload_n 2 Z rfl rfl (show decode cX6_copyRow 9 = .ok (.iload_n 2, 1) by decide +kernel) ?_
    refine V_aload_n 0 Z rfl rfl (show decode cX6_copyRow 10 = .ok (.aload_n 0, 1) by decide +kernel) ?_
    refine V_iload_n 2 Z rfl rfl (show decode cX6_copyRow 11 = .ok (.iload_n 2, 1) by decide +kernel) ?_
    obtain ⟨v2, e3, h⟩ := zB_bind h
    refine V_iald Z e3 (show decode cX6_copyRow 12 = .ok (.iaload, 1) by decide +kernel) ?_
    obtain ⟨M4, e5, h⟩ := zB_bind h
    refine V_iast Z e5 (show decode cX6_copyRow 13 = .ok (.iastore, 1) by decide +kernel) ?_
    obtain ⟨x6, e7, h⟩ := zB_let h
    refine V_iinc (n := 1) 2 x6 [(2, Value.int x6), (0, Value.ref a), (1, Value.ref b)] Z (by decide) rfl e7 rfl (show decode cX6_copyRow 14 = .ok (.iinc 2 1, 3) by decide +kernel) ?_
    refine V_goto 2 Z (by decide) (show decode cX6_copyRow 17 = .ok (.goto (-15), 3) by decide +kernel) ?_
    refine V_sub [1, 2, 0] rfl ?_
    exact c1_i _ h
def f_X6_putBack (x1 : Int32) (M : zM) : Option (Int32 × zM) :=
  (f_X6_copyRow 50 48 M).bind fun (M2 : zM) =>
  some ((x1, M2))
theorem cd_X6_putBack : zCd yX6_putBack cX6_putBack 2 (some .int) 1 := ⟨w1005, w69, ⟨by decide, by decide⟩, by decide +kernel⟩
set_option maxHeartbeats 4000000 in
set_option maxRecDepth 20000 in
theorem ok_X6_putBack {x1 : Int32} {M : zM} {y : Int32 × zM}  (h : f_X6_putBack x1 M = some y) : zRuns yX6_putBack cX6_putBack 2 (some .int) 1 22 [.ref 47, .int x1] M (some (.int y.1)) y.2 := by
  refine zRuns_of (by decide +kernel) (Nat.le_of_ble_eq_true rfl) (fun E Z hE => ?_)
  have h := zB_top h
  change VV E 2 0 [(0, Value.ref 47), (1, Value.int x1)] [] M
  refine V_aload_n 0 Z rfl rfl (show decode cX6_putBack 0 = .ok (.aload_n 0, 1) by decide +kernel) ?_
  refine V_getR 2 50 Z zc5 (by decide) rfl (by decide) rfl (by decide) ⟨rfl, rfl, rfl⟩ w768 (show decode cX6_putBack 1 = .ok (.getfield 16, 3) by decide +kernel) ?_
  refine V_aload_n 0 Z rfl rfl (show decode cX6_putBack 4 = .ok (.aload_n 0, 1) by decide +kernel) ?_
  refine V_getR 0 48 Z zc5 (by decide) rfl (by decide) rfl (by decide) ⟨rfl, rfl, rfl⟩ w766 (show decode cX6_putBack 5 = .ok (.getfield 9, 3) by decide +kernel) ?_
  obtain ⟨M2, e1, h⟩ := zB_bind h
  refine V_callS (rest := []) 2 Z (ok_X6_copyRow  e1) cd_X6_copyRow w999 w1000 rfl (show decode cX6_putBack 8 = .ok (.invokestatic 67, 3) by decide +kernel) rfl ?_
  refine V_iload_n 1 Z rfl rfl (show decode cX6_putBack 11 = .ok (.iload_n 1, 1) by decide +kernel) ?_
  exact V_iretM Z hE h (show decode cX6_putBack 12 = .ok (.ireturn, 1) by decide +kernel)
def f_X6_orNone (x1 : Int32) (M : zM) : Option (Int32 × zM) :=
  if 0 ≤ x1 then
    some ((x1, M))
  else
    (f_X6_finding (-1000004) M).bind fun ((v3, M4) : Int32 × zM) =>
    some ((v3, M4))
theorem cd_X6_orNone : zCd yX6_orNone cX6_orNone 2 (some .int) 1 := ⟨w1026, w69, ⟨by decide, by decide⟩, by decide +kernel⟩
set_option maxHeartbeats 4000000 in
set_option maxRecDepth 20000 in
theorem ok_X6_orNone {x1 : Int32} {M : zM} {y : Int32 × zM}  (h : f_X6_orNone x1 M = some y) : zRuns yX6_orNone cX6_orNone 2 (some .int) 1 21 [.ref 47, .int x1] M (some (.int y.1)) y.2 := by
  refine zRuns_of (by decide +kernel) (Nat.le_of_ble_eq_true rfl) (fun E Z hE => ?_)
  have h := zB_top h
  change VV E 2 0 [(0, Value.ref 47), (1, Value.int x1)] [] M
  refine V_iload_n 1 Z rfl rfl (show decode cX6_orNone 0 = .ok (.iload_n 1, 1) by decide +kernel) ?_
  refine V_if_ge 13 Z (by decide) (show decode cX6_orNone 1 = .ok (.ifCond .ge 12, 3) by decide +kernel) (fun c1 => ?_) (fun c1 => ?_)
  · have h := zB_pos c1 h
    refine V_iload_n 1 Z rfl rfl (show decode cX6_orNone 13 = .ok (.iload_n 1, 1) by decide +kernel) ?_
    exact V_iretM Z hE h (show decode cX6_orNone 14 = .ok (.ireturn, 1) by decide +kernel)
  · have h := zB_neg c1 h
    refine V_aload_n 0 Z rfl rfl (show decode cX6_orNone 4 = .ok (.aload_n 0, 1) by decide +kernel) ?_
    refine V_ldc (-1000004) Z w1018 (show decode cX6_orNone 5 = .ok (.ldc 71, 2) by decide +kernel) ?_
    obtain ⟨⟨v3, M4⟩, e2, h⟩ := zB_bind h
    refine V_callV (rest := []) 1 Z (ok_X6_finding  e2) cd_X6_finding zc5 (by decide) rfl w844 w846 w17 rfl (show decode cX6_orNone 7 = .ok (.invokevirtual 72, 3) by decide +kernel) rfl ?_
    refine V_goto 14 Z (by decide) (show decode cX6_orNone 10 = .ok (.goto 4, 3) by decide +kernel) ?_
    exact V_iretM Z hE h (show decode cX6_orNone 14 = .ok (.ireturn, 1) by decide +kernel)
def f_X6_has (x0 : Int32) (x1 : Int32) (M : zM) : Option (Int32) :=
  if ((x0 >>> (x1 &&& 31)) &&& 1) = 1 then
    some ((1 : Int32))
  else
    some ((0 : Int32))
theorem cd_X6_has : zCd yX6_has cX6_has 2 (some .boolean) 2 := ⟨w925, w69, ⟨by decide, by decide⟩, by decide +kernel⟩
set_option maxHeartbeats 4000000 in
set_option maxRecDepth 20000 in
theorem ok_X6_has {x0 : Int32} {x1 : Int32} {M : zM} {y : Int32}  (h : f_X6_has x0 x1 M = some y) : zRuns yX6_has cX6_has 2 (some .boolean) 0 0 [.int x0, .int x1] M (some (.int y)) M := by
  refine zRuns_of (by decide +kernel) (Nat.le_of_ble_eq_true rfl) (fun E Z hE => ?_)
  have h := zB_top h
  change VV E 2 0 [(0, Value.int x0), (1, Value.int x1)] [] M
  refine V_iload_n 0 Z rfl rfl (show decode cX6_has 0 = .ok (.iload_n 0, 1) by decide +kernel) ?_
  refine V_iload_n 1 Z rfl rfl (show decode cX6_has 1 = .ok (.iload_n 1, 1) by decide +kernel) ?_
  refine V_ishr Z (show decode cX6_has 2 = .ok (.ishr, 1) by decide +kernel) ?_
  refine V_iconst 1 (by decide) Z (show decode cX6_has 3 = .ok (.iconst 1, 1) by decide +kernel) ?_
  refine V_iand Z (show decode cX6_has 4 = .ok (.iand, 1) by decide +kernel) ?_
  refine V_iconst 1 (by decide) Z (show decode cX6_has 5 = .ok (.iconst 1, 1) by decide +kernel) ?_
  refine V_icmp_ne 13 Z (by decide) (show decode cX6_has 6 = .ok (.if_icmp .ne 7, 3) by decide +kernel) (fun c1 => ?_) (fun c1 => ?_)
  · have h := zB_neg c1 h
    refine V_iconst 0 (by decide) Z (show decode cX6_has 13 = .ok (.iconst 0, 1) by decide +kernel) ?_
    exact V_zretP Z hE h rfl (show decode cX6_has 14 = .ok (.ireturn, 1) by decide +kernel)
  · have h := zB_pos c1 h
    refine V_iconst 1 (by decide) Z (show decode cX6_has 9 = .ok (.iconst 1, 1) by decide +kernel) ?_
    refine V_goto 14 Z (by decide) (show decode cX6_has 10 = .ok (.goto 4, 3) by decide +kernel) ?_
    exact V_zretP Z hE h rfl (show decode cX6_has 14 = .ok (.ireturn, 1) by decide +kernel)
def f_X6_bits_l4 (M : zM) : Int32 × Int32 → Option ((Int32 × Int32) ⊕ (Int32))
  | (y1, y2) =>
    if y2 = 0 then
      some (.inr (y1))
    else
      (some (y1 + 1)).bind fun (x2 : Int32) =>
      (some ((y2 &&& (y2 - 1)))).bind fun (x4 : Int32) =>
      some (.inl ((x2, x4)))
def f_X6_bits (x0 : Int32) (M : zM) : Option (Int32) :=
  zIter (f_X6_bits_l4 M) 1000 (0, x0)
theorem cd_X6_bits : zCd yX6_bits cX6_bits 3 (some .int) 1 := ⟨w1082, w69, ⟨by decide, by decide⟩, by decide +kernel⟩
set_option maxHeartbeats 4000000 in
set_option maxRecDepth 20000 in
theorem ok_X6_bits {x0 : Int32} {M : zM} {y : Int32}  (h : f_X6_bits x0 M = some y) : zRuns yX6_bits cX6_bits 3 (some .int) 0 0 [.int x0] M (some (.int y)) M := by
  refine zRuns_of (by decide +kernel) (Nat.le_of_ble_eq_true rfl) (fun E Z hE => ?_)
  have h := zB_top h
  change VV E 3 0 [(0, Value.int x0)] [] M
  refine V_iconst 0 (by decide) Z (show decode cX6_bits 0 = .ok (.iconst 0, 1) by decide +kernel) ?_
  refine V_istore_n [(1, Value.int 0), (0, Value.int x0)] Z (by decide) rfl rfl (show decode cX6_bits 1 = .ok (.istore_n 1, 1) by decide +kernel) ?_
  refine V_iload_n 1 Z rfl rfl (show decode cX6_bits 2 = .ok (.iload_n 0, 1) by decide +kernel) ?_
  refine V_istore_n [(2, Value.int x0), (1, Value.int 0), (0, Value.int x0)] Z (by decide) rfl rfl (show decode cX6_bits 3 = .ok (.istore_n 2, 1) by decide +kernel) ?_
  refine V_sub [1, 0] rfl ?_
  refine zIter_loop' (K := some) (fun s : Int32 × Int32 => VV E 3 4 [(1, Value.int s.1), (2, Value.int s.2)] [] M) (fun K1 s c1_i c1_r h => ?_) _ _ h
  obtain ⟨y1, y2⟩ := s
  change VV E 3 4 [(1, Value.int y1), (2, Value.int y2)] [] M
  refine V_iload_n 1 Z rfl rfl (show decode cX6_bits 4 = .ok (.iload_n 2, 1) by decide +kernel) ?_
  refine V_if_eq 20 Z (by decide) (show decode cX6_bits 5 = .ok (.ifCond .eq 15, 3) by decide +kernel) (fun c1 => ?_) (fun c1 => ?_)
  · have h := zB_pos c1 h
    refine V_iload_n 0 Z rfl rfl (show decode cX6_bits 20 = .ok (.iload_n 1, 1) by decide +kernel) ?_
    have h := c1_r _ h
    exact V_iretP Z hE h (show decode cX6_bits 21 = .ok (.ireturn, 1) by decide +kernel)
  · have h := zB_neg c1 h
    obtain ⟨x2, e3, h⟩ := zB_let h
    refine V_iinc (n := 1) 0 x2 [(1, Value.int x2), (2, Value.int y2)] Z (by decide) rfl e3 rfl (show decode cX6_bits 8 = .ok (.iinc 1 1, 3) by decide +kernel) ?_
    refine V_iload_n 1 Z rfl rfl (show decode cX6_bits 11 = .ok (.iload_n 2, 1) by decide +kernel) ?_
    refine V_iload_n 1 Z rfl rfl (show decode cX6_bits 12 = .ok (.iload_n 2, 1) by decide +kernel) ?_
    refine V_iconst 1 (by decide) Z (show decode cX6_bits 13 = .ok (.iconst 1, 1) by decide +kernel) ?_
    refine V_isub Z (show decode cX6_bits 14 = .ok (.isub, 1) by decide +kernel) ?_
    refine V_iand Z (show decode cX6_bits 15 = .ok (.iand, 1) by decide +kernel) ?_
    obtain ⟨x4, e5, h⟩ := zB_let h
    refine V_nm e5 ?_
    refine V_istore_n [(2, Value.int x4), (1, Value.int x2)] Z (by decide) rfl rfl (show decode cX6_bits 16 = .ok (.istore_n 2, 1) by decide +kernel) ?_
    refine V_goto 4 Z (by decide) (show decode cX6_bits 17 = .ok (.goto (-13), 3) by decide +kernel) ?_
    refine V_sub [1, 0] rfl ?_
    exact c1_i _ h
def f_X6_isName (x1 : Int32) (M : zM) : Option (Int32) :=
  (zrd M 48 1).bind fun (v1 : Int32) =>
  (f_X6_within x1 0 (v1 - 1) M).bind fun (v4 : Int32) =>
  (zbo v4).bind fun (b5 : Int32) =>
  some (b5)
theorem cd_X6_isName : zCd yX6_isName cX6_isName 2 (some .boolean) 1 := ⟨w863, w69, ⟨by decide, by decide⟩, by decide +kernel⟩
set_option maxHeartbeats 4000000 in
set_option maxRecDepth 20000 in
theorem ok_X6_isName {x1 : Int32} {M : zM} {y : Int32}  (h : f_X6_isName x1 M = some y) : zRuns yX6_isName cX6_isName 2 (some .boolean) 1 22 [.ref 47, .int x1] M (some (.int y)) M := by
  refine zRuns_of (by decide +kernel) (Nat.le_of_ble_eq_true rfl) (fun E Z hE => ?_)
  have h := zB_top h
  change VV E 2 0 [(0, Value.ref 47), (1, Value.int x1)] [] M
  refine V_iload_n 1 Z rfl rfl (show decode cX6_isName 0 = .ok (.iload_n 1, 1) by decide +kernel) ?_
  refine V_iconst 0 (by decide) Z (show decode cX6_isName 1 = .ok (.iconst 0, 1) by decide +kernel) ?_
  refine V_aload_n 0 Z rfl rfl (show decode cX6_isName 2 = .ok (.aload_n 0, 1) by decide +kernel) ?_
  refine V_getR 0 48 Z zc5 (by decide) rfl (by decide) rfl (by decide) ⟨rfl, rfl, rfl⟩ w766 (show decode cX6_isName 3 = .ok (.getfield 9, 3) by decide +kernel) ?_
  refine V_iconst 1 (by decide) Z (show decode cX6_isName 6 = .ok (.iconst 1, 1) by decide +kernel) ?_
  obtain ⟨v1, e2, h⟩ := zB_bind h
  refine V_iald Z e2 (show decode cX6_isName 7 = .ok (.iaload, 1) by decide +kernel) ?_
  refine V_iconst 1 (by decide) Z (show decode cX6_isName 8 = .ok (.iconst 1, 1) by decide +kernel) ?_
  refine V_isub Z (show decode cX6_isName 9 = .ok (.isub, 1) by decide +kernel) ?_
  obtain ⟨v4, e3, h⟩ := zB_bind h
  refine V_callS (rest := []) 3 Z (ok_X6_within  e3) cd_X6_within w840 w841 rfl (show decode cX6_isName 10 = .ok (.invokestatic 76, 3) by decide +kernel) rfl ?_
  obtain ⟨b5, e6, h⟩ := zB_bind h
  refine V_nm (zbo_v e6).1 ?_
  exact V_zretP Z hE h (zbo_v e6).2 (show decode cX6_isName 13 = .ok (.ireturn, 1) by decide +kernel)
def f_X6_isPerson (x0 : Int32) (M : zM) : Option (Int32) :=
  (f_X6_within x0 0 5 M).bind fun (v2 : Int32) =>
  (zbo v2).bind fun (b3 : Int32) =>
  some (b3)
theorem cd_X6_isPerson : zCd yX6_isPerson cX6_isPerson 1 (some .boolean) 1 := ⟨w910, w69, ⟨by decide, by decide⟩, by decide +kernel⟩
set_option maxHeartbeats 4000000 in
set_option maxRecDepth 20000 in
theorem ok_X6_isPerson {x0 : Int32} {M : zM} {y : Int32}  (h : f_X6_isPerson x0 M = some y) : zRuns yX6_isPerson cX6_isPerson 1 (some .boolean) 1 22 [.int x0] M (some (.int y)) M := by
  refine zRuns_of (by decide +kernel) (Nat.le_of_ble_eq_true rfl) (fun E Z hE => ?_)
  have h := zB_top h
  change VV E 1 0 [(0, Value.int x0)] [] M
  refine V_iload_n 0 Z rfl rfl (show decode cX6_isPerson 0 = .ok (.iload_n 0, 1) by decide +kernel) ?_
  refine V_iconst 0 (by decide) Z (show decode cX6_isPerson 1 = .ok (.iconst 0, 1) by decide +kernel) ?_
  refine V_iconst 5 (by decide) Z (show decode cX6_isPerson 2 = .ok (.iconst 5, 1) by decide +kernel) ?_
  obtain ⟨v2, e1, h⟩ := zB_bind h
  refine V_callS (rest := []) 3 Z (ok_X6_within  e1) cd_X6_within w840 w841 rfl (show decode cX6_isPerson 3 = .ok (.invokestatic 76, 3) by decide +kernel) rfl ?_
  obtain ⟨b3, e4, h⟩ := zB_bind h
  refine V_nm (zbo_v e4).1 ?_
  exact V_zretP Z hE h (zbo_v e4).2 (show decode cX6_isPerson 6 = .ok (.ireturn, 1) by decide +kernel)
