/-! Generated walks: X5_count X5_status X6_finding X6_within X6_become X6_copyRow X6_putBack X6_orNone X6_has X6_bits X6_isName X6_isPerson X6_isKind X6_place X6_nameIs X6_comes X6_name -/
def f_X5_count (x1 : Int32) (M : zM) : Option (Int32 × zM) :=
  if x1 = 0 then
    some (((M 1 10), M))
  else
    if x1 = 1 then
      some (((M 1 0), M))
    else
      if x1 = 2 then
        (f_X0_hanging 1 M).bind fun (v5 : Int32) =>
        (f_J6_bitCount_0f7a4 v5 M).bind fun (v7 : Int32) =>
        some ((v7, M))
      else
        if x1 = 3 then
          some (((M 1 11), M))
        else
          if x1 = 4 then
            (f_X0_purses 1 M).bind fun (v11 : Int32) =>
            some ((v11, M))
          else
            if x1 = 5 then
              some (((M 34 1), M))
            else
              if x1 = 6 then
                some (((M 1 12), M))
              else
                if x1 = 7 then
                  (f_X0_spotsHeld 1 M).bind fun (v16 : Int32) =>
                  some ((v16, M))
                else
                  (f_X5_finding 0 M).bind fun ((v18, M19) : Int32 × zM) =>
                  some ((v18, M19))
theorem cd_X5_count : zCd yX5_count cX5_count 2 (some .int) 1 := ⟨w742, w64, ⟨by decide, by decide⟩, by decide +kernel⟩
set_option maxHeartbeats 4000000 in
set_option maxRecDepth 20000 in
theorem ok_X5_count {x1 : Int32} {M : zM} {y : Int32 × zM}  (h : f_X5_count x1 M = some y) : zRuns yX5_count cX5_count 2 (some .int) 2 43 [.ref 0, .int x1] M (some (.int y.1)) y.2 := by
  refine zRuns_of (by decide +kernel) (Nat.le_of_ble_eq_true rfl) (fun E Z hE => ?_)
  have h := zB_top h
  change VV E 2 0 [(0, Value.ref 0), (1, Value.int x1)] [] M
  refine V_iload_n 1 Z rfl rfl (show decode cX5_count 0 = .ok (.iload_n 1, 1) by decide +kernel) ?_
  rcases zB_ite h with ⟨c1, h⟩ | ⟨c1, h⟩
  · refine V_tabE (off := 47) 0 48 Z c1 (show decode cX5_count 1 = .ok (.tableswitch 114 0 7 #[47, 55, 63, 74, 82, 90, 98, 106], 47) by decide +kernel) (by decide) ?_
    refine V_aload_n 0 Z rfl rfl (show decode cX5_count 48 = .ok (.aload_n 0, 1) by decide +kernel) ?_
    refine V_getR 0 1 Z zc4 (by decide) rfl (by decide) rfl (by decide) ⟨rfl, rfl, rfl⟩ w216 (show decode cX5_count 49 = .ok (.getfield 10, 3) by decide +kernel) ?_
    refine V_getI 10 Z zc0 (isH_lt isH_1) (shH isH_1) (by decide) rfl ⟨rfl, rfl, rfl⟩ w117 (show decode cX5_count 52 = .ok (.getfield 133, 3) by decide +kernel) ?_
    exact V_iretM Z hE h (show decode cX5_count 55 = .ok (.ireturn, 1) by decide +kernel)
  · skip
    rcases zB_ite h with ⟨c2, h⟩ | ⟨c2, h⟩
    · refine V_tabE (off := 55) 1 56 Z c2 (show decode cX5_count 1 = .ok (.tableswitch 114 0 7 #[47, 55, 63, 74, 82, 90, 98, 106], 47) by decide +kernel) (by decide) ?_
      refine V_aload_n 0 Z rfl rfl (show decode cX5_count 56 = .ok (.aload_n 0, 1) by decide +kernel) ?_
      refine V_getR 0 1 Z zc4 (by decide) rfl (by decide) rfl (by decide) ⟨rfl, rfl, rfl⟩ w216 (show decode cX5_count 57 = .ok (.getfield 10, 3) by decide +kernel) ?_
      refine V_getI 0 Z zc0 (isH_lt isH_1) (shH isH_1) (by decide) rfl ⟨rfl, rfl, rfl⟩ w93 (show decode cX5_count 60 = .ok (.getfield 59, 3) by decide +kernel) ?_
      exact V_iretM Z hE h (show decode cX5_count 63 = .ok (.ireturn, 1) by decide +kernel)
    · skip
      rcases zB_ite h with ⟨c3, h⟩ | ⟨c3, h⟩
      · refine V_tabE (off := 63) 2 64 Z c3 (show decode cX5_count 1 = .ok (.tableswitch 114 0 7 #[47, 55, 63, 74, 82, 90, 98, 106], 47) by decide +kernel) (by decide) ?_
        refine V_aload_n 0 Z rfl rfl (show decode cX5_count 64 = .ok (.aload_n 0, 1) by decide +kernel) ?_
        refine V_getR 0 1 Z zc4 (by decide) rfl (by decide) rfl (by decide) ⟨rfl, rfl, rfl⟩ w216 (show decode cX5_count 65 = .ok (.getfield 10, 3) by decide +kernel) ?_
        obtain ⟨v5, e4, h⟩ := zB_bind h
        refine V_callV (rest := []) 0 Z (ok_X0_hanging isH_1 e4) cd_X0_hanging zc0 (isH_lt isH_1) (shH isH_1) w391 w344 w345 rfl (show decode cX5_count 68 = .ok (.invokevirtual 143, 3) by decide +kernel) rfl ?_
        obtain ⟨v7, e6, h⟩ := zB_bind h
        refine V_callS (rest := []) 1 Z (ok_J6_bitCount_0f7a4  e6) cd_J6_bitCount_0f7a4 w351 w352 rfl (show decode cX5_count 71 = .ok (.invokestatic 190, 3) by decide +kernel) rfl ?_
        exact V_iretM Z hE h (show decode cX5_count 74 = .ok (.ireturn, 1) by decide +kernel)
      · skip
        rcases zB_ite h with ⟨c8, h⟩ | ⟨c8, h⟩
        · refine V_tabE (off := 74) 3 75 Z c8 (show decode cX5_count 1 = .ok (.tableswitch 114 0 7 #[47, 55, 63, 74, 82, 90, 98, 106], 47) by decide +kernel) (by decide) ?_
          refine V_aload_n 0 Z rfl rfl (show decode cX5_count 75 = .ok (.aload_n 0, 1) by decide +kernel) ?_
          refine V_getR 0 1 Z zc4 (by decide) rfl (by decide) rfl (by decide) ⟨rfl, rfl, rfl⟩ w216 (show decode cX5_count 76 = .ok (.getfield 10, 3) by decide +kernel) ?_
          refine V_getI 11 Z zc0 (isH_lt isH_1) (shH isH_1) (by decide) rfl ⟨rfl, rfl, rfl⟩ w119 (show decode cX5_count 79 = .ok (.getfield 149, 3) by decide +kernel) ?_
          exact V_iretM Z hE h (show decode cX5_count 82 = .ok (.ireturn, 1) by decide +kernel)
        · skip
          rcases zB_ite h with ⟨c9, h⟩ | ⟨c9, h⟩
          · refine V_tabE (off := 82) 4 83 Z c9 (show decode cX5_count 1 = .ok (.tableswitch 114 0 7 #[47, 55, 63, 74, 82, 90, 98, 106], 47) by decide +kernel) (by decide) ?_
            refine V_aload_n 0 Z rfl rfl (show decode cX5_count 83 = .ok (.aload_n 0, 1) by decide +kernel) ?_
            refine V_getR 0 1 Z zc4 (by decide) rfl (by decide) rfl (by decide) ⟨rfl, rfl, rfl⟩ w216 (show decode cX5_count 84 = .ok (.getfield 10, 3) by decide +kernel) ?_
            obtain ⟨v11, e10, h⟩ := zB_bind h
            refine V_callV (rest := []) 0 Z (ok_X0_purses isH_1 e10) cd_X0_purses zc0 (isH_lt isH_1) (shH isH_1) w383 w384 w385 rfl (show decode cX5_count 87 = .ok (.invokevirtual 139, 3) by decide +kernel) rfl ?_
            exact V_iretM Z hE h (show decode cX5_count 90 = .ok (.ireturn, 1) by decide +kernel)
          · skip
            rcases zB_ite h with ⟨c12, h⟩ | ⟨c12, h⟩
            · refine V_tabE (off := 90) 5 91 Z c12 (show decode cX5_count 1 = .ok (.tableswitch 114 0 7 #[47, 55, 63, 74, 82, 90, 98, 106], 47) by decide +kernel) (by decide) ?_
              refine V_aload_n 0 Z rfl rfl (show decode cX5_count 91 = .ok (.aload_n 0, 1) by decide +kernel) ?_
              refine V_getR 3 34 Z zc4 (by decide) rfl (by decide) rfl (by decide) ⟨rfl, rfl, rfl⟩ w219 (show decode cX5_count 92 = .ok (.getfield 25, 3) by decide +kernel) ?_
              refine V_getI 1 Z zc3 (by decide) rfl (by decide) rfl ⟨rfl, rfl, rfl⟩ w166 (show decode cX5_count 95 = .ok (.getfield 214, 3) by decide +kernel) ?_
              exact V_iretM Z hE h (show decode cX5_count 98 = .ok (.ireturn, 1) by decide +kernel)
            · skip
              rcases zB_ite h with ⟨c13, h⟩ | ⟨c13, h⟩
              · refine V_tabE (off := 98) 6 99 Z c13 (show decode cX5_count 1 = .ok (.tableswitch 114 0 7 #[47, 55, 63, 74, 82, 90, 98, 106], 47) by decide +kernel) (by decide) ?_
                refine V_aload_n 0 Z rfl rfl (show decode cX5_count 99 = .ok (.aload_n 0, 1) by decide +kernel) ?_
                refine V_getR 0 1 Z zc4 (by decide) rfl (by decide) rfl (by decide) ⟨rfl, rfl, rfl⟩ w216 (show decode cX5_count 100 = .ok (.getfield 10, 3) by decide +kernel) ?_
                refine V_getI 12 Z zc0 (isH_lt isH_1) (shH isH_1) (by decide) rfl ⟨rfl, rfl, rfl⟩ w121 (show decode cX5_count 103 = .ok (.getfield 211, 3) by decide +kernel) ?_
                exact V_iretM Z hE h (show decode cX5_count 106 = .ok (.ireturn, 1) by decide +kernel)
              · skip
                rcases zB_ite h with ⟨c14, h⟩ | ⟨c14, h⟩
                · refine V_tabE (off := 106) 7 107 Z c14 (show decode cX5_count 1 = .ok (.tableswitch 114 0 7 #[47, 55, 63, 74, 82, 90, 98, 106], 47) by decide +kernel) (by decide) ?_
                  refine V_aload_n 0 Z rfl rfl (show decode cX5_count 107 = .ok (.aload_n 0, 1) by decide +kernel) ?_
                  refine V_getR 0 1 Z zc4 (by decide) rfl (by decide) rfl (by decide) ⟨rfl, rfl, rfl⟩ w216 (show decode cX5_count 108 = .ok (.getfield 10, 3) by decide +kernel) ?_
                  obtain ⟨v16, e15, h⟩ := zB_bind h
                  refine V_callV (rest := []) 0 Z (ok_X0_spotsHeld isH_1 e15) cd_X0_spotsHeld zc0 (isH_lt isH_1) (shH isH_1) w743 w744 w745 rfl (show decode cX5_count 111 = .ok (.invokevirtual 256, 3) by decide +kernel) rfl ?_
                  exact V_iretM Z hE h (show decode cX5_count 114 = .ok (.ireturn, 1) by decide +kernel)
                · skip
                  refine V_tabOut 115 Z (show decode cX5_count 1 = .ok (.tableswitch 114 0 7 #[47, 55, 63, 74, 82, 90, 98, 106], 47) by decide +kernel) (z_out (fun i h1 h2 e => by
                      rcases (show i = 0 ∨ i = 1 ∨ i = 2 ∨ i = 3 ∨ i = 4 ∨ i = 5 ∨ i = 6 ∨ i = 7 by omega) with rfl | rfl | rfl | rfl | rfl | rfl | rfl | rfl
                      · exact c1 e
                      · exact c2 e
                      · exact c3 e
                      · exact c8 e
                      · exact c9 e
                      · exact c12 e
                      · exact c13 e
                      · exact c14 e)) (by decide) ?_
                  refine V_aload_n 0 Z rfl rfl (show decode cX5_count 115 = .ok (.aload_n 0, 1) by decide +kernel) ?_
                  refine V_iconst 0 (by decide) Z (show decode cX5_count 116 = .ok (.iconst 0, 1) by decide +kernel) ?_
                  obtain ⟨⟨v18, M19⟩, e17, h⟩ := zB_bind h
                  refine V_callV (rest := []) 1 Z (ok_X5_finding  e17) cd_X5_finding zc4 (by decide) rfl w248 w250 w0 rfl (show decode cX5_count 117 = .ok (.invokevirtual 55, 3) by decide +kernel) rfl ?_
                  exact V_iretM Z hE h (show decode cX5_count 120 = .ok (.ireturn, 1) by decide +kernel)
def f_X5_status_l31 (M : zM) : Int32 × Int32 → Option ((Int32 × Int32) ⊕ (Int32 × zM))
  | (y2, y3) =>
    if 7 ≤ y3 then
      some (.inr ((y2, M)))
    else
      (zrd M 38 y3).bind fun (v6 : Int32) =>
      (some ((y2 + v6))).bind fun (n8 : Int32) =>
      (some (y3 + 1)).bind fun (n10 : Int32) =>
      some (.inl ((n8, n10)))
def f_X5_status (x1 : Int32) (M : zM) : Option (Int32 × zM) :=
  (f_X5_within x1 (-1) 6 M).bind fun (v2 : Int32) =>
  if v2 = 0 then
    (f_X5_finding 0 M).bind fun ((v15, M16) : Int32 × zM) =>
    some ((v15, M16))
  else
    if x1 < 0 then
      zIter (f_X5_status_l31 M) 1000 (0, 0)
    else
      (zrd M 38 x1).bind fun (v12 : Int32) =>
      some ((v12, M))
theorem cd_X5_status : zCd yX5_status cX5_status 4 (some .int) 1 := ⟨w750, w64, ⟨by decide, by decide⟩, by decide +kernel⟩
set_option maxHeartbeats 4000000 in
set_option maxRecDepth 20000 in
theorem ok_X5_status {x1 : Int32} {M : zM} {y : Int32 × zM}  (h : f_X5_status x1 M = some y) : zRuns yX5_status cX5_status 4 (some .int) 1 22 [.ref 0, .int x1] M (some (.int y.1)) y.2 := by
  refine zRuns_of (by decide +kernel) (Nat.le_of_ble_eq_true rfl) (fun E Z hE => ?_)
  have h := zB_top h
  change VV E 4 0 [(0, Value.ref 0), (1, Value.int x1)] [] M
  refine V_iload_n 1 Z rfl rfl (show decode cX5_status 0 = .ok (.iload_n 1, 1) by decide +kernel) ?_
  refine V_iconst (-1) (by decide) Z (show decode cX5_status 1 = .ok (.iconst (-1), 1) by decide +kernel) ?_
  refine V_bipush 6 (by decide) Z (show decode cX5_status 2 = .ok (.bipush 6, 2) by decide +kernel) ?_
  obtain ⟨v2, e1, h⟩ := zB_bind h
  refine V_callS (rest := []) 3 Z (ok_X5_within  e1) cd_X5_within w245 w246 rfl (show decode cX5_status 4 = .ok (.invokestatic 51, 3) by decide +kernel) rfl ?_
  refine V_if_ne 16 Z (by decide) (show decode cX5_status 7 = .ok (.ifCond .ne 9, 3) by decide +kernel) (fun c3 => ?_) (fun c3 => ?_)
  · have h := zB_neg c3 h
    refine V_iload_n 1 Z rfl rfl (show decode cX5_status 16 = .ok (.iload_n 1, 1) by decide +kernel) ?_
    refine V_if_lt 27 Z (by decide) (show decode cX5_status 17 = .ok (.ifCond .lt 10, 3) by decide +kernel) (fun c4 => ?_) (fun c4 => ?_)
    · have h := zB_pos c4 h
      refine V_iconst 0 (by decide) Z (show decode cX5_status 27 = .ok (.iconst 0, 1) by decide +kernel) ?_
      refine V_istore_n [(2, Value.int 0), (0, Value.ref 0), (1, Value.int x1)] Z (by decide) rfl rfl (show decode cX5_status 28 = .ok (.istore_n 2, 1) by decide +kernel) ?_
      refine V_iconst 0 (by decide) Z (show decode cX5_status 29 = .ok (.iconst 0, 1) by decide +kernel) ?_
      refine V_istore_n [(3, Value.int 0), (2, Value.int 0), (0, Value.ref 0), (1, Value.int x1)] Z (by decide) rfl rfl (show decode cX5_status 30 = .ok (.istore_n 3, 1) by decide +kernel) ?_
      refine V_sub [2, 1, 0] rfl ?_
      refine zIter_loop' (K := some) (fun s : Int32 × Int32 => VV E 4 31 [(0, Value.ref 0), (2, Value.int s.1), (3, Value.int s.2)] [] M) (fun K1 s c1_i c1_r h => ?_) _ _ h
      obtain ⟨y2, y3⟩ := s
      change VV E 4 31 [(0, Value.ref 0), (2, Value.int y2), (3, Value.int y3)] [] M
      refine V_iload_n 2 Z rfl rfl (show decode cX5_status 31 = .ok (.iload_n 3, 1) by decide +kernel) ?_
      refine V_bipush 7 (by decide) Z (show decode cX5_status 32 = .ok (.bipush 7, 2) by decide +kernel) ?_
      refine V_icmp_ge 52 Z (by decide) (show decode cX5_status 34 = .ok (.if_icmp .ge 18, 3) by decide +kernel) (fun c5 => ?_) (fun c5 => ?_)
      · have h := zB_pos c5 h
        refine V_iload_n 1 Z rfl rfl (show decode cX5_status 52 = .ok (.iload_n 2, 1) by decide +kernel) ?_
        have h := c1_r _ h
        exact V_iretM Z hE h (show decode cX5_status 53 = .ok (.ireturn, 1) by decide +kernel)
      · have h := zB_neg c5 h
        refine V_iload_n 1 Z rfl rfl (show decode cX5_status 37 = .ok (.iload_n 2, 1) by decide +kernel) ?_
        refine V_aload_n 0 Z rfl rfl (show decode cX5_status 38 = .ok (.aload_n 0, 1) by decide +kernel) ?_
        refine V_getR 6 38 Z zc4 (by decide) rfl (by decide) rfl (by decide) ⟨rfl, rfl, rfl⟩ w222 (show decode cX5_status 39 = .ok (.getfield 42, 3) by decide +kernel) ?_
        refine V_iload_n 2 Z rfl rfl (show decode cX5_status 42 = .ok (.iload_n 3, 1) by decide +kernel) ?_
        obtain ⟨v6, e7, h⟩ := zB_bind h
        refine V_iald Z e7 (show decode cX5_status 43 = .ok (.iaload, 1) by decide +kernel) ?_
        refine V_iadd Z (show decode cX5_status 44 = .ok (.iadd, 1) by decide +kernel) ?_
        obtain ⟨n8, e9, h⟩ := zB_let h
        refine V_nm e9 ?_
        refine V_istore_n [(2, Value.int n8), (0, Value.ref 0), (3, Value.int y3)] Z (by decide) rfl rfl (show decode cX5_status 45 = .ok (.istore_n 2, 1) by decide +kernel) ?_
        obtain ⟨n10, e11, h⟩ := zB_let h
        refine V_iinck 1 1 2 n10 [(3, Value.int n10), (2, Value.int n8), (0, Value.ref 0)] Z (by decide) (by decide) rfl e11 rfl (show decode cX5_status 46 = .ok (.iinc 3 1, 3) by decide +kernel) ?_
        refine V_goto 31 Z (by decide) (show decode cX5_status 49 = .ok (.goto (-18), 3) by decide +kernel) ?_
        refine V_sub [2, 1, 0] rfl ?_
        exact c1_i _ h
    · have h := zB_neg c4 h
      refine V_aload_n 0 Z rfl rfl (show decode cX5_status 20 = .ok (.aload_n 0, 1) by decide +kernel) ?_
      refine V_getR 6 38 Z zc4 (by decide) rfl (by decide) rfl (by decide) ⟨rfl, rfl, rfl⟩ w222 (show decode cX5_status 21 = .ok (.getfield 42, 3) by decide +kernel) ?_
      refine V_iload_n 1 Z rfl rfl (show decode cX5_status 24 = .ok (.iload_n 1, 1) by decide +kernel) ?_
      obtain ⟨v12, e13, h⟩ := zB_bind h
      refine V_iald Z e13 (show decode cX5_status 25 = .ok (.iaload, 1) by decide +kernel) ?_
      exact V_iretM Z hE h (show decode cX5_status 26 = .ok (.ireturn, 1) by decide +kernel)
  · have h := zB_pos c3 h
    refine V_aload_n 0 Z rfl rfl (show decode cX5_status 10 = .ok (.aload_n 0, 1) by decide +kernel) ?_
    refine V_iconst 0 (by decide) Z (show decode cX5_status 11 = .ok (.iconst 0, 1) by decide +kernel) ?_
    obtain ⟨⟨v15, M16⟩, e14, h⟩ := zB_bind h
    refine V_callV (rest := []) 1 Z (ok_X5_finding  e14) cd_X5_finding zc4 (by decide) rfl w248 w250 w0 rfl (show decode cX5_status 12 = .ok (.invokevirtual 55, 3) by decide +kernel) rfl ?_
    exact V_iretM Z hE h (show decode cX5_status 15 = .ok (.ireturn, 1) by decide +kernel)
def f_X6_finding (x1 : Int32) (M : zM) : Option (Int32 × zM) :=
  (zrd M 51 (((-1000001) - x1) + 1)).bind fun (v1 : Int32) =>
  (zwr M 51 (((-1000001) - x1) + 1) (v1 + 1)).bind fun (M3 : zM) =>
  (zrd M3 51 0).bind fun (v5 : Int32) =>
  (zwr M3 51 0 (v5 + 1)).bind fun (M7 : zM) =>
  some ((x1, M7))
theorem cd_X6_finding : zCd yX6_finding cX6_finding 2 (some .int) 1 := ⟨w847, w69, ⟨by decide, by decide⟩, by decide +kernel⟩
set_option maxHeartbeats 4000000 in
set_option maxRecDepth 20000 in
theorem ok_X6_finding {x1 : Int32} {M : zM} {y : Int32 × zM}  (h : f_X6_finding x1 M = some y) : zRuns yX6_finding cX6_finding 2 (some .int) 0 0 [.ref 47, .int x1] M (some (.int y.1)) y.2 := by
  refine zRuns_of (by decide +kernel) (Nat.le_of_ble_eq_true rfl) (fun E Z hE => ?_)
  have h := zB_top h
  change VV E 2 0 [(0, Value.ref 47), (1, Value.int x1)] [] M
  refine V_aload_n 0 Z rfl rfl (show decode cX6_finding 0 = .ok (.aload_n 0, 1) by decide +kernel) ?_
  refine V_getR 4 51 Z zc5 (by decide) rfl (by decide) rfl (by decide) ⟨rfl, rfl, rfl⟩ w770 (show decode cX6_finding 1 = .ok (.getfield 19, 3) by decide +kernel) ?_
  refine V_ldc (-1000001) Z w843 (show decode cX6_finding 4 = .ok (.ldc 66, 2) by decide +kernel) ?_
  refine V_iload_n 1 Z rfl rfl (show decode cX6_finding 6 = .ok (.iload_n 1, 1) by decide +kernel) ?_
  refine V_isub Z (show decode cX6_finding 7 = .ok (.isub, 1) by decide +kernel) ?_
  refine V_iconst 1 (by decide) Z (show decode cX6_finding 8 = .ok (.iconst 1, 1) by decide +kernel) ?_
  refine V_iadd Z (show decode cX6_finding 9 = .ok (.iadd, 1) by decide +kernel) ?_
  refine V_dup2 rfl rfl Z (show decode cX6_finding 10 = .ok (.dup2, 1) by decide +kernel) ?_
  obtain ⟨v1, e2, h⟩ := zB_bind h
  refine V_iald Z e2 (show decode cX6_finding 11 = .ok (.iaload, 1) by decide +kernel) ?_
  refine V_iconst 1 (by decide) Z (show decode cX6_finding 12 = .ok (.iconst 1, 1) by decide +kernel) ?_
  refine V_iadd Z (show decode cX6_finding 13 = .ok (.iadd, 1) by decide +kernel) ?_
  obtain ⟨M3, e4, h⟩ := zB_bind h
  refine V_iast Z e4 (show decode cX6_finding 14 = .ok (.iastore, 1) by decide +kernel) ?_
  refine V_aload_n 0 Z rfl rfl (show decode cX6_finding 15 = .ok (.aload_n 0, 1) by decide +kernel) ?_
  refine V_getR 4 51 Z zc5 (by decide) rfl (by decide) rfl (by decide) ⟨rfl, rfl, rfl⟩ w770 (show decode cX6_finding 16 = .ok (.getfield 19, 3) by decide +kernel) ?_
  refine V_iconst 0 (by decide) Z (show decode cX6_finding 19 = .ok (.iconst 0, 1) by decide +kernel) ?_
  refine V_dup2 rfl rfl Z (show decode cX6_finding 20 = .ok (.dup2, 1) by decide +kernel) ?_
  obtain ⟨v5, e6, h⟩ := zB_bind h
  refine V_iald Z e6 (show decode cX6_finding 21 = .ok (.iaload, 1) by decide +kernel) ?_
  refine V_iconst 1 (by decide) Z (show decode cX6_finding 22 = .ok (.iconst 1, 1) by decide +kernel) ?_
  refine V_iadd Z (show decode cX6_finding 23 = .ok (.iadd, 1) by decide +kernel) ?_
  obtain ⟨M7, e8, h⟩ := zB_bind h
  refine V_iast Z e8 (show decode cX6_finding 24 = .ok (.iastore, 1) by decide +kernel) ?_
  refine V_iload_n 1 Z rfl rfl (show decode cX6_finding 25 = .ok (.iload_n 1, 1) by decide +kernel) ?_
  exact V_iretM Z hE h (show decode cX6_finding 26 = .ok (.ireturn, 1) by decide +kernel)
def f_X6_within (x0 : Int32) (x1 : Int32) (x2 : Int32) (M : zM) : Option (Int32) :=
  if x0 < x1 then
    some ((0 : Int32))
  else
    if x2 < x0 then
      some ((0 : Int32))
    else
      some ((1 : Int32))
theorem cd_X6_within : zCd yX6_within cX6_within 3 (some .boolean) 3 := ⟨w842, w69, ⟨by decide, by decide⟩, by decide +kernel⟩
set_option maxHeartbeats 4000000 in
set_option maxRecDepth 20000 in
theorem ok_X6_within {x0 : Int32} {x1 : Int32} {x2 : Int32} {M : zM} {y : Int32}  (h : f_X6_within x0 x1 x2 M = some y) : zRuns yX6_within cX6_within 3 (some .boolean) 0 0 [.int x0, .int x1, .int x2] M (some (.int y)) M := by
  refine zRuns_of (by decide +kernel) (Nat.le_of_ble_eq_true rfl) (fun E Z hE => ?_)
  have h := zB_top h
  change VV E 3 0 [(0, Value.int x0), (1, Value.int x1), (2, Value.int x2)] [] M
  refine V_iload_n 0 Z rfl rfl (show decode cX6_within 0 = .ok (.iload_n 0, 1) by decide +kernel) ?_
  refine V_iload_n 1 Z rfl rfl (show decode cX6_within 1 = .ok (.iload_n 1, 1) by decide +kernel) ?_
  refine V_icmp_lt 14 Z (by decide) (show decode cX6_within 2 = .ok (.if_icmp .lt 12, 3) by decide +kernel) (fun c1 => ?_) (fun c1 => ?_)
  · have h := zB_pos c1 h
    refine V_iconst 0 (by decide) Z (show decode cX6_within 14 = .ok (.iconst 0, 1) by decide +kernel) ?_
    exact V_zretP Z hE h rfl (show decode cX6_within 15 = .ok (.ireturn, 1) by decide +kernel)
  · have h := zB_neg c1 h
    refine V_iload_n 0 Z rfl rfl (show decode cX6_within 5 = .ok (.iload_n 0, 1) by decide +kernel) ?_
    refine V_iload_n 2 Z rfl rfl (show decode cX6_within 6 = .ok (.iload_n 2, 1) by decide +kernel) ?_
    refine V_icmp_gt 14 Z (by decide) (show decode cX6_within 7 = .ok (.if_icmp .gt 7, 3) by decide +kernel) (fun c2 => ?_) (fun c2 => ?_)
    · have h := zB_pos c2 h
      refine V_iconst 0 (by decide) Z (show decode cX6_within 14 = .ok (.iconst 0, 1) by decide +kernel) ?_
      exact V_zretP Z hE h rfl (show decode cX6_within 15 = .ok (.ireturn, 1) by decide +kernel)
    · have h := zB_neg c2 h
      refine V_iconst 1 (by decide) Z (show decode cX6_within 10 = .ok (.iconst 1, 1) by decide +kernel) ?_
      refine V_goto 15 Z (by decide) (show decode cX6_within 11 = .ok (.goto 4, 3) by decide +kernel) ?_
      exact V_zretP Z hE h rfl (show decode cX6_within 15 = .ok (.ireturn, 1) by decide +kernel)
def f_X6_become (x1 : Int32) (x2 : Int32) (M : zM) : Option (Int32 × zM) :=
  (zrd M 48 x1).bind fun (v1 : Int32) =>
  (zwr M 48 x1 x2).bind fun (M3 : zM) =>
  some ((v1, M3))
theorem cd_X6_become : zCd yX6_become cX6_become 4 (some .int) 2 := ⟨w900, w69, ⟨by decide, by decide⟩, by decide +kernel⟩
set_option maxHeartbeats 4000000 in
set_option maxRecDepth 20000 in
theorem ok_X6_become {x1 : Int32} {x2 : Int32} {M : zM} {y : Int32 × zM}  (h : f_X6_become x1 x2 M = some y) : zRuns yX6_become cX6_become 4 (some .int) 0 0 [.ref 47, .int x1, .int x2] M (some (.int y.1)) y.2 := by
  refine zRuns_of (by decide +kernel) (Nat.le_of_ble_eq_true rfl) (fun E Z hE => ?_)
  have h := zB_top h
  change VV E 4 0 [(0, Value.ref 47), (1, Value.int x1), (2, Value.int x2)] [] M
  refine V_aload_n 0 Z rfl rfl (show decode cX6_become 0 = .ok (.aload_n 0, 1) by decide +kernel) ?_
  refine V_getR 0 48 Z zc5 (by decide) rfl (by decide) rfl (by decide) ⟨rfl, rfl, rfl⟩ w766 (show decode cX6_become 1 = .ok (.getfield 9, 3) by decide +kernel) ?_
  refine V_iload_n 1 Z rfl rfl (show decode cX6_become 4 = .ok (.iload_n 1, 1) by decide +kernel) ?_
  obtain ⟨v1, e2, h⟩ := zB_bind h
  refine V_iald Z e2 (show decode cX6_become 5 = .ok (.iaload, 1) by decide +kernel) ?_
  refine V_istore_n [(3, Value.int v1), (0, Value.ref 47), (1, Value.int x1), (2, Value.int x2)] Z (by decide) rfl rfl (show decode cX6_become 6 = .ok (.istore_n 3, 1) by decide +kernel) ?_
  refine V_aload_n 1 Z rfl rfl (show decode cX6_become 7 = .ok (.aload_n 0, 1) by decide +kernel) ?_
  refine V_getR 0 48 Z zc5 (by decide) rfl (by decide) rfl (by decide) ⟨rfl, rfl, rfl⟩ w766 (show decode cX6_become 8 = .ok (.getfield 9, 3) by decide +kernel) ?_
  refine V_iload_n 2 Z rfl rfl (show decode cX6_become 11 = .ok (.iload_n 1, 1) by decide +kernel) ?_
  refine V_iload_n 3 Z rfl rfl (show decode cX6_become 12 = .ok (.iload_n 2, 1) by decide +kernel) ?_
  obtain ⟨M3, e4, h⟩ := zB_bind h
  refine V_iast Z e4 (show decode cX6_become 13 = .ok (.iastore, 1) by decide +kernel) ?_
  refine V_iload_n 0 Z rfl rfl (show decode cX6_become 14 = .ok (.iload_n 3, 1) by decide +kernel) ?_
  exact V_iretM Z hE h (show decode cX6_become 15 = .ok (.ireturn, 1) by decide +kernel)
def f_X6_copyRow_l2 (a : Nat) (b : Nat) : Int32 × zM → Option ((Int32 × zM) ⊕ (zM))
  | (y2, M) =>
    if 67 ≤ y2 then
      some (.inr (M))
    else
      (zrd M a y2).bind fun (v2 : Int32) =>
      (zwr M b y2 v2).bind fun (M4 : zM) =>
      (some (y2 + 1)).bind fun (n6 : Int32) =>
      some (.inl ((n6, M4)))
def f_X6_copyRow (a : Nat) (b : Nat) (M : zM) : Option (zM) :=
  zIter (f_X6_copyRow_l2 a b) 1000 (0, M)
theorem cd_X6_copyRow : zCd yX6_copyRow cX6_copyRow 3 none 2 := ⟨w1001, w69, ⟨by decide, by decide⟩, by decide +kernel⟩
set_option maxHeartbeats 4000000 in
set_option maxRecDepth 20000 in
theorem ok_X6_copyRow {a : Nat} {b : Nat} {M : zM} {y : zM}  (h : f_X6_copyRow a b M = some y) : zRuns yX6_copyRow cX6_copyRow 3 none 0 0 [.ref a, .ref b] M none y := by
  refine zRuns_of (by decide +kernel) (Nat.le_of_ble_eq_true rfl) (fun E Z hE => ?_)
  have h := zB_top h
  change VV E 3 0 [(0, Value.ref a), (1, Value.ref b)] [] M
  refine V_iconst 0 (by decide) Z (show decode cX6_copyRow 0 = .ok (.iconst 0, 1) by decide +kernel) ?_
  refine V_istore_n [(2, Value.int 0), (0, Value.ref a), (1, Value.ref b)] Z (by decide) rfl rfl (show decode cX6_copyRow 1 = .ok (.istore_n 2, 1) by decide +kernel) ?_
  refine V_sub [1, 2, 0] rfl ?_
  refine zIter_loop' (K := some) (fun s : Int32 × zM => VV E 3 2 [(0, Value.ref a), (1, Value.ref b), (2, Value.int s.1)] [] s.2) (fun K1 s c1_i c1_r h => ?_) _ _ h
  obtain ⟨y2, M⟩ := s
  change VV E 3 2 [(0, Value.ref a), (1, Value.ref b), (2, Value.int y2)] [] M
  refine V_iload_n 2 Z rfl rfl (show decode cX6_copyRow 2 = .ok (.iload_n 2, 1) by decide +kernel) ?_
  refine V_bipush 67 (by decide) Z (show decode cX6_copyRow 3 = .ok (.bipush 67, 2) by decide +kernel) ?_
  refine V_icmp_ge 20 Z (by decide) (show decode cX6_copyRow 5 = .ok (.if_icmp .ge 15, 3) by decide +kernel) (fun c1 => ?_) (fun c1 => ?_)
  · have h := zB_pos c1 h
    have h := c1_r _ h
    exact V_vretM Z hE h (show decode cX6_copyRow 20 = .ok (.return_, 1) by decide +kernel)
  · have h := zB_neg c1 h
    refine V_aload_n 1 Z rfl rfl (show decode cX6_copyRow 8 = .ok (.aload_n 1, 1) by decide +kernel) ?_
    refine V_iload_n 2 Z rfl rfl (show decode cX6_copyRow 9 = .ok (.iload_n 2, 1) by decide +kernel) ?_
    refine V_aload_n 0 Z rfl rfl (show decode cX6_copyRow 10 = .ok (.aload_n 0, 1) by decide +kernel) ?_
    refine V_iload_n 2 Z rfl rfl (show decode cX6_copyRow 11 = .ok (.iload_n 2, 1) by decide +kernel) ?_
    obtain ⟨v2, e3, h⟩ := zB_bind h
    refine V_iald Z e3 (show decode cX6_copyRow 12 = .ok (.iaload, 1) by decide +kernel) ?_
    obtain ⟨M4, e5, h⟩ := zB_bind h
    refine V_iast Z e5 (show decode cX6_copyRow 13 = .ok (.iastore, 1) by decide +kernel) ?_
    obtain ⟨n6, e7, h⟩ := zB_let h
    refine V_iinck 1 1 2 n6 [(2, Value.int n6), (0, Value.ref a), (1, Value.ref b)] Z (by decide) (by decide) rfl e7 rfl (show decode cX6_copyRow 14 = .ok (.iinc 2 1, 3) by decide +kernel) ?_
    refine V_goto 2 Z (by decide) (show decode cX6_copyRow 17 = .ok (.goto (-15), 3) by decide +kernel) ?_
    refine V_sub [1, 2, 0] rfl ?_
    exact c1_i _ h
def f_X6_putBack (x1 : Int32) (M : zM) : Option (Int32 × zM) :=
  (f_X6_copyRow 50 48 M).bind fun (M2 : zM) =>
  some ((x1, M2))
theorem cd_X6_putBack : zCd yX6_putBack cX6_putBack 2 (some .int) 1 := ⟨w1005, w69, ⟨by decide, by decide⟩, by decide +kernel⟩
set_option maxHeartbeats 4000000 in
set_option maxRecDepth 20000 in
theorem ok_X6_putBack {x1 : Int32} {M : zM} {y : Int32 × zM}  (h : f_X6_putBack x1 M = some y) : zRuns yX6_putBack cX6_putBack 2 (some .int) 1 22 [.ref 47, .int x1] M (some (.int y.1)) y.2 := by
  refine zRuns_of (by decide +kernel) (Nat.le_of_ble_eq_true rfl) (fun E Z hE => ?_)
  have h := zB_top h
  change VV E 2 0 [(0, Value.ref 47), (1, Value.int x1)] [] M
  refine V_aload_n 0 Z rfl rfl (show decode cX6_putBack 0 = .ok (.aload_n 0, 1) by decide +kernel) ?_
  refine V_getR 2 50 Z zc5 (by decide) rfl (by decide) rfl (by decide) ⟨rfl, rfl, rfl⟩ w768 (show decode cX6_putBack 1 = .ok (.getfield 16, 3) by decide +kernel) ?_
  refine V_aload_n 0 Z rfl rfl (show decode cX6_putBack 4 = .ok (.aload_n 0, 1) by decide +kernel) ?_
  refine V_getR 0 48 Z zc5 (by decide) rfl (by decide) rfl (by decide) ⟨rfl, rfl, rfl⟩ w766 (show decode cX6_putBack 5 = .ok (.getfield 9, 3) by decide +kernel) ?_
  obtain ⟨M2, e1, h⟩ := zB_bind h
  refine V_callS (rest := []) 2 Z (ok_X6_copyRow  e1) cd_X6_copyRow w999 w1000 rfl (show decode cX6_putBack 8 = .ok (.invokestatic 67, 3) by decide +kernel) rfl ?_
  refine V_iload_n 1 Z rfl rfl (show decode cX6_putBack 11 = .ok (.iload_n 1, 1) by decide +kernel) ?_
  exact V_iretM Z hE h (show decode cX6_putBack 12 = .ok (.ireturn, 1) by decide +kernel)
def f_X6_orNone (x1 : Int32) (M : zM) : Option (Int32 × zM) :=
  if 0 ≤ x1 then
    some ((x1, M))
  else
    (f_X6_finding (-1000004) M).bind fun ((v3, M4) : Int32 × zM) =>
    some ((v3, M4))
theorem cd_X6_orNone : zCd yX6_orNone cX6_orNone 2 (some .int) 1 := ⟨w1026, w69, ⟨by decide, by decide⟩, by decide +kernel⟩
set_option maxHeartbeats 4000000 in
set_option maxRecDepth 20000 in
theorem ok_X6_orNone {x1 : Int32} {M : zM} {y : Int32 × zM}  (h : f_X6_orNone x1 M = some y) : zRuns yX6_orNone cX6_orNone 2 (some .int) 1 21 [.ref 47, .int x1] M (some (.int y.1)) y.2 := by
  refine zRuns_of (by decide +kernel) (Nat.le_of_ble_eq_true rfl) (fun E Z hE => ?_)
  have h := zB_top h
  change VV E 2 0 [(0, Value.ref 47), (1, Value.int x1)] [] M
  refine V_iload_n 1 Z rfl rfl (show decode cX6_orNone 0 = .ok (.iload_n 1, 1) by decide +kernel) ?_
  refine V_if_ge 13 Z (by decide) (show decode cX6_orNone 1 = .ok (.ifCond .ge 12, 3) by decide +kernel) (fun c1 => ?_) (fun c1 => ?_)
  · have h := zB_pos c1 h
    refine V_iload_n 1 Z rfl rfl (show decode cX6_orNone 13 = .ok (.iload_n 1, 1) by decide +kernel) ?_
    exact V_iretM Z hE h (show decode cX6_orNone 14 = .ok (.ireturn, 1) by decide +kernel)
  · have h := zB_neg c1 h
    refine V_aload_n 0 Z rfl rfl (show decode cX6_orNone 4 = .ok (.aload_n 0, 1) by decide +kernel) ?_
    refine V_ldc (-1000004) Z w1018 (show decode cX6_orNone 5 = .ok (.ldc 71, 2) by decide +kernel) ?_
    obtain ⟨⟨v3, M4⟩, e2, h⟩ := zB_bind h
    refine V_callV (rest := []) 1 Z (ok_X6_finding  e2) cd_X6_finding zc5 (by decide) rfl w844 w846 w17 rfl (show decode cX6_orNone 7 = .ok (.invokevirtual 72, 3) by decide +kernel) rfl ?_
    refine V_goto 14 Z (by decide) (show decode cX6_orNone 10 = .ok (.goto 4, 3) by decide +kernel) ?_
    exact V_iretM Z hE h (show decode cX6_orNone 14 = .ok (.ireturn, 1) by decide +kernel)
def f_X6_has (x0 : Int32) (x1 : Int32) (M : zM) : Option (Int32) :=
  if ((x0 >>> (x1 &&& 31)) &&& 1) = 1 then
    some ((1 : Int32))
  else
    some ((0 : Int32))
theorem cd_X6_has : zCd yX6_has cX6_has 2 (some .boolean) 2 := ⟨w925, w69, ⟨by decide, by decide⟩, by decide +kernel⟩
set_option maxHeartbeats 4000000 in
set_option maxRecDepth 20000 in
theorem ok_X6_has {x0 : Int32} {x1 : Int32} {M : zM} {y : Int32}  (h : f_X6_has x0 x1 M = some y) : zRuns yX6_has cX6_has 2 (some .boolean) 0 0 [.int x0, .int x1] M (some (.int y)) M := by
  refine zRuns_of (by decide +kernel) (Nat.le_of_ble_eq_true rfl) (fun E Z hE => ?_)
  have h := zB_top h
  change VV E 2 0 [(0, Value.int x0), (1, Value.int x1)] [] M
  refine V_iload_n 0 Z rfl rfl (show decode cX6_has 0 = .ok (.iload_n 0, 1) by decide +kernel) ?_
  refine V_iload_n 1 Z rfl rfl (show decode cX6_has 1 = .ok (.iload_n 1, 1) by decide +kernel) ?_
  refine V_ishr Z (show decode cX6_has 2 = .ok (.ishr, 1) by decide +kernel) ?_
  refine V_iconst 1 (by decide) Z (show decode cX6_has 3 = .ok (.iconst 1, 1) by decide +kernel) ?_
  refine V_iand Z (show decode cX6_has 4 = .ok (.iand, 1) by decide +kernel) ?_
  refine V_iconst 1 (by decide) Z (show decode cX6_has 5 = .ok (.iconst 1, 1) by decide +kernel) ?_
  refine V_icmp_ne 13 Z (by decide) (show decode cX6_has 6 = .ok (.if_icmp .ne 7, 3) by decide +kernel) (fun c1 => ?_) (fun c1 => ?_)
  · have h := zB_neg c1 h
    refine V_iconst 0 (by decide) Z (show decode cX6_has 13 = .ok (.iconst 0, 1) by decide +kernel) ?_
    exact V_zretP Z hE h rfl (show decode cX6_has 14 = .ok (.ireturn, 1) by decide +kernel)
  · have h := zB_pos c1 h
    refine V_iconst 1 (by decide) Z (show decode cX6_has 9 = .ok (.iconst 1, 1) by decide +kernel) ?_
    refine V_goto 14 Z (by decide) (show decode cX6_has 10 = .ok (.goto 4, 3) by decide +kernel) ?_
    exact V_zretP Z hE h rfl (show decode cX6_has 14 = .ok (.ireturn, 1) by decide +kernel)
def f_X6_bits_l4 (M : zM) : Int32 × Int32 → Option ((Int32 × Int32) ⊕ (Int32))
  | (y1, y2) =>
    if y2 = 0 then
      some (.inr (y1))
    else
      (some (y1 + 1)).bind fun (n2 : Int32) =>
      (some ((y2 &&& (y2 - 1)))).bind fun (n4 : Int32) =>
      some (.inl ((n2, n4)))
def f_X6_bits (x0 : Int32) (M : zM) : Option (Int32) :=
  zIter (f_X6_bits_l4 M) 1000 (0, x0)
theorem cd_X6_bits : zCd yX6_bits cX6_bits 3 (some .int) 1 := ⟨w1082, w69, ⟨by decide, by decide⟩, by decide +kernel⟩
set_option maxHeartbeats 4000000 in
set_option maxRecDepth 20000 in
theorem ok_X6_bits {x0 : Int32} {M : zM} {y : Int32}  (h : f_X6_bits x0 M = some y) : zRuns yX6_bits cX6_bits 3 (some .int) 0 0 [.int x0] M (some (.int y)) M := by
  refine zRuns_of (by decide +kernel) (Nat.le_of_ble_eq_true rfl) (fun E Z hE => ?_)
  have h := zB_top h
  change VV E 3 0 [(0, Value.int x0)] [] M
  refine V_iconst 0 (by decide) Z (show decode cX6_bits 0 = .ok (.iconst 0, 1) by decide +kernel) ?_
  refine V_istore_n [(1, Value.int 0), (0, Value.int x0)] Z (by decide) rfl rfl (show decode cX6_bits 1 = .ok (.istore_n 1, 1) by decide +kernel) ?_
  refine V_iload_n 1 Z rfl rfl (show decode cX6_bits 2 = .ok (.iload_n 0, 1) by decide +kernel) ?_
  refine V_istore_n [(2, Value.int x0), (1, Value.int 0), (0, Value.int x0)] Z (by decide) rfl rfl (show decode cX6_bits 3 = .ok (.istore_n 2, 1) by decide +kernel) ?_
  refine V_sub [1, 0] rfl ?_
  refine zIter_loop' (K := some) (fun s : Int32 × Int32 => VV E 3 4 [(1, Value.int s.1), (2, Value.int s.2)] [] M) (fun K1 s c1_i c1_r h => ?_) _ _ h
  obtain ⟨y1, y2⟩ := s
  change VV E 3 4 [(1, Value.int y1), (2, Value.int y2)] [] M
  refine V_iload_n 1 Z rfl rfl (show decode cX6_bits 4 = .ok (.iload_n 2, 1) by decide +kernel) ?_
  refine V_if_eq 20 Z (by decide) (show decode cX6_bits 5 = .ok (.ifCond .eq 15, 3) by decide +kernel) (fun c1 => ?_) (fun c1 => ?_)
  · have h := zB_pos c1 h
    refine V_iload_n 0 Z rfl rfl (show decode cX6_bits 20 = .ok (.iload_n 1, 1) by decide +kernel) ?_
    have h := c1_r _ h
    exact V_iretP Z hE h (show decode cX6_bits 21 = .ok (.ireturn, 1) by decide +kernel)
  · have h := zB_neg c1 h
    obtain ⟨n2, e3, h⟩ := zB_let h
    refine V_iinck 1 1 0 n2 [(1, Value.int n2), (2, Value.int y2)] Z (by decide) (by decide) rfl e3 rfl (show decode cX6_bits 8 = .ok (.iinc 1 1, 3) by decide +kernel) ?_
    refine V_iload_n 1 Z rfl rfl (show decode cX6_bits 11 = .ok (.iload_n 2, 1) by decide +kernel) ?_
    refine V_iload_n 1 Z rfl rfl (show decode cX6_bits 12 = .ok (.iload_n 2, 1) by decide +kernel) ?_
    refine V_iconst 1 (by decide) Z (show decode cX6_bits 13 = .ok (.iconst 1, 1) by decide +kernel) ?_
    refine V_isub Z (show decode cX6_bits 14 = .ok (.isub, 1) by decide +kernel) ?_
    refine V_iand Z (show decode cX6_bits 15 = .ok (.iand, 1) by decide +kernel) ?_
    obtain ⟨n4, e5, h⟩ := zB_let h
    refine V_nm e5 ?_
    refine V_istore_n [(2, Value.int n4), (1, Value.int n2)] Z (by decide) rfl rfl (show decode cX6_bits 16 = .ok (.istore_n 2, 1) by decide +kernel) ?_
    refine V_goto 4 Z (by decide) (show decode cX6_bits 17 = .ok (.goto (-13), 3) by decide +kernel) ?_
    refine V_sub [1, 0] rfl ?_
    exact c1_i _ h
def f_X6_isName (x1 : Int32) (M : zM) : Option (Int32) :=
  (zrd M 48 1).bind fun (v1 : Int32) =>
  (f_X6_within x1 0 (v1 - 1) M).bind fun (v4 : Int32) =>
  (zbo v4).bind fun (b5 : Int32) =>
  some (b5)
theorem cd_X6_isName : zCd yX6_isName cX6_isName 2 (some .boolean) 1 := ⟨w863, w69, ⟨by decide, by decide⟩, by decide +kernel⟩
set_option maxHeartbeats 4000000 in
set_option maxRecDepth 20000 in
theorem ok_X6_isName {x1 : Int32} {M : zM} {y : Int32}  (h : f_X6_isName x1 M = some y) : zRuns yX6_isName cX6_isName 2 (some .boolean) 1 22 [.ref 47, .int x1] M (some (.int y)) M := by
  refine zRuns_of (by decide +kernel) (Nat.le_of_ble_eq_true rfl) (fun E Z hE => ?_)
  have h := zB_top h
  change VV E 2 0 [(0, Value.ref 47), (1, Value.int x1)] [] M
  refine V_iload_n 1 Z rfl rfl (show decode cX6_isName 0 = .ok (.iload_n 1, 1) by decide +kernel) ?_
  refine V_iconst 0 (by decide) Z (show decode cX6_isName 1 = .ok (.iconst 0, 1) by decide +kernel) ?_
  refine V_aload_n 0 Z rfl rfl (show decode cX6_isName 2 = .ok (.aload_n 0, 1) by decide +kernel) ?_
  refine V_getR 0 48 Z zc5 (by decide) rfl (by decide) rfl (by decide) ⟨rfl, rfl, rfl⟩ w766 (show decode cX6_isName 3 = .ok (.getfield 9, 3) by decide +kernel) ?_
  refine V_iconst 1 (by decide) Z (show decode cX6_isName 6 = .ok (.iconst 1, 1) by decide +kernel) ?_
  obtain ⟨v1, e2, h⟩ := zB_bind h
  refine V_iald Z e2 (show decode cX6_isName 7 = .ok (.iaload, 1) by decide +kernel) ?_
  refine V_iconst 1 (by decide) Z (show decode cX6_isName 8 = .ok (.iconst 1, 1) by decide +kernel) ?_
  refine V_isub Z (show decode cX6_isName 9 = .ok (.isub, 1) by decide +kernel) ?_
  obtain ⟨v4, e3, h⟩ := zB_bind h
  refine V_callS (rest := []) 3 Z (ok_X6_within  e3) cd_X6_within w840 w841 rfl (show decode cX6_isName 10 = .ok (.invokestatic 76, 3) by decide +kernel) rfl ?_
  obtain ⟨b5, e6, h⟩ := zB_bind h
  refine V_nm (zbo_v e6).1 ?_
  exact V_zretP Z hE h (zbo_v e6).2 (show decode cX6_isName 13 = .ok (.ireturn, 1) by decide +kernel)
def f_X6_isPerson (x0 : Int32) (M : zM) : Option (Int32) :=
  (f_X6_within x0 0 5 M).bind fun (v2 : Int32) =>
  (zbo v2).bind fun (b3 : Int32) =>
  some (b3)
theorem cd_X6_isPerson : zCd yX6_isPerson cX6_isPerson 1 (some .boolean) 1 := ⟨w910, w69, ⟨by decide, by decide⟩, by decide +kernel⟩
set_option maxHeartbeats 4000000 in
set_option maxRecDepth 20000 in
theorem ok_X6_isPerson {x0 : Int32} {M : zM} {y : Int32}  (h : f_X6_isPerson x0 M = some y) : zRuns yX6_isPerson cX6_isPerson 1 (some .boolean) 1 22 [.int x0] M (some (.int y)) M := by
  refine zRuns_of (by decide +kernel) (Nat.le_of_ble_eq_true rfl) (fun E Z hE => ?_)
  have h := zB_top h
  change VV E 1 0 [(0, Value.int x0)] [] M
  refine V_iload_n 0 Z rfl rfl (show decode cX6_isPerson 0 = .ok (.iload_n 0, 1) by decide +kernel) ?_
  refine V_iconst 0 (by decide) Z (show decode cX6_isPerson 1 = .ok (.iconst 0, 1) by decide +kernel) ?_
  refine V_iconst 5 (by decide) Z (show decode cX6_isPerson 2 = .ok (.iconst 5, 1) by decide +kernel) ?_
  obtain ⟨v2, e1, h⟩ := zB_bind h
  refine V_callS (rest := []) 3 Z (ok_X6_within  e1) cd_X6_within w840 w841 rfl (show decode cX6_isPerson 3 = .ok (.invokestatic 76, 3) by decide +kernel) rfl ?_
  obtain ⟨b3, e4, h⟩ := zB_bind h
  refine V_nm (zbo_v e4).1 ?_
  exact V_zretP Z hE h (zbo_v e4).2 (show decode cX6_isPerson 6 = .ok (.ireturn, 1) by decide +kernel)
def f_X6_isKind (x0 : Int32) (M : zM) : Option (Int32) :=
  (f_X6_within x0 0 6 M).bind fun (v2 : Int32) =>
  (zbo v2).bind fun (b3 : Int32) =>
  some (b3)
theorem cd_X6_isKind : zCd yX6_isKind cX6_isKind 1 (some .boolean) 1 := ⟨w839, w69, ⟨by decide, by decide⟩, by decide +kernel⟩
set_option maxHeartbeats 4000000 in
set_option maxRecDepth 20000 in
theorem ok_X6_isKind {x0 : Int32} {M : zM} {y : Int32}  (h : f_X6_isKind x0 M = some y) : zRuns yX6_isKind cX6_isKind 1 (some .boolean) 1 22 [.int x0] M (some (.int y)) M := by
  refine zRuns_of (by decide +kernel) (Nat.le_of_ble_eq_true rfl) (fun E Z hE => ?_)
  have h := zB_top h
  change VV E 1 0 [(0, Value.int x0)] [] M
  refine V_iload_n 0 Z rfl rfl (show decode cX6_isKind 0 = .ok (.iload_n 0, 1) by decide +kernel) ?_
  refine V_iconst 0 (by decide) Z (show decode cX6_isKind 1 = .ok (.iconst 0, 1) by decide +kernel) ?_
  refine V_bipush 6 (by decide) Z (show decode cX6_isKind 2 = .ok (.bipush 6, 2) by decide +kernel) ?_
  obtain ⟨v2, e1, h⟩ := zB_bind h
  refine V_callS (rest := []) 3 Z (ok_X6_within  e1) cd_X6_within w840 w841 rfl (show decode cX6_isKind 4 = .ok (.invokestatic 76, 3) by decide +kernel) rfl ?_
  obtain ⟨b3, e4, h⟩ := zB_bind h
  refine V_nm (zbo_v e4).1 ?_
  exact V_zretP Z hE h (zbo_v e4).2 (show decode cX6_isKind 7 = .ok (.ireturn, 1) by decide +kernel)
def f_X6_place (x0 : Int32) (x1 : Int32) (M : zM) : Option (Int32) :=
  some (((15 + (5 * x0)) + x1))
theorem cd_X6_place : zCd yX6_place cX6_place 2 (some .int) 2 := ⟨w855, w69, ⟨by decide, by decide⟩, by decide +kernel⟩
set_option maxHeartbeats 4000000 in
set_option maxRecDepth 20000 in
theorem ok_X6_place {x0 : Int32} {x1 : Int32} {M : zM} {y : Int32}  (h : f_X6_place x0 x1 M = some y) : zRuns yX6_place cX6_place 2 (some .int) 0 0 [.int x0, .int x1] M (some (.int y)) M := by
  refine zRuns_of (by decide +kernel) (Nat.le_of_ble_eq_true rfl) (fun E Z hE => ?_)
  have h := zB_top h
  change VV E 2 0 [(0, Value.int x0), (1, Value.int x1)] [] M
  refine V_bipush 15 (by decide) Z (show decode cX6_place 0 = .ok (.bipush 15, 2) by decide +kernel) ?_
  refine V_iconst 5 (by decide) Z (show decode cX6_place 2 = .ok (.iconst 5, 1) by decide +kernel) ?_
  refine V_iload_n 0 Z rfl rfl (show decode cX6_place 3 = .ok (.iload_n 0, 1) by decide +kernel) ?_
  refine V_imul Z (show decode cX6_place 4 = .ok (.imul, 1) by decide +kernel) ?_
  refine V_iadd Z (show decode cX6_place 5 = .ok (.iadd, 1) by decide +kernel) ?_
  refine V_iload_n 1 Z rfl rfl (show decode cX6_place 6 = .ok (.iload_n 1, 1) by decide +kernel) ?_
  refine V_iadd Z (show decode cX6_place 7 = .ok (.iadd, 1) by decide +kernel) ?_
  exact V_iretP Z hE h (show decode cX6_place 8 = .ok (.ireturn, 1) by decide +kernel)
def f_X6_nameIs (x1 : Int32) (x2 : Int32) (M : zM) : Option (Int32) :=
  (f_X6_place x1 x2 M).bind fun (v2 : Int32) =>
  (zrd M 48 v2).bind fun (v3 : Int32) =>
  some (v3)
theorem cd_X6_nameIs : zCd yX6_nameIs cX6_nameIs 3 (some .int) 2 := ⟨w871, w69, ⟨by decide, by decide⟩, by decide +kernel⟩
set_option maxHeartbeats 4000000 in
set_option maxRecDepth 20000 in
theorem ok_X6_nameIs {x1 : Int32} {x2 : Int32} {M : zM} {y : Int32}  (h : f_X6_nameIs x1 x2 M = some y) : zRuns yX6_nameIs cX6_nameIs 3 (some .int) 1 21 [.ref 47, .int x1, .int x2] M (some (.int y)) M := by
  refine zRuns_of (by decide +kernel) (Nat.le_of_ble_eq_true rfl) (fun E Z hE => ?_)
  have h := zB_top h
  change VV E 3 0 [(0, Value.ref 47), (1, Value.int x1), (2, Value.int x2)] [] M
  refine V_aload_n 0 Z rfl rfl (show decode cX6_nameIs 0 = .ok (.aload_n 0, 1) by decide +kernel) ?_
  refine V_getR 0 48 Z zc5 (by decide) rfl (by decide) rfl (by decide) ⟨rfl, rfl, rfl⟩ w766 (show decode cX6_nameIs 1 = .ok (.getfield 9, 3) by decide +kernel) ?_
  refine V_iload_n 1 Z rfl rfl (show decode cX6_nameIs 4 = .ok (.iload_n 1, 1) by decide +kernel) ?_
  refine V_iload_n 2 Z rfl rfl (show decode cX6_nameIs 5 = .ok (.iload_n 2, 1) by decide +kernel) ?_
  obtain ⟨v2, e1, h⟩ := zB_bind h
  refine V_callS (rest := [_]) 2 Z (ok_X6_place  e1) cd_X6_place w853 w854 rfl (show decode cX6_nameIs 6 = .ok (.invokestatic 80, 3) by decide +kernel) rfl ?_
  obtain ⟨v3, e4, h⟩ := zB_bind h
  refine V_iald Z e4 (show decode cX6_nameIs 9 = .ok (.iaload, 1) by decide +kernel) ?_
  exact V_iretP Z hE h (show decode cX6_nameIs 10 = .ok (.ireturn, 1) by decide +kernel)
def f_X6_comes (x1 : Int32) (x2 : Int32) (x3 : Int32) (x4 : Int32) (M : zM) : Option (Int32 × zM) :=
  (zrd M 48 1).bind fun (v1 : Int32) =>
  (f_X6_place v1 0 M).bind fun (v4 : Int32) =>
  (zwr M 48 v4 x1).bind fun (M5 : zM) =>
  (f_X6_place v1 1 M5).bind fun (v8 : Int32) =>
  (zwr M5 48 v8 x2).bind fun (M9 : zM) =>
  (f_X6_place v1 2 M9).bind fun (v12 : Int32) =>
  (zwr M9 48 v12 x3).bind fun (M13 : zM) =>
  (f_X6_place v1 3 M13).bind fun (v16 : Int32) =>
  (zwr M13 48 v16 0).bind fun (M17 : zM) =>
  (f_X6_place v1 4 M17).bind fun (v20 : Int32) =>
  (zwr M17 48 v20 x4).bind fun (M21 : zM) =>
  (zrd M21 48 1).bind fun (v23 : Int32) =>
  (zwr M21 48 1 (v23 + 1)).bind fun (M25 : zM) =>
  some ((v1, M25))
theorem cd_X6_comes : zCd yX6_comes cX6_comes 6 (some .int) 4 := ⟨w852, w69, ⟨by decide, by decide⟩, by decide +kernel⟩
set_option maxHeartbeats 4000000 in
set_option maxRecDepth 20000 in
theorem ok_X6_comes {x1 : Int32} {x2 : Int32} {x3 : Int32} {x4 : Int32} {M : zM} {y : Int32 × zM}  (h : f_X6_comes x1 x2 x3 x4 M = some y) : zRuns yX6_comes cX6_comes 6 (some .int) 1 21 [.ref 47, .int x1, .int x2, .int x3, .int x4] M (some (.int y.1)) y.2 := by
  refine zRuns_of (by decide +kernel) (Nat.le_of_ble_eq_true rfl) (fun E Z hE => ?_)
  have h := zB_top h
  change VV E 6 0 [(0, Value.ref 47), (1, Value.int x1), (2, Value.int x2), (3, Value.int x3), (4, Value.int x4)] [] M
  refine V_aload_n 0 Z rfl rfl (show decode cX6_comes 0 = .ok (.aload_n 0, 1) by decide +kernel) ?_
  refine V_getR 0 48 Z zc5 (by decide) rfl (by decide) rfl (by decide) ⟨rfl, rfl, rfl⟩ w766 (show decode cX6_comes 1 = .ok (.getfield 9, 3) by decide +kernel) ?_
  refine V_iconst 1 (by decide) Z (show decode cX6_comes 4 = .ok (.iconst 1, 1) by decide +kernel) ?_
  obtain ⟨v1, e2, h⟩ := zB_bind h
  refine V_iald Z e2 (show decode cX6_comes 5 = .ok (.iaload, 1) by decide +kernel) ?_
  refine V_istore [(5, Value.int v1), (0, Value.ref 47), (1, Value.int x1), (2, Value.int x2), (3, Value.int x3), (4, Value.int x4)] Z (by decide) rfl (show decode cX6_comes 6 = .ok (.istore 5, 2) by decide +kernel) ?_
  refine V_aload_n 1 Z rfl rfl (show decode cX6_comes 8 = .ok (.aload_n 0, 1) by decide +kernel) ?_
  refine V_getR 0 48 Z zc5 (by decide) rfl (by decide) rfl (by decide) ⟨rfl, rfl, rfl⟩ w766 (show decode cX6_comes 9 = .ok (.getfield 9, 3) by decide +kernel) ?_
  refine V_iload 0 Z rfl (show decode cX6_comes 12 = .ok (.iload 5, 2) by decide +kernel) ?_
  refine V_iconst 0 (by decide) Z (show decode cX6_comes 14 = .ok (.iconst 0, 1) by decide +kernel) ?_
  obtain ⟨v4, e3, h⟩ := zB_bind h
  refine V_callS (rest := [_]) 2 Z (ok_X6_place  e3) cd_X6_place w853 w854 rfl (show decode cX6_comes 15 = .ok (.invokestatic 80, 3) by decide +kernel) rfl ?_
  refine V_iload_n 2 Z rfl rfl (show decode cX6_comes 18 = .ok (.iload_n 1, 1) by decide +kernel) ?_
  obtain ⟨M5, e6, h⟩ := zB_bind h
  refine V_iast Z e6 (show decode cX6_comes 19 = .ok (.iastore, 1) by decide +kernel) ?_
  refine V_aload_n 1 Z rfl rfl (show decode cX6_comes 20 = .ok (.aload_n 0, 1) by decide +kernel) ?_
  refine V_getR 0 48 Z zc5 (by decide) rfl (by decide) rfl (by decide) ⟨rfl, rfl, rfl⟩ w766 (show decode cX6_comes 21 = .ok (.getfield 9, 3) by decide +kernel) ?_
  refine V_iload 0 Z rfl (show decode cX6_comes 24 = .ok (.iload 5, 2) by decide +kernel) ?_
  refine V_iconst 1 (by decide) Z (show decode cX6_comes 26 = .ok (.iconst 1, 1) by decide +kernel) ?_
  obtain ⟨v8, e7, h⟩ := zB_bind h
  refine V_callS (rest := [_]) 2 Z (ok_X6_place  e7) cd_X6_place w853 w854 rfl (show decode cX6_comes 27 = .ok (.invokestatic 80, 3) by decide +kernel) rfl ?_
  refine V_iload_n 3 Z rfl rfl (show decode cX6_comes 30 = .ok (.iload_n 2, 1) by decide +kernel) ?_
  obtain ⟨M9, e10, h⟩ := zB_bind h
  refine V_iast Z e10 (show decode cX6_comes 31 = .ok (.iastore, 1) by decide +kernel) ?_
  refine V_aload_n 1 Z rfl rfl (show decode cX6_comes 32 = .ok (.aload_n 0, 1) by decide +kernel) ?_
  refine V_getR 0 48 Z zc5 (by decide) rfl (by decide) rfl (by decide) ⟨rfl, rfl, rfl⟩ w766 (show decode cX6_comes 33 = .ok (.getfield 9, 3) by decide +kernel) ?_
  refine V_iload 0 Z rfl (show decode cX6_comes 36 = .ok (.iload 5, 2) by decide +kernel) ?_
  refine V_iconst 2 (by decide) Z (show decode cX6_comes 38 = .ok (.iconst 2, 1) by decide +kernel) ?_
  obtain ⟨v12, e11, h⟩ := zB_bind h
  refine V_callS (rest := [_]) 2 Z (ok_X6_place  e11) cd_X6_place w853 w854 rfl (show decode cX6_comes 39 = .ok (.invokestatic 80, 3) by decide +kernel) rfl ?_
  refine V_iload_n 4 Z rfl rfl (show decode cX6_comes 42 = .ok (.iload_n 3, 1) by decide +kernel) ?_
  obtain ⟨M13, e14, h⟩ := zB_bind h
  refine V_iast Z e14 (show decode cX6_comes 43 = .ok (.iastore, 1) by decide +kernel) ?_
  refine V_aload_n 1 Z rfl rfl (show decode cX6_comes 44 = .ok (.aload_n 0, 1) by decide +kernel) ?_
  refine V_getR 0 48 Z zc5 (by decide) rfl (by decide) rfl (by decide) ⟨rfl, rfl, rfl⟩ w766 (show decode cX6_comes 45 = .ok (.getfield 9, 3) by decide +kernel) ?_
  refine V_iload 0 Z rfl (show decode cX6_comes 48 = .ok (.iload 5, 2) by decide +kernel) ?_
  refine V_iconst 3 (by decide) Z (show decode cX6_comes 50 = .ok (.iconst 3, 1) by decide +kernel) ?_
  obtain ⟨v16, e15, h⟩ := zB_bind h
  refine V_callS (rest := [_]) 2 Z (ok_X6_place  e15) cd_X6_place w853 w854 rfl (show decode cX6_comes 51 = .ok (.invokestatic 80, 3) by decide +kernel) rfl ?_
  refine V_iconst 0 (by decide) Z (show decode cX6_comes 54 = .ok (.iconst 0, 1) by decide +kernel) ?_
  obtain ⟨M17, e18, h⟩ := zB_bind h
  refine V_iast Z e18 (show decode cX6_comes 55 = .ok (.iastore, 1) by decide +kernel) ?_
  refine V_aload_n 1 Z rfl rfl (show decode cX6_comes 56 = .ok (.aload_n 0, 1) by decide +kernel) ?_
  refine V_getR 0 48 Z zc5 (by decide) rfl (by decide) rfl (by decide) ⟨rfl, rfl, rfl⟩ w766 (show decode cX6_comes 57 = .ok (.getfield 9, 3) by decide +kernel) ?_
  refine V_iload 0 Z rfl (show decode cX6_comes 60 = .ok (.iload 5, 2) by decide +kernel) ?_
  refine V_iconst 4 (by decide) Z (show decode cX6_comes 62 = .ok (.iconst 4, 1) by decide +kernel) ?_
  obtain ⟨v20, e19, h⟩ := zB_bind h
  refine V_callS (rest := [_]) 2 Z (ok_X6_place  e19) cd_X6_place w853 w854 rfl (show decode cX6_comes 63 = .ok (.invokestatic 80, 3) by decide +kernel) rfl ?_
  refine V_iload 5 Z rfl (show decode cX6_comes 66 = .ok (.iload 4, 2) by decide +kernel) ?_
  obtain ⟨M21, e22, h⟩ := zB_bind h
  refine V_iast Z e22 (show decode cX6_comes 68 = .ok (.iastore, 1) by decide +kernel) ?_
  refine V_aload_n 1 Z rfl rfl (show decode cX6_comes 69 = .ok (.aload_n 0, 1) by decide +kernel) ?_
  refine V_getR 0 48 Z zc5 (by decide) rfl (by decide) rfl (by decide) ⟨rfl, rfl, rfl⟩ w766 (show decode cX6_comes 70 = .ok (.getfield 9, 3) by decide +kernel) ?_
  refine V_iconst 1 (by decide) Z (show decode cX6_comes 73 = .ok (.iconst 1, 1) by decide +kernel) ?_
  refine V_dup2 rfl rfl Z (show decode cX6_comes 74 = .ok (.dup2, 1) by decide +kernel) ?_
  obtain ⟨v23, e24, h⟩ := zB_bind h
  refine V_iald Z e24 (show decode cX6_comes 75 = .ok (.iaload, 1) by decide +kernel) ?_
  refine V_iconst 1 (by decide) Z (show decode cX6_comes 76 = .ok (.iconst 1, 1) by decide +kernel) ?_
  refine V_iadd Z (show decode cX6_comes 77 = .ok (.iadd, 1) by decide +kernel) ?_
  obtain ⟨M25, e26, h⟩ := zB_bind h
  refine V_iast Z e26 (show decode cX6_comes 78 = .ok (.iastore, 1) by decide +kernel) ?_
  refine V_iload 0 Z rfl (show decode cX6_comes 79 = .ok (.iload 5, 2) by decide +kernel) ?_
  exact V_iretM Z hE h (show decode cX6_comes 81 = .ok (.ireturn, 1) by decide +kernel)
def f_X6_name_j17 (M : zM) : Option (Int32 × zM) :=
  (f_X6_finding (-1000001) M).bind fun ((v2, M3) : Int32 × zM) =>
  some ((v2, M3))
def f_X6_name (x1 : Int32) (x2 : Int32) (M : zM) : Option (Int32 × zM) :=
  (f_X6_isKind x1 M).bind fun (v5 : Int32) =>
  if v5 = 0 then
    f_X6_name_j17  M
  else
    (f_X6_within x2 0 99 M).bind fun (v8 : Int32) =>
    if v8 = 0 then
      f_X6_name_j17  M
    else
      (zrd M 48 1).bind fun (v10 : Int32) =>
      if v10 = 8 then
        (f_X6_finding (-1000002) M).bind fun ((v17, M18) : Int32 × zM) =>
        some ((v17, M18))
      else
        (f_X6_comes x1 x2 0 (-1) M).bind fun ((v14, M15) : Int32 × zM) =>
        some ((v14, M15))
theorem cd_X6_name : zCd yX6_name cX6_name 3 (some .int) 2 := ⟨w836, w69, ⟨by decide, by decide⟩, by decide +kernel⟩
set_option maxHeartbeats 4000000 in
set_option maxRecDepth 20000 in
theorem ok_X6_name {x1 : Int32} {x2 : Int32} {M : zM} {y : Int32 × zM}  (h : f_X6_name x1 x2 M = some y) : zRuns yX6_name cX6_name 3 (some .int) 2 46 [.ref 47, .int x1, .int x2] M (some (.int y.1)) y.2 := by
  refine zRuns_of (by decide +kernel) (Nat.le_of_ble_eq_true rfl) (fun E Z hE => ?_)
  have h := zB_top h
  change VV E 3 0 [(0, Value.ref 47), (1, Value.int x1), (2, Value.int x2)] [] M
  have J17 : ∀ (M : zM), (f_X6_name_j17  M).bind some = some y → VV E 3 17 [(0, Value.ref 47)] [] M := by
    intro  M h
    refine V_aload_n 0 Z rfl rfl (show decode cX6_name 17 = .ok (.aload_n 0, 1) by decide +kernel) ?_
    refine V_ldc (-1000001) Z w843 (show decode cX6_name 18 = .ok (.ldc 66, 2) by decide +kernel) ?_
    obtain ⟨⟨v2, M3⟩, e1, h⟩ := zB_bind h
    refine V_callV (rest := []) 1 Z (ok_X6_finding  e1) cd_X6_finding zc5 (by decide) rfl w844 w846 w17 rfl (show decode cX6_name 20 = .ok (.invokevirtual 72, 3) by decide +kernel) rfl ?_
    exact V_iretM Z hE h (show decode cX6_name 23 = .ok (.ireturn, 1) by decide +kernel)
  refine V_iload_n 1 Z rfl rfl (show decode cX6_name 0 = .ok (.iload_n 1, 1) by decide +kernel) ?_
  obtain ⟨v5, e4, h⟩ := zB_bind h
  refine V_callS (rest := []) 1 Z (ok_X6_isKind  e4) cd_X6_isKind w837 w838 rfl (show decode cX6_name 1 = .ok (.invokestatic 84, 3) by decide +kernel) rfl ?_
  refine V_if_eq 17 Z (by decide) (show decode cX6_name 4 = .ok (.ifCond .eq 13, 3) by decide +kernel) (fun c6 => ?_) (fun c6 => ?_)
  · have h := zB_pos c6 h
    refine V_sub [0] rfl ?_
    exact J17 _ h
  · have h := zB_neg c6 h
    refine V_iload_n 2 Z rfl rfl (show decode cX6_name 7 = .ok (.iload_n 2, 1) by decide +kernel) ?_
    refine V_iconst 0 (by decide) Z (show decode cX6_name 8 = .ok (.iconst 0, 1) by decide +kernel) ?_
    refine V_bipush 99 (by decide) Z (show decode cX6_name 9 = .ok (.bipush 99, 2) by decide +kernel) ?_
    obtain ⟨v8, e7, h⟩ := zB_bind h
    refine V_callS (rest := []) 3 Z (ok_X6_within  e7) cd_X6_within w840 w841 rfl (show decode cX6_name 11 = .ok (.invokestatic 76, 3) by decide +kernel) rfl ?_
    refine V_if_ne 24 Z (by decide) (show decode cX6_name 14 = .ok (.ifCond .ne 10, 3) by decide +kernel) (fun c9 => ?_) (fun c9 => ?_)
    · have h := zB_neg c9 h
      refine V_aload_n 0 Z rfl rfl (show decode cX6_name 24 = .ok (.aload_n 0, 1) by decide +kernel) ?_
      refine V_getR 0 48 Z zc5 (by decide) rfl (by decide) rfl (by decide) ⟨rfl, rfl, rfl⟩ w766 (show decode cX6_name 25 = .ok (.getfield 9, 3) by decide +kernel) ?_
      refine V_iconst 1 (by decide) Z (show decode cX6_name 28 = .ok (.iconst 1, 1) by decide +kernel) ?_
      obtain ⟨v10, e11, h⟩ := zB_bind h
      refine V_iald Z e11 (show decode cX6_name 29 = .ok (.iaload, 1) by decide +kernel) ?_
      refine V_bipush 8 (by decide) Z (show decode cX6_name 30 = .ok (.bipush 8, 2) by decide +kernel) ?_
      refine V_icmp_ne 44 Z (by decide) (show decode cX6_name 32 = .ok (.if_icmp .ne 12, 3) by decide +kernel) (fun c12 => ?_) (fun c12 => ?_)
      · have h := zB_neg c12 h
        refine V_aload_n 0 Z rfl rfl (show decode cX6_name 44 = .ok (.aload_n 0, 1) by decide +kernel) ?_
        refine V_iload_n 1 Z rfl rfl (show decode cX6_name 45 = .ok (.iload_n 1, 1) by decide +kernel) ?_
        refine V_iload_n 2 Z rfl rfl (show decode cX6_name 46 = .ok (.iload_n 2, 1) by decide +kernel) ?_
        refine V_iconst 0 (by decide) Z (show decode cX6_name 47 = .ok (.iconst 0, 1) by decide +kernel) ?_
        refine V_iconst (-1) (by decide) Z (show decode cX6_name 48 = .ok (.iconst (-1), 1) by decide +kernel) ?_
        obtain ⟨⟨v14, M15⟩, e13, h⟩ := zB_bind h
        refine V_callV (rest := []) 4 Z (ok_X6_comes  e13) cd_X6_comes zc5 (by decide) rfl w849 w851 w18 rfl (show decode cX6_name 49 = .ok (.invokevirtual 89, 3) by decide +kernel) rfl ?_
        exact V_iretM Z hE h (show decode cX6_name 52 = .ok (.ireturn, 1) by decide +kernel)
      · have h := zB_pos c12 h
        refine V_aload_n 0 Z rfl rfl (show decode cX6_name 35 = .ok (.aload_n 0, 1) by decide +kernel) ?_
        refine V_ldc (-1000002) Z w848 (show decode cX6_name 36 = .ok (.ldc 88, 2) by decide +kernel) ?_
        obtain ⟨⟨v17, M18⟩, e16, h⟩ := zB_bind h
        refine V_callV (rest := []) 1 Z (ok_X6_finding  e16) cd_X6_finding zc5 (by decide) rfl w844 w846 w17 rfl (show decode cX6_name 38 = .ok (.invokevirtual 72, 3) by decide +kernel) rfl ?_
        refine V_goto 52 Z (by decide) (show decode cX6_name 41 = .ok (.goto 11, 3) by decide +kernel) ?_
        exact V_iretM Z hE h (show decode cX6_name 52 = .ok (.ireturn, 1) by decide +kernel)
    · have h := zB_pos c9 h
      refine V_sub [0] rfl ?_
      exact J17 _ h
