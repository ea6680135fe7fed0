/-! Generated walks: X6_count X6_status -/
def f_X6_count_l96 (M : zM) : Int32 × Int32 → Option ((Int32 × Int32) ⊕ (Int32 × zM))
  | (y2, y3) =>
    if 10 ≤ y3 then
      some (.inr ((y2, M)))
    else
      (zrd M 48 (5 + y3)).bind fun (v24 : Int32) =>
      if 0 ≤ v24 then
        (some ((y2 + 1))).bind fun (n27 : Int32) =>
        (some (y3 + 1)).bind fun (n29 : Int32) =>
        some (.inl ((n27, n29)))
      else
        (some ((y2 + 0))).bind fun (n31 : Int32) =>
        (some (y3 + 1)).bind fun (n33 : Int32) =>
        some (.inl ((n31, n33)))
def f_X6_count (x1 : Int32) (M : zM) : Option (Int32 × zM) :=
  if x1 = 0 then
    (zrd M 48 0).bind fun (v2 : Int32) =>
    some ((v2, M))
  else
    if x1 = 1 then
      (zrd M 48 1).bind fun (v5 : Int32) =>
      some ((v5, M))
    else
      if x1 = 2 then
        (f_X6_hungNow  M).bind fun (v9 : Int32) =>
        (f_X6_bits v9 M).bind fun (v11 : Int32) =>
        some ((v11, M))
      else
        if x1 = 3 then
          (zrd M 48 4).bind fun (v13 : Int32) =>
          some ((v13, M))
        else
          if x1 = 4 then
            (f_X6_purses  M).bind fun (v17 : Int32) =>
            some ((v17, M))
          else
            if x1 = 5 then
              some (((M 47 8), M))
            else
              if x1 = 6 then
                (zrd M 48 2).bind fun (v20 : Int32) =>
                some ((v20, M))
              else
                if x1 = 7 then
                  zIter (f_X6_count_l96 M) 1000 (0, 0)
                else
                  (f_X6_finding (-1000001) M).bind fun ((v36, M37) : Int32 × zM) =>
                  some ((v36, M37))
theorem cd_X6_count : zCd yX6_count cX6_count 4 (some .int) 1 := ⟨w1269, w69, ⟨by decide, by decide⟩, by decide +kernel⟩
set_option maxHeartbeats 4000000 in
set_option maxRecDepth 20000 in
theorem ok_X6_count {x1 : Int32} {M : zM} {y : Int32 × zM}  (h : f_X6_count x1 M = some y) : zRuns yX6_count cX6_count 4 (some .int) 4 86 [.ref 47, .int x1] M (some (.int y.1)) y.2 := by
  refine zRuns_of (by decide +kernel) (Nat.le_of_ble_eq_true rfl) (fun E Z hE => ?_)
  have h := zB_top h
  change VV E 4 0 [(0, Value.ref 47), (1, Value.int x1)] [] M
  refine V_iconst 0 (by decide) Z (show decode cX6_count 0 = .ok (.iconst 0, 1) by decide +kernel) ?_
  refine V_istore_n [(2, Value.int 0), (0, Value.ref 47), (1, Value.int x1)] Z (by decide) rfl rfl (show decode cX6_count 1 = .ok (.istore_n 2, 1) by decide +kernel) ?_
  refine V_iload_n 2 Z rfl rfl (show decode cX6_count 2 = .ok (.iload_n 1, 1) by decide +kernel) ?_
  rcases zB_ite h with ⟨c1, h⟩ | ⟨c1, h⟩
  · refine V_tabE (off := 45) 0 48 Z c1 (show decode cX6_count 3 = .ok (.tableswitch 126 0 7 #[45, 52, 59, 67, 74, 79, 84, 91], 45) by decide +kernel) (by decide) ?_
    refine V_aload_n 1 Z rfl rfl (show decode cX6_count 48 = .ok (.aload_n 0, 1) by decide +kernel) ?_
    refine V_getR 0 48 Z zc5 (by decide) rfl (by decide) rfl (by decide) ⟨rfl, rfl, rfl⟩ w766 (show decode cX6_count 49 = .ok (.getfield 9, 3) by decide +kernel) ?_
    refine V_iconst 0 (by decide) Z (show decode cX6_count 52 = .ok (.iconst 0, 1) by decide +kernel) ?_
    obtain ⟨v2, e3, h⟩ := zB_bind h
    refine V_iald Z e3 (show decode cX6_count 53 = .ok (.iaload, 1) by decide +kernel) ?_
    exact V_iretM Z hE h (show decode cX6_count 54 = .ok (.ireturn, 1) by decide +kernel)
  · skip
    rcases zB_ite h with ⟨c4, h⟩ | ⟨c4, h⟩
    · refine V_tabE (off := 52) 1 55 Z c4 (show decode cX6_count 3 = .ok (.tableswitch 126 0 7 #[45, 52, 59, 67, 74, 79, 84, 91], 45) by decide +kernel) (by decide) ?_
      refine V_aload_n 1 Z rfl rfl (show decode cX6_count 55 = .ok (.aload_n 0, 1) by decide +kernel) ?_
      refine V_getR 0 48 Z zc5 (by decide) rfl (by decide) rfl (by decide) ⟨rfl, rfl, rfl⟩ w766 (show decode cX6_count 56 = .ok (.getfield 9, 3) by decide +kernel) ?_
      refine V_iconst 1 (by decide) Z (show decode cX6_count 59 = .ok (.iconst 1, 1) by decide +kernel) ?_
      obtain ⟨v5, e6, h⟩ := zB_bind h
      refine V_iald Z e6 (show decode cX6_count 60 = .ok (.iaload, 1) by decide +kernel) ?_
      exact V_iretM Z hE h (show decode cX6_count 61 = .ok (.ireturn, 1) by decide +kernel)
    · skip
      rcases zB_ite h with ⟨c7, h⟩ | ⟨c7, h⟩
      · refine V_tabE (off := 59) 2 62 Z c7 (show decode cX6_count 3 = .ok (.tableswitch 126 0 7 #[45, 52, 59, 67, 74, 79, 84, 91], 45) by decide +kernel) (by decide) ?_
        refine V_aload_n 1 Z rfl rfl (show decode cX6_count 62 = .ok (.aload_n 0, 1) by decide +kernel) ?_
        obtain ⟨v9, e8, h⟩ := zB_bind h
        refine V_callV (rest := []) 0 Z (ok_X6_hungNow  e8) cd_X6_hungNow zc5 (by decide) rfl w975 w977 w36 rfl (show decode cX6_count 63 = .ok (.invokevirtual 172, 3) by decide +kernel) rfl ?_
        obtain ⟨v11, e10, h⟩ := zB_bind h
        refine V_callS (rest := []) 1 Z (ok_X6_bits  e10) cd_X6_bits w1080 w1081 rfl (show decode cX6_count 66 = .ok (.invokestatic 207, 3) by decide +kernel) rfl ?_
        exact V_iretM Z hE h (show decode cX6_count 69 = .ok (.ireturn, 1) by decide +kernel)
      · skip
        rcases zB_ite h with ⟨c12, h⟩ | ⟨c12, h⟩
        · refine V_tabE (off := 67) 3 70 Z c12 (show decode cX6_count 3 = .ok (.tableswitch 126 0 7 #[45, 52, 59, 67, 74, 79, 84, 91], 45) by decide +kernel) (by decide) ?_
          refine V_aload_n 1 Z rfl rfl (show decode cX6_count 70 = .ok (.aload_n 0, 1) by decide +kernel) ?_
          refine V_getR 0 48 Z zc5 (by decide) rfl (by decide) rfl (by decide) ⟨rfl, rfl, rfl⟩ w766 (show decode cX6_count 71 = .ok (.getfield 9, 3) by decide +kernel) ?_
          refine V_iconst 4 (by decide) Z (show decode cX6_count 74 = .ok (.iconst 4, 1) by decide +kernel) ?_
          obtain ⟨v13, e14, h⟩ := zB_bind h
          refine V_iald Z e14 (show decode cX6_count 75 = .ok (.iaload, 1) by decide +kernel) ?_
          exact V_iretM Z hE h (show decode cX6_count 76 = .ok (.ireturn, 1) by decide +kernel)
        · skip
          rcases zB_ite h with ⟨c15, h⟩ | ⟨c15, h⟩
          · refine V_tabE (off := 74) 4 77 Z c15 (show decode cX6_count 3 = .ok (.tableswitch 126 0 7 #[45, 52, 59, 67, 74, 79, 84, 91], 45) by decide +kernel) (by decide) ?_
            refine V_aload_n 1 Z rfl rfl (show decode cX6_count 77 = .ok (.aload_n 0, 1) by decide +kernel) ?_
            obtain ⟨v17, e16, h⟩ := zB_bind h
            refine V_callV (rest := []) 0 Z (ok_X6_purses  e16) cd_X6_purses zc5 (by decide) rfl w967 w969 w35 rfl (show decode cX6_count 78 = .ok (.invokevirtual 168, 3) by decide +kernel) rfl ?_
            exact V_iretM Z hE h (show decode cX6_count 81 = .ok (.ireturn, 1) by decide +kernel)
          · skip
            rcases zB_ite h with ⟨c18, h⟩ | ⟨c18, h⟩
            · refine V_tabE (off := 79) 5 82 Z c18 (show decode cX6_count 3 = .ok (.tableswitch 126 0 7 #[45, 52, 59, 67, 74, 79, 84, 91], 45) by decide +kernel) (by decide) ?_
              refine V_aload_n 1 Z rfl rfl (show decode cX6_count 82 = .ok (.aload_n 0, 1) by decide +kernel) ?_
              refine V_getI 8 Z zc5 (by decide) rfl (by decide) rfl ⟨rfl, rfl, rfl⟩ w774 (show decode cX6_count 83 = .ok (.getfield 236, 3) by decide +kernel) ?_
              exact V_iretM Z hE h (show decode cX6_count 86 = .ok (.ireturn, 1) by decide +kernel)
            · skip
              rcases zB_ite h with ⟨c19, h⟩ | ⟨c19, h⟩
              · refine V_tabE (off := 84) 6 87 Z c19 (show decode cX6_count 3 = .ok (.tableswitch 126 0 7 #[45, 52, 59, 67, 74, 79, 84, 91], 45) by decide +kernel) (by decide) ?_
                refine V_aload_n 1 Z rfl rfl (show decode cX6_count 87 = .ok (.aload_n 0, 1) by decide +kernel) ?_
                refine V_getR 0 48 Z zc5 (by decide) rfl (by decide) rfl (by decide) ⟨rfl, rfl, rfl⟩ w766 (show decode cX6_count 88 = .ok (.getfield 9, 3) by decide +kernel) ?_
                refine V_iconst 2 (by decide) Z (show decode cX6_count 91 = .ok (.iconst 2, 1) by decide +kernel) ?_
                obtain ⟨v20, e21, h⟩ := zB_bind h
                refine V_iald Z e21 (show decode cX6_count 92 = .ok (.iaload, 1) by decide +kernel) ?_
                exact V_iretM Z hE h (show decode cX6_count 93 = .ok (.ireturn, 1) by decide +kernel)
              · skip
                rcases zB_ite h with ⟨c22, h⟩ | ⟨c22, h⟩
                · refine V_tabE (off := 91) 7 94 Z c22 (show decode cX6_count 3 = .ok (.tableswitch 126 0 7 #[45, 52, 59, 67, 74, 79, 84, 91], 45) by decide +kernel) (by decide) ?_
                  refine V_iconst 0 (by decide) Z (show decode cX6_count 94 = .ok (.iconst 0, 1) by decide +kernel) ?_
                  refine V_istore_n [(3, Value.int 0), (2, Value.int 0), (0, Value.ref 47), (1, Value.int x1)] Z (by decide) rfl rfl (show decode cX6_count 95 = .ok (.istore_n 3, 1) by decide +kernel) ?_
                  refine V_sub [2, 1, 0] rfl ?_
                  refine zIter_loop' (K := some) (fun s : Int32 × Int32 => VV E 4 96 [(0, Value.ref 47), (2, Value.int s.1), (3, Value.int s.2)] [] M) (fun K1 s c1_i c1_r h => ?_) _ _ h
                  obtain ⟨y2, y3⟩ := s
                  change VV E 4 96 [(0, Value.ref 47), (2, Value.int y2), (3, Value.int y3)] [] M
                  refine V_iload_n 2 Z rfl rfl (show decode cX6_count 96 = .ok (.iload_n 3, 1) by decide +kernel) ?_
                  refine V_bipush 10 (by decide) Z (show decode cX6_count 97 = .ok (.bipush 10, 2) by decide +kernel) ?_
                  refine V_icmp_ge 127 Z (by decide) (show decode cX6_count 99 = .ok (.if_icmp .ge 28, 3) by decide +kernel) (fun c23 => ?_) (fun c23 => ?_)
                  · have h := zB_pos c23 h
                    refine V_iload_n 1 Z rfl rfl (show decode cX6_count 127 = .ok (.iload_n 2, 1) by decide +kernel) ?_
                    have h := c1_r _ h
                    exact V_iretM Z hE h (show decode cX6_count 128 = .ok (.ireturn, 1) by decide +kernel)
                  · have h := zB_neg c23 h
                    refine V_iload_n 1 Z rfl rfl (show decode cX6_count 102 = .ok (.iload_n 2, 1) by decide +kernel) ?_
                    refine V_aload_n 0 Z rfl rfl (show decode cX6_count 103 = .ok (.aload_n 0, 1) by decide +kernel) ?_
                    refine V_getR 0 48 Z zc5 (by decide) rfl (by decide) rfl (by decide) ⟨rfl, rfl, rfl⟩ w766 (show decode cX6_count 104 = .ok (.getfield 9, 3) by decide +kernel) ?_
                    refine V_iconst 5 (by decide) Z (show decode cX6_count 107 = .ok (.iconst 5, 1) by decide +kernel) ?_
                    refine V_iload_n 2 Z rfl rfl (show decode cX6_count 108 = .ok (.iload_n 3, 1) by decide +kernel) ?_
                    refine V_iadd Z (show decode cX6_count 109 = .ok (.iadd, 1) by decide +kernel) ?_
                    obtain ⟨v24, e25, h⟩ := zB_bind h
                    refine V_iald Z e25 (show decode cX6_count 110 = .ok (.iaload, 1) by decide +kernel) ?_
                    refine V_if_ge 118 Z (by decide) (show decode cX6_count 111 = .ok (.ifCond .ge 7, 3) by decide +kernel) (fun c26 => ?_) (fun c26 => ?_)
                    · have h := zB_pos c26 h
                      refine V_iconst 1 (by decide) Z (show decode cX6_count 118 = .ok (.iconst 1, 1) by decide +kernel) ?_
                      refine V_iadd Z (show decode cX6_count 119 = .ok (.iadd, 1) by decide +kernel) ?_
                      obtain ⟨n27, e28, h⟩ := zB_let h
                      refine V_nm e28 ?_
                      refine V_istore_n [(2, Value.int n27), (0, Value.ref 47), (3, Value.int y3)] Z (by decide) rfl rfl (show decode cX6_count 120 = .ok (.istore_n 2, 1) by decide +kernel) ?_
                      obtain ⟨n29, e30, h⟩ := zB_let h
                      refine V_iinck 1 1 2 n29 [(3, Value.int n29), (2, Value.int n27), (0, Value.ref 47)] Z (by decide) (by decide) rfl e30 rfl (show decode cX6_count 121 = .ok (.iinc 3 1, 3) by decide +kernel) ?_
                      refine V_goto 96 Z (by decide) (show decode cX6_count 124 = .ok (.goto (-28), 3) by decide +kernel) ?_
                      refine V_sub [2, 1, 0] rfl ?_
                      exact c1_i _ h
                    · have h := zB_neg c26 h
                      refine V_iconst 0 (by decide) Z (show decode cX6_count 114 = .ok (.iconst 0, 1) by decide +kernel) ?_
                      refine V_goto 119 Z (by decide) (show decode cX6_count 115 = .ok (.goto 4, 3) by decide +kernel) ?_
                      refine V_iadd Z (show decode cX6_count 119 = .ok (.iadd, 1) by decide +kernel) ?_
                      obtain ⟨n31, e32, h⟩ := zB_let h
                      refine V_nm e32 ?_
                      refine V_istore_n [(2, Value.int n31), (0, Value.ref 47), (3, Value.int y3)] Z (by decide) rfl rfl (show decode cX6_count 120 = .ok (.istore_n 2, 1) by decide +kernel) ?_
                      obtain ⟨n33, e34, h⟩ := zB_let h
                      refine V_iinck 1 1 2 n33 [(3, Value.int n33), (2, Value.int n31), (0, Value.ref 47)] Z (by decide) (by decide) rfl e34 rfl (show decode cX6_count 121 = .ok (.iinc 3 1, 3) by decide +kernel) ?_
                      refine V_goto 96 Z (by decide) (show decode cX6_count 124 = .ok (.goto (-28), 3) by decide +kernel) ?_
                      refine V_sub [2, 1, 0] rfl ?_
                      exact c1_i _ h
                · skip
                  refine V_tabOut 129 Z (show decode cX6_count 3 = .ok (.tableswitch 126 0 7 #[45, 52, 59, 67, 74, 79, 84, 91], 45) by decide +kernel) (z_out (fun i h1 h2 e => by
                      rcases (show i = 0 ∨ i = 1 ∨ i = 2 ∨ i = 3 ∨ i = 4 ∨ i = 5 ∨ i = 6 ∨ i = 7 by omega) with rfl | rfl | rfl | rfl | rfl | rfl | rfl | rfl
                      · exact c1 e
                      · exact c4 e
                      · exact c7 e
                      · exact c12 e
                      · exact c15 e
                      · exact c18 e
                      · exact c19 e
                      · exact c22 e)) (by decide) ?_
                  refine V_aload_n 1 Z rfl rfl (show decode cX6_count 129 = .ok (.aload_n 0, 1) by decide +kernel) ?_
                  refine V_ldc (-1000001) Z w843 (show decode cX6_count 130 = .ok (.ldc 66, 2) by decide +kernel) ?_
                  obtain ⟨⟨v36, M37⟩, e35, h⟩ := zB_bind h
                  refine V_callV (rest := []) 1 Z (ok_X6_finding  e35) cd_X6_finding zc5 (by decide) rfl w844 w846 w17 rfl (show decode cX6_count 132 = .ok (.invokevirtual 72, 3) by decide +kernel) rfl ?_
                  exact V_iretM Z hE h (show decode cX6_count 135 = .ok (.ireturn, 1) by decide +kernel)
def f_X6_status (x1 : Int32) (M : zM) : Option (Int32 × zM) :=
  (f_X6_within x1 (-1) 6 M).bind fun (v2 : Int32) =>
  if v2 = 0 then
    (f_X6_finding (-1000001) M).bind fun ((v5, M6) : Int32 × zM) =>
    some ((v5, M6))
  else
    (zrd M 51 (x1 + 1)).bind fun (v7 : Int32) =>
    some ((v7, M))
theorem cd_X6_status : zCd yX6_status cX6_status 2 (some .int) 1 := ⟨w1273, w69, ⟨by decide, by decide⟩, by decide +kernel⟩
set_option maxHeartbeats 4000000 in
set_option maxRecDepth 20000 in
theorem ok_X6_status {x1 : Int32} {M : zM} {y : Int32 × zM}  (h : f_X6_status x1 M = some y) : zRuns yX6_status cX6_status 2 (some .int) 1 22 [.ref 47, .int x1] M (some (.int y.1)) y.2 := by
  refine zRuns_of (by decide +kernel) (Nat.le_of_ble_eq_true rfl) (fun E Z hE => ?_)
  have h := zB_top h
  change VV E 2 0 [(0, Value.ref 47), (1, Value.int x1)] [] M
  refine V_iload_n 1 Z rfl rfl (show decode cX6_status 0 = .ok (.iload_n 1, 1) by decide +kernel) ?_
  refine V_iconst (-1) (by decide) Z (show decode cX6_status 1 = .ok (.iconst (-1), 1) by decide +kernel) ?_
  refine V_bipush 6 (by decide) Z (show decode cX6_status 2 = .ok (.bipush 6, 2) by decide +kernel) ?_
  obtain ⟨v2, e1, h⟩ := zB_bind h
  refine V_callS (rest := []) 3 Z (ok_X6_within  e1) cd_X6_within w840 w841 rfl (show decode cX6_status 4 = .ok (.invokestatic 76, 3) by decide +kernel) rfl ?_
  refine V_if_eq 21 Z (by decide) (show decode cX6_status 7 = .ok (.ifCond .eq 14, 3) by decide +kernel) (fun c3 => ?_) (fun c3 => ?_)
  · have h := zB_pos c3 h
    refine V_aload_n 0 Z rfl rfl (show decode cX6_status 21 = .ok (.aload_n 0, 1) by decide +kernel) ?_
    refine V_ldc (-1000001) Z w843 (show decode cX6_status 22 = .ok (.ldc 66, 2) by decide +kernel) ?_
    obtain ⟨⟨v5, M6⟩, e4, h⟩ := zB_bind h
    refine V_callV (rest := []) 1 Z (ok_X6_finding  e4) cd_X6_finding zc5 (by decide) rfl w844 w846 w17 rfl (show decode cX6_status 24 = .ok (.invokevirtual 72, 3) by decide +kernel) rfl ?_
    exact V_iretM Z hE h (show decode cX6_status 27 = .ok (.ireturn, 1) by decide +kernel)
  · have h := zB_neg c3 h
    refine V_aload_n 0 Z rfl rfl (show decode cX6_status 10 = .ok (.aload_n 0, 1) by decide +kernel) ?_
    refine V_getR 4 51 Z zc5 (by decide) rfl (by decide) rfl (by decide) ⟨rfl, rfl, rfl⟩ w770 (show decode cX6_status 11 = .ok (.getfield 19, 3) by decide +kernel) ?_
    refine V_iload_n 1 Z rfl rfl (show decode cX6_status 14 = .ok (.iload_n 1, 1) by decide +kernel) ?_
    refine V_iconst 1 (by decide) Z (show decode cX6_status 15 = .ok (.iconst 1, 1) by decide +kernel) ?_
    refine V_iadd Z (show decode cX6_status 16 = .ok (.iadd, 1) by decide +kernel) ?_
    obtain ⟨v7, e8, h⟩ := zB_bind h
    refine V_iald Z e8 (show decode cX6_status 17 = .ok (.iaload, 1) by decide +kernel) ?_
    refine V_goto 27 Z (by decide) (show decode cX6_status 18 = .ok (.goto 9, 3) by decide +kernel) ?_
    exact V_iretM Z hE h (show decode cX6_status 27 = .ok (.ireturn, 1) by decide +kernel)
