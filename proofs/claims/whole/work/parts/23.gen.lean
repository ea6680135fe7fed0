/-! Generated walks: X6_dueOf X6_fadesBy X6_hangs X6_doQuarrel X6_foesOf X6_of X6_mayBe X6_change X6_isPurse -/
def f_X6_dueOf_j23 (y1 : Int32) (y2 : Int32) (s0 : Int32) (M : zM) : Option (Int32) :=
  (f_X6_nameIs y1 0 M).bind fun (v2 : Int32) =>
  if v2 = 1 then
    (f_X6_nameIs y1 2 M).bind fun (v5 : Int32) =>
    some ((y2 + (v5 / 10)))
  else
    if v2 = 2 then
      some ((2 * y2))
    else
      if v2 = 3 then
        some (s0)
      else
        if v2 = 4 then
          some ((s0 / 2))
        else
          if v2 = 5 then
            some ((y2 / 2))
          else
            if v2 = 6 then
              (f_X6_nameIs y1 2 M).bind fun (v12 : Int32) =>
              some (((y2 + (v12 / 10)) + 5))
            else
              some (y2)
def f_X6_dueOf (x1 : Int32) (M : zM) : Option (Int32) :=
  (f_X6_nameIs x1 1 M).bind fun (v14 : Int32) =>
  (f_X6_nameIs x1 3 M).bind fun (v16 : Int32) =>
  if v16 ≤ 0 then
    f_X6_dueOf_j23 x1 v14 (2 * v14) M
  else
    f_X6_dueOf_j23 x1 v14 0 M
theorem cd_X6_dueOf : zCd yX6_dueOf cX6_dueOf 4 (some .int) 1 := ⟨w867, w69, ⟨by decide, by decide⟩, by decide +kernel⟩
set_option maxHeartbeats 4000000 in
set_option maxRecDepth 20000 in
theorem ok_X6_dueOf {x1 : Int32} {M : zM} {y : Int32}  (h : f_X6_dueOf x1 M = some y) : zRuns yX6_dueOf cX6_dueOf 4 (some .int) 2 43 [.ref 47, .int x1] M (some (.int y)) M := by
  refine zRuns_of (by decide +kernel) (Nat.le_of_ble_eq_true rfl) (fun E Z hE => ?_)
  have h := zB_top h
  change VV E 4 0 [(0, Value.ref 47), (1, Value.int x1)] [] M
  have J23 : ∀ (y1 : Int32) (y2 : Int32) (s0 : Int32), (f_X6_dueOf_j23 y1 y2 s0 M).bind some = some y → VV E 4 23 [(0, Value.ref 47), (1, Value.int y1), (2, Value.int y2)] [Value.int s0] M := by
    intro y1 y2 s0 h
    refine V_istore_n [(3, Value.int s0), (0, Value.ref 47), (1, Value.int y1), (2, Value.int y2)] Z (by decide) rfl rfl (show decode cX6_dueOf 23 = .ok (.istore_n 3, 1) by decide +kernel) ?_
    refine V_aload_n 1 Z rfl rfl (show decode cX6_dueOf 24 = .ok (.aload_n 0, 1) by decide +kernel) ?_
    refine V_iload_n 2 Z rfl rfl (show decode cX6_dueOf 25 = .ok (.iload_n 1, 1) by decide +kernel) ?_
    refine V_iconst 0 (by decide) Z (show decode cX6_dueOf 26 = .ok (.iconst 0, 1) by decide +kernel) ?_
    obtain ⟨v2, e1, h⟩ := zB_bind h
    refine V_callV (rest := []) 2 Z (ok_X6_nameIs  e1) cd_X6_nameIs zc5 (by decide) rfl w868 w870 w21 rfl (show decode cX6_dueOf 27 = .ok (.invokevirtual 93, 3) by decide +kernel) rfl ?_
    rcases zB_ite h with ⟨c3, h⟩ | ⟨c3, h⟩
    · refine V_tabE (off := 38) 1 68 Z c3 (show decode cX6_dueOf 30 = .ok (.tableswitch 78 1 6 #[38, 64, 68, 70, 74, 50], 38) by decide +kernel) (by decide) ?_
      refine V_iload_n 3 Z rfl rfl (show decode cX6_dueOf 68 = .ok (.iload_n 2, 1) by decide +kernel) ?_
      refine V_aload_n 1 Z rfl rfl (show decode cX6_dueOf 69 = .ok (.aload_n 0, 1) by decide +kernel) ?_
      refine V_iload_n 2 Z rfl rfl (show decode cX6_dueOf 70 = .ok (.iload_n 1, 1) by decide +kernel) ?_
      refine V_iconst 2 (by decide) Z (show decode cX6_dueOf 71 = .ok (.iconst 2, 1) by decide +kernel) ?_
      obtain ⟨v5, e4, h⟩ := zB_bind h
      refine V_callV (rest := [_]) 2 Z (ok_X6_nameIs  e4) cd_X6_nameIs zc5 (by decide) rfl w868 w870 w21 rfl (show decode cX6_dueOf 72 = .ok (.invokevirtual 93, 3) by decide +kernel) rfl ?_
      refine V_bipush 10 (by decide) Z (show decode cX6_dueOf 75 = .ok (.bipush 10, 2) by decide +kernel) ?_
      refine V_idivc (by decide) Z (show decode cX6_dueOf 77 = .ok (.idiv, 1) by decide +kernel) ?_
      refine V_iadd Z (show decode cX6_dueOf 78 = .ok (.iadd, 1) by decide +kernel) ?_
      exact V_iretP Z hE h (show decode cX6_dueOf 79 = .ok (.ireturn, 1) by decide +kernel)
    · skip
      rcases zB_ite h with ⟨c6, h⟩ | ⟨c6, h⟩
      · refine V_tabE (off := 64) 2 94 Z c6 (show decode cX6_dueOf 30 = .ok (.tableswitch 78 1 6 #[38, 64, 68, 70, 74, 50], 38) by decide +kernel) (by decide) ?_
        refine V_iconst 2 (by decide) Z (show decode cX6_dueOf 94 = .ok (.iconst 2, 1) by decide +kernel) ?_
        refine V_iload_n 3 Z rfl rfl (show decode cX6_dueOf 95 = .ok (.iload_n 2, 1) by decide +kernel) ?_
        refine V_imul Z (show decode cX6_dueOf 96 = .ok (.imul, 1) by decide +kernel) ?_
        exact V_iretP Z hE h (show decode cX6_dueOf 97 = .ok (.ireturn, 1) by decide +kernel)
      · skip
        rcases zB_ite h with ⟨c7, h⟩ | ⟨c7, h⟩
        · refine V_tabE (off := 68) 3 98 Z c7 (show decode cX6_dueOf 30 = .ok (.tableswitch 78 1 6 #[38, 64, 68, 70, 74, 50], 38) by decide +kernel) (by decide) ?_
          refine V_iload_n 0 Z rfl rfl (show decode cX6_dueOf 98 = .ok (.iload_n 3, 1) by decide +kernel) ?_
          exact V_iretP Z hE h (show decode cX6_dueOf 99 = .ok (.ireturn, 1) by decide +kernel)
        · skip
          rcases zB_ite h with ⟨c8, h⟩ | ⟨c8, h⟩
          · refine V_tabE (off := 70) 4 100 Z c8 (show decode cX6_dueOf 30 = .ok (.tableswitch 78 1 6 #[38, 64, 68, 70, 74, 50], 38) by decide +kernel) (by decide) ?_
            refine V_iload_n 0 Z rfl rfl (show decode cX6_dueOf 100 = .ok (.iload_n 3, 1) by decide +kernel) ?_
            refine V_iconst 2 (by decide) Z (show decode cX6_dueOf 101 = .ok (.iconst 2, 1) by decide +kernel) ?_
            refine V_idivc (by decide) Z (show decode cX6_dueOf 102 = .ok (.idiv, 1) by decide +kernel) ?_
            exact V_iretP Z hE h (show decode cX6_dueOf 103 = .ok (.ireturn, 1) by decide +kernel)
          · skip
            rcases zB_ite h with ⟨c9, h⟩ | ⟨c9, h⟩
            · refine V_tabE (off := 74) 5 104 Z c9 (show decode cX6_dueOf 30 = .ok (.tableswitch 78 1 6 #[38, 64, 68, 70, 74, 50], 38) by decide +kernel) (by decide) ?_
              refine V_iload_n 3 Z rfl rfl (show decode cX6_dueOf 104 = .ok (.iload_n 2, 1) by decide +kernel) ?_
              refine V_iconst 2 (by decide) Z (show decode cX6_dueOf 105 = .ok (.iconst 2, 1) by decide +kernel) ?_
              refine V_idivc (by decide) Z (show decode cX6_dueOf 106 = .ok (.idiv, 1) by decide +kernel) ?_
              exact V_iretP Z hE h (show decode cX6_dueOf 107 = .ok (.ireturn, 1) by decide +kernel)
            · skip
              rcases zB_ite h with ⟨c10, h⟩ | ⟨c10, h⟩
              · refine V_tabE (off := 50) 6 80 Z c10 (show decode cX6_dueOf 30 = .ok (.tableswitch 78 1 6 #[38, 64, 68, 70, 74, 50], 38) by decide +kernel) (by decide) ?_
                refine V_iload_n 3 Z rfl rfl (show decode cX6_dueOf 80 = .ok (.iload_n 2, 1) by decide +kernel) ?_
                refine V_aload_n 1 Z rfl rfl (show decode cX6_dueOf 81 = .ok (.aload_n 0, 1) by decide +kernel) ?_
                refine V_iload_n 2 Z rfl rfl (show decode cX6_dueOf 82 = .ok (.iload_n 1, 1) by decide +kernel) ?_
                refine V_iconst 2 (by decide) Z (show decode cX6_dueOf 83 = .ok (.iconst 2, 1) by decide +kernel) ?_
                obtain ⟨v12, e11, h⟩ := zB_bind h
                refine V_callV (rest := [_]) 2 Z (ok_X6_nameIs  e11) cd_X6_nameIs zc5 (by decide) rfl w868 w870 w21 rfl (show decode cX6_dueOf 84 = .ok (.invokevirtual 93, 3) by decide +kernel) rfl ?_
                refine V_bipush 10 (by decide) Z (show decode cX6_dueOf 87 = .ok (.bipush 10, 2) by decide +kernel) ?_
                refine V_idivc (by decide) Z (show decode cX6_dueOf 89 = .ok (.idiv, 1) by decide +kernel) ?_
                refine V_iadd Z (show decode cX6_dueOf 90 = .ok (.iadd, 1) by decide +kernel) ?_
                refine V_iconst 5 (by decide) Z (show decode cX6_dueOf 91 = .ok (.iconst 5, 1) by decide +kernel) ?_
                refine V_iadd Z (show decode cX6_dueOf 92 = .ok (.iadd, 1) by decide +kernel) ?_
                exact V_iretP Z hE h (show decode cX6_dueOf 93 = .ok (.ireturn, 1) by decide +kernel)
              · skip
                refine V_tabOut 108 Z (show decode cX6_dueOf 30 = .ok (.tableswitch 78 1 6 #[38, 64, 68, 70, 74, 50], 38) by decide +kernel) (z_out (fun i h1 h2 e => by
                    rcases (show i = 1 ∨ i = 2 ∨ i = 3 ∨ i = 4 ∨ i = 5 ∨ i = 6 by omega) with rfl | rfl | rfl | rfl | rfl | rfl
                    · exact c3 e
                    · exact c6 e
                    · exact c7 e
                    · exact c8 e
                    · exact c9 e
                    · exact c10 e)) (by decide) ?_
                refine V_iload_n 3 Z rfl rfl (show decode cX6_dueOf 108 = .ok (.iload_n 2, 1) by decide +kernel) ?_
                exact V_iretP Z hE h (show decode cX6_dueOf 109 = .ok (.ireturn, 1) by decide +kernel)
  refine V_aload_n 0 Z rfl rfl (show decode cX6_dueOf 0 = .ok (.aload_n 0, 1) by decide +kernel) ?_
  refine V_iload_n 1 Z rfl rfl (show decode cX6_dueOf 1 = .ok (.iload_n 1, 1) by decide +kernel) ?_
  refine V_iconst 1 (by decide) Z (show decode cX6_dueOf 2 = .ok (.iconst 1, 1) by decide +kernel) ?_
  obtain ⟨v14, e13, h⟩ := zB_bind h
  refine V_callV (rest := []) 2 Z (ok_X6_nameIs  e13) cd_X6_nameIs zc5 (by decide) rfl w868 w870 w21 rfl (show decode cX6_dueOf 3 = .ok (.invokevirtual 93, 3) by decide +kernel) rfl ?_
  refine V_istore_n [(2, Value.int v14), (0, Value.ref 47), (1, Value.int x1)] Z (by decide) rfl rfl (show decode cX6_dueOf 6 = .ok (.istore_n 2, 1) by decide +kernel) ?_
  refine V_aload_n 1 Z rfl rfl (show decode cX6_dueOf 7 = .ok (.aload_n 0, 1) by decide +kernel) ?_
  refine V_iload_n 2 Z rfl rfl (show decode cX6_dueOf 8 = .ok (.iload_n 1, 1) by decide +kernel) ?_
  refine V_iconst 3 (by decide) Z (show decode cX6_dueOf 9 = .ok (.iconst 3, 1) by decide +kernel) ?_
  obtain ⟨v16, e15, h⟩ := zB_bind h
  refine V_callV (rest := []) 2 Z (ok_X6_nameIs  e15) cd_X6_nameIs zc5 (by decide) rfl w868 w870 w21 rfl (show decode cX6_dueOf 10 = .ok (.invokevirtual 93, 3) by decide +kernel) rfl ?_
  refine V_if_le 20 Z (by decide) (show decode cX6_dueOf 13 = .ok (.ifCond .le 7, 3) by decide +kernel) (fun c17 => ?_) (fun c17 => ?_)
  · have h := zB_pos c17 h
    refine V_iconst 2 (by decide) Z (show decode cX6_dueOf 20 = .ok (.iconst 2, 1) by decide +kernel) ?_
    refine V_iload_n 0 Z rfl rfl (show decode cX6_dueOf 21 = .ok (.iload_n 2, 1) by decide +kernel) ?_
    refine V_imul Z (show decode cX6_dueOf 22 = .ok (.imul, 1) by decide +kernel) ?_
    refine V_sub [1, 2, 0] rfl ?_
    exact J23 _ _ _ h
  · have h := zB_neg c17 h
    refine V_iconst 0 (by decide) Z (show decode cX6_dueOf 16 = .ok (.iconst 0, 1) by decide +kernel) ?_
    refine V_goto 23 Z (by decide) (show decode cX6_dueOf 17 = .ok (.goto 6, 3) by decide +kernel) ?_
    refine V_sub [1, 2, 0] rfl ?_
    exact J23 _ _ _ h
def f_X6_fadesBy (x1 : Int32) (M : zM) : Option (Int32) :=
  (f_X6_nameIs x1 0 M).bind fun (v2 : Int32) =>
  if v2 = 1 then
    some ((2 : Int32))
  else
    if v2 = 5 then
      some ((3 : Int32))
    else
      if v2 = 6 then
        some ((4 : Int32))
      else
        some ((1 : Int32))
theorem cd_X6_fadesBy : zCd yX6_fadesBy cX6_fadesBy 2 (some .int) 1 := ⟨w875, w69, ⟨by decide, by decide⟩, by decide +kernel⟩
set_option maxHeartbeats 4000000 in
set_option maxRecDepth 20000 in
theorem ok_X6_fadesBy {x1 : Int32} {M : zM} {y : Int32}  (h : f_X6_fadesBy x1 M = some y) : zRuns yX6_fadesBy cX6_fadesBy 2 (some .int) 2 43 [.ref 47, .int x1] M (some (.int y)) M := by
  refine zRuns_of (by decide +kernel) (Nat.le_of_ble_eq_true rfl) (fun E Z hE => ?_)
  have h := zB_top h
  change VV E 2 0 [(0, Value.ref 47), (1, Value.int x1)] [] M
  refine V_aload_n 0 Z rfl rfl (show decode cX6_fadesBy 0 = .ok (.aload_n 0, 1) by decide +kernel) ?_
  refine V_iload_n 1 Z rfl rfl (show decode cX6_fadesBy 1 = .ok (.iload_n 1, 1) by decide +kernel) ?_
  refine V_iconst 0 (by decide) Z (show decode cX6_fadesBy 2 = .ok (.iconst 0, 1) by decide +kernel) ?_
  obtain ⟨v2, e1, h⟩ := zB_bind h
  refine V_callV (rest := []) 2 Z (ok_X6_nameIs  e1) cd_X6_nameIs zc5 (by decide) rfl w868 w870 w21 rfl (show decode cX6_fadesBy 3 = .ok (.invokevirtual 93, 3) by decide +kernel) rfl ?_
  rcases zB_ite h with ⟨c3, h⟩ | ⟨c3, h⟩
  · refine V_lookE 1 40 Z c3 (show decode cX6_fadesBy 6 = .ok (.lookupswitch 40 #[(1, 34), (5, 38), (6, 36)], 34) by decide +kernel) (by decide) ?_
    refine V_iconst 2 (by decide) Z (show decode cX6_fadesBy 40 = .ok (.iconst 2, 1) by decide +kernel) ?_
    exact V_iretP Z hE h (show decode cX6_fadesBy 41 = .ok (.ireturn, 1) by decide +kernel)
  · skip
    rcases zB_ite h with ⟨c4, h⟩ | ⟨c4, h⟩
    · refine V_lookE 5 44 Z c4 (show decode cX6_fadesBy 6 = .ok (.lookupswitch 40 #[(1, 34), (5, 38), (6, 36)], 34) by decide +kernel) (by decide) ?_
      refine V_iconst 3 (by decide) Z (show decode cX6_fadesBy 44 = .ok (.iconst 3, 1) by decide +kernel) ?_
      exact V_iretP Z hE h (show decode cX6_fadesBy 45 = .ok (.ireturn, 1) by decide +kernel)
    · skip
      rcases zB_ite h with ⟨c5, h⟩ | ⟨c5, h⟩
      · refine V_lookE 6 42 Z c5 (show decode cX6_fadesBy 6 = .ok (.lookupswitch 40 #[(1, 34), (5, 38), (6, 36)], 34) by decide +kernel) (by decide) ?_
        refine V_iconst 4 (by decide) Z (show decode cX6_fadesBy 42 = .ok (.iconst 4, 1) by decide +kernel) ?_
        exact V_iretP Z hE h (show decode cX6_fadesBy 43 = .ok (.ireturn, 1) by decide +kernel)
      · skip
        refine V_lookD 46 Z (show decode cX6_fadesBy 6 = .ok (.lookupswitch 40 #[(1, 34), (5, 38), (6, 36)], 34) by decide +kernel) (by
            intro p hp e
            simp only [List.mem_cons, List.not_mem_nil, or_false] at hp
            rcases hp with rfl | rfl | rfl
            · exact c3 e
            · exact c4 e
            · exact c5 e) (by decide) ?_
        refine V_iconst 1 (by decide) Z (show decode cX6_fadesBy 46 = .ok (.iconst 1, 1) by decide +kernel) ?_
        exact V_iretP Z hE h (show decode cX6_fadesBy 47 = .ok (.ireturn, 1) by decide +kernel)
def f_X6_hangs (x1 : Int32) (M : zM) : Option (Int32) :=
  (f_X6_nameIs x1 2 M).bind fun (v2 : Int32) =>
  if 50 ≤ v2 then
    some ((0 : Int32))
  else
    some ((1 : Int32))
theorem cd_X6_hangs : zCd yX6_hangs cX6_hangs 2 (some .boolean) 1 := ⟨w879, w69, ⟨by decide, by decide⟩, by decide +kernel⟩
set_option maxHeartbeats 4000000 in
set_option maxRecDepth 20000 in
theorem ok_X6_hangs {x1 : Int32} {M : zM} {y : Int32}  (h : f_X6_hangs x1 M = some y) : zRuns yX6_hangs cX6_hangs 2 (some .boolean) 2 43 [.ref 47, .int x1] M (some (.int y)) M := by
  refine zRuns_of (by decide +kernel) (Nat.le_of_ble_eq_true rfl) (fun E Z hE => ?_)
  have h := zB_top h
  change VV E 2 0 [(0, Value.ref 47), (1, Value.int x1)] [] M
  refine V_aload_n 0 Z rfl rfl (show decode cX6_hangs 0 = .ok (.aload_n 0, 1) by decide +kernel) ?_
  refine V_iload_n 1 Z rfl rfl (show decode cX6_hangs 1 = .ok (.iload_n 1, 1) by decide +kernel) ?_
  refine V_iconst 2 (by decide) Z (show decode cX6_hangs 2 = .ok (.iconst 2, 1) by decide +kernel) ?_
  obtain ⟨v2, e1, h⟩ := zB_bind h
  refine V_callV (rest := []) 2 Z (ok_X6_nameIs  e1) cd_X6_nameIs zc5 (by decide) rfl w868 w870 w21 rfl (show decode cX6_hangs 3 = .ok (.invokevirtual 93, 3) by decide +kernel) rfl ?_
  refine V_bipush 50 (by decide) Z (show decode cX6_hangs 6 = .ok (.bipush 50, 2) by decide +kernel) ?_
  refine V_icmp_ge 15 Z (by decide) (show decode cX6_hangs 8 = .ok (.if_icmp .ge 7, 3) by decide +kernel) (fun c3 => ?_) (fun c3 => ?_)
  · have h := zB_pos c3 h
    refine V_iconst 0 (by decide) Z (show decode cX6_hangs 15 = .ok (.iconst 0, 1) by decide +kernel) ?_
    exact V_zretP Z hE h rfl (show decode cX6_hangs 16 = .ok (.ireturn, 1) by decide +kernel)
  · have h := zB_neg c3 h
    refine V_iconst 1 (by decide) Z (show decode cX6_hangs 11 = .ok (.iconst 1, 1) by decide +kernel) ?_
    refine V_goto 16 Z (by decide) (show decode cX6_hangs 12 = .ok (.goto 4, 3) by decide +kernel) ?_
    exact V_zretP Z hE h rfl (show decode cX6_hangs 16 = .ok (.ireturn, 1) by decide +kernel)
def f_X6_doQuarrel (x1 : Int32) (x2 : Int32) (M : zM) : Option (Int32) :=
  (f_X6_nameIs x1 4 M).bind fun (v2 : Int32) =>
  if v2 = x2 then
    some ((1 : Int32))
  else
    (f_X6_nameIs x2 4 M).bind fun (v5 : Int32) =>
    if v5 = x1 then
      some ((1 : Int32))
    else
      some ((0 : Int32))
theorem cd_X6_doQuarrel : zCd yX6_doQuarrel cX6_doQuarrel 3 (some .boolean) 2 := ⟨w887, w69, ⟨by decide, by decide⟩, by decide +kernel⟩
set_option maxHeartbeats 4000000 in
set_option maxRecDepth 20000 in
theorem ok_X6_doQuarrel {x1 : Int32} {x2 : Int32} {M : zM} {y : Int32}  (h : f_X6_doQuarrel x1 x2 M = some y) : zRuns yX6_doQuarrel cX6_doQuarrel 3 (some .boolean) 2 43 [.ref 47, .int x1, .int x2] M (some (.int y)) M := by
  refine zRuns_of (by decide +kernel) (Nat.le_of_ble_eq_true rfl) (fun E Z hE => ?_)
  have h := zB_top h
  change VV E 3 0 [(0, Value.ref 47), (1, Value.int x1), (2, Value.int x2)] [] M
  refine V_aload_n 0 Z rfl rfl (show decode cX6_doQuarrel 0 = .ok (.aload_n 0, 1) by decide +kernel) ?_
  refine V_iload_n 1 Z rfl rfl (show decode cX6_doQuarrel 1 = .ok (.iload_n 1, 1) by decide +kernel) ?_
  refine V_iconst 4 (by decide) Z (show decode cX6_doQuarrel 2 = .ok (.iconst 4, 1) by decide +kernel) ?_
  obtain ⟨v2, e1, h⟩ := zB_bind h
  refine V_callV (rest := []) 2 Z (ok_X6_nameIs  e1) cd_X6_nameIs zc5 (by decide) rfl w868 w870 w21 rfl (show decode cX6_doQuarrel 3 = .ok (.invokevirtual 93, 3) by decide +kernel) rfl ?_
  refine V_iload_n 2 Z rfl rfl (show decode cX6_doQuarrel 6 = .ok (.iload_n 2, 1) by decide +kernel) ?_
  refine V_icmp_eq 20 Z (by decide) (show decode cX6_doQuarrel 7 = .ok (.if_icmp .eq 13, 3) by decide +kernel) (fun c3 => ?_) (fun c3 => ?_)
  · have h := zB_pos c3 h
    refine V_iconst 1 (by decide) Z (show decode cX6_doQuarrel 20 = .ok (.iconst 1, 1) by decide +kernel) ?_
    refine V_goto 25 Z (by decide) (show decode cX6_doQuarrel 21 = .ok (.goto 4, 3) by decide +kernel) ?_
    exact V_zretP Z hE h rfl (show decode cX6_doQuarrel 25 = .ok (.ireturn, 1) by decide +kernel)
  · have h := zB_neg c3 h
    refine V_aload_n 0 Z rfl rfl (show decode cX6_doQuarrel 10 = .ok (.aload_n 0, 1) by decide +kernel) ?_
    refine V_iload_n 2 Z rfl rfl (show decode cX6_doQuarrel 11 = .ok (.iload_n 2, 1) by decide +kernel) ?_
    refine V_iconst 4 (by decide) Z (show decode cX6_doQuarrel 12 = .ok (.iconst 4, 1) by decide +kernel) ?_
    obtain ⟨v5, e4, h⟩ := zB_bind h
    refine V_callV (rest := []) 2 Z (ok_X6_nameIs  e4) cd_X6_nameIs zc5 (by decide) rfl w868 w870 w21 rfl (show decode cX6_doQuarrel 13 = .ok (.invokevirtual 93, 3) by decide +kernel) rfl ?_
    refine V_iload_n 1 Z rfl rfl (show decode cX6_doQuarrel 16 = .ok (.iload_n 1, 1) by decide +kernel) ?_
    refine V_icmp_ne 24 Z (by decide) (show decode cX6_doQuarrel 17 = .ok (.if_icmp .ne 7, 3) by decide +kernel) (fun c6 => ?_) (fun c6 => ?_)
    · have h := zB_neg c6 h
      refine V_iconst 0 (by decide) Z (show decode cX6_doQuarrel 24 = .ok (.iconst 0, 1) by decide +kernel) ?_
      exact V_zretP Z hE h rfl (show decode cX6_doQuarrel 25 = .ok (.ireturn, 1) by decide +kernel)
    · have h := zB_pos c6 h
      refine V_iconst 1 (by decide) Z (show decode cX6_doQuarrel 20 = .ok (.iconst 1, 1) by decide +kernel) ?_
      refine V_goto 25 Z (by decide) (show decode cX6_doQuarrel 21 = .ok (.goto 4, 3) by decide +kernel) ?_
      exact V_zretP Z hE h rfl (show decode cX6_doQuarrel 25 = .ok (.ireturn, 1) by decide +kernel)
def f_X6_foesOf_j35 (y1 : Int32) (y3 : Int32) (s0 : Int32) (M : zM) : Option ((Int32 × Int32) ⊕ (Int32)) :=
  (some ((s0 ||| 0))).bind fun (n1 : Int32) =>
  (some (y3 + 1)).bind fun (n3 : Int32) =>
  some (.inl ((n1, n3)))
def f_X6_foesOf_l4 (y1 : Int32) (M : zM) : Int32 × Int32 → Option ((Int32 × Int32) ⊕ (Int32))
  | (y2, y3) =>
    (zrd M 48 1).bind fun (v5 : Int32) =>
    if v5 ≤ y3 then
      some (.inr (y2))
    else
      if y3 = y1 then
        f_X6_foesOf_j35 y1 y3 y2 M
      else
        (f_X6_doQuarrel y1 y3 M).bind fun (v10 : Int32) =>
        if v10 = 0 then
          f_X6_foesOf_j35 y1 y3 y2 M
        else
          (some ((y2 ||| (1 <<< (y3 &&& 31))))).bind fun (n12 : Int32) =>
          (some (y3 + 1)).bind fun (n14 : Int32) =>
          some (.inl ((n12, n14)))
def f_X6_foesOf (x1 : Int32) (M : zM) : Option (Int32) :=
  zIter (f_X6_foesOf_l4 x1 M) 1000 (0, 0)
theorem cd_X6_foesOf : zCd yX6_foesOf cX6_foesOf 4 (some .int) 1 := ⟨w883, w69, ⟨by decide, by decide⟩, by decide +kernel⟩
set_option maxHeartbeats 4000000 in
set_option maxRecDepth 20000 in
theorem ok_X6_foesOf {x1 : Int32} {M : zM} {y : Int32}  (h : f_X6_foesOf x1 M = some y) : zRuns yX6_foesOf cX6_foesOf 4 (some .int) 3 65 [.ref 47, .int x1] M (some (.int y)) M := by
  refine zRuns_of (by decide +kernel) (Nat.le_of_ble_eq_true rfl) (fun E Z hE => ?_)
  have h := zB_top h
  change VV E 4 0 [(0, Value.ref 47), (1, Value.int x1)] [] M
  refine V_iconst 0 (by decide) Z (show decode cX6_foesOf 0 = .ok (.iconst 0, 1) by decide +kernel) ?_
  refine V_istore_n [(2, Value.int 0), (0, Value.ref 47), (1, Value.int x1)] Z (by decide) rfl rfl (show decode cX6_foesOf 1 = .ok (.istore_n 2, 1) by decide +kernel) ?_
  refine V_iconst 0 (by decide) Z (show decode cX6_foesOf 2 = .ok (.iconst 0, 1) by decide +kernel) ?_
  refine V_istore_n [(3, Value.int 0), (2, Value.int 0), (0, Value.ref 47), (1, Value.int x1)] Z (by decide) rfl rfl (show decode cX6_foesOf 3 = .ok (.istore_n 3, 1) by decide +kernel) ?_
  refine V_sub [2, 3, 1, 0] rfl ?_
  refine zIter_loop' (K := some) (fun s : Int32 × Int32 => VV E 4 4 [(0, Value.ref 47), (1, Value.int x1), (2, Value.int s.1), (3, Value.int s.2)] [] M) (fun K1 s c1_i c1_r h => ?_) _ _ h
  obtain ⟨y2, y3⟩ := s
  change VV E 4 4 [(0, Value.ref 47), (1, Value.int x1), (2, Value.int y2), (3, Value.int y3)] [] M
  rw [f_X6_foesOf_l4] at h
  have J35 : ∀ (y3 : Int32) (s0 : Int32), (f_X6_foesOf_j35 x1 y3 s0 M).bind K1 = some y → VV E 4 35 [(0, Value.ref 47), (1, Value.int x1), (3, Value.int y3)] [Value.int s0] M := by
    intro y3 s0 h
    refine V_iconst 0 (by decide) Z (show decode cX6_foesOf 35 = .ok (.iconst 0, 1) by decide +kernel) ?_
    refine V_ior Z (show decode cX6_foesOf 36 = .ok (.ior, 1) by decide +kernel) ?_
    obtain ⟨n1, e2, h⟩ := zB_let h
    refine V_nm e2 ?_
    refine V_istore_n [(2, Value.int n1), (0, Value.ref 47), (1, Value.int x1), (3, Value.int y3)] Z (by decide) rfl rfl (show decode cX6_foesOf 37 = .ok (.istore_n 2, 1) by decide +kernel) ?_
    obtain ⟨n3, e4, h⟩ := zB_let h
    refine V_iinck 1 1 3 n3 [(3, Value.int n3), (2, Value.int n1), (0, Value.ref 47), (1, Value.int x1)] Z (by decide) (by decide) rfl e4 rfl (show decode cX6_foesOf 38 = .ok (.iinc 3 1, 3) by decide +kernel) ?_
    refine V_goto 4 Z (by decide) (show decode cX6_foesOf 41 = .ok (.goto (-37), 3) by decide +kernel) ?_
    refine V_sub [2, 3, 1, 0] rfl ?_
    exact c1_i _ h
  refine V_iload_n 3 Z rfl rfl (show decode cX6_foesOf 4 = .ok (.iload_n 3, 1) by decide +kernel) ?_
  refine V_aload_n 0 Z rfl rfl (show decode cX6_foesOf 5 = .ok (.aload_n 0, 1) by decide +kernel) ?_
  refine V_getR 0 48 Z zc5 (by decide) rfl (by decide) rfl (by decide) ⟨rfl, rfl, rfl⟩ w766 (show decode cX6_foesOf 6 = .ok (.getfield 9, 3) by decide +kernel) ?_
  refine V_iconst 1 (by decide) Z (show decode cX6_foesOf 9 = .ok (.iconst 1, 1) by decide +kernel) ?_
  obtain ⟨v5, e6, h⟩ := zB_bind h
  refine V_iald Z e6 (show decode cX6_foesOf 10 = .ok (.iaload, 1) by decide +kernel) ?_
  refine V_icmp_ge 44 Z (by decide) (show decode cX6_foesOf 11 = .ok (.if_icmp .ge 33, 3) by decide +kernel) (fun c7 => ?_) (fun c7 => ?_)
  · have h := zB_pos c7 h
    refine V_iload_n 2 Z rfl rfl (show decode cX6_foesOf 44 = .ok (.iload_n 2, 1) by decide +kernel) ?_
    have h := c1_r _ h
    exact V_iretP Z hE h (show decode cX6_foesOf 45 = .ok (.ireturn, 1) by decide +kernel)
  · have h := zB_neg c7 h
    refine V_iload_n 2 Z rfl rfl (show decode cX6_foesOf 14 = .ok (.iload_n 2, 1) by decide +kernel) ?_
    refine V_iload_n 3 Z rfl rfl (show decode cX6_foesOf 15 = .ok (.iload_n 3, 1) by decide +kernel) ?_
    refine V_iload_n 1 Z rfl rfl (show decode cX6_foesOf 16 = .ok (.iload_n 1, 1) by decide +kernel) ?_
    refine V_icmp_eq 35 Z (by decide) (show decode cX6_foesOf 17 = .ok (.if_icmp .eq 18, 3) by decide +kernel) (fun c8 => ?_) (fun c8 => ?_)
    · have h := zB_pos c8 h
      refine V_sub [0, 1, 3] rfl ?_
      exact J35 _ _ h
    · have h := zB_neg c8 h
      refine V_aload_n 0 Z rfl rfl (show decode cX6_foesOf 20 = .ok (.aload_n 0, 1) by decide +kernel) ?_
      refine V_iload_n 1 Z rfl rfl (show decode cX6_foesOf 21 = .ok (.iload_n 1, 1) by decide +kernel) ?_
      refine V_iload_n 3 Z rfl rfl (show decode cX6_foesOf 22 = .ok (.iload_n 3, 1) by decide +kernel) ?_
      obtain ⟨v10, e9, h⟩ := zB_bind h
      refine V_callV (rest := [_]) 2 Z (ok_X6_doQuarrel  e9) cd_X6_doQuarrel zc5 (by decide) rfl w884 w886 w25 rfl (show decode cX6_foesOf 23 = .ok (.invokevirtual 96, 3) by decide +kernel) rfl ?_
      refine V_if_eq 35 Z (by decide) (show decode cX6_foesOf 26 = .ok (.ifCond .eq 9, 3) by decide +kernel) (fun c11 => ?_) (fun c11 => ?_)
      · have h := zB_pos c11 h
        refine V_sub [0, 1, 3] rfl ?_
        exact J35 _ _ h
      · have h := zB_neg c11 h
        refine V_iconst 1 (by decide) Z (show decode cX6_foesOf 29 = .ok (.iconst 1, 1) by decide +kernel) ?_
        refine V_iload_n 3 Z rfl rfl (show decode cX6_foesOf 30 = .ok (.iload_n 3, 1) by decide +kernel) ?_
        refine V_ishl Z (show decode cX6_foesOf 31 = .ok (.ishl, 1) by decide +kernel) ?_
        refine V_goto 36 Z (by decide) (show decode cX6_foesOf 32 = .ok (.goto 4, 3) by decide +kernel) ?_
        refine V_ior Z (show decode cX6_foesOf 36 = .ok (.ior, 1) by decide +kernel) ?_
        obtain ⟨n12, e13, h⟩ := zB_let h
        refine V_nm e13 ?_
        refine V_istore_n [(2, Value.int n12), (0, Value.ref 47), (1, Value.int x1), (3, Value.int y3)] Z (by decide) rfl rfl (show decode cX6_foesOf 37 = .ok (.istore_n 2, 1) by decide +kernel) ?_
        obtain ⟨n14, e15, h⟩ := zB_let h
        refine V_iinck 1 1 3 n14 [(3, Value.int n14), (2, Value.int n12), (0, Value.ref 47), (1, Value.int x1)] Z (by decide) (by decide) rfl e15 rfl (show decode cX6_foesOf 38 = .ok (.iinc 3 1, 3) by decide +kernel) ?_
        refine V_goto 4 Z (by decide) (show decode cX6_foesOf 41 = .ok (.goto (-37), 3) by decide +kernel) ?_
        refine V_sub [2, 3, 1, 0] rfl ?_
        exact c1_i _ h
def f_X6_of_j18 (M : zM) : Option (Int32 × zM) :=
  (f_X6_finding (-1000001) M).bind fun ((v2, M3) : Int32 × zM) =>
  some ((v2, M3))
def f_X6_of (x1 : Int32) (x2 : Int32) (M : zM) : Option (Int32 × zM) :=
  (f_X6_isName x1 M).bind fun (v5 : Int32) =>
  if v5 = 0 then
    f_X6_of_j18  M
  else
    (f_X6_within x2 0 8 M).bind fun (v8 : Int32) =>
    if v8 = 0 then
      f_X6_of_j18  M
    else
      if x2 = 5 then
        (f_X6_dueOf x1 M).bind fun (v12 : Int32) =>
        some ((v12, M))
      else
        if x2 = 6 then
          (f_X6_fadesBy x1 M).bind fun (v15 : Int32) =>
          some ((v15, M))
        else
          if x2 = 7 then
            (f_X6_hangs x1 M).bind fun (v18 : Int32) =>
            if v18 = 0 then
              some ((0, M))
            else
              some ((1, M))
          else
            if x2 = 8 then
              (f_X6_foesOf x1 M).bind fun (v22 : Int32) =>
              some ((v22, M))
            else
              (f_X6_nameIs x1 x2 M).bind fun (v24 : Int32) =>
              some ((v24, M))
theorem cd_X6_of : zCd yX6_of cX6_of 3 (some .int) 2 := ⟨w859, w69, ⟨by decide, by decide⟩, by decide +kernel⟩
set_option maxHeartbeats 4000000 in
set_option maxRecDepth 20000 in
theorem ok_X6_of {x1 : Int32} {x2 : Int32} {M : zM} {y : Int32 × zM}  (h : f_X6_of x1 x2 M = some y) : zRuns yX6_of cX6_of 3 (some .int) 4 88 [.ref 47, .int x1, .int x2] M (some (.int y.1)) y.2 := by
  refine zRuns_of (by decide +kernel) (Nat.le_of_ble_eq_true rfl) (fun E Z hE => ?_)
  have h := zB_top h
  change VV E 3 0 [(0, Value.ref 47), (1, Value.int x1), (2, Value.int x2)] [] M
  have J18 : ∀ (M : zM), (f_X6_of_j18  M).bind some = some y → VV E 3 18 [(0, Value.ref 47)] [] M := by
    intro  M h
    refine V_aload_n 0 Z rfl rfl (show decode cX6_of 18 = .ok (.aload_n 0, 1) by decide +kernel) ?_
    refine V_ldc (-1000001) Z w843 (show decode cX6_of 19 = .ok (.ldc 66, 2) by decide +kernel) ?_
    obtain ⟨⟨v2, M3⟩, e1, h⟩ := zB_bind h
    refine V_callV (rest := []) 1 Z (ok_X6_finding  e1) cd_X6_finding zc5 (by decide) rfl w844 w846 w17 rfl (show decode cX6_of 21 = .ok (.invokevirtual 72, 3) by decide +kernel) rfl ?_
    exact V_iretM Z hE h (show decode cX6_of 24 = .ok (.ireturn, 1) by decide +kernel)
  refine V_aload_n 0 Z rfl rfl (show decode cX6_of 0 = .ok (.aload_n 0, 1) by decide +kernel) ?_
  refine V_iload_n 1 Z rfl rfl (show decode cX6_of 1 = .ok (.iload_n 1, 1) by decide +kernel) ?_
  obtain ⟨v5, e4, h⟩ := zB_bind h
  refine V_callV (rest := []) 1 Z (ok_X6_isName  e4) cd_X6_isName zc5 (by decide) rfl w860 w862 w19 rfl (show decode cX6_of 2 = .ok (.invokevirtual 100, 3) by decide +kernel) rfl ?_
  refine V_if_eq 18 Z (by decide) (show decode cX6_of 5 = .ok (.ifCond .eq 13, 3) by decide +kernel) (fun c6 => ?_) (fun c6 => ?_)
  · have h := zB_pos c6 h
    refine V_sub [0] rfl ?_
    exact J18 _ h
  · have h := zB_neg c6 h
    refine V_iload_n 2 Z rfl rfl (show decode cX6_of 8 = .ok (.iload_n 2, 1) by decide +kernel) ?_
    refine V_iconst 0 (by decide) Z (show decode cX6_of 9 = .ok (.iconst 0, 1) by decide +kernel) ?_
    refine V_bipush 8 (by decide) Z (show decode cX6_of 10 = .ok (.bipush 8, 2) by decide +kernel) ?_
    obtain ⟨v8, e7, h⟩ := zB_bind h
    refine V_callS (rest := []) 3 Z (ok_X6_within  e7) cd_X6_within w840 w841 rfl (show decode cX6_of 12 = .ok (.invokestatic 76, 3) by decide +kernel) rfl ?_
    refine V_if_ne 25 Z (by decide) (show decode cX6_of 15 = .ok (.ifCond .ne 10, 3) by decide +kernel) (fun c9 => ?_) (fun c9 => ?_)
    · have h := zB_neg c9 h
      refine V_iload_n 2 Z rfl rfl (show decode cX6_of 25 = .ok (.iload_n 2, 1) by decide +kernel) ?_
      rcases zB_ite h with ⟨c10, h⟩ | ⟨c10, h⟩
      · refine V_tabE (off := 30) 5 56 Z c10 (show decode cX6_of 26 = .ok (.tableswitch 62 5 8 #[30, 36, 42, 56], 30) by decide +kernel) (by decide) ?_
        refine V_aload_n 0 Z rfl rfl (show decode cX6_of 56 = .ok (.aload_n 0, 1) by decide +kernel) ?_
        refine V_iload_n 1 Z rfl rfl (show decode cX6_of 57 = .ok (.iload_n 1, 1) by decide +kernel) ?_
        obtain ⟨v12, e11, h⟩ := zB_bind h
        refine V_callV (rest := []) 1 Z (ok_X6_dueOf  e11) cd_X6_dueOf zc5 (by decide) rfl w864 w866 w20 rfl (show decode cX6_of 58 = .ok (.invokevirtual 103, 3) by decide +kernel) rfl ?_
        exact V_iretM Z hE h (show decode cX6_of 61 = .ok (.ireturn, 1) by decide +kernel)
      · skip
        rcases zB_ite h with ⟨c13, h⟩ | ⟨c13, h⟩
        · refine V_tabE (off := 36) 6 62 Z c13 (show decode cX6_of 26 = .ok (.tableswitch 62 5 8 #[30, 36, 42, 56], 30) by decide +kernel) (by decide) ?_
          refine V_aload_n 0 Z rfl rfl (show decode cX6_of 62 = .ok (.aload_n 0, 1) by decide +kernel) ?_
          refine V_iload_n 1 Z rfl rfl (show decode cX6_of 63 = .ok (.iload_n 1, 1) by decide +kernel) ?_
          obtain ⟨v15, e14, h⟩ := zB_bind h
          refine V_callV (rest := []) 1 Z (ok_X6_fadesBy  e14) cd_X6_fadesBy zc5 (by decide) rfl w872 w874 w22 rfl (show decode cX6_of 64 = .ok (.invokevirtual 106, 3) by decide +kernel) rfl ?_
          exact V_iretM Z hE h (show decode cX6_of 67 = .ok (.ireturn, 1) by decide +kernel)
        · skip
          rcases zB_ite h with ⟨c16, h⟩ | ⟨c16, h⟩
          · refine V_tabE (off := 42) 7 68 Z c16 (show decode cX6_of 26 = .ok (.tableswitch 62 5 8 #[30, 36, 42, 56], 30) by decide +kernel) (by decide) ?_
            refine V_aload_n 0 Z rfl rfl (show decode cX6_of 68 = .ok (.aload_n 0, 1) by decide +kernel) ?_
            refine V_iload_n 1 Z rfl rfl (show decode cX6_of 69 = .ok (.iload_n 1, 1) by decide +kernel) ?_
            obtain ⟨v18, e17, h⟩ := zB_bind h
            refine V_callV (rest := []) 1 Z (ok_X6_hangs  e17) cd_X6_hangs zc5 (by decide) rfl w876 w878 w23 rfl (show decode cX6_of 70 = .ok (.invokevirtual 109, 3) by decide +kernel) rfl ?_
            refine V_if_eq 80 Z (by decide) (show decode cX6_of 73 = .ok (.ifCond .eq 7, 3) by decide +kernel) (fun c19 => ?_) (fun c19 => ?_)
            · have h := zB_pos c19 h
              refine V_iconst 0 (by decide) Z (show decode cX6_of 80 = .ok (.iconst 0, 1) by decide +kernel) ?_
              exact V_iretM Z hE h (show decode cX6_of 81 = .ok (.ireturn, 1) by decide +kernel)
            · have h := zB_neg c19 h
              refine V_iconst 1 (by decide) Z (show decode cX6_of 76 = .ok (.iconst 1, 1) by decide +kernel) ?_
              refine V_goto 81 Z (by decide) (show decode cX6_of 77 = .ok (.goto 4, 3) by decide +kernel) ?_
              exact V_iretM Z hE h (show decode cX6_of 81 = .ok (.ireturn, 1) by decide +kernel)
          · skip
            rcases zB_ite h with ⟨c20, h⟩ | ⟨c20, h⟩
            · refine V_tabE (off := 56) 8 82 Z c20 (show decode cX6_of 26 = .ok (.tableswitch 62 5 8 #[30, 36, 42, 56], 30) by decide +kernel) (by decide) ?_
              refine V_aload_n 0 Z rfl rfl (show decode cX6_of 82 = .ok (.aload_n 0, 1) by decide +kernel) ?_
              refine V_iload_n 1 Z rfl rfl (show decode cX6_of 83 = .ok (.iload_n 1, 1) by decide +kernel) ?_
              obtain ⟨v22, e21, h⟩ := zB_bind h
              refine V_callV (rest := []) 1 Z (ok_X6_foesOf  e21) cd_X6_foesOf zc5 (by decide) rfl w880 w882 w24 rfl (show decode cX6_of 84 = .ok (.invokevirtual 112, 3) by decide +kernel) rfl ?_
              exact V_iretM Z hE h (show decode cX6_of 87 = .ok (.ireturn, 1) by decide +kernel)
            · skip
              refine V_tabOut 88 Z (show decode cX6_of 26 = .ok (.tableswitch 62 5 8 #[30, 36, 42, 56], 30) by decide +kernel) (z_out (fun i h1 h2 e => by
                  rcases (show i = 5 ∨ i = 6 ∨ i = 7 ∨ i = 8 by omega) with rfl | rfl | rfl | rfl
                  · exact c10 e
                  · exact c13 e
                  · exact c16 e
                  · exact c20 e)) (by decide) ?_
              refine V_aload_n 0 Z rfl rfl (show decode cX6_of 88 = .ok (.aload_n 0, 1) by decide +kernel) ?_
              refine V_iload_n 1 Z rfl rfl (show decode cX6_of 89 = .ok (.iload_n 1, 1) by decide +kernel) ?_
              refine V_iload_n 2 Z rfl rfl (show decode cX6_of 90 = .ok (.iload_n 2, 1) by decide +kernel) ?_
              obtain ⟨v24, e23, h⟩ := zB_bind h
              refine V_callV (rest := []) 2 Z (ok_X6_nameIs  e23) cd_X6_nameIs zc5 (by decide) rfl w868 w870 w21 rfl (show decode cX6_of 91 = .ok (.invokevirtual 93, 3) by decide +kernel) rfl ?_
              exact V_iretM Z hE h (show decode cX6_of 94 = .ok (.ireturn, 1) by decide +kernel)
    · have h := zB_pos c9 h
      refine V_sub [0] rfl ?_
      exact J18 _ h
def f_X6_mayBe_j41 (y3 : Int32) (M : zM) : Option (Int32) :=
  (f_X6_within y3 0 99 M).bind fun (v2 : Int32) =>
  (zbo v2).bind fun (b3 : Int32) =>
  some (b3)
def f_X6_mayBe (x1 : Int32) (x2 : Int32) (x3 : Int32) (M : zM) : Option (Int32) :=
  if x2 = 0 then
    (f_X6_isKind x3 M).bind fun (v7 : Int32) =>
    (zbo v7).bind fun (b8 : Int32) =>
    some (b8)
  else
    if x2 = 1 then
      f_X6_mayBe_j41 x3 M
    else
      if x2 = 2 then
        f_X6_mayBe_j41 x3 M
      else
        if x2 = 3 then
          (f_X6_within x3 0 99999 M).bind fun (v14 : Int32) =>
          (zbo v14).bind fun (b15 : Int32) =>
          some (b15)
        else
          if x2 = 4 then
            if x3 = (-1) then
              some ((1 : Int32))
            else
              (f_X6_isName x3 M).bind fun (v20 : Int32) =>
              if v20 = 0 then
                some ((0 : Int32))
              else
                if x3 = x1 then
                  some ((0 : Int32))
                else
                  some ((1 : Int32))
          else
            some ((0 : Int32))
theorem cd_X6_mayBe : zCd yX6_mayBe cX6_mayBe 4 (some .boolean) 3 := ⟨w895, w69, ⟨by decide, by decide⟩, by decide +kernel⟩
set_option maxHeartbeats 4000000 in
set_option maxRecDepth 20000 in
theorem ok_X6_mayBe {x1 : Int32} {x2 : Int32} {x3 : Int32} {M : zM} {y : Int32}  (h : f_X6_mayBe x1 x2 x3 M = some y) : zRuns yX6_mayBe cX6_mayBe 4 (some .boolean) 2 43 [.ref 47, .int x1, .int x2, .int x3] M (some (.int y)) M := by
  refine zRuns_of (by decide +kernel) (Nat.le_of_ble_eq_true rfl) (fun E Z hE => ?_)
  have h := zB_top h
  change VV E 4 0 [(0, Value.ref 47), (1, Value.int x1), (2, Value.int x2), (3, Value.int x3)] [] M
  have J41 : ∀ (y3 : Int32), (f_X6_mayBe_j41 y3 M).bind some = some y → VV E 4 41 [(3, Value.int y3)] [] M := by
    intro y3 h
    refine V_iload_n 0 Z rfl rfl (show decode cX6_mayBe 41 = .ok (.iload_n 3, 1) by decide +kernel) ?_
    refine V_iconst 0 (by decide) Z (show decode cX6_mayBe 42 = .ok (.iconst 0, 1) by decide +kernel) ?_
    refine V_bipush 99 (by decide) Z (show decode cX6_mayBe 43 = .ok (.bipush 99, 2) by decide +kernel) ?_
    obtain ⟨v2, e1, h⟩ := zB_bind h
    refine V_callS (rest := []) 3 Z (ok_X6_within  e1) cd_X6_within w840 w841 rfl (show decode cX6_mayBe 45 = .ok (.invokestatic 76, 3) by decide +kernel) rfl ?_
    obtain ⟨b3, e4, h⟩ := zB_bind h
    refine V_nm (zbo_v e4).1 ?_
    exact V_zretP Z hE h (zbo_v e4).2 (show decode cX6_mayBe 48 = .ok (.ireturn, 1) by decide +kernel)
  refine V_iload_n 2 Z rfl rfl (show decode cX6_mayBe 0 = .ok (.iload_n 2, 1) by decide +kernel) ?_
  rcases zB_ite h with ⟨c5, h⟩ | ⟨c5, h⟩
  · refine V_tabE (off := 35) 0 36 Z c5 (show decode cX6_mayBe 1 = .ok (.tableswitch 80 0 4 #[35, 40, 40, 48, 56], 35) by decide +kernel) (by decide) ?_
    refine V_iload_n 3 Z rfl rfl (show decode cX6_mayBe 36 = .ok (.iload_n 3, 1) by decide +kernel) ?_
    obtain ⟨v7, e6, h⟩ := zB_bind h
    refine V_callS (rest := []) 1 Z (ok_X6_isKind  e6) cd_X6_isKind w837 w838 rfl (show decode cX6_mayBe 37 = .ok (.invokestatic 84, 3) by decide +kernel) rfl ?_
    obtain ⟨b8, e9, h⟩ := zB_bind h
    refine V_nm (zbo_v e9).1 ?_
    exact V_zretP Z hE h (zbo_v e9).2 (show decode cX6_mayBe 40 = .ok (.ireturn, 1) by decide +kernel)
  · skip
    rcases zB_ite h with ⟨c10, h⟩ | ⟨c10, h⟩
    · refine V_tabE (off := 40) 1 41 Z c10 (show decode cX6_mayBe 1 = .ok (.tableswitch 80 0 4 #[35, 40, 40, 48, 56], 35) by decide +kernel) (by decide) ?_
      refine V_sub [3] rfl ?_
      exact J41 _ h
    · skip
      rcases zB_ite h with ⟨c11, h⟩ | ⟨c11, h⟩
      · refine V_tabE (off := 40) 2 41 Z c11 (show decode cX6_mayBe 1 = .ok (.tableswitch 80 0 4 #[35, 40, 40, 48, 56], 35) by decide +kernel) (by decide) ?_
        refine V_sub [3] rfl ?_
        exact J41 _ h
      · skip
        rcases zB_ite h with ⟨c12, h⟩ | ⟨c12, h⟩
        · refine V_tabE (off := 48) 3 49 Z c12 (show decode cX6_mayBe 1 = .ok (.tableswitch 80 0 4 #[35, 40, 40, 48, 56], 35) by decide +kernel) (by decide) ?_
          refine V_iload_n 3 Z rfl rfl (show decode cX6_mayBe 49 = .ok (.iload_n 3, 1) by decide +kernel) ?_
          refine V_iconst 0 (by decide) Z (show decode cX6_mayBe 50 = .ok (.iconst 0, 1) by decide +kernel) ?_
          refine V_ldc 99999 Z w896 (show decode cX6_mayBe 51 = .ok (.ldc 115, 2) by decide +kernel) ?_
          obtain ⟨v14, e13, h⟩ := zB_bind h
          refine V_callS (rest := []) 3 Z (ok_X6_within  e13) cd_X6_within w840 w841 rfl (show decode cX6_mayBe 53 = .ok (.invokestatic 76, 3) by decide +kernel) rfl ?_
          obtain ⟨b15, e16, h⟩ := zB_bind h
          refine V_nm (zbo_v e16).1 ?_
          exact V_zretP Z hE h (zbo_v e16).2 (show decode cX6_mayBe 56 = .ok (.ireturn, 1) by decide +kernel)
        · skip
          rcases zB_ite h with ⟨c17, h⟩ | ⟨c17, h⟩
          · refine V_tabE (off := 56) 4 57 Z c17 (show decode cX6_mayBe 1 = .ok (.tableswitch 80 0 4 #[35, 40, 40, 48, 56], 35) by decide +kernel) (by decide) ?_
            refine V_iload_n 3 Z rfl rfl (show decode cX6_mayBe 57 = .ok (.iload_n 3, 1) by decide +kernel) ?_
            refine V_iconst (-1) (by decide) Z (show decode cX6_mayBe 58 = .ok (.iconst (-1), 1) by decide +kernel) ?_
            refine V_icmp_eq 75 Z (by decide) (show decode cX6_mayBe 59 = .ok (.if_icmp .eq 16, 3) by decide +kernel) (fun c18 => ?_) (fun c18 => ?_)
            · have h := zB_pos c18 h
              refine V_iconst 1 (by decide) Z (show decode cX6_mayBe 75 = .ok (.iconst 1, 1) by decide +kernel) ?_
              refine V_goto 80 Z (by decide) (show decode cX6_mayBe 76 = .ok (.goto 4, 3) by decide +kernel) ?_
              exact V_zretP Z hE h rfl (show decode cX6_mayBe 80 = .ok (.ireturn, 1) by decide +kernel)
            · have h := zB_neg c18 h
              refine V_aload_n 0 Z rfl rfl (show decode cX6_mayBe 62 = .ok (.aload_n 0, 1) by decide +kernel) ?_
              refine V_iload_n 3 Z rfl rfl (show decode cX6_mayBe 63 = .ok (.iload_n 3, 1) by decide +kernel) ?_
              obtain ⟨v20, e19, h⟩ := zB_bind h
              refine V_callV (rest := []) 1 Z (ok_X6_isName  e19) cd_X6_isName zc5 (by decide) rfl w860 w862 w19 rfl (show decode cX6_mayBe 64 = .ok (.invokevirtual 100, 3) by decide +kernel) rfl ?_
              refine V_if_eq 79 Z (by decide) (show decode cX6_mayBe 67 = .ok (.ifCond .eq 12, 3) by decide +kernel) (fun c21 => ?_) (fun c21 => ?_)
              · have h := zB_pos c21 h
                refine V_iconst 0 (by decide) Z (show decode cX6_mayBe 79 = .ok (.iconst 0, 1) by decide +kernel) ?_
                exact V_zretP Z hE h rfl (show decode cX6_mayBe 80 = .ok (.ireturn, 1) by decide +kernel)
              · have h := zB_neg c21 h
                refine V_iload_n 3 Z rfl rfl (show decode cX6_mayBe 70 = .ok (.iload_n 3, 1) by decide +kernel) ?_
                refine V_iload_n 1 Z rfl rfl (show decode cX6_mayBe 71 = .ok (.iload_n 1, 1) by decide +kernel) ?_
                refine V_icmp_eq 79 Z (by decide) (show decode cX6_mayBe 72 = .ok (.if_icmp .eq 7, 3) by decide +kernel) (fun c22 => ?_) (fun c22 => ?_)
                · have h := zB_pos c22 h
                  refine V_iconst 0 (by decide) Z (show decode cX6_mayBe 79 = .ok (.iconst 0, 1) by decide +kernel) ?_
                  exact V_zretP Z hE h rfl (show decode cX6_mayBe 80 = .ok (.ireturn, 1) by decide +kernel)
                · have h := zB_neg c22 h
                  refine V_iconst 1 (by decide) Z (show decode cX6_mayBe 75 = .ok (.iconst 1, 1) by decide +kernel) ?_
                  refine V_goto 80 Z (by decide) (show decode cX6_mayBe 76 = .ok (.goto 4, 3) by decide +kernel) ?_
                  exact V_zretP Z hE h rfl (show decode cX6_mayBe 80 = .ok (.ireturn, 1) by decide +kernel)
          · skip
            refine V_tabOut 81 Z (show decode cX6_mayBe 1 = .ok (.tableswitch 80 0 4 #[35, 40, 40, 48, 56], 35) by decide +kernel) (z_out (fun i h1 h2 e => by
                rcases (show i = 0 ∨ i = 1 ∨ i = 2 ∨ i = 3 ∨ i = 4 by omega) with rfl | rfl | rfl | rfl | rfl
                · exact c5 e
                · exact c10 e
                · exact c11 e
                · exact c12 e
                · exact c17 e)) (by decide) ?_
            refine V_iconst 0 (by decide) Z (show decode cX6_mayBe 81 = .ok (.iconst 0, 1) by decide +kernel) ?_
            exact V_zretP Z hE h rfl (show decode cX6_mayBe 82 = .ok (.ireturn, 1) by decide +kernel)
def f_X6_change_j31 (M : zM) : Option (Int32 × zM) :=
  (f_X6_finding (-1000001) M).bind fun ((v2, M3) : Int32 × zM) =>
  some ((v2, M3))
def f_X6_change (x1 : Int32) (x2 : Int32) (x3 : Int32) (M : zM) : Option (Int32 × zM) :=
  (f_X6_isName x1 M).bind fun (v5 : Int32) =>
  if v5 = 0 then
    f_X6_change_j31  M
  else
    (f_X6_mayBe x1 x2 x3 M).bind fun (v8 : Int32) =>
    if v8 = 0 then
      f_X6_change_j31  M
    else
      (f_X6_place x1 x2 M).bind fun (v11 : Int32) =>
      (f_X6_become v11 x3 M).bind fun ((v13, M14) : Int32 × zM) =>
      some ((v13, M14))
theorem cd_X6_change : zCd yX6_change cX6_change 4 (some .int) 3 := ⟨w891, w69, ⟨by decide, by decide⟩, by decide +kernel⟩
set_option maxHeartbeats 4000000 in
set_option maxRecDepth 20000 in
theorem ok_X6_change {x1 : Int32} {x2 : Int32} {x3 : Int32} {M : zM} {y : Int32 × zM}  (h : f_X6_change x1 x2 x3 M = some y) : zRuns yX6_change cX6_change 4 (some .int) 3 66 [.ref 47, .int x1, .int x2, .int x3] M (some (.int y.1)) y.2 := by
  refine zRuns_of (by decide +kernel) (Nat.le_of_ble_eq_true rfl) (fun E Z hE => ?_)
  have h := zB_top h
  change VV E 4 0 [(0, Value.ref 47), (1, Value.int x1), (2, Value.int x2), (3, Value.int x3)] [] M
  have J31 : ∀ (M : zM), (f_X6_change_j31  M).bind some = some y → VV E 4 31 [(0, Value.ref 47)] [] M := by
    intro  M h
    refine V_aload_n 0 Z rfl rfl (show decode cX6_change 31 = .ok (.aload_n 0, 1) by decide +kernel) ?_
    refine V_ldc (-1000001) Z w843 (show decode cX6_change 32 = .ok (.ldc 66, 2) by decide +kernel) ?_
    obtain ⟨⟨v2, M3⟩, e1, h⟩ := zB_bind h
    refine V_callV (rest := []) 1 Z (ok_X6_finding  e1) cd_X6_finding zc5 (by decide) rfl w844 w846 w17 rfl (show decode cX6_change 34 = .ok (.invokevirtual 72, 3) by decide +kernel) rfl ?_
    exact V_iretM Z hE h (show decode cX6_change 37 = .ok (.ireturn, 1) by decide +kernel)
  refine V_aload_n 0 Z rfl rfl (show decode cX6_change 0 = .ok (.aload_n 0, 1) by decide +kernel) ?_
  refine V_iload_n 1 Z rfl rfl (show decode cX6_change 1 = .ok (.iload_n 1, 1) by decide +kernel) ?_
  obtain ⟨v5, e4, h⟩ := zB_bind h
  refine V_callV (rest := []) 1 Z (ok_X6_isName  e4) cd_X6_isName zc5 (by decide) rfl w860 w862 w19 rfl (show decode cX6_change 2 = .ok (.invokevirtual 100, 3) by decide +kernel) rfl ?_
  refine V_if_eq 31 Z (by decide) (show decode cX6_change 5 = .ok (.ifCond .eq 26, 3) by decide +kernel) (fun c6 => ?_) (fun c6 => ?_)
  · have h := zB_pos c6 h
    refine V_sub [0] rfl ?_
    exact J31 _ h
  · have h := zB_neg c6 h
    refine V_aload_n 0 Z rfl rfl (show decode cX6_change 8 = .ok (.aload_n 0, 1) by decide +kernel) ?_
    refine V_iload_n 1 Z rfl rfl (show decode cX6_change 9 = .ok (.iload_n 1, 1) by decide +kernel) ?_
    refine V_iload_n 2 Z rfl rfl (show decode cX6_change 10 = .ok (.iload_n 2, 1) by decide +kernel) ?_
    refine V_iload_n 3 Z rfl rfl (show decode cX6_change 11 = .ok (.iload_n 3, 1) by decide +kernel) ?_
    obtain ⟨v8, e7, h⟩ := zB_bind h
    refine V_callV (rest := []) 3 Z (ok_X6_mayBe  e7) cd_X6_mayBe zc5 (by decide) rfl w892 w894 w26 rfl (show decode cX6_change 12 = .ok (.invokevirtual 116, 3) by decide +kernel) rfl ?_
    refine V_if_eq 31 Z (by decide) (show decode cX6_change 15 = .ok (.ifCond .eq 16, 3) by decide +kernel) (fun c9 => ?_) (fun c9 => ?_)
    · have h := zB_pos c9 h
      refine V_sub [0] rfl ?_
      exact J31 _ h
    · have h := zB_neg c9 h
      refine V_aload_n 0 Z rfl rfl (show decode cX6_change 18 = .ok (.aload_n 0, 1) by decide +kernel) ?_
      refine V_iload_n 1 Z rfl rfl (show decode cX6_change 19 = .ok (.iload_n 1, 1) by decide +kernel) ?_
      refine V_iload_n 2 Z rfl rfl (show decode cX6_change 20 = .ok (.iload_n 2, 1) by decide +kernel) ?_
      obtain ⟨v11, e10, h⟩ := zB_bind h
      refine V_callS (rest := [_]) 2 Z (ok_X6_place  e10) cd_X6_place w853 w854 rfl (show decode cX6_change 21 = .ok (.invokestatic 80, 3) by decide +kernel) rfl ?_
      refine V_iload_n 3 Z rfl rfl (show decode cX6_change 24 = .ok (.iload_n 3, 1) by decide +kernel) ?_
      obtain ⟨⟨v13, M14⟩, e12, h⟩ := zB_bind h
      refine V_callV (rest := []) 2 Z (ok_X6_become  e12) cd_X6_become zc5 (by decide) rfl w897 w899 w27 rfl (show decode cX6_change 25 = .ok (.invokevirtual 119, 3) by decide +kernel) rfl ?_
      refine V_goto 37 Z (by decide) (show decode cX6_change 28 = .ok (.goto 9, 3) by decide +kernel) ?_
      exact V_iretM Z hE h (show decode cX6_change 37 = .ok (.ireturn, 1) by decide +kernel)
def f_X6_isPurse (x0 : Int32) (M : zM) : Option (Int32) :=
  (f_X6_within x0 0 9999 M).bind fun (v2 : Int32) =>
  (zbo v2).bind fun (b3 : Int32) =>
  some (b3)
theorem cd_X6_isPurse : zCd yX6_isPurse cX6_isPurse 1 (some .boolean) 1 := ⟨w907, w69, ⟨by decide, by decide⟩, by decide +kernel⟩
set_option maxHeartbeats 4000000 in
set_option maxRecDepth 20000 in
theorem ok_X6_isPurse {x0 : Int32} {M : zM} {y : Int32}  (h : f_X6_isPurse x0 M = some y) : zRuns yX6_isPurse cX6_isPurse 1 (some .boolean) 1 22 [.int x0] M (some (.int y)) M := by
  refine zRuns_of (by decide +kernel) (Nat.le_of_ble_eq_true rfl) (fun E Z hE => ?_)
  have h := zB_top h
  change VV E 1 0 [(0, Value.int x0)] [] M
  refine V_iload_n 0 Z rfl rfl (show decode cX6_isPurse 0 = .ok (.iload_n 0, 1) by decide +kernel) ?_
  refine V_iconst 0 (by decide) Z (show decode cX6_isPurse 1 = .ok (.iconst 0, 1) by decide +kernel) ?_
  refine V_sipush 9999 (by decide) Z (show decode cX6_isPurse 2 = .ok (.sipush 9999, 3) by decide +kernel) ?_
  obtain ⟨v2, e1, h⟩ := zB_bind h
  refine V_callS (rest := []) 3 Z (ok_X6_within  e1) cd_X6_within w840 w841 rfl (show decode cX6_isPurse 5 = .ok (.invokestatic 76, 3) by decide +kernel) rfl ?_
  obtain ⟨b3, e4, h⟩ := zB_bind h
  refine V_nm (zbo_v e4).1 ?_
  exact V_zretP Z hE h (zbo_v e4).2 (show decode cX6_isPurse 8 = .ok (.ireturn, 1) by decide +kernel)
