/-! Generated walks: X6_sheet X6_write X6_copy X6_load -/
def f_X6_sheet_j112 (y1 : Int32) (M : zM) : Option (Int32 × zM) :=
  (zrd M 58 y1).bind fun (v1 : Int32) =>
  some ((v1, M))
def f_X6_sheet_l86 (y1 : Int32) : Int32 × zM → Option ((Int32 × zM) ⊕ (Int32 × zM))
  | (y4, M) =>
    if 40 ≤ y4 then
      (f_X6_sheet_j112 y1 M).bind fun z => some (Sum.inr z)
    else
      (zwr M 59 ((40 * y1) + y4) 0).bind fun (M6 : zM) =>
      (some (y4 + 1)).bind fun (x8 : Int32) =>
      some (.inl ((x8, M6)))
def f_X6_sheet_j82 (y1 : Int32) (s0 : Int32) (s1 : Int32) (M : zM) : Option (Int32 × zM) :=
  (zwr M 58 s1 s0).bind fun (M3 : zM) =>
  zIter (f_X6_sheet_l86 y1) 1000 (0, M3)
def f_X6_sheet_j36 (y1 : Int32) (y2 : Int32) (y3 : Int32) (M : zM) : Option (Int32 × zM) :=
  if 0 ≤ y3 then
    if y3 ≤ 40 then
      (zwr M 57 y1 y2).bind fun (M12 : zM) =>
      if y2 = 0 then
        f_X6_sheet_j82 y1 0 y1 M12
      else
        f_X6_sheet_j82 y1 y3 y1 M12
    else
      (f_X6_finding (-1000001) M).bind fun ((v16, M17) : Int32 × zM) =>
      some ((v16, M17))
  else
    (f_X6_finding (-1000007) M).bind fun ((v19, M20) : Int32 × zM) =>
    some ((v19, M20))
def f_X6_sheet_j29 (M : zM) : Option (Int32 × zM) :=
  (f_X6_finding (-1000001) M).bind fun ((v22, M23) : Int32 × zM) =>
  some ((v22, M23))
def f_X6_sheet (x1 : Int32) (x2 : Int32) (x3 : Int32) (M : zM) : Option (Int32 × zM) :=
  (f_X6_isSheet x1 M).bind fun (v25 : Int32) =>
  if v25 = 0 then
    f_X6_sheet_j29  M
  else
    if x2 = 0 then
      f_X6_sheet_j36 x1 x2 x3 M
    else
      if x2 = 8 then
        f_X6_sheet_j36 x1 x2 x3 M
      else
        if x2 = 16 then
          f_X6_sheet_j36 x1 x2 x3 M
        else
          if x2 = 32 then
            f_X6_sheet_j36 x1 x2 x3 M
          else
            f_X6_sheet_j29  M
theorem cd_X6_sheet : zCd yX6_sheet cX6_sheet 5 (some .int) 3 := ⟨w1233, w69, ⟨by decide, by decide⟩, by decide +kernel⟩
set_option maxHeartbeats 4000000 in
set_option maxRecDepth 20000 in
theorem ok_X6_sheet {x1 : Int32} {x2 : Int32} {x3 : Int32} {M : zM} {y : Int32 × zM}  (h : f_X6_sheet x1 x2 x3 M = some y) : zRuns yX6_sheet cX6_sheet 5 (some .int) 2 42 [.ref 47, .int x1, .int x2, .int x3] M (some (.int y.1)) y.2 := by
  refine zRuns_of (by decide +kernel) (Nat.le_of_ble_eq_true rfl) (fun E Z hE => ?_)
  have h := zB_top h
  change VV E 5 0 [(0, Value.ref 47), (1, Value.int x1), (2, Value.int x2), (3, Value.int x3)] [] M
  have J112 : ∀ (y1 : Int32) (M : zM), (f_X6_sheet_j112 y1 M).bind some = some y → VV E 5 112 [(0, Value.ref 47), (1, Value.int y1)] [] M := by
    intro y1 M h
    refine V_aload_n 0 Z rfl rfl (show decode cX6_sheet 112 = .ok (.aload_n 0, 1) by decide +kernel) ?_
    refine V_getR 19 58 Z zc5 (by decide) rfl (by decide) rfl (by decide) ⟨rfl, rfl, rfl⟩ w785 (show decode cX6_sheet 113 = .ok (.getfield 57, 3) by decide +kernel) ?_
    refine V_iload_n 1 Z rfl rfl (show decode cX6_sheet 116 = .ok (.iload_n 1, 1) by decide +kernel) ?_
    obtain ⟨v1, e2, h⟩ := zB_bind h
    refine V_iald Z e2 (show decode cX6_sheet 117 = .ok (.iaload, 1) by decide +kernel) ?_
    exact V_iretM Z hE h (show decode cX6_sheet 118 = .ok (.ireturn, 1) by decide +kernel)
  have J82 : ∀ (y1 : Int32) (s0 : Int32) (s1 : Int32) (M : zM), (f_X6_sheet_j82 y1 s0 s1 M).bind some = some y → VV E 5 82 [(0, Value.ref 47), (1, Value.int y1)] [Value.int s0, Value.int s1, Value.ref 58] M := by
    intro y1 s0 s1 M h
    obtain ⟨M3, e4, h⟩ := zB_bind h
    refine V_iast Z e4 (show decode cX6_sheet 82 = .ok (.iastore, 1) by decide +kernel) ?_
    refine V_iconst 0 (by decide) Z (show decode cX6_sheet 83 = .ok (.iconst 0, 1) by decide +kernel) ?_
    refine V_istore [(4, Value.int 0), (0, Value.ref 47), (1, Value.int y1)] Z (by decide) rfl (show decode cX6_sheet 84 = .ok (.istore 4, 2) by decide +kernel) ?_
    refine V_sub [1, 2, 0] rfl ?_
    refine zIter_loop' (K := some) (fun s : Int32 × zM => VV E 5 86 [(0, Value.ref 47), (1, Value.int y1), (4, Value.int s.1)] [] s.2) (fun K1 s c1_i c1_r h => ?_) _ _ h
    obtain ⟨y4, M⟩ := s
    change VV E 5 86 [(0, Value.ref 47), (1, Value.int y1), (4, Value.int y4)] [] M
    refine V_iload 2 Z rfl (show decode cX6_sheet 86 = .ok (.iload 4, 2) by decide +kernel) ?_
    refine V_bipush 40 (by decide) Z (show decode cX6_sheet 88 = .ok (.bipush 40, 2) by decide +kernel) ?_
    refine V_icmp_ge 112 Z (by decide) (show decode cX6_sheet 90 = .ok (.if_icmp .ge 22, 3) by decide +kernel) (fun c5 => ?_) (fun c5 => ?_)
    · have h := zB_pos c5 h
      refine V_sub [0, 1] rfl ?_
      have h := zB_lift c1_r h
      exact J112 _ _ h
    · have h := zB_neg c5 h
      refine V_aload_n 0 Z rfl rfl (show decode cX6_sheet 93 = .ok (.aload_n 0, 1) by decide +kernel) ?_
      refine V_getR 20 59 Z zc5 (by decide) rfl (by decide) rfl (by decide) ⟨rfl, rfl, rfl⟩ w786 (show decode cX6_sheet 94 = .ok (.getfield 60, 3) by decide +kernel) ?_
      refine V_bipush 40 (by decide) Z (show decode cX6_sheet 97 = .ok (.bipush 40, 2) by decide +kernel) ?_
      refine V_iload_n 1 Z rfl rfl (show decode cX6_sheet 99 = .ok (.iload_n 1, 1) by decide +kernel) ?_
      refine V_imul Z (show decode cX6_sheet 100 = .ok (.imul, 1) by decide +kernel) ?_
      refine V_iload 2 Z rfl (show decode cX6_sheet 101 = .ok (.iload 4, 2) by decide +kernel) ?_
      refine V_iadd Z (show decode cX6_sheet 103 = .ok (.iadd, 1) by decide +kernel) ?_
      refine V_iconst 0 (by decide) Z (show decode cX6_sheet 104 = .ok (.iconst 0, 1) by decide +kernel) ?_
      obtain ⟨M6, e7, h⟩ := zB_bind h
      refine V_iast Z e7 (show decode cX6_sheet 105 = .ok (.iastore, 1) by decide +kernel) ?_
      obtain ⟨x8, e9, h⟩ := zB_let h
      refine V_iinc (n := 1) 2 x8 [(4, Value.int x8), (0, Value.ref 47), (1, Value.int y1)] Z (by decide) rfl e9 rfl (show decode cX6_sheet 106 = .ok (.iinc 4 1, 3) by decide +kernel) ?_
      refine V_goto 86 Z (by decide) (show decode cX6_sheet 109 = .ok (.goto (-23), 3) by decide +kernel) ?_
      refine V_sub [1, 2, 0] rfl ?_
      exact c1_i _ h
  have J36 : ∀ (y1 : Int32) (y2 : Int32) (y3 : Int32) (M : zM), (f_X6_sheet_j36 y1 y2 y3 M).bind some = some y → VV E 5 36 [(0, Value.ref 47), (1, Value.int y1), (2, Value.int y2), (3, Value.int y3)] [] M := by
    intro y1 y2 y3 M h
    refine V_iload_n 3 Z rfl rfl (show decode cX6_sheet 36 = .ok (.iload_n 3, 1) by decide +kernel) ?_
    refine V_if_ge 48 Z (by decide) (show decode cX6_sheet 37 = .ok (.ifCond .ge 11, 3) by decide +kernel) (fun c10 => ?_) (fun c10 => ?_)
    · have h := zB_pos c10 h
      refine V_iload_n 3 Z rfl rfl (show decode cX6_sheet 48 = .ok (.iload_n 3, 1) by decide +kernel) ?_
      refine V_bipush 40 (by decide) Z (show decode cX6_sheet 49 = .ok (.bipush 40, 2) by decide +kernel) ?_
      refine V_icmp_le 61 Z (by decide) (show decode cX6_sheet 51 = .ok (.if_icmp .le 10, 3) by decide +kernel) (fun c11 => ?_) (fun c11 => ?_)
      · have h := zB_pos c11 h
        refine V_aload_n 0 Z rfl rfl (show decode cX6_sheet 61 = .ok (.aload_n 0, 1) by decide +kernel) ?_
        refine V_getR 18 57 Z zc5 (by decide) rfl (by decide) rfl (by decide) ⟨rfl, rfl, rfl⟩ w784 (show decode cX6_sheet 62 = .ok (.getfield 54, 3) by decide +kernel) ?_
        refine V_iload_n 1 Z rfl rfl (show decode cX6_sheet 65 = .ok (.iload_n 1, 1) by decide +kernel) ?_
        refine V_iload_n 2 Z rfl rfl (show decode cX6_sheet 66 = .ok (.iload_n 2, 1) by decide +kernel) ?_
        obtain ⟨M12, e13, h⟩ := zB_bind h
        refine V_iast Z e13 (show decode cX6_sheet 67 = .ok (.iastore, 1) by decide +kernel) ?_
        refine V_aload_n 0 Z rfl rfl (show decode cX6_sheet 68 = .ok (.aload_n 0, 1) by decide +kernel) ?_
        refine V_getR 19 58 Z zc5 (by decide) rfl (by decide) rfl (by decide) ⟨rfl, rfl, rfl⟩ w785 (show decode cX6_sheet 69 = .ok (.getfield 57, 3) by decide +kernel) ?_
        refine V_iload_n 1 Z rfl rfl (show decode cX6_sheet 72 = .ok (.iload_n 1, 1) by decide +kernel) ?_
        refine V_iload_n 2 Z rfl rfl (show decode cX6_sheet 73 = .ok (.iload_n 2, 1) by decide +kernel) ?_
        refine V_if_ne 81 Z (by decide) (show decode cX6_sheet 74 = .ok (.ifCond .ne 7, 3) by decide +kernel) (fun c14 => ?_) (fun c14 => ?_)
        · have h := zB_neg c14 h
          refine V_iload_n 3 Z rfl rfl (show decode cX6_sheet 81 = .ok (.iload_n 3, 1) by decide +kernel) ?_
          refine V_sub [0, 1] rfl ?_
          exact J82 _ _ _ _ h
        · have h := zB_pos c14 h
          refine V_iconst 0 (by decide) Z (show decode cX6_sheet 77 = .ok (.iconst 0, 1) by decide +kernel) ?_
          refine V_goto 82 Z (by decide) (show decode cX6_sheet 78 = .ok (.goto 4, 3) by decide +kernel) ?_
          refine V_sub [0, 1] rfl ?_
          exact J82 _ _ _ _ h
      · have h := zB_neg c11 h
        refine V_aload_n 0 Z rfl rfl (show decode cX6_sheet 54 = .ok (.aload_n 0, 1) by decide +kernel) ?_
        refine V_ldc (-1000001) Z w843 (show decode cX6_sheet 55 = .ok (.ldc 66, 2) by decide +kernel) ?_
        obtain ⟨⟨v16, M17⟩, e15, h⟩ := zB_bind h
        refine V_callV (rest := []) 1 Z (ok_X6_finding  e15) cd_X6_finding zc5 (by decide) rfl w844 w846 w17 rfl (show decode cX6_sheet 57 = .ok (.invokevirtual 72, 3) by decide +kernel) rfl ?_
        exact V_iretM Z hE h (show decode cX6_sheet 60 = .ok (.ireturn, 1) by decide +kernel)
    · have h := zB_neg c10 h
      refine V_aload_n 0 Z rfl rfl (show decode cX6_sheet 40 = .ok (.aload_n 0, 1) by decide +kernel) ?_
      refine V_ldcw (-1000007) Z w1234 (show decode cX6_sheet 41 = .ok (.ldc_w 322, 3) by decide +kernel) ?_
      obtain ⟨⟨v19, M20⟩, e18, h⟩ := zB_bind h
      refine V_callV (rest := []) 1 Z (ok_X6_finding  e18) cd_X6_finding zc5 (by decide) rfl w844 w846 w17 rfl (show decode cX6_sheet 44 = .ok (.invokevirtual 72, 3) by decide +kernel) rfl ?_
      exact V_iretM Z hE h (show decode cX6_sheet 47 = .ok (.ireturn, 1) by decide +kernel)
  have J29 : ∀ (M : zM), (f_X6_sheet_j29  M).bind some = some y → VV E 5 29 [(0, Value.ref 47)] [] M := by
    intro  M h
    refine V_aload_n 0 Z rfl rfl (show decode cX6_sheet 29 = .ok (.aload_n 0, 1) by decide +kernel) ?_
    refine V_ldc (-1000001) Z w843 (show decode cX6_sheet 30 = .ok (.ldc 66, 2) by decide +kernel) ?_
    obtain ⟨⟨v22, M23⟩, e21, h⟩ := zB_bind h
    refine V_callV (rest := []) 1 Z (ok_X6_finding  e21) cd_X6_finding zc5 (by decide) rfl w844 w846 w17 rfl (show decode cX6_sheet 32 = .ok (.invokevirtual 72, 3) by decide +kernel) rfl ?_
    exact V_iretM Z hE h (show decode cX6_sheet 35 = .ok (.ireturn, 1) by decide +kernel)
  refine V_iload_n 1 Z rfl rfl (show decode cX6_sheet 0 = .ok (.iload_n 1, 1) by decide +kernel) ?_
  obtain ⟨v25, e24, h⟩ := zB_bind h
  refine V_callS (rest := []) 1 Z (ok_X6_isSheet  e24) cd_X6_isSheet w1119 w1120 rfl (show decode cX6_sheet 1 = .ok (.invokestatic 219, 3) by decide +kernel) rfl ?_
  refine V_if_eq 29 Z (by decide) (show decode cX6_sheet 4 = .ok (.ifCond .eq 25, 3) by decide +kernel) (fun c26 => ?_) (fun c26 => ?_)
  · have h := zB_pos c26 h
    refine V_sub [0] rfl ?_
    exact J29 _ h
  · have h := zB_neg c26 h
    refine V_iload_n 2 Z rfl rfl (show decode cX6_sheet 7 = .ok (.iload_n 2, 1) by decide +kernel) ?_
    refine V_if_eq 36 Z (by decide) (show decode cX6_sheet 8 = .ok (.ifCond .eq 28, 3) by decide +kernel) (fun c27 => ?_) (fun c27 => ?_)
    · have h := zB_pos c27 h
      exact J36 _ _ _ _ h
    · have h := zB_neg c27 h
      refine V_iload_n 2 Z rfl rfl (show decode cX6_sheet 11 = .ok (.iload_n 2, 1) by decide +kernel) ?_
      refine V_bipush 8 (by decide) Z (show decode cX6_sheet 12 = .ok (.bipush 8, 2) by decide +kernel) ?_
      refine V_icmp_eq 36 Z (by decide) (show decode cX6_sheet 14 = .ok (.if_icmp .eq 22, 3) by decide +kernel) (fun c28 => ?_) (fun c28 => ?_)
      · have h := zB_pos c28 h
        exact J36 _ _ _ _ h
      · have h := zB_neg c28 h
        refine V_iload_n 2 Z rfl rfl (show decode cX6_sheet 17 = .ok (.iload_n 2, 1) by decide +kernel) ?_
        refine V_bipush 16 (by decide) Z (show decode cX6_sheet 18 = .ok (.bipush 16, 2) by decide +kernel) ?_
        refine V_icmp_eq 36 Z (by decide) (show decode cX6_sheet 20 = .ok (.if_icmp .eq 16, 3) by decide +kernel) (fun c29 => ?_) (fun c29 => ?_)
        · have h := zB_pos c29 h
          exact J36 _ _ _ _ h
        · have h := zB_neg c29 h
          refine V_iload_n 2 Z rfl rfl (show decode cX6_sheet 23 = .ok (.iload_n 2, 1) by decide +kernel) ?_
          refine V_bipush 32 (by decide) Z (show decode cX6_sheet 24 = .ok (.bipush 32, 2) by decide +kernel) ?_
          refine V_icmp_eq 36 Z (by decide) (show decode cX6_sheet 26 = .ok (.if_icmp .eq 10, 3) by decide +kernel) (fun c30 => ?_) (fun c30 => ?_)
          · have h := zB_pos c30 h
            exact J36 _ _ _ _ h
          · have h := zB_neg c30 h
            refine V_sub [0] rfl ?_
            exact J29 _ h
def f_X6_write (x1 : Int32) (x2 : Int32) (x3 : Int32) (M : zM) : Option (Int32 × zM) :=
  (f_X6_isSheet x1 M).bind fun (v2 : Int32) =>
  if v2 = 0 then
    (f_X6_finding (-1000001) M).bind fun ((v25, M26) : Int32 × zM) =>
    some ((v25, M26))
  else
    (zrd M 57 x1).bind fun (v4 : Int32) =>
    if v4 = 0 then
      (f_X6_finding (-1000006) M).bind fun ((v22, M23) : Int32 × zM) =>
      some ((v22, M23))
    else
      (zrd M 58 x1).bind fun (v7 : Int32) =>
      (f_X6_within x2 0 (v7 - 1) M).bind fun (v10 : Int32) =>
      if v10 = 0 then
        (f_X6_finding (-1000001) M).bind fun ((v19, M20) : Int32 × zM) =>
        some ((v19, M20))
      else
        (zrd M 57 x1).bind fun (v12 : Int32) =>
        (f_X6_cutTo x3 v12 M).bind fun (v15 : Int32) =>
        (zwr M 59 ((40 * x1) + x2) v15).bind fun (M16 : zM) =>
        some ((1, M16))
theorem cd_X6_write : zCd yX6_write cX6_write 4 (some .int) 3 := ⟨w1238, w69, ⟨by decide, by decide⟩, by decide +kernel⟩
set_option maxHeartbeats 4000000 in
set_option maxRecDepth 20000 in
theorem ok_X6_write {x1 : Int32} {x2 : Int32} {x3 : Int32} {M : zM} {y : Int32 × zM}  (h : f_X6_write x1 x2 x3 M = some y) : zRuns yX6_write cX6_write 4 (some .int) 2 42 [.ref 47, .int x1, .int x2, .int x3] M (some (.int y.1)) y.2 := by
  refine zRuns_of (by decide +kernel) (Nat.le_of_ble_eq_true rfl) (fun E Z hE => ?_)
  have h := zB_top h
  change VV E 4 0 [(0, Value.ref 47), (1, Value.int x1), (2, Value.int x2), (3, Value.int x3)] [] M
  refine V_iload_n 1 Z rfl rfl (show decode cX6_write 0 = .ok (.iload_n 1, 1) by decide +kernel) ?_
  obtain ⟨v2, e1, h⟩ := zB_bind h
  refine V_callS (rest := []) 1 Z (ok_X6_isSheet  e1) cd_X6_isSheet w1119 w1120 rfl (show decode cX6_write 1 = .ok (.invokestatic 219, 3) by decide +kernel) rfl ?_
  refine V_if_ne 14 Z (by decide) (show decode cX6_write 4 = .ok (.ifCond .ne 10, 3) by decide +kernel) (fun c3 => ?_) (fun c3 => ?_)
  · have h := zB_neg c3 h
    refine V_aload_n 0 Z rfl rfl (show decode cX6_write 14 = .ok (.aload_n 0, 1) by decide +kernel) ?_
    refine V_getR 18 57 Z zc5 (by decide) rfl (by decide) rfl (by decide) ⟨rfl, rfl, rfl⟩ w784 (show decode cX6_write 15 = .ok (.getfield 54, 3) by decide +kernel) ?_
    refine V_iload_n 1 Z rfl rfl (show decode cX6_write 18 = .ok (.iload_n 1, 1) by decide +kernel) ?_
    obtain ⟨v4, e5, h⟩ := zB_bind h
    refine V_iald Z e5 (show decode cX6_write 19 = .ok (.iaload, 1) by decide +kernel) ?_
    refine V_if_ne 30 Z (by decide) (show decode cX6_write 20 = .ok (.ifCond .ne 10, 3) by decide +kernel) (fun c6 => ?_) (fun c6 => ?_)
    · have h := zB_neg c6 h
      refine V_iload_n 2 Z rfl rfl (show decode cX6_write 30 = .ok (.iload_n 2, 1) by decide +kernel) ?_
      refine V_iconst 0 (by decide) Z (show decode cX6_write 31 = .ok (.iconst 0, 1) by decide +kernel) ?_
      refine V_aload_n 0 Z rfl rfl (show decode cX6_write 32 = .ok (.aload_n 0, 1) by decide +kernel) ?_
      refine V_getR 19 58 Z zc5 (by decide) rfl (by decide) rfl (by decide) ⟨rfl, rfl, rfl⟩ w785 (show decode cX6_write 33 = .ok (.getfield 57, 3) by decide +kernel) ?_
      refine V_iload_n 1 Z rfl rfl (show decode cX6_write 36 = .ok (.iload_n 1, 1) by decide +kernel) ?_
      obtain ⟨v7, e8, h⟩ := zB_bind h
      refine V_iald Z e8 (show decode cX6_write 37 = .ok (.iaload, 1) by decide +kernel) ?_
      refine V_iconst 1 (by decide) Z (show decode cX6_write 38 = .ok (.iconst 1, 1) by decide +kernel) ?_
      refine V_isub Z (show decode cX6_write 39 = .ok (.isub, 1) by decide +kernel) ?_
      obtain ⟨v10, e9, h⟩ := zB_bind h
      refine V_callS (rest := []) 3 Z (ok_X6_within  e9) cd_X6_within w840 w841 rfl (show decode cX6_write 40 = .ok (.invokestatic 76, 3) by decide +kernel) rfl ?_
      refine V_if_ne 53 Z (by decide) (show decode cX6_write 43 = .ok (.ifCond .ne 10, 3) by decide +kernel) (fun c11 => ?_) (fun c11 => ?_)
      · have h := zB_neg c11 h
        refine V_aload_n 0 Z rfl rfl (show decode cX6_write 53 = .ok (.aload_n 0, 1) by decide +kernel) ?_
        refine V_getR 20 59 Z zc5 (by decide) rfl (by decide) rfl (by decide) ⟨rfl, rfl, rfl⟩ w786 (show decode cX6_write 54 = .ok (.getfield 60, 3) by decide +kernel) ?_
        refine V_bipush 40 (by decide) Z (show decode cX6_write 57 = .ok (.bipush 40, 2) by decide +kernel) ?_
        refine V_iload_n 1 Z rfl rfl (show decode cX6_write 59 = .ok (.iload_n 1, 1) by decide +kernel) ?_
        refine V_imul Z (show decode cX6_write 60 = .ok (.imul, 1) by decide +kernel) ?_
        refine V_iload_n 2 Z rfl rfl (show decode cX6_write 61 = .ok (.iload_n 2, 1) by decide +kernel) ?_
        refine V_iadd Z (show decode cX6_write 62 = .ok (.iadd, 1) by decide +kernel) ?_
        refine V_iload_n 3 Z rfl rfl (show decode cX6_write 63 = .ok (.iload_n 3, 1) by decide +kernel) ?_
        refine V_aload_n 0 Z rfl rfl (show decode cX6_write 64 = .ok (.aload_n 0, 1) by decide +kernel) ?_
        refine V_getR 18 57 Z zc5 (by decide) rfl (by decide) rfl (by decide) ⟨rfl, rfl, rfl⟩ w784 (show decode cX6_write 65 = .ok (.getfield 54, 3) by decide +kernel) ?_
        refine V_iload_n 1 Z rfl rfl (show decode cX6_write 68 = .ok (.iload_n 1, 1) by decide +kernel) ?_
        obtain ⟨v12, e13, h⟩ := zB_bind h
        refine V_iald Z e13 (show decode cX6_write 69 = .ok (.iaload, 1) by decide +kernel) ?_
        obtain ⟨v15, e14, h⟩ := zB_bind h
        refine V_callS (rest := [_, _]) 2 Z (ok_X6_cutTo  e14) cd_X6_cutTo w1239 w1240 rfl (show decode cX6_write 70 = .ok (.invokestatic 323, 3) by decide +kernel) rfl ?_
        obtain ⟨M16, e17, h⟩ := zB_bind h
        refine V_iast Z e17 (show decode cX6_write 73 = .ok (.iastore, 1) by decide +kernel) ?_
        refine V_iconst 1 (by decide) Z (show decode cX6_write 74 = .ok (.iconst 1, 1) by decide +kernel) ?_
        exact V_iretM Z hE h (show decode cX6_write 75 = .ok (.ireturn, 1) by decide +kernel)
      · have h := zB_pos c11 h
        refine V_aload_n 0 Z rfl rfl (show decode cX6_write 46 = .ok (.aload_n 0, 1) by decide +kernel) ?_
        refine V_ldc (-1000001) Z w843 (show decode cX6_write 47 = .ok (.ldc 66, 2) by decide +kernel) ?_
        obtain ⟨⟨v19, M20⟩, e18, h⟩ := zB_bind h
        refine V_callV (rest := []) 1 Z (ok_X6_finding  e18) cd_X6_finding zc5 (by decide) rfl w844 w846 w17 rfl (show decode cX6_write 49 = .ok (.invokevirtual 72, 3) by decide +kernel) rfl ?_
        exact V_iretM Z hE h (show decode cX6_write 52 = .ok (.ireturn, 1) by decide +kernel)
    · have h := zB_pos c6 h
      refine V_aload_n 0 Z rfl rfl (show decode cX6_write 23 = .ok (.aload_n 0, 1) by decide +kernel) ?_
      refine V_ldc (-1000006) Z w1122 (show decode cX6_write 24 = .ok (.ldc 222, 2) by decide +kernel) ?_
      obtain ⟨⟨v22, M23⟩, e21, h⟩ := zB_bind h
      refine V_callV (rest := []) 1 Z (ok_X6_finding  e21) cd_X6_finding zc5 (by decide) rfl w844 w846 w17 rfl (show decode cX6_write 26 = .ok (.invokevirtual 72, 3) by decide +kernel) rfl ?_
      exact V_iretM Z hE h (show decode cX6_write 29 = .ok (.ireturn, 1) by decide +kernel)
  · have h := zB_pos c3 h
    refine V_aload_n 0 Z rfl rfl (show decode cX6_write 7 = .ok (.aload_n 0, 1) by decide +kernel) ?_
    refine V_ldc (-1000001) Z w843 (show decode cX6_write 8 = .ok (.ldc 66, 2) by decide +kernel) ?_
    obtain ⟨⟨v25, M26⟩, e24, h⟩ := zB_bind h
    refine V_callV (rest := []) 1 Z (ok_X6_finding  e24) cd_X6_finding zc5 (by decide) rfl w844 w846 w17 rfl (show decode cX6_write 10 = .ok (.invokevirtual 72, 3) by decide +kernel) rfl ?_
    exact V_iretM Z hE h (show decode cX6_write 13 = .ok (.ireturn, 1) by decide +kernel)
def f_X6_copy_j118 (M : zM) : Option (Int32 × zM) :=
  (f_X6_finding (-1000001) M).bind fun ((v2, M3) : Int32 × zM) =>
  some ((v2, M3))
def f_X6_copy_j39 (M : zM) : Option (Int32 × zM) :=
  (f_X6_finding (-1000006) M).bind fun ((v5, M6) : Int32 × zM) =>
  some ((v5, M6))
def f_X6_copy_j14 (M : zM) : Option (Int32 × zM) :=
  (f_X6_finding (-1000001) M).bind fun ((v8, M9) : Int32 × zM) =>
  some ((v8, M9))
def f_X6_copy_l165 (y3 : Int32) (y4 : Int32) (y5 : Int32) : Int32 × zM → Option ((Int32 × zM) ⊕ ((Int32 × zM) ⊕ (Int32 × zM)))
  | (y6, M) =>
    if y5 ≤ y6 then
      some (.inr (.inr ((y5, M))))
    else
      (zrd M 60 y6).bind fun (v38 : Int32) =>
      (zwr M 59 (((40 * y3) + y4) + y6) v38).bind fun (M40 : zM) =>
      (some (y6 + 1)).bind fun (x42 : Int32) =>
      some (.inl ((x42, M40)))
def f_X6_copy_l128 (y1 : Int32) (y2 : Int32) (y3 : Int32) (y4 : Int32) (y5 : Int32) : Int32 × zM → Option ((Int32 × zM) ⊕ (Int32 × zM))
  | (y6, M) =>
    if y5 ≤ y6 then
      zIter (f_X6_copy_l165 y3 y4 y5) 1000 (0, M)
    else
      (zrd M 59 (((40 * y1) + y2) + y6)).bind fun (v44 : Int32) =>
      (zwr M 60 y6 v44).bind fun (M46 : zM) =>
      (some (y6 + 1)).bind fun (x48 : Int32) =>
      some (.inl ((x48, M46)))
def f_X6_copy (x1 : Int32) (x2 : Int32) (x3 : Int32) (x4 : Int32) (x5 : Int32) (M : zM) : Option (Int32 × zM) :=
  (f_X6_isSheet x1 M).bind fun (v11 : Int32) =>
  if v11 = 0 then
    f_X6_copy_j14  M
  else
    (f_X6_isSheet x3 M).bind fun (v14 : Int32) =>
    if v14 = 0 then
      f_X6_copy_j14  M
    else
      (zrd M 57 x1).bind fun (v16 : Int32) =>
      if v16 = 0 then
        f_X6_copy_j39  M
      else
        (zrd M 57 x3).bind fun (v19 : Int32) =>
        if v19 = 0 then
          f_X6_copy_j39  M
        else
          (zrd M 57 x1).bind fun (v22 : Int32) =>
          (zrd M 57 x3).bind fun (v24 : Int32) =>
          if v22 = v24 then
            if x2 < 0 then
              f_X6_copy_j118  M
            else
              if x4 < 0 then
                f_X6_copy_j118  M
              else
                if x5 < 0 then
                  f_X6_copy_j118  M
                else
                  (zrd M 58 x1).bind fun (v30 : Int32) =>
                  if 0 < (lg_cmp (((x2 : Int32).toInt64) + ((x5 : Int32).toInt64)) ((v30 : Int32).toInt64)) then
                    f_X6_copy_j118  M
                  else
                    (zrd M 58 x3).bind fun (v33 : Int32) =>
                    if (lg_cmp (((x4 : Int32).toInt64) + ((x5 : Int32).toInt64)) ((v33 : Int32).toInt64)) ≤ 0 then
                      zIter (f_X6_copy_l128 x1 x2 x3 x4 x5) 1000 (0, M)
                    else
                      f_X6_copy_j118  M
          else
            (f_X6_finding (-1000003) M).bind fun ((v51, M52) : Int32 × zM) =>
            some ((v51, M52))
theorem cd_X6_copy : zCd yX6_copy cX6_copy 7 (some .int) 5 := ⟨w1245, w69, ⟨by decide, by decide⟩, by decide +kernel⟩
set_option maxHeartbeats 4000000 in
set_option maxRecDepth 20000 in
theorem ok_X6_copy {x1 : Int32} {x2 : Int32} {x3 : Int32} {x4 : Int32} {x5 : Int32} {M : zM} {y : Int32 × zM}  (h : f_X6_copy x1 x2 x3 x4 x5 M = some y) : zRuns yX6_copy cX6_copy 7 (some .int) 2 42 [.ref 47, .int x1, .int x2, .int x3, .int x4, .int x5] M (some (.int y.1)) y.2 := by
  refine zRuns_of (by decide +kernel) (Nat.le_of_ble_eq_true rfl) (fun E Z hE => ?_)
  have h := zB_top h
  change VV E 7 0 [(0, Value.ref 47), (1, Value.int x1), (2, Value.int x2), (3, Value.int x3), (4, Value.int x4), (5, Value.int x5)] [] M
  have J118 : ∀ (M : zM), (f_X6_copy_j118  M).bind some = some y → VV E 7 118 [(0, Value.ref 47)] [] M := by
    intro  M h
    refine V_aload_n 0 Z rfl rfl (show decode cX6_copy 118 = .ok (.aload_n 0, 1) by decide +kernel) ?_
    refine V_ldc (-1000001) Z w843 (show decode cX6_copy 119 = .ok (.ldc 66, 2) by decide +kernel) ?_
    obtain ⟨⟨v2, M3⟩, e1, h⟩ := zB_bind h
    refine V_callV (rest := []) 1 Z (ok_X6_finding  e1) cd_X6_finding zc5 (by decide) rfl w844 w846 w17 rfl (show decode cX6_copy 121 = .ok (.invokevirtual 72, 3) by decide +kernel) rfl ?_
    exact V_iretM Z hE h (show decode cX6_copy 124 = .ok (.ireturn, 1) by decide +kernel)
  have J39 : ∀ (M : zM), (f_X6_copy_j39  M).bind some = some y → VV E 7 39 [(0, Value.ref 47)] [] M := by
    intro  M h
    refine V_aload_n 0 Z rfl rfl (show decode cX6_copy 39 = .ok (.aload_n 0, 1) by decide +kernel) ?_
    refine V_ldc (-1000006) Z w1122 (show decode cX6_copy 40 = .ok (.ldc 222, 2) by decide +kernel) ?_
    obtain ⟨⟨v5, M6⟩, e4, h⟩ := zB_bind h
    refine V_callV (rest := []) 1 Z (ok_X6_finding  e4) cd_X6_finding zc5 (by decide) rfl w844 w846 w17 rfl (show decode cX6_copy 42 = .ok (.invokevirtual 72, 3) by decide +kernel) rfl ?_
    exact V_iretM Z hE h (show decode cX6_copy 45 = .ok (.ireturn, 1) by decide +kernel)
  have J14 : ∀ (M : zM), (f_X6_copy_j14  M).bind some = some y → VV E 7 14 [(0, Value.ref 47)] [] M := by
    intro  M h
    refine V_aload_n 0 Z rfl rfl (show decode cX6_copy 14 = .ok (.aload_n 0, 1) by decide +kernel) ?_
    refine V_ldc (-1000001) Z w843 (show decode cX6_copy 15 = .ok (.ldc 66, 2) by decide +kernel) ?_
    obtain ⟨⟨v8, M9⟩, e7, h⟩ := zB_bind h
    refine V_callV (rest := []) 1 Z (ok_X6_finding  e7) cd_X6_finding zc5 (by decide) rfl w844 w846 w17 rfl (show decode cX6_copy 17 = .ok (.invokevirtual 72, 3) by decide +kernel) rfl ?_
    exact V_iretM Z hE h (show decode cX6_copy 20 = .ok (.ireturn, 1) by decide +kernel)
  refine V_iload_n 1 Z rfl rfl (show decode cX6_copy 0 = .ok (.iload_n 1, 1) by decide +kernel) ?_
  obtain ⟨v11, e10, h⟩ := zB_bind h
  refine V_callS (rest := []) 1 Z (ok_X6_isSheet  e10) cd_X6_isSheet w1119 w1120 rfl (show decode cX6_copy 1 = .ok (.invokestatic 219, 3) by decide +kernel) rfl ?_
  refine V_if_eq 14 Z (by decide) (show decode cX6_copy 4 = .ok (.ifCond .eq 10, 3) by decide +kernel) (fun c12 => ?_) (fun c12 => ?_)
  · have h := zB_pos c12 h
    refine V_sub [0] rfl ?_
    exact J14 _ h
  · have h := zB_neg c12 h
    refine V_iload_n 3 Z rfl rfl (show decode cX6_copy 7 = .ok (.iload_n 3, 1) by decide +kernel) ?_
    obtain ⟨v14, e13, h⟩ := zB_bind h
    refine V_callS (rest := []) 1 Z (ok_X6_isSheet  e13) cd_X6_isSheet w1119 w1120 rfl (show decode cX6_copy 8 = .ok (.invokestatic 219, 3) by decide +kernel) rfl ?_
    refine V_if_ne 21 Z (by decide) (show decode cX6_copy 11 = .ok (.ifCond .ne 10, 3) by decide +kernel) (fun c15 => ?_) (fun c15 => ?_)
    · have h := zB_neg c15 h
      refine V_aload_n 0 Z rfl rfl (show decode cX6_copy 21 = .ok (.aload_n 0, 1) by decide +kernel) ?_
      refine V_getR 18 57 Z zc5 (by decide) rfl (by decide) rfl (by decide) ⟨rfl, rfl, rfl⟩ w784 (show decode cX6_copy 22 = .ok (.getfield 54, 3) by decide +kernel) ?_
      refine V_iload_n 1 Z rfl rfl (show decode cX6_copy 25 = .ok (.iload_n 1, 1) by decide +kernel) ?_
      obtain ⟨v16, e17, h⟩ := zB_bind h
      refine V_iald Z e17 (show decode cX6_copy 26 = .ok (.iaload, 1) by decide +kernel) ?_
      refine V_if_eq 39 Z (by decide) (show decode cX6_copy 27 = .ok (.ifCond .eq 12, 3) by decide +kernel) (fun c18 => ?_) (fun c18 => ?_)
      · have h := zB_pos c18 h
        refine V_sub [0] rfl ?_
        exact J39 _ h
      · have h := zB_neg c18 h
        refine V_aload_n 0 Z rfl rfl (show decode cX6_copy 30 = .ok (.aload_n 0, 1) by decide +kernel) ?_
        refine V_getR 18 57 Z zc5 (by decide) rfl (by decide) rfl (by decide) ⟨rfl, rfl, rfl⟩ w784 (show decode cX6_copy 31 = .ok (.getfield 54, 3) by decide +kernel) ?_
        refine V_iload_n 3 Z rfl rfl (show decode cX6_copy 34 = .ok (.iload_n 3, 1) by decide +kernel) ?_
        obtain ⟨v19, e20, h⟩ := zB_bind h
        refine V_iald Z e20 (show decode cX6_copy 35 = .ok (.iaload, 1) by decide +kernel) ?_
        refine V_if_ne 46 Z (by decide) (show decode cX6_copy 36 = .ok (.ifCond .ne 10, 3) by decide +kernel) (fun c21 => ?_) (fun c21 => ?_)
        · have h := zB_neg c21 h
          refine V_aload_n 0 Z rfl rfl (show decode cX6_copy 46 = .ok (.aload_n 0, 1) by decide +kernel) ?_
          refine V_getR 18 57 Z zc5 (by decide) rfl (by decide) rfl (by decide) ⟨rfl, rfl, rfl⟩ w784 (show decode cX6_copy 47 = .ok (.getfield 54, 3) by decide +kernel) ?_
          refine V_iload_n 1 Z rfl rfl (show decode cX6_copy 50 = .ok (.iload_n 1, 1) by decide +kernel) ?_
          obtain ⟨v22, e23, h⟩ := zB_bind h
          refine V_iald Z e23 (show decode cX6_copy 51 = .ok (.iaload, 1) by decide +kernel) ?_
          refine V_aload_n 0 Z rfl rfl (show decode cX6_copy 52 = .ok (.aload_n 0, 1) by decide +kernel) ?_
          refine V_getR 18 57 Z zc5 (by decide) rfl (by decide) rfl (by decide) ⟨rfl, rfl, rfl⟩ w784 (show decode cX6_copy 53 = .ok (.getfield 54, 3) by decide +kernel) ?_
          refine V_iload_n 3 Z rfl rfl (show decode cX6_copy 56 = .ok (.iload_n 3, 1) by decide +kernel) ?_
          obtain ⟨v24, e25, h⟩ := zB_bind h
          refine V_iald Z e25 (show decode cX6_copy 57 = .ok (.iaload, 1) by decide +kernel) ?_
          refine V_icmp_eq 69 Z (by decide) (show decode cX6_copy 58 = .ok (.if_icmp .eq 11, 3) by decide +kernel) (fun c26 => ?_) (fun c26 => ?_)
          · have h := zB_pos c26 h
            refine V_iload_n 2 Z rfl rfl (show decode cX6_copy 69 = .ok (.iload_n 2, 1) by decide +kernel) ?_
            refine V_if_lt 118 Z (by decide) (show decode cX6_copy 70 = .ok (.ifCond .lt 48, 3) by decide +kernel) (fun c27 => ?_) (fun c27 => ?_)
            · have h := zB_pos c27 h
              refine V_sub [0] rfl ?_
              exact J118 _ h
            · have h := zB_neg c27 h
              refine V_iload 4 Z rfl (show decode cX6_copy 73 = .ok (.iload 4, 2) by decide +kernel) ?_
              refine V_if_lt 118 Z (by decide) (show decode cX6_copy 75 = .ok (.ifCond .lt 43, 3) by decide +kernel) (fun c28 => ?_) (fun c28 => ?_)
              · have h := zB_pos c28 h
                refine V_sub [0] rfl ?_
                exact J118 _ h
              · have h := zB_neg c28 h
                refine V_iload 5 Z rfl (show decode cX6_copy 78 = .ok (.iload 5, 2) by decide +kernel) ?_
                refine V_if_lt 118 Z (by decide) (show decode cX6_copy 80 = .ok (.ifCond .lt 38, 3) by decide +kernel) (fun c29 => ?_) (fun c29 => ?_)
                · have h := zB_pos c29 h
                  refine V_sub [0] rfl ?_
                  exact J118 _ h
                · have h := zB_neg c29 h
                  refine V_iload_n 2 Z rfl rfl (show decode cX6_copy 83 = .ok (.iload_n 2, 1) by decide +kernel) ?_
                  refine V_i2l Z (show decode cX6_copy 84 = .ok (.i2l, 1) by decide +kernel) ?_
                  refine V_iload 5 Z rfl (show decode cX6_copy 85 = .ok (.iload 5, 2) by decide +kernel) ?_
                  refine V_i2l Z (show decode cX6_copy 87 = .ok (.i2l, 1) by decide +kernel) ?_
                  refine V_ladd Z (show decode cX6_copy 88 = .ok (.ladd, 1) by decide +kernel) ?_
                  refine V_aload_n 0 Z rfl rfl (show decode cX6_copy 89 = .ok (.aload_n 0, 1) by decide +kernel) ?_
                  refine V_getR 19 58 Z zc5 (by decide) rfl (by decide) rfl (by decide) ⟨rfl, rfl, rfl⟩ w785 (show decode cX6_copy 90 = .ok (.getfield 57, 3) by decide +kernel) ?_
                  refine V_iload_n 1 Z rfl rfl (show decode cX6_copy 93 = .ok (.iload_n 1, 1) by decide +kernel) ?_
                  obtain ⟨v30, e31, h⟩ := zB_bind h
                  refine V_iald Z e31 (show decode cX6_copy 94 = .ok (.iaload, 1) by decide +kernel) ?_
                  refine V_i2l Z (show decode cX6_copy 95 = .ok (.i2l, 1) by decide +kernel) ?_
                  refine V_lcmp Z (show decode cX6_copy 96 = .ok (.lcmp, 1) by decide +kernel) ?_
                  refine V_if_gt 118 Z (by decide) (show decode cX6_copy 97 = .ok (.ifCond .gt 21, 3) by decide +kernel) (fun c32 => ?_) (fun c32 => ?_)
                  · have h := zB_pos c32 h
                    refine V_sub [0] rfl ?_
                    exact J118 _ h
                  · have h := zB_neg c32 h
                    refine V_iload 4 Z rfl (show decode cX6_copy 100 = .ok (.iload 4, 2) by decide +kernel) ?_
                    refine V_i2l Z (show decode cX6_copy 102 = .ok (.i2l, 1) by decide +kernel) ?_
                    refine V_iload 5 Z rfl (show decode cX6_copy 103 = .ok (.iload 5, 2) by decide +kernel) ?_
                    refine V_i2l Z (show decode cX6_copy 105 = .ok (.i2l, 1) by decide +kernel) ?_
                    refine V_ladd Z (show decode cX6_copy 106 = .ok (.ladd, 1) by decide +kernel) ?_
                    refine V_aload_n 0 Z rfl rfl (show decode cX6_copy 107 = .ok (.aload_n 0, 1) by decide +kernel) ?_
                    refine V_getR 19 58 Z zc5 (by decide) rfl (by decide) rfl (by decide) ⟨rfl, rfl, rfl⟩ w785 (show decode cX6_copy 108 = .ok (.getfield 57, 3) by decide +kernel) ?_
                    refine V_iload_n 3 Z rfl rfl (show decode cX6_copy 111 = .ok (.iload_n 3, 1) by decide +kernel) ?_
                    obtain ⟨v33, e34, h⟩ := zB_bind h
                    refine V_iald Z e34 (show decode cX6_copy 112 = .ok (.iaload, 1) by decide +kernel) ?_
                    refine V_i2l Z (show decode cX6_copy 113 = .ok (.i2l, 1) by decide +kernel) ?_
                    refine V_lcmp Z (show decode cX6_copy 114 = .ok (.lcmp, 1) by decide +kernel) ?_
                    refine V_if_le 125 Z (by decide) (show decode cX6_copy 115 = .ok (.ifCond .le 10, 3) by decide +kernel) (fun c35 => ?_) (fun c35 => ?_)
                    · have h := zB_pos c35 h
                      refine V_iconst 0 (by decide) Z (show decode cX6_copy 125 = .ok (.iconst 0, 1) by decide +kernel) ?_
                      refine V_istore [(6, Value.int 0), (0, Value.ref 47), (1, Value.int x1), (2, Value.int x2), (3, Value.int x3), (4, Value.int x4), (5, Value.int x5)] Z (by decide) rfl (show decode cX6_copy 126 = .ok (.istore 6, 2) by decide +kernel) ?_
                      refine V_sub [1, 2, 3, 4, 5, 6, 0] rfl ?_
                      refine zIter_loop' (K := some) (fun s : Int32 × zM => VV E 7 128 [(0, Value.ref 47), (1, Value.int x1), (2, Value.int x2), (3, Value.int x3), (4, Value.int x4), (5, Value.int x5), (6, Value.int s.1)] [] s.2) (fun K1 s c1_i c1_r h => ?_) _ _ h
                      obtain ⟨y6, M⟩ := s
                      change VV E 7 128 [(0, Value.ref 47), (1, Value.int x1), (2, Value.int x2), (3, Value.int x3), (4, Value.int x4), (5, Value.int x5), (6, Value.int y6)] [] M
                      refine V_iload 6 Z rfl (show decode cX6_copy 128 = .ok (.iload 6, 2) by decide +kernel) ?_
                      refine V_iload 5 Z rfl (show decode cX6_copy 130 = .ok (.iload 5, 2) by decide +kernel) ?_
                      refine V_icmp_ge 162 Z (by decide) (show decode cX6_copy 132 = .ok (.if_icmp .ge 30, 3) by decide +kernel) (fun c36 => ?_) (fun c36 => ?_)
                      · have h := zB_pos c36 h
                        refine V_iconst 0 (by decide) Z (show decode cX6_copy 162 = .ok (.iconst 0, 1) by decide +kernel) ?_
                        refine V_istore [(6, Value.int 0), (0, Value.ref 47), (1, Value.int x1), (2, Value.int x2), (3, Value.int x3), (4, Value.int x4), (5, Value.int x5)] Z (by decide) rfl (show decode cX6_copy 163 = .ok (.istore 6, 2) by decide +kernel) ?_
                        refine V_sub [1, 4, 5, 6, 0] rfl ?_
                        refine zIter_loop' (K := K1) (fun s : Int32 × zM => VV E 7 165 [(0, Value.ref 47), (3, Value.int x3), (4, Value.int x4), (5, Value.int x5), (6, Value.int s.1)] [] s.2) (fun K2 s c2_i c2_r h => ?_) _ _ h
                        obtain ⟨y6, M⟩ := s
                        change VV E 7 165 [(0, Value.ref 47), (3, Value.int x3), (4, Value.int x4), (5, Value.int x5), (6, Value.int y6)] [] M
                        refine V_iload 4 Z rfl (show decode cX6_copy 165 = .ok (.iload 6, 2) by decide +kernel) ?_
                        refine V_iload 3 Z rfl (show decode cX6_copy 167 = .ok (.iload 5, 2) by decide +kernel) ?_
                        refine V_icmp_ge 200 Z (by decide) (show decode cX6_copy 169 = .ok (.if_icmp .ge 31, 3) by decide +kernel) (fun c37 => ?_) (fun c37 => ?_)
                        · have h := zB_pos c37 h
                          refine V_iload 3 Z rfl (show decode cX6_copy 200 = .ok (.iload 5, 2) by decide +kernel) ?_
                          have h := c2_r _ h
                          have h := c1_r _ h
                          exact V_iretM Z hE h (show decode cX6_copy 202 = .ok (.ireturn, 1) by decide +kernel)
                        · have h := zB_neg c37 h
                          refine V_aload_n 0 Z rfl rfl (show decode cX6_copy 172 = .ok (.aload_n 0, 1) by decide +kernel) ?_
                          refine V_getR 20 59 Z zc5 (by decide) rfl (by decide) rfl (by decide) ⟨rfl, rfl, rfl⟩ w786 (show decode cX6_copy 173 = .ok (.getfield 60, 3) by decide +kernel) ?_
                          refine V_bipush 40 (by decide) Z (show decode cX6_copy 176 = .ok (.bipush 40, 2) by decide +kernel) ?_
                          refine V_iload_n 1 Z rfl rfl (show decode cX6_copy 178 = .ok (.iload_n 3, 1) by decide +kernel) ?_
                          refine V_imul Z (show decode cX6_copy 179 = .ok (.imul, 1) by decide +kernel) ?_
                          refine V_iload 2 Z rfl (show decode cX6_copy 180 = .ok (.iload 4, 2) by decide +kernel) ?_
                          refine V_iadd Z (show decode cX6_copy 182 = .ok (.iadd, 1) by decide +kernel) ?_
                          refine V_iload 4 Z rfl (show decode cX6_copy 183 = .ok (.iload 6, 2) by decide +kernel) ?_
                          refine V_iadd Z (show decode cX6_copy 185 = .ok (.iadd, 1) by decide +kernel) ?_
                          refine V_aload_n 0 Z rfl rfl (show decode cX6_copy 186 = .ok (.aload_n 0, 1) by decide +kernel) ?_
                          refine V_getR 21 60 Z zc5 (by decide) rfl (by decide) rfl (by decide) ⟨rfl, rfl, rfl⟩ w787 (show decode cX6_copy 187 = .ok (.getfield 63, 3) by decide +kernel) ?_
                          refine V_iload 4 Z rfl (show decode cX6_copy 190 = .ok (.iload 6, 2) by decide +kernel) ?_
                          obtain ⟨v38, e39, h⟩ := zB_bind h
                          refine V_iald Z e39 (show decode cX6_copy 192 = .ok (.iaload, 1) by decide +kernel) ?_
                          obtain ⟨M40, e41, h⟩ := zB_bind h
                          refine V_iast Z e41 (show decode cX6_copy 193 = .ok (.iastore, 1) by decide +kernel) ?_
                          obtain ⟨x42, e43, h⟩ := zB_let h
                          refine V_iinc (n := 1) 4 x42 [(6, Value.int x42), (0, Value.ref 47), (3, Value.int x3), (4, Value.int x4), (5, Value.int x5)] Z (by decide) rfl e43 rfl (show decode cX6_copy 194 = .ok (.iinc 6 1, 3) by decide +kernel) ?_
                          refine V_goto 165 Z (by decide) (show decode cX6_copy 197 = .ok (.goto (-32), 3) by decide +kernel) ?_
                          refine V_sub [1, 2, 3, 4, 0] rfl ?_
                          exact c2_i _ h
                      · have h := zB_neg c36 h
                        refine V_aload_n 0 Z rfl rfl (show decode cX6_copy 135 = .ok (.aload_n 0, 1) by decide +kernel) ?_
                        refine V_getR 21 60 Z zc5 (by decide) rfl (by decide) rfl (by decide) ⟨rfl, rfl, rfl⟩ w787 (show decode cX6_copy 136 = .ok (.getfield 63, 3) by decide +kernel) ?_
                        refine V_iload 6 Z rfl (show decode cX6_copy 139 = .ok (.iload 6, 2) by decide +kernel) ?_
                        refine V_aload_n 0 Z rfl rfl (show decode cX6_copy 141 = .ok (.aload_n 0, 1) by decide +kernel) ?_
                        refine V_getR 20 59 Z zc5 (by decide) rfl (by decide) rfl (by decide) ⟨rfl, rfl, rfl⟩ w786 (show decode cX6_copy 142 = .ok (.getfield 60, 3) by decide +kernel) ?_
                        refine V_bipush 40 (by decide) Z (show decode cX6_copy 145 = .ok (.bipush 40, 2) by decide +kernel) ?_
                        refine V_iload_n 1 Z rfl rfl (show decode cX6_copy 147 = .ok (.iload_n 1, 1) by decide +kernel) ?_
                        refine V_imul Z (show decode cX6_copy 148 = .ok (.imul, 1) by decide +kernel) ?_
                        refine V_iload_n 2 Z rfl rfl (show decode cX6_copy 149 = .ok (.iload_n 2, 1) by decide +kernel) ?_
                        refine V_iadd Z (show decode cX6_copy 150 = .ok (.iadd, 1) by decide +kernel) ?_
                        refine V_iload 6 Z rfl (show decode cX6_copy 151 = .ok (.iload 6, 2) by decide +kernel) ?_
                        refine V_iadd Z (show decode cX6_copy 153 = .ok (.iadd, 1) by decide +kernel) ?_
                        obtain ⟨v44, e45, h⟩ := zB_bind h
                        refine V_iald Z e45 (show decode cX6_copy 154 = .ok (.iaload, 1) by decide +kernel) ?_
                        obtain ⟨M46, e47, h⟩ := zB_bind h
                        refine V_iast Z e47 (show decode cX6_copy 155 = .ok (.iastore, 1) by decide +kernel) ?_
                        obtain ⟨x48, e49, h⟩ := zB_let h
                        refine V_iinc (n := 1) 6 x48 [(6, Value.int x48), (0, Value.ref 47), (1, Value.int x1), (2, Value.int x2), (3, Value.int x3), (4, Value.int x4), (5, Value.int x5)] Z (by decide) rfl e49 rfl (show decode cX6_copy 156 = .ok (.iinc 6 1, 3) by decide +kernel) ?_
                        refine V_goto 128 Z (by decide) (show decode cX6_copy 159 = .ok (.goto (-31), 3) by decide +kernel) ?_
                        refine V_sub [1, 2, 3, 4, 5, 6, 0] rfl ?_
                        exact c1_i _ h
                    · have h := zB_neg c35 h
                      refine V_sub [0] rfl ?_
                      exact J118 _ h
          · have h := zB_neg c26 h
            refine V_aload_n 0 Z rfl rfl (show decode cX6_copy 61 = .ok (.aload_n 0, 1) by decide +kernel) ?_
            refine V_ldcw (-1000003) Z w1229 (show decode cX6_copy 62 = .ok (.ldc_w 321, 3) by decide +kernel) ?_
            obtain ⟨⟨v51, M52⟩, e50, h⟩ := zB_bind h
            refine V_callV (rest := []) 1 Z (ok_X6_finding  e50) cd_X6_finding zc5 (by decide) rfl w844 w846 w17 rfl (show decode cX6_copy 65 = .ok (.invokevirtual 72, 3) by decide +kernel) rfl ?_
            exact V_iretM Z hE h (show decode cX6_copy 68 = .ok (.ireturn, 1) by decide +kernel)
        · have h := zB_pos c21 h
          refine V_sub [0] rfl ?_
          exact J39 _ h
    · have h := zB_pos c15 h
      refine V_sub [0] rfl ?_
      exact J14 _ h
def f_X6_load_l20 (y1 : Int32) : Int32 × zM → Option ((Int32 × zM) ⊕ (Int32 × zM))
  | (y2, M) =>
    (zrd M 58 y1).bind fun (v4 : Int32) =>
    if v4 ≤ y2 then
      some (.inr ((y2, M)))
    else
      (f_X6_isPerson y2 M).bind fun (v8 : Int32) =>
      if v8 = 0 then
        some (.inr ((y2, M)))
      else
        (zrd M 59 ((40 * y1) + y2)).bind fun (v10 : Int32) =>
        (f_X6_isPurse v10 M).bind fun (v13 : Int32) =>
        if v13 = 0 then
          some (.inr ((y2, M)))
        else
          (zrd M 59 ((40 * y1) + y2)).bind fun (v15 : Int32) =>
          (zwr M 48 (55 + y2) v15).bind fun (M17 : zM) =>
          (some (y2 + 1)).bind fun (x19 : Int32) =>
          some (.inl ((x19, M17)))
def f_X6_load (x1 : Int32) (M : zM) : Option (Int32 × zM) :=
  (f_X6_lacks x1 M).bind fun (v2 : Int32) =>
  if v2 = 0 then
    zIter (f_X6_load_l20 x1) 1000 (0, M)
  else
    (f_X6_lacks x1 M).bind fun (v22 : Int32) =>
    (f_X6_finding v22 M).bind fun ((v24, M25) : Int32 × zM) =>
    some ((v24, M25))
theorem cd_X6_load : zCd yX6_load cX6_load 3 (some .int) 1 := ⟨w1249, w69, ⟨by decide, by decide⟩, by decide +kernel⟩
set_option maxHeartbeats 4000000 in
set_option maxRecDepth 20000 in
theorem ok_X6_load {x1 : Int32} {M : zM} {y : Int32 × zM}  (h : f_X6_load x1 M = some y) : zRuns yX6_load cX6_load 3 (some .int) 3 63 [.ref 47, .int x1] M (some (.int y.1)) y.2 := by
  refine zRuns_of (by decide +kernel) (Nat.le_of_ble_eq_true rfl) (fun E Z hE => ?_)
  have h := zB_top h
  change VV E 3 0 [(0, Value.ref 47), (1, Value.int x1)] [] M
  refine V_aload_n 0 Z rfl rfl (show decode cX6_load 0 = .ok (.aload_n 0, 1) by decide +kernel) ?_
  refine V_iload_n 1 Z rfl rfl (show decode cX6_load 1 = .ok (.iload_n 1, 1) by decide +kernel) ?_
  obtain ⟨v2, e1, h⟩ := zB_bind h
  refine V_callV (rest := []) 1 Z (ok_X6_lacks  e1) cd_X6_lacks zc5 (by decide) rfl w1115 w1117 w49 rfl (show decode cX6_load 2 = .ok (.invokevirtual 226, 3) by decide +kernel) rfl ?_
  refine V_if_eq 18 Z (by decide) (show decode cX6_load 5 = .ok (.ifCond .eq 13, 3) by decide +kernel) (fun c3 => ?_) (fun c3 => ?_)
  · have h := zB_pos c3 h
    refine V_iconst 0 (by decide) Z (show decode cX6_load 18 = .ok (.iconst 0, 1) by decide +kernel) ?_
    refine V_istore_n [(2, Value.int 0), (0, Value.ref 47), (1, Value.int x1)] Z (by decide) rfl rfl (show decode cX6_load 19 = .ok (.istore_n 2, 1) by decide +kernel) ?_
    refine V_sub [1, 2, 0] rfl ?_
    refine zIter_loop' (K := some) (fun s : Int32 × zM => VV E 3 20 [(0, Value.ref 47), (1, Value.int x1), (2, Value.int s.1)] [] s.2) (fun K1 s c1_i c1_r h => ?_) _ _ h
    obtain ⟨y2, M⟩ := s
    change VV E 3 20 [(0, Value.ref 47), (1, Value.int x1), (2, Value.int y2)] [] M
    refine V_iload_n 2 Z rfl rfl (show decode cX6_load 20 = .ok (.iload_n 2, 1) by decide +kernel) ?_
    refine V_aload_n 0 Z rfl rfl (show decode cX6_load 21 = .ok (.aload_n 0, 1) by decide +kernel) ?_
    refine V_getR 19 58 Z zc5 (by decide) rfl (by decide) rfl (by decide) ⟨rfl, rfl, rfl⟩ w785 (show decode cX6_load 22 = .ok (.getfield 57, 3) by decide +kernel) ?_
    refine V_iload_n 1 Z rfl rfl (show decode cX6_load 25 = .ok (.iload_n 1, 1) by decide +kernel) ?_
    obtain ⟨v4, e5, h⟩ := zB_bind h
    refine V_iald Z e5 (show decode cX6_load 26 = .ok (.iaload, 1) by decide +kernel) ?_
    refine V_icmp_ge 80 Z (by decide) (show decode cX6_load 27 = .ok (.if_icmp .ge 53, 3) by decide +kernel) (fun c6 => ?_) (fun c6 => ?_)
    · have h := zB_pos c6 h
      refine V_iload_n 2 Z rfl rfl (show decode cX6_load 80 = .ok (.iload_n 2, 1) by decide +kernel) ?_
      have h := c1_r _ h
      exact V_iretM Z hE h (show decode cX6_load 81 = .ok (.ireturn, 1) by decide +kernel)
    · have h := zB_neg c6 h
      refine V_iload_n 2 Z rfl rfl (show decode cX6_load 30 = .ok (.iload_n 2, 1) by decide +kernel) ?_
      obtain ⟨v8, e7, h⟩ := zB_bind h
      refine V_callS (rest := []) 1 Z (ok_X6_isPerson  e7) cd_X6_isPerson w908 w909 rfl (show decode cX6_load 31 = .ok (.invokestatic 125, 3) by decide +kernel) rfl ?_
      refine V_if_eq 80 Z (by decide) (show decode cX6_load 34 = .ok (.ifCond .eq 46, 3) by decide +kernel) (fun c9 => ?_) (fun c9 => ?_)
      · have h := zB_pos c9 h
        refine V_iload_n 2 Z rfl rfl (show decode cX6_load 80 = .ok (.iload_n 2, 1) by decide +kernel) ?_
        have h := c1_r _ h
        exact V_iretM Z hE h (show decode cX6_load 81 = .ok (.ireturn, 1) by decide +kernel)
      · have h := zB_neg c9 h
        refine V_aload_n 0 Z rfl rfl (show decode cX6_load 37 = .ok (.aload_n 0, 1) by decide +kernel) ?_
        refine V_getR 20 59 Z zc5 (by decide) rfl (by decide) rfl (by decide) ⟨rfl, rfl, rfl⟩ w786 (show decode cX6_load 38 = .ok (.getfield 60, 3) by decide +kernel) ?_
        refine V_bipush 40 (by decide) Z (show decode cX6_load 41 = .ok (.bipush 40, 2) by decide +kernel) ?_
        refine V_iload_n 1 Z rfl rfl (show decode cX6_load 43 = .ok (.iload_n 1, 1) by decide +kernel) ?_
        refine V_imul Z (show decode cX6_load 44 = .ok (.imul, 1) by decide +kernel) ?_
        refine V_iload_n 2 Z rfl rfl (show decode cX6_load 45 = .ok (.iload_n 2, 1) by decide +kernel) ?_
        refine V_iadd Z (show decode cX6_load 46 = .ok (.iadd, 1) by decide +kernel) ?_
        obtain ⟨v10, e11, h⟩ := zB_bind h
        refine V_iald Z e11 (show decode cX6_load 47 = .ok (.iaload, 1) by decide +kernel) ?_
        obtain ⟨v13, e12, h⟩ := zB_bind h
        refine V_callS (rest := []) 1 Z (ok_X6_isPurse  e12) cd_X6_isPurse w905 w906 rfl (show decode cX6_load 48 = .ok (.invokestatic 122, 3) by decide +kernel) rfl ?_
        refine V_if_eq 80 Z (by decide) (show decode cX6_load 51 = .ok (.ifCond .eq 29, 3) by decide +kernel) (fun c14 => ?_) (fun c14 => ?_)
        · have h := zB_pos c14 h
          refine V_iload_n 2 Z rfl rfl (show decode cX6_load 80 = .ok (.iload_n 2, 1) by decide +kernel) ?_
          have h := c1_r _ h
          exact V_iretM Z hE h (show decode cX6_load 81 = .ok (.ireturn, 1) by decide +kernel)
        · have h := zB_neg c14 h
          refine V_aload_n 0 Z rfl rfl (show decode cX6_load 54 = .ok (.aload_n 0, 1) by decide +kernel) ?_
          refine V_getR 0 48 Z zc5 (by decide) rfl (by decide) rfl (by decide) ⟨rfl, rfl, rfl⟩ w766 (show decode cX6_load 55 = .ok (.getfield 9, 3) by decide +kernel) ?_
          refine V_bipush 55 (by decide) Z (show decode cX6_load 58 = .ok (.bipush 55, 2) by decide +kernel) ?_
          refine V_iload_n 2 Z rfl rfl (show decode cX6_load 60 = .ok (.iload_n 2, 1) by decide +kernel) ?_
          refine V_iadd Z (show decode cX6_load 61 = .ok (.iadd, 1) by decide +kernel) ?_
          refine V_aload_n 0 Z rfl rfl (show decode cX6_load 62 = .ok (.aload_n 0, 1) by decide +kernel) ?_
          refine V_getR 20 59 Z zc5 (by decide) rfl (by decide) rfl (by decide) ⟨rfl, rfl, rfl⟩ w786 (show decode cX6_load 63 = .ok (.getfield 60, 3) by decide +kernel) ?_
          refine V_bipush 40 (by decide) Z (show decode cX6_load 66 = .ok (.bipush 40, 2) by decide +kernel) ?_
          refine V_iload_n 1 Z rfl rfl (show decode cX6_load 68 = .ok (.iload_n 1, 1) by decide +kernel) ?_
          refine V_imul Z (show decode cX6_load 69 = .ok (.imul, 1) by decide +kernel) ?_
          refine V_iload_n 2 Z rfl rfl (show decode cX6_load 70 = .ok (.iload_n 2, 1) by decide +kernel) ?_
          refine V_iadd Z (show decode cX6_load 71 = .ok (.iadd, 1) by decide +kernel) ?_
          obtain ⟨v15, e16, h⟩ := zB_bind h
          refine V_iald Z e16 (show decode cX6_load 72 = .ok (.iaload, 1) by decide +kernel) ?_
          obtain ⟨M17, e18, h⟩ := zB_bind h
          refine V_iast Z e18 (show decode cX6_load 73 = .ok (.iastore, 1) by decide +kernel) ?_
          obtain ⟨x19, e20, h⟩ := zB_let h
          refine V_iinc (n := 1) 2 x19 [(2, Value.int x19), (0, Value.ref 47), (1, Value.int x1)] Z (by decide) rfl e20 rfl (show decode cX6_load 74 = .ok (.iinc 2 1, 3) by decide +kernel) ?_
          refine V_goto 20 Z (by decide) (show decode cX6_load 77 = .ok (.goto (-57), 3) by decide +kernel) ?_
          refine V_sub [1, 2, 0] rfl ?_
          exact c1_i _ h
  · have h := zB_neg c3 h
    refine V_aload_n 0 Z rfl rfl (show decode cX6_load 8 = .ok (.aload_n 0, 1) by decide +kernel) ?_
    refine V_aload_n 0 Z rfl rfl (show decode cX6_load 9 = .ok (.aload_n 0, 1) by decide +kernel) ?_
    refine V_iload_n 1 Z rfl rfl (show decode cX6_load 10 = .ok (.iload_n 1, 1) by decide +kernel) ?_
    obtain ⟨v22, e21, h⟩ := zB_bind h
    refine V_callV (rest := [_]) 1 Z (ok_X6_lacks  e21) cd_X6_lacks zc5 (by decide) rfl w1115 w1117 w49 rfl (show decode cX6_load 11 = .ok (.invokevirtual 226, 3) by decide +kernel) rfl ?_
    obtain ⟨⟨v24, M25⟩, e23, h⟩ := zB_bind h
    refine V_callV (rest := []) 1 Z (ok_X6_finding  e23) cd_X6_finding zc5 (by decide) rfl w844 w846 w17 rfl (show decode cX6_load 14 = .ok (.invokevirtual 72, 3) by decide +kernel) rfl ?_
    exact V_iretM Z hE h (show decode cX6_load 17 = .ok (.ireturn, 1) by decide +kernel)
