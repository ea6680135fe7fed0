/-! Generated walks: X6_copy X6_load X6_judge X6_image X6_undo X6_tear -/
def f_X6_copy_l165 (y3 : Int32) (y4 : Int32) (y5 : Int32) : Int32 × zM → Option ((Int32 × zM) ⊕ (Int32 × zM))
  | (y6, M) =>
    if y5 ≤ y6 then
      some (.inr ((y5, M)))
    else
      (zrd M 60 y6).bind fun (v2 : Int32) =>
      (zwr M 59 (((40 * y3) + y4) + y6) v2).bind fun (M4 : zM) =>
      (some (y6 + 1)).bind fun (n6 : Int32) =>
      some (.inl ((n6, M4)))
def f_X6_copy_j162 (y3 : Int32) (y4 : Int32) (y5 : Int32) (M : zM) : Option (Int32 × zM) :=
  zIter (f_X6_copy_l165 y3 y4 y5) 1000 (0, M)
def f_X6_copy_j118 (M : zM) : Option (Int32 × zM) :=
  (f_X6_finding (-1000001) M).bind fun ((v9, M10) : Int32 × zM) =>
  some ((v9, M10))
def f_X6_copy_j39 (M : zM) : Option (Int32 × zM) :=
  (f_X6_finding (-1000006) M).bind fun ((v12, M13) : Int32 × zM) =>
  some ((v12, M13))
def f_X6_copy_j14 (M : zM) : Option (Int32 × zM) :=
  (f_X6_finding (-1000001) M).bind fun ((v15, M16) : Int32 × zM) =>
  some ((v15, M16))
def f_X6_copy_l128 (y1 : Int32) (y2 : Int32) (y3 : Int32) (y4 : Int32) (y5 : Int32) : Int32 × zM → Option ((Int32 × zM) ⊕ (Int32 × zM))
  | (y6, M) =>
    if y5 ≤ y6 then
      (f_X6_copy_j162 y3 y4 y5 M).bind fun z => some (Sum.inr z)
    else
      (zrd M 59 (((40 * y1) + y2) + y6)).bind fun (v44 : Int32) =>
      (zwr M 60 y6 v44).bind fun (M46 : zM) =>
      (some (y6 + 1)).bind fun (n48 : Int32) =>
      some (.inl ((n48, M46)))
def f_X6_copy (x1 : Int32) (x2 : Int32) (x3 : Int32) (x4 : Int32) (x5 : Int32) (M : zM) : Option (Int32 × zM) :=
  (f_X6_isSheet x1 M).bind fun (v18 : Int32) =>
  if v18 = 0 then
    f_X6_copy_j14  M
  else
    (f_X6_isSheet x3 M).bind fun (v21 : Int32) =>
    if v21 = 0 then
      f_X6_copy_j14  M
    else
      (zrd M 57 x1).bind fun (v23 : Int32) =>
      if v23 = 0 then
        f_X6_copy_j39  M
      else
        (zrd M 57 x3).bind fun (v26 : Int32) =>
        if v26 = 0 then
          f_X6_copy_j39  M
        else
          (zrd M 57 x1).bind fun (v29 : Int32) =>
          (zrd M 57 x3).bind fun (v31 : Int32) =>
          if v29 = v31 then
            if x2 < 0 then
              f_X6_copy_j118  M
            else
              if x4 < 0 then
                f_X6_copy_j118  M
              else
                if x5 < 0 then
                  f_X6_copy_j118  M
                else
                  (zrd M 58 x1).bind fun (v37 : Int32) =>
                  if 0 < (lg_cmp (((x2 : Int32).toInt64) + ((x5 : Int32).toInt64)) ((v37 : Int32).toInt64)) then
                    f_X6_copy_j118  M
                  else
                    (zrd M 58 x3).bind fun (v40 : Int32) =>
                    if (lg_cmp (((x4 : Int32).toInt64) + ((x5 : Int32).toInt64)) ((v40 : Int32).toInt64)) ≤ 0 then
                      zIter (f_X6_copy_l128 x1 x2 x3 x4 x5) 1000 (0, M)
                    else
                      f_X6_copy_j118  M
          else
            (f_X6_finding (-1000003) M).bind fun ((v51, M52) : Int32 × zM) =>
            some ((v51, M52))
theorem cd_X6_copy : zCd yX6_copy cX6_copy 7 (some .int) 5 := ⟨w1245, w69, ⟨by decide, by decide⟩, by decide +kernel⟩
set_option maxHeartbeats 4000000 in
set_option maxRecDepth 20000 in
theorem ok_X6_copy {x1 : Int32} {x2 : Int32} {x3 : Int32} {x4 : Int32} {x5 : Int32} {M : zM} {y : Int32 × zM}  (h : f_X6_copy x1 x2 x3 x4 x5 M = some y) : zRuns yX6_copy cX6_copy 7 (some .int) 2 42 [.ref 47, .int x1, .int x2, .int x3, .int x4, .int x5] M (some (.int y.1)) y.2 := by
  refine zRuns_of (by decide +kernel) (Nat.le_of_ble_eq_true rfl) (fun E Z hE => ?_)
  have h := zB_top h
  change VV E 7 0 [(0, Value.ref 47), (1, Value.int x1), (2, Value.int x2), (3, Value.int x3), (4, Value.int x4), (5, Value.int x5)] [] M
  have J162 : ∀ (y3 : Int32) (y4 : Int32) (y5 : Int32) (M : zM), (f_X6_copy_j162 y3 y4 y5 M).bind some = some y → VV E 7 162 [(0, Value.ref 47), (3, Value.int y3), (4, Value.int y4), (5, Value.int y5)] [] M := by
    intro y3 y4 y5 M h
    refine V_iconst 0 (by decide) Z (show decode cX6_copy 162 = .ok (.iconst 0, 1) by decide +kernel) ?_
    refine V_istore [(6, Value.int 0), (0, Value.ref 47), (3, Value.int y3), (4, Value.int y4), (5, Value.int y5)] Z (by decide) rfl (show decode cX6_copy 163 = .ok (.istore 6, 2) by decide +kernel) ?_
    refine V_sub [1, 2, 3, 4, 0] rfl ?_
    refine zIter_loop' (K := some) (fun s : Int32 × zM => VV E 7 165 [(0, Value.ref 47), (3, Value.int y3), (4, Value.int y4), (5, Value.int y5), (6, Value.int s.1)] [] s.2) (fun K1 s c1_i c1_r h => ?_) _ _ h
    obtain ⟨y6, M⟩ := s
    change VV E 7 165 [(0, Value.ref 47), (3, Value.int y3), (4, Value.int y4), (5, Value.int y5), (6, Value.int y6)] [] M
    refine V_iload 4 Z rfl (show decode cX6_copy 165 = .ok (.iload 6, 2) by decide +kernel) ?_
    refine V_iload 3 Z rfl (show decode cX6_copy 167 = .ok (.iload 5, 2) by decide +kernel) ?_
    refine V_icmp_ge 200 Z (by decide) (show decode cX6_copy 169 = .ok (.if_icmp .ge 31, 3) by decide +kernel) (fun c1 => ?_) (fun c1 => ?_)
    · have h := zB_pos c1 h
      refine V_iload 3 Z rfl (show decode cX6_copy 200 = .ok (.iload 5, 2) by decide +kernel) ?_
      have h := c1_r _ h
      exact V_iretM Z hE h (show decode cX6_copy 202 = .ok (.ireturn, 1) by decide +kernel)
    · have h := zB_neg c1 h
      refine V_aload_n 0 Z rfl rfl (show decode cX6_copy 172 = .ok (.aload_n 0, 1) by decide +kernel) ?_
      refine V_getR 20 59 Z zc5 (by decide) rfl (by decide) rfl (by decide) ⟨rfl, rfl, rfl⟩ w786 (show decode cX6_copy 173 = .ok (.getfield 60, 3) by decide +kernel) ?_
      refine V_bipush 40 (by decide) Z (show decode cX6_copy 176 = .ok (.bipush 40, 2) by decide +kernel) ?_
      refine V_iload_n 1 Z rfl rfl (show decode cX6_copy 178 = .ok (.iload_n 3, 1) by decide +kernel) ?_
      refine V_imul Z (show decode cX6_copy 179 = .ok (.imul, 1) by decide +kernel) ?_
      refine V_iload 2 Z rfl (show decode cX6_copy 180 = .ok (.iload 4, 2) by decide +kernel) ?_
      refine V_iadd Z (show decode cX6_copy 182 = .ok (.iadd, 1) by decide +kernel) ?_
      refine V_iload 4 Z rfl (show decode cX6_copy 183 = .ok (.iload 6, 2) by decide +kernel) ?_
      refine V_iadd Z (show decode cX6_copy 185 = .ok (.iadd, 1) by decide +kernel) ?_
      refine V_aload_n 0 Z rfl rfl (show decode cX6_copy 186 = .ok (.aload_n 0, 1) by decide +kernel) ?_
      refine V_getR 21 60 Z zc5 (by decide) rfl (by decide) rfl (by decide) ⟨rfl, rfl, rfl⟩ w787 (show decode cX6_copy 187 = .ok (.getfield 63, 3) by decide +kernel) ?_
      refine V_iload 4 Z rfl (show decode cX6_copy 190 = .ok (.iload 6, 2) by decide +kernel) ?_
      obtain ⟨v2, e3, h⟩ := zB_bind h
      refine V_iald Z e3 (show decode cX6_copy 192 = .ok (.iaload, 1) by decide +kernel) ?_
      obtain ⟨M4, e5, h⟩ := zB_bind h
      refine V_iast Z e5 (show decode cX6_copy 193 = .ok (.iastore, 1) by decide +kernel) ?_
      obtain ⟨n6, e7, h⟩ := zB_let h
      refine V_iinck 1 1 4 n6 [(6, Value.int n6), (0, Value.ref 47), (3, Value.int y3), (4, Value.int y4), (5, Value.int y5)] Z (by decide) (by decide) rfl e7 rfl (show decode cX6_copy 194 = .ok (.iinc 6 1, 3) by decide +kernel) ?_
      refine V_goto 165 Z (by decide) (show decode cX6_copy 197 = .ok (.goto (-32), 3) by decide +kernel) ?_
      refine V_sub [1, 2, 3, 4, 0] rfl ?_
      exact c1_i _ h
  have J118 : ∀ (M : zM), (f_X6_copy_j118  M).bind some = some y → VV E 7 118 [(0, Value.ref 47)] [] M := by
    intro  M h
    refine V_aload_n 0 Z rfl rfl (show decode cX6_copy 118 = .ok (.aload_n 0, 1) by decide +kernel) ?_
    refine V_ldc (-1000001) Z w843 (show decode cX6_copy 119 = .ok (.ldc 66, 2) by decide +kernel) ?_
    obtain ⟨⟨v9, M10⟩, e8, h⟩ := zB_bind h
    refine V_callV (rest := []) 1 Z (ok_X6_finding  e8) cd_X6_finding zc5 (by decide) rfl w844 w846 w17 rfl (show decode cX6_copy 121 = .ok (.invokevirtual 72, 3) by decide +kernel) rfl ?_
    exact V_iretM Z hE h (show decode cX6_copy 124 = .ok (.ireturn, 1) by decide +kernel)
  have J39 : ∀ (M : zM), (f_X6_copy_j39  M).bind some = some y → VV E 7 39 [(0, Value.ref 47)] [] M := by
    intro  M h
    refine V_aload_n 0 Z rfl rfl (show decode cX6_copy 39 = .ok (.aload_n 0, 1) by decide +kernel) ?_
    refine V_ldc (-1000006) Z w1122 (show decode cX6_copy 40 = .ok (.ldc 222, 2) by decide +kernel) ?_
    obtain ⟨⟨v12, M13⟩, e11, h⟩ := zB_bind h
    refine V_callV (rest := []) 1 Z (ok_X6_finding  e11) cd_X6_finding zc5 (by decide) rfl w844 w846 w17 rfl (show decode cX6_copy 42 = .ok (.invokevirtual 72, 3) by decide +kernel) rfl ?_
    exact V_iretM Z hE h (show decode cX6_copy 45 = .ok (.ireturn, 1) by decide +kernel)
  have J14 : ∀ (M : zM), (f_X6_copy_j14  M).bind some = some y → VV E 7 14 [(0, Value.ref 47)] [] M := by
    intro  M h
    refine V_aload_n 0 Z rfl rfl (show decode cX6_copy 14 = .ok (.aload_n 0, 1) by decide +kernel) ?_
    refine V_ldc (-1000001) Z w843 (show decode cX6_copy 15 = .ok (.ldc 66, 2) by decide +kernel) ?_
    obtain ⟨⟨v15, M16⟩, e14, h⟩ := zB_bind h
    refine V_callV (rest := []) 1 Z (ok_X6_finding  e14) cd_X6_finding zc5 (by decide) rfl w844 w846 w17 rfl (show decode cX6_copy 17 = .ok (.invokevirtual 72, 3) by decide +kernel) rfl ?_
    exact V_iretM Z hE h (show decode cX6_copy 20 = .ok (.ireturn, 1) by decide +kernel)
  refine V_iload_n 1 Z rfl rfl (show decode cX6_copy 0 = .ok (.iload_n 1, 1) by decide +kernel) ?_
  obtain ⟨v18, e17, h⟩ := zB_bind h
  refine V_callS (rest := []) 1 Z (ok_X6_isSheet  e17) cd_X6_isSheet w1119 w1120 rfl (show decode cX6_copy 1 = .ok (.invokestatic 219, 3) by decide +kernel) rfl ?_
  refine V_if_eq 14 Z (by decide) (show decode cX6_copy 4 = .ok (.ifCond .eq 10, 3) by decide +kernel) (fun c19 => ?_) (fun c19 => ?_)
  · have h := zB_pos c19 h
    refine V_sub [0] rfl ?_
    exact J14 _ h
  · have h := zB_neg c19 h
    refine V_iload_n 3 Z rfl rfl (show decode cX6_copy 7 = .ok (.iload_n 3, 1) by decide +kernel) ?_
    obtain ⟨v21, e20, h⟩ := zB_bind h
    refine V_callS (rest := []) 1 Z (ok_X6_isSheet  e20) cd_X6_isSheet w1119 w1120 rfl (show decode cX6_copy 8 = .ok (.invokestatic 219, 3) by decide +kernel) rfl ?_
    refine V_if_ne 21 Z (by decide) (show decode cX6_copy 11 = .ok (.ifCond .ne 10, 3) by decide +kernel) (fun c22 => ?_) (fun c22 => ?_)
    · have h := zB_neg c22 h
      refine V_aload_n 0 Z rfl rfl (show decode cX6_copy 21 = .ok (.aload_n 0, 1) by decide +kernel) ?_
      refine V_getR 18 57 Z zc5 (by decide) rfl (by decide) rfl (by decide) ⟨rfl, rfl, rfl⟩ w784 (show decode cX6_copy 22 = .ok (.getfield 54, 3) by decide +kernel) ?_
      refine V_iload_n 1 Z rfl rfl (show decode cX6_copy 25 = .ok (.iload_n 1, 1) by decide +kernel) ?_
      obtain ⟨v23, e24, h⟩ := zB_bind h
      refine V_iald Z e24 (show decode cX6_copy 26 = .ok (.iaload, 1) by decide +kernel) ?_
      refine V_if_eq 39 Z (by decide) (show decode cX6_copy 27 = .ok (.ifCond .eq 12, 3) by decide +kernel) (fun c25 => ?_) (fun c25 => ?_)
      · have h := zB_pos c25 h
        refine V_sub [0] rfl ?_
        exact J39 _ h
      · have h := zB_neg c25 h
        refine V_aload_n 0 Z rfl rfl (show decode cX6_copy 30 = .ok (.aload_n 0, 1) by decide +kernel) ?_
        refine V_getR 18 57 Z zc5 (by decide) rfl (by decide) rfl (by decide) ⟨rfl, rfl, rfl⟩ w784 (show decode cX6_copy 31 = .ok (.getfield 54, 3) by decide +kernel) ?_
        refine V_iload_n 3 Z rfl rfl (show decode cX6_copy 34 = .ok (.iload_n 3, 1) by decide +kernel) ?_
        obtain ⟨v26, e27, h⟩ := zB_bind h
        refine V_iald Z e27 (show decode cX6_copy 35 = .ok (.iaload, 1) by decide +kernel) ?_
        refine V_if_ne 46 Z (by decide) (show decode cX6_copy 36 = .ok (.ifCond .ne 10, 3) by decide +kernel) (fun c28 => ?_) (fun c28 => ?_)
        · have h := zB_neg c28 h
          refine V_aload_n 0 Z rfl rfl (show decode cX6_copy 46 = .ok (.aload_n 0, 1) by decide +kernel) ?_
          refine V_getR 18 57 Z zc5 (by decide) rfl (by decide) rfl (by decide) ⟨rfl, rfl, rfl⟩ w784 (show decode cX6_copy 47 = .ok (.getfield 54, 3) by decide +kernel) ?_
          refine V_iload_n 1 Z rfl rfl (show decode cX6_copy 50 = .ok (.iload_n 1, 1) by decide +kernel) ?_
          obtain ⟨v29, e30, h⟩ := zB_bind h
          refine V_iald Z e30 (show decode cX6_copy 51 = .ok (.iaload, 1) by decide +kernel) ?_
          refine V_aload_n 0 Z rfl rfl (show decode cX6_copy 52 = .ok (.aload_n 0, 1) by decide +kernel) ?_
          refine V_getR 18 57 Z zc5 (by decide) rfl (by decide) rfl (by decide) ⟨rfl, rfl, rfl⟩ w784 (show decode cX6_copy 53 = .ok (.getfield 54, 3) by decide +kernel) ?_
          refine V_iload_n 3 Z rfl rfl (show decode cX6_copy 56 = .ok (.iload_n 3, 1) by decide +kernel) ?_
          obtain ⟨v31, e32, h⟩ := zB_bind h
          refine V_iald Z e32 (show decode cX6_copy 57 = .ok (.iaload, 1) by decide +kernel) ?_
          refine V_icmp_eq 69 Z (by decide) (show decode cX6_copy 58 = .ok (.if_icmp .eq 11, 3) by decide +kernel) (fun c33 => ?_) (fun c33 => ?_)
          · have h := zB_pos c33 h
            refine V_iload_n 2 Z rfl rfl (show decode cX6_copy 69 = .ok (.iload_n 2, 1) by decide +kernel) ?_
            refine V_if_lt 118 Z (by decide) (show decode cX6_copy 70 = .ok (.ifCond .lt 48, 3) by decide +kernel) (fun c34 => ?_) (fun c34 => ?_)
            · have h := zB_pos c34 h
              refine V_sub [0] rfl ?_
              exact J118 _ h
            · have h := zB_neg c34 h
              refine V_iload 4 Z rfl (show decode cX6_copy 73 = .ok (.iload 4, 2) by decide +kernel) ?_
              refine V_if_lt 118 Z (by decide) (show decode cX6_copy 75 = .ok (.ifCond .lt 43, 3) by decide +kernel) (fun c35 => ?_) (fun c35 => ?_)
              · have h := zB_pos c35 h
                refine V_sub [0] rfl ?_
                exact J118 _ h
              · have h := zB_neg c35 h
                refine V_iload 5 Z rfl (show decode cX6_copy 78 = .ok (.iload 5, 2) by decide +kernel) ?_
                refine V_if_lt 118 Z (by decide) (show decode cX6_copy 80 = .ok (.ifCond .lt 38, 3) by decide +kernel) (fun c36 => ?_) (fun c36 => ?_)
                · have h := zB_pos c36 h
                  refine V_sub [0] rfl ?_
                  exact J118 _ h
                · have h := zB_neg c36 h
                  refine V_iload_n 2 Z rfl rfl (show decode cX6_copy 83 = .ok (.iload_n 2, 1) by decide +kernel) ?_
                  refine V_i2l Z (show decode cX6_copy 84 = .ok (.i2l, 1) by decide +kernel) ?_
                  refine V_iload 5 Z rfl (show decode cX6_copy 85 = .ok (.iload 5, 2) by decide +kernel) ?_
                  refine V_i2l Z (show decode cX6_copy 87 = .ok (.i2l, 1) by decide +kernel) ?_
                  refine V_ladd Z (show decode cX6_copy 88 = .ok (.ladd, 1) by decide +kernel) ?_
                  refine V_aload_n 0 Z rfl rfl (show decode cX6_copy 89 = .ok (.aload_n 0, 1) by decide +kernel) ?_
                  refine V_getR 19 58 Z zc5 (by decide) rfl (by decide) rfl (by decide) ⟨rfl, rfl, rfl⟩ w785 (show decode cX6_copy 90 = .ok (.getfield 57, 3) by decide +kernel) ?_
                  refine V_iload_n 1 Z rfl rfl (show decode cX6_copy 93 = .ok (.iload_n 1, 1) by decide +kernel) ?_
                  obtain ⟨v37, e38, h⟩ := zB_bind h
                  refine V_iald Z e38 (show decode cX6_copy 94 = .ok (.iaload, 1) by decide +kernel) ?_
                  refine V_i2l Z (show decode cX6_copy 95 = .ok (.i2l, 1) by decide +kernel) ?_
                  refine V_lcmp Z (show decode cX6_copy 96 = .ok (.lcmp, 1) by decide +kernel) ?_
                  refine V_if_gt 118 Z (by decide) (show decode cX6_copy 97 = .ok (.ifCond .gt 21, 3) by decide +kernel) (fun c39 => ?_) (fun c39 => ?_)
                  · have h := zB_pos c39 h
                    refine V_sub [0] rfl ?_
                    exact J118 _ h
                  · have h := zB_neg c39 h
                    refine V_iload 4 Z rfl (show decode cX6_copy 100 = .ok (.iload 4, 2) by decide +kernel) ?_
                    refine V_i2l Z (show decode cX6_copy 102 = .ok (.i2l, 1) by decide +kernel) ?_
                    refine V_iload 5 Z rfl (show decode cX6_copy 103 = .ok (.iload 5, 2) by decide +kernel) ?_
                    refine V_i2l Z (show decode cX6_copy 105 = .ok (.i2l, 1) by decide +kernel) ?_
                    refine V_ladd Z (show decode cX6_copy 106 = .ok (.ladd, 1) by decide +kernel) ?_
                    refine V_aload_n 0 Z rfl rfl (show decode cX6_copy 107 = .ok (.aload_n 0, 1) by decide +kernel) ?_
                    refine V_getR 19 58 Z zc5 (by decide) rfl (by decide) rfl (by decide) ⟨rfl, rfl, rfl⟩ w785 (show decode cX6_copy 108 = .ok (.getfield 57, 3) by decide +kernel) ?_
                    refine V_iload_n 3 Z rfl rfl (show decode cX6_copy 111 = .ok (.iload_n 3, 1) by decide +kernel) ?_
                    obtain ⟨v40, e41, h⟩ := zB_bind h
                    refine V_iald Z e41 (show decode cX6_copy 112 = .ok (.iaload, 1) by decide +kernel) ?_
                    refine V_i2l Z (show decode cX6_copy 113 = .ok (.i2l, 1) by decide +kernel) ?_
                    refine V_lcmp Z (show decode cX6_copy 114 = .ok (.lcmp, 1) by decide +kernel) ?_
                    refine V_if_le 125 Z (by decide) (show decode cX6_copy 115 = .ok (.ifCond .le 10, 3) by decide +kernel) (fun c42 => ?_) (fun c42 => ?_)
                    · have h := zB_pos c42 h
                      refine V_iconst 0 (by decide) Z (show decode cX6_copy 125 = .ok (.iconst 0, 1) by decide +kernel) ?_
                      refine V_istore [(6, Value.int 0), (0, Value.ref 47), (1, Value.int x1), (2, Value.int x2), (3, Value.int x3), (4, Value.int x4), (5, Value.int x5)] Z (by decide) rfl (show decode cX6_copy 126 = .ok (.istore 6, 2) by decide +kernel) ?_
                      refine V_sub [1, 2, 3, 4, 5, 6, 0] rfl ?_
                      refine zIter_loop' (K := some) (fun s : Int32 × zM => VV E 7 128 [(0, Value.ref 47), (1, Value.int x1), (2, Value.int x2), (3, Value.int x3), (4, Value.int x4), (5, Value.int x5), (6, Value.int s.1)] [] s.2) (fun K1 s c1_i c1_r h => ?_) _ _ h
                      obtain ⟨y6, M⟩ := s
                      change VV E 7 128 [(0, Value.ref 47), (1, Value.int x1), (2, Value.int x2), (3, Value.int x3), (4, Value.int x4), (5, Value.int x5), (6, Value.int y6)] [] M
                      refine V_iload 6 Z rfl (show decode cX6_copy 128 = .ok (.iload 6, 2) by decide +kernel) ?_
                      refine V_iload 5 Z rfl (show decode cX6_copy 130 = .ok (.iload 5, 2) by decide +kernel) ?_
                      refine V_icmp_ge 162 Z (by decide) (show decode cX6_copy 132 = .ok (.if_icmp .ge 30, 3) by decide +kernel) (fun c43 => ?_) (fun c43 => ?_)
                      · have h := zB_pos c43 h
                        refine V_sub [0, 3, 4, 5] rfl ?_
                        have h := zB_lift c1_r h
                        exact J162 _ _ _ _ h
                      · have h := zB_neg c43 h
                        refine V_aload_n 0 Z rfl rfl (show decode cX6_copy 135 = .ok (.aload_n 0, 1) by decide +kernel) ?_
                        refine V_getR 21 60 Z zc5 (by decide) rfl (by decide) rfl (by decide) ⟨rfl, rfl, rfl⟩ w787 (show decode cX6_copy 136 = .ok (.getfield 63, 3) by decide +kernel) ?_
                        refine V_iload 6 Z rfl (show decode cX6_copy 139 = .ok (.iload 6, 2) by decide +kernel) ?_
                        refine V_aload_n 0 Z rfl rfl (show decode cX6_copy 141 = .ok (.aload_n 0, 1) by decide +kernel) ?_
                        refine V_getR 20 59 Z zc5 (by decide) rfl (by decide) rfl (by decide) ⟨rfl, rfl, rfl⟩ w786 (show decode cX6_copy 142 = .ok (.getfield 60, 3) by decide +kernel) ?_
                        refine V_bipush 40 (by decide) Z (show decode cX6_copy 145 = .ok (.bipush 40, 2) by decide +kernel) ?_
                        refine V_iload_n 1 Z rfl rfl (show decode cX6_copy 147 = .ok (.iload_n 1, 1) by decide +kernel) ?_
                        refine V_imul Z (show decode cX6_copy 148 = .ok (.imul, 1) by decide +kernel) ?_
                        refine V_iload_n 2 Z rfl rfl (show decode cX6_copy 149 = .ok (.iload_n 2, 1) by decide +kernel) ?_
                        refine V_iadd Z (show decode cX6_copy 150 = .ok (.iadd, 1) by decide +kernel) ?_
                        refine V_iload 6 Z rfl (show decode cX6_copy 151 = .ok (.iload 6, 2) by decide +kernel) ?_
                        refine V_iadd Z (show decode cX6_copy 153 = .ok (.iadd, 1) by decide +kernel) ?_
                        obtain ⟨v44, e45, h⟩ := zB_bind h
                        refine V_iald Z e45 (show decode cX6_copy 154 = .ok (.iaload, 1) by decide +kernel) ?_
                        obtain ⟨M46, e47, h⟩ := zB_bind h
                        refine V_iast Z e47 (show decode cX6_copy 155 = .ok (.iastore, 1) by decide +kernel) ?_
                        obtain ⟨n48, e49, h⟩ := zB_let h
                        refine V_iinck 1 1 6 n48 [(6, Value.int n48), (0, Value.ref 47), (1, Value.int x1), (2, Value.int x2), (3, Value.int x3), (4, Value.int x4), (5, Value.int x5)] Z (by decide) (by decide) rfl e49 rfl (show decode cX6_copy 156 = .ok (.iinc 6 1, 3) by decide +kernel) ?_
                        refine V_goto 128 Z (by decide) (show decode cX6_copy 159 = .ok (.goto (-31), 3) by decide +kernel) ?_
                        refine V_sub [1, 2, 3, 4, 5, 6, 0] rfl ?_
                        exact c1_i _ h
                    · have h := zB_neg c42 h
                      refine V_sub [0] rfl ?_
                      exact J118 _ h
          · have h := zB_neg c33 h
            refine V_aload_n 0 Z rfl rfl (show decode cX6_copy 61 = .ok (.aload_n 0, 1) by decide +kernel) ?_
            refine V_ldcw (-1000003) Z w1229 (show decode cX6_copy 62 = .ok (.ldc_w 321, 3) by decide +kernel) ?_
            obtain ⟨⟨v51, M52⟩, e50, h⟩ := zB_bind h
            refine V_callV (rest := []) 1 Z (ok_X6_finding  e50) cd_X6_finding zc5 (by decide) rfl w844 w846 w17 rfl (show decode cX6_copy 65 = .ok (.invokevirtual 72, 3) by decide +kernel) rfl ?_
            exact V_iretM Z hE h (show decode cX6_copy 68 = .ok (.ireturn, 1) by decide +kernel)
        · have h := zB_pos c28 h
          refine V_sub [0] rfl ?_
          exact J39 _ h
    · have h := zB_pos c22 h
      refine V_sub [0] rfl ?_
      exact J14 _ h
def f_X6_load_l20 (y1 : Int32) : Int32 × zM → Option ((Int32 × zM) ⊕ (Int32 × zM))
  | (y2, M) =>
    (zrd M 58 y1).bind fun (v4 : Int32) =>
    if v4 ≤ y2 then
      some (.inr ((y2, M)))
    else
      (f_X6_isPerson y2 M).bind fun (v8 : Int32) =>
      if v8 = 0 then
        some (.inr ((y2, M)))
      else
        (zrd M 59 ((40 * y1) + y2)).bind fun (v10 : Int32) =>
        (f_X6_isPurse v10 M).bind fun (v13 : Int32) =>
        if v13 = 0 then
          some (.inr ((y2, M)))
        else
          (zrd M 59 ((40 * y1) + y2)).bind fun (v15 : Int32) =>
          (zwr M 48 (55 + y2) v15).bind fun (M17 : zM) =>
          (some (y2 + 1)).bind fun (n19 : Int32) =>
          some (.inl ((n19, M17)))
def f_X6_load (x1 : Int32) (M : zM) : Option (Int32 × zM) :=
  (f_X6_lacks x1 M).bind fun (v2 : Int32) =>
  if v2 = 0 then
    zIter (f_X6_load_l20 x1) 1000 (0, M)
  else
    (f_X6_lacks x1 M).bind fun (v22 : Int32) =>
    (f_X6_finding v22 M).bind fun ((v24, M25) : Int32 × zM) =>
    some ((v24, M25))
theorem cd_X6_load : zCd yX6_load cX6_load 3 (some .int) 1 := ⟨w1249, w69, ⟨by decide, by decide⟩, by decide +kernel⟩
set_option maxHeartbeats 4000000 in
set_option maxRecDepth 20000 in
theorem ok_X6_load {x1 : Int32} {M : zM} {y : Int32 × zM}  (h : f_X6_load x1 M = some y) : zRuns yX6_load cX6_load 3 (some .int) 3 63 [.ref 47, .int x1] M (some (.int y.1)) y.2 := by
  refine zRuns_of (by decide +kernel) (Nat.le_of_ble_eq_true rfl) (fun E Z hE => ?_)
  have h := zB_top h
  change VV E 3 0 [(0, Value.ref 47), (1, Value.int x1)] [] M
  refine V_aload_n 0 Z rfl rfl (show decode cX6_load 0 = .ok (.aload_n 0, 1) by decide +kernel) ?_
  refine V_iload_n 1 Z rfl rfl (show decode cX6_load 1 = .ok (.iload_n 1, 1) by decide +kernel) ?_
  obtain ⟨v2, e1, h⟩ := zB_bind h
  refine V_callV (rest := []) 1 Z (ok_X6_lacks  e1) cd_X6_lacks zc5 (by decide) rfl w1115 w1117 w49 rfl (show decode cX6_load 2 = .ok (.invokevirtual 226, 3) by decide +kernel) rfl ?_
  refine V_if_eq 18 Z (by decide) (show decode cX6_load 5 = .ok (.ifCond .eq 13, 3) by decide +kernel) (fun c3 => ?_) (fun c3 => ?_)
  · have h := zB_pos c3 h
    refine V_iconst 0 (by decide) Z (show decode cX6_load 18 = .ok (.iconst 0, 1) by decide +kernel) ?_
    refine V_istore_n [(2, Value.int 0), (0, Value.ref 47), (1, Value.int x1)] Z (by decide) rfl rfl (show decode cX6_load 19 = .ok (.istore_n 2, 1) by decide +kernel) ?_
    refine V_sub [1, 2, 0] rfl ?_
    refine zIter_loop' (K := some) (fun s : Int32 × zM => VV E 3 20 [(0, Value.ref 47), (1, Value.int x1), (2, Value.int s.1)] [] s.2) (fun K1 s c1_i c1_r h => ?_) _ _ h
    obtain ⟨y2, M⟩ := s
    change VV E 3 20 [(0, Value.ref 47), (1, Value.int x1), (2, Value.int y2)] [] M
    rw [f_X6_load_l20] at h
    refine V_iload_n 2 Z rfl rfl (show decode cX6_load 20 = .ok (.iload_n 2, 1) by decide +kernel) ?_
    refine V_aload_n 0 Z rfl rfl (show decode cX6_load 21 = .ok (.aload_n 0, 1) by decide +kernel) ?_
    refine V_getR 19 58 Z zc5 (by decide) rfl (by decide) rfl (by decide) ⟨rfl, rfl, rfl⟩ w785 (show decode cX6_load 22 = .ok (.getfield 57, 3) by decide +kernel) ?_
    refine V_iload_n 1 Z rfl rfl (show decode cX6_load 25 = .ok (.iload_n 1, 1) by decide +kernel) ?_
    obtain ⟨v4, e5, h⟩ := zB_bind h
    refine V_iald Z e5 (show decode cX6_load 26 = .ok (.iaload, 1) by decide +kernel) ?_
    refine V_icmp_ge 80 Z (by decide) (show decode cX6_load 27 = .ok (.if_icmp .ge 53, 3) by decide +kernel) (fun c6 => ?_) (fun c6 => ?_)
    · have h := zB_pos c6 h
      refine V_iload_n 2 Z rfl rfl (show decode cX6_load 80 = .ok (.iload_n 2, 1) by decide +kernel) ?_
      have h := c1_r _ h
      exact V_iretM Z hE h (show decode cX6_load 81 = .ok (.ireturn, 1) by decide +kernel)
    · have h := zB_neg c6 h
      refine V_iload_n 2 Z rfl rfl (show decode cX6_load 30 = .ok (.iload_n 2, 1) by decide +kernel) ?_
      obtain ⟨v8, e7, h⟩ := zB_bind h
      refine V_callS (rest := []) 1 Z (ok_X6_isPerson  e7) cd_X6_isPerson w908 w909 rfl (show decode cX6_load 31 = .ok (.invokestatic 125, 3) by decide +kernel) rfl ?_
      refine V_if_eq 80 Z (by decide) (show decode cX6_load 34 = .ok (.ifCond .eq 46, 3) by decide +kernel) (fun c9 => ?_) (fun c9 => ?_)
      · have h := zB_pos c9 h
        refine V_iload_n 2 Z rfl rfl (show decode cX6_load 80 = .ok (.iload_n 2, 1) by decide +kernel) ?_
        have h := c1_r _ h
        exact V_iretM Z hE h (show decode cX6_load 81 = .ok (.ireturn, 1) by decide +kernel)
      · have h := zB_neg c9 h
        refine V_aload_n 0 Z rfl rfl (show decode cX6_load 37 = .ok (.aload_n 0, 1) by decide +kernel) ?_
        refine V_getR 20 59 Z zc5 (by decide) rfl (by decide) rfl (by decide) ⟨rfl, rfl, rfl⟩ w786 (show decode cX6_load 38 = .ok (.getfield 60, 3) by decide +kernel) ?_
        refine V_bipush 40 (by decide) Z (show decode cX6_load 41 = .ok (.bipush 40, 2) by decide +kernel) ?_
        refine V_iload_n 1 Z rfl rfl (show decode cX6_load 43 = .ok (.iload_n 1, 1) by decide +kernel) ?_
        refine V_imul Z (show decode cX6_load 44 = .ok (.imul, 1) by decide +kernel) ?_
        refine V_iload_n 2 Z rfl rfl (show decode cX6_load 45 = .ok (.iload_n 2, 1) by decide +kernel) ?_
        refine V_iadd Z (show decode cX6_load 46 = .ok (.iadd, 1) by decide +kernel) ?_
        obtain ⟨v10, e11, h⟩ := zB_bind h
        refine V_iald Z e11 (show decode cX6_load 47 = .ok (.iaload, 1) by decide +kernel) ?_
        obtain ⟨v13, e12, h⟩ := zB_bind h
        refine V_callS (rest := []) 1 Z (ok_X6_isPurse  e12) cd_X6_isPurse w905 w906 rfl (show decode cX6_load 48 = .ok (.invokestatic 122, 3) by decide +kernel) rfl ?_
        refine V_if_eq 80 Z (by decide) (show decode cX6_load 51 = .ok (.ifCond .eq 29, 3) by decide +kernel) (fun c14 => ?_) (fun c14 => ?_)
        · have h := zB_pos c14 h
          refine V_iload_n 2 Z rfl rfl (show decode cX6_load 80 = .ok (.iload_n 2, 1) by decide +kernel) ?_
          have h := c1_r _ h
          exact V_iretM Z hE h (show decode cX6_load 81 = .ok (.ireturn, 1) by decide +kernel)
        · have h := zB_neg c14 h
          refine V_aload_n 0 Z rfl rfl (show decode cX6_load 54 = .ok (.aload_n 0, 1) by decide +kernel) ?_
          refine V_getR 0 48 Z zc5 (by decide) rfl (by decide) rfl (by decide) ⟨rfl, rfl, rfl⟩ w766 (show decode cX6_load 55 = .ok (.getfield 9, 3) by decide +kernel) ?_
          refine V_bipush 55 (by decide) Z (show decode cX6_load 58 = .ok (.bipush 55, 2) by decide +kernel) ?_
          refine V_iload_n 2 Z rfl rfl (show decode cX6_load 60 = .ok (.iload_n 2, 1) by decide +kernel) ?_
          refine V_iadd Z (show decode cX6_load 61 = .ok (.iadd, 1) by decide +kernel) ?_
          refine V_aload_n 0 Z rfl rfl (show decode cX6_load 62 = .ok (.aload_n 0, 1) by decide +kernel) ?_
          refine V_getR 20 59 Z zc5 (by decide) rfl (by decide) rfl (by decide) ⟨rfl, rfl, rfl⟩ w786 (show decode cX6_load 63 = .ok (.getfield 60, 3) by decide +kernel) ?_
          refine V_bipush 40 (by decide) Z (show decode cX6_load 66 = .ok (.bipush 40, 2) by decide +kernel) ?_
          refine V_iload_n 1 Z rfl rfl (show decode cX6_load 68 = .ok (.iload_n 1, 1) by decide +kernel) ?_
          refine V_imul Z (show decode cX6_load 69 = .ok (.imul, 1) by decide +kernel) ?_
          refine V_iload_n 2 Z rfl rfl (show decode cX6_load 70 = .ok (.iload_n 2, 1) by decide +kernel) ?_
          refine V_iadd Z (show decode cX6_load 71 = .ok (.iadd, 1) by decide +kernel) ?_
          obtain ⟨v15, e16, h⟩ := zB_bind h
          refine V_iald Z e16 (show decode cX6_load 72 = .ok (.iaload, 1) by decide +kernel) ?_
          obtain ⟨M17, e18, h⟩ := zB_bind h
          refine V_iast Z e18 (show decode cX6_load 73 = .ok (.iastore, 1) by decide +kernel) ?_
          obtain ⟨n19, e20, h⟩ := zB_let h
          refine V_iinck 1 1 2 n19 [(2, Value.int n19), (0, Value.ref 47), (1, Value.int x1)] Z (by decide) (by decide) rfl e20 rfl (show decode cX6_load 74 = .ok (.iinc 2 1, 3) by decide +kernel) ?_
          refine V_goto 20 Z (by decide) (show decode cX6_load 77 = .ok (.goto (-57), 3) by decide +kernel) ?_
          refine V_sub [1, 2, 0] rfl ?_
          exact c1_i _ h
  · have h := zB_neg c3 h
    refine V_aload_n 0 Z rfl rfl (show decode cX6_load 8 = .ok (.aload_n 0, 1) by decide +kernel) ?_
    refine V_aload_n 0 Z rfl rfl (show decode cX6_load 9 = .ok (.aload_n 0, 1) by decide +kernel) ?_
    refine V_iload_n 1 Z rfl rfl (show decode cX6_load 10 = .ok (.iload_n 1, 1) by decide +kernel) ?_
    obtain ⟨v22, e21, h⟩ := zB_bind h
    refine V_callV (rest := [_]) 1 Z (ok_X6_lacks  e21) cd_X6_lacks zc5 (by decide) rfl w1115 w1117 w49 rfl (show decode cX6_load 11 = .ok (.invokevirtual 226, 3) by decide +kernel) rfl ?_
    obtain ⟨⟨v24, M25⟩, e23, h⟩ := zB_bind h
    refine V_callV (rest := []) 1 Z (ok_X6_finding  e23) cd_X6_finding zc5 (by decide) rfl w844 w846 w17 rfl (show decode cX6_load 14 = .ok (.invokevirtual 72, 3) by decide +kernel) rfl ?_
    exact V_iretM Z hE h (show decode cX6_load 17 = .ok (.ireturn, 1) by decide +kernel)
def f_X6_judge_j78 (y1 : Int32) (y3 : Int32) (M : zM) : Option (Int32 × zM) :=
  (zrd M 58 y1).bind fun (v1 : Int32) =>
  if y3 = v1 then
    some ((0, M))
  else
    some (((1 + y3), M))
def f_X6_judge_l31 (y1 : Int32) (y2 : Int32) (M : zM) : Int32 → Option ((Int32) ⊕ (Int32 × zM))
  | y3 =>
    (zrd M 58 y1).bind fun (v12 : Int32) =>
    if v12 ≤ y3 then
      (f_X6_judge_j78 y1 y3 M).bind fun z => some (Sum.inr z)
    else
      if y2 < 0 then
        (f_X6_judge_j78 y1 y3 M).bind fun z => some (Sum.inr z)
      else
        (f_X6_isPerson y3 M).bind fun (v17 : Int32) =>
        if v17 = 0 then
          (f_X6_judge_j78 y1 y3 M).bind fun z => some (Sum.inr z)
        else
          (zrd M 59 ((40 * y1) + y3)).bind fun (v19 : Int32) =>
          (zrd M 52 y3).bind fun (v21 : Int32) =>
          if v19 = v21 then
            (some (y3 + 1)).bind fun (n24 : Int32) =>
            some (.inl (n24))
          else
            (f_X6_judge_j78 y1 y3 M).bind fun z => some (Sum.inr z)
def f_X6_judge (x1 : Int32) (M : zM) : Option (Int32 × zM) :=
  (f_X6_lacks x1 M).bind fun (v5 : Int32) =>
  if v5 = 0 then
    (zrd M 48 3).bind fun (v7 : Int32) =>
    (f_X6_drawBy v7 M).bind fun ((v10, M11) : Int32 × zM) =>
    zIter (f_X6_judge_l31 x1 v10 M11) 1000 (0 : Int32)
  else
    (f_X6_lacks x1 M).bind fun (v27 : Int32) =>
    (f_X6_finding v27 M).bind fun ((v29, M30) : Int32 × zM) =>
    some ((v29, M30))
theorem cd_X6_judge : zCd yX6_judge cX6_judge 4 (some .int) 1 := ⟨w1253, w69, ⟨by decide, by decide⟩, by decide +kernel⟩
set_option maxHeartbeats 4000000 in
set_option maxRecDepth 20000 in
theorem ok_X6_judge {x1 : Int32} {M : zM} {y : Int32 × zM}  (h : f_X6_judge x1 M = some y) : zRuns yX6_judge cX6_judge 4 (some .int) 5 112 [.ref 47, .int x1] M (some (.int y.1)) y.2 := by
  refine zRuns_of (by decide +kernel) (Nat.le_of_ble_eq_true rfl) (fun E Z hE => ?_)
  have h := zB_top h
  change VV E 4 0 [(0, Value.ref 47), (1, Value.int x1)] [] M
  have J78 : ∀ (y1 : Int32) (y3 : Int32) (M : zM), (f_X6_judge_j78 y1 y3 M).bind some = some y → VV E 4 78 [(0, Value.ref 47), (1, Value.int y1), (3, Value.int y3)] [] M := by
    intro y1 y3 M h
    refine V_iload_n 2 Z rfl rfl (show decode cX6_judge 78 = .ok (.iload_n 3, 1) by decide +kernel) ?_
    refine V_aload_n 0 Z rfl rfl (show decode cX6_judge 79 = .ok (.aload_n 0, 1) by decide +kernel) ?_
    refine V_getR 19 58 Z zc5 (by decide) rfl (by decide) rfl (by decide) ⟨rfl, rfl, rfl⟩ w785 (show decode cX6_judge 80 = .ok (.getfield 57, 3) by decide +kernel) ?_
    refine V_iload_n 1 Z rfl rfl (show decode cX6_judge 83 = .ok (.iload_n 1, 1) by decide +kernel) ?_
    obtain ⟨v1, e2, h⟩ := zB_bind h
    refine V_iald Z e2 (show decode cX6_judge 84 = .ok (.iaload, 1) by decide +kernel) ?_
    refine V_icmp_ne 92 Z (by decide) (show decode cX6_judge 85 = .ok (.if_icmp .ne 7, 3) by decide +kernel) (fun c3 => ?_) (fun c3 => ?_)
    · have h := zB_neg c3 h
      refine V_iconst 1 (by decide) Z (show decode cX6_judge 92 = .ok (.iconst 1, 1) by decide +kernel) ?_
      refine V_iload_n 2 Z rfl rfl (show decode cX6_judge 93 = .ok (.iload_n 3, 1) by decide +kernel) ?_
      refine V_iadd Z (show decode cX6_judge 94 = .ok (.iadd, 1) by decide +kernel) ?_
      exact V_iretM Z hE h (show decode cX6_judge 95 = .ok (.ireturn, 1) by decide +kernel)
    · have h := zB_pos c3 h
      refine V_iconst 0 (by decide) Z (show decode cX6_judge 88 = .ok (.iconst 0, 1) by decide +kernel) ?_
      refine V_goto 95 Z (by decide) (show decode cX6_judge 89 = .ok (.goto 6, 3) by decide +kernel) ?_
      exact V_iretM Z hE h (show decode cX6_judge 95 = .ok (.ireturn, 1) by decide +kernel)
  refine V_aload_n 0 Z rfl rfl (show decode cX6_judge 0 = .ok (.aload_n 0, 1) by decide +kernel) ?_
  refine V_iload_n 1 Z rfl rfl (show decode cX6_judge 1 = .ok (.iload_n 1, 1) by decide +kernel) ?_
  obtain ⟨v5, e4, h⟩ := zB_bind h
  refine V_callV (rest := []) 1 Z (ok_X6_lacks  e4) cd_X6_lacks zc5 (by decide) rfl w1115 w1117 w49 rfl (show decode cX6_judge 2 = .ok (.invokevirtual 226, 3) by decide +kernel) rfl ?_
  refine V_if_eq 18 Z (by decide) (show decode cX6_judge 5 = .ok (.ifCond .eq 13, 3) by decide +kernel) (fun c6 => ?_) (fun c6 => ?_)
  · have h := zB_pos c6 h
    refine V_aload_n 0 Z rfl rfl (show decode cX6_judge 18 = .ok (.aload_n 0, 1) by decide +kernel) ?_
    refine V_aload_n 0 Z rfl rfl (show decode cX6_judge 19 = .ok (.aload_n 0, 1) by decide +kernel) ?_
    refine V_getR 0 48 Z zc5 (by decide) rfl (by decide) rfl (by decide) ⟨rfl, rfl, rfl⟩ w766 (show decode cX6_judge 20 = .ok (.getfield 9, 3) by decide +kernel) ?_
    refine V_iconst 3 (by decide) Z (show decode cX6_judge 23 = .ok (.iconst 3, 1) by decide +kernel) ?_
    obtain ⟨v7, e8, h⟩ := zB_bind h
    refine V_iald Z e8 (show decode cX6_judge 24 = .ok (.iaload, 1) by decide +kernel) ?_
    obtain ⟨⟨v10, M11⟩, e9, h⟩ := zB_bind h
    refine V_callV (rest := []) 1 Z (ok_X6_drawBy  e9) cd_X6_drawBy zc5 (by decide) rfl w950 w952 w31 rfl (show decode cX6_judge 25 = .ok (.invokevirtual 151, 3) by decide +kernel) rfl ?_
    refine V_istore_n [(2, Value.int v10), (0, Value.ref 47), (1, Value.int x1)] Z (by decide) rfl rfl (show decode cX6_judge 28 = .ok (.istore_n 2, 1) by decide +kernel) ?_
    refine V_iconst 0 (by decide) Z (show decode cX6_judge 29 = .ok (.iconst 0, 1) by decide +kernel) ?_
    refine V_istore_n [(3, Value.int 0), (2, Value.int v10), (0, Value.ref 47), (1, Value.int x1)] Z (by decide) rfl rfl (show decode cX6_judge 30 = .ok (.istore_n 3, 1) by decide +kernel) ?_
    refine V_sub [2, 3, 1, 0] rfl ?_
    refine zIter_loop' (K := some) (fun s : Int32 => VV E 4 31 [(0, Value.ref 47), (1, Value.int x1), (2, Value.int v10), (3, Value.int s)] [] M11) (fun K1 y3 c1_i c1_r h => ?_) _ _ h
    rw [f_X6_judge_l31] at h
    refine V_iload_n 3 Z rfl rfl (show decode cX6_judge 31 = .ok (.iload_n 3, 1) by decide +kernel) ?_
    refine V_aload_n 0 Z rfl rfl (show decode cX6_judge 32 = .ok (.aload_n 0, 1) by decide +kernel) ?_
    refine V_getR 19 58 Z zc5 (by decide) rfl (by decide) rfl (by decide) ⟨rfl, rfl, rfl⟩ w785 (show decode cX6_judge 33 = .ok (.getfield 57, 3) by decide +kernel) ?_
    refine V_iload_n 1 Z rfl rfl (show decode cX6_judge 36 = .ok (.iload_n 1, 1) by decide +kernel) ?_
    obtain ⟨v12, e13, h⟩ := zB_bind h
    refine V_iald Z e13 (show decode cX6_judge 37 = .ok (.iaload, 1) by decide +kernel) ?_
    refine V_icmp_ge 78 Z (by decide) (show decode cX6_judge 38 = .ok (.if_icmp .ge 40, 3) by decide +kernel) (fun c14 => ?_) (fun c14 => ?_)
    · have h := zB_pos c14 h
      refine V_sub [0, 1, 3] rfl ?_
      have h := zB_lift c1_r h
      exact J78 _ _ _ h
    · have h := zB_neg c14 h
      refine V_iload_n 2 Z rfl rfl (show decode cX6_judge 41 = .ok (.iload_n 2, 1) by decide +kernel) ?_
      refine V_if_lt 78 Z (by decide) (show decode cX6_judge 42 = .ok (.ifCond .lt 36, 3) by decide +kernel) (fun c15 => ?_) (fun c15 => ?_)
      · have h := zB_pos c15 h
        refine V_sub [0, 1, 3] rfl ?_
        have h := zB_lift c1_r h
        exact J78 _ _ _ h
      · have h := zB_neg c15 h
        refine V_iload_n 3 Z rfl rfl (show decode cX6_judge 45 = .ok (.iload_n 3, 1) by decide +kernel) ?_
        obtain ⟨v17, e16, h⟩ := zB_bind h
        refine V_callS (rest := []) 1 Z (ok_X6_isPerson  e16) cd_X6_isPerson w908 w909 rfl (show decode cX6_judge 46 = .ok (.invokestatic 125, 3) by decide +kernel) rfl ?_
        refine V_if_eq 78 Z (by decide) (show decode cX6_judge 49 = .ok (.ifCond .eq 29, 3) by decide +kernel) (fun c18 => ?_) (fun c18 => ?_)
        · have h := zB_pos c18 h
          refine V_sub [0, 1, 3] rfl ?_
          have h := zB_lift c1_r h
          exact J78 _ _ _ h
        · have h := zB_neg c18 h
          refine V_aload_n 0 Z rfl rfl (show decode cX6_judge 52 = .ok (.aload_n 0, 1) by decide +kernel) ?_
          refine V_getR 20 59 Z zc5 (by decide) rfl (by decide) rfl (by decide) ⟨rfl, rfl, rfl⟩ w786 (show decode cX6_judge 53 = .ok (.getfield 60, 3) by decide +kernel) ?_
          refine V_bipush 40 (by decide) Z (show decode cX6_judge 56 = .ok (.bipush 40, 2) by decide +kernel) ?_
          refine V_iload_n 1 Z rfl rfl (show decode cX6_judge 58 = .ok (.iload_n 1, 1) by decide +kernel) ?_
          refine V_imul Z (show decode cX6_judge 59 = .ok (.imul, 1) by decide +kernel) ?_
          refine V_iload_n 3 Z rfl rfl (show decode cX6_judge 60 = .ok (.iload_n 3, 1) by decide +kernel) ?_
          refine V_iadd Z (show decode cX6_judge 61 = .ok (.iadd, 1) by decide +kernel) ?_
          obtain ⟨v19, e20, h⟩ := zB_bind h
          refine V_iald Z e20 (show decode cX6_judge 62 = .ok (.iaload, 1) by decide +kernel) ?_
          refine V_aload_n 0 Z rfl rfl (show decode cX6_judge 63 = .ok (.aload_n 0, 1) by decide +kernel) ?_
          refine V_getR 5 52 Z zc5 (by decide) rfl (by decide) rfl (by decide) ⟨rfl, rfl, rfl⟩ w771 (show decode cX6_judge 64 = .ok (.getfield 22, 3) by decide +kernel) ?_
          refine V_iload_n 3 Z rfl rfl (show decode cX6_judge 67 = .ok (.iload_n 3, 1) by decide +kernel) ?_
          obtain ⟨v21, e22, h⟩ := zB_bind h
          refine V_iald Z e22 (show decode cX6_judge 68 = .ok (.iaload, 1) by decide +kernel) ?_
          refine V_icmp_ne 78 Z (by decide) (show decode cX6_judge 69 = .ok (.if_icmp .ne 9, 3) by decide +kernel) (fun c23 => ?_) (fun c23 => ?_)
          · have h := zB_neg c23 h
            refine V_sub [0, 1, 3] rfl ?_
            have h := zB_lift c1_r h
            exact J78 _ _ _ h
          · have h := zB_pos c23 h
            obtain ⟨n24, e25, h⟩ := zB_let h
            refine V_iinck 1 1 3 n24 [(3, Value.int n24), (0, Value.ref 47), (1, Value.int x1), (2, Value.int v10)] Z (by decide) (by decide) rfl e25 rfl (show decode cX6_judge 72 = .ok (.iinc 3 1, 3) by decide +kernel) ?_
            refine V_goto 31 Z (by decide) (show decode cX6_judge 75 = .ok (.goto (-44), 3) by decide +kernel) ?_
            refine V_sub [1, 2, 3, 0] rfl ?_
            exact c1_i _ h
  · have h := zB_neg c6 h
    refine V_aload_n 0 Z rfl rfl (show decode cX6_judge 8 = .ok (.aload_n 0, 1) by decide +kernel) ?_
    refine V_aload_n 0 Z rfl rfl (show decode cX6_judge 9 = .ok (.aload_n 0, 1) by decide +kernel) ?_
    refine V_iload_n 1 Z rfl rfl (show decode cX6_judge 10 = .ok (.iload_n 1, 1) by decide +kernel) ?_
    obtain ⟨v27, e26, h⟩ := zB_bind h
    refine V_callV (rest := [_]) 1 Z (ok_X6_lacks  e26) cd_X6_lacks zc5 (by decide) rfl w1115 w1117 w49 rfl (show decode cX6_judge 11 = .ok (.invokevirtual 226, 3) by decide +kernel) rfl ?_
    obtain ⟨⟨v29, M30⟩, e28, h⟩ := zB_bind h
    refine V_callV (rest := []) 1 Z (ok_X6_finding  e28) cd_X6_finding zc5 (by decide) rfl w844 w846 w17 rfl (show decode cX6_judge 14 = .ok (.invokevirtual 72, 3) by decide +kernel) rfl ?_
    exact V_iretM Z hE h (show decode cX6_judge 17 = .ok (.ireturn, 1) by decide +kernel)
def f_X6_image (M : zM) : Option (Int32 × zM) :=
  (f_X6_copyRow 48 49 M).bind fun (M2 : zM) =>
  (some (zU M2 47 3 1)).bind fun (M3 : zM) =>
  some ((1, M3))
theorem cd_X6_image : zCd yX6_image cX6_image 1 (some .int) 0 := ⟨w1257, w69, ⟨by decide, by decide⟩, by decide +kernel⟩
set_option maxHeartbeats 4000000 in
set_option maxRecDepth 20000 in
theorem ok_X6_image {M : zM} {y : Int32 × zM}  (h : f_X6_image  M = some y) : zRuns yX6_image cX6_image 1 (some .int) 1 22 [.ref 47] M (some (.int y.1)) y.2 := by
  refine zRuns_of (by decide +kernel) (Nat.le_of_ble_eq_true rfl) (fun E Z hE => ?_)
  have h := zB_top h
  change VV E 1 0 [(0, Value.ref 47)] [] M
  refine V_aload_n 0 Z rfl rfl (show decode cX6_image 0 = .ok (.aload_n 0, 1) by decide +kernel) ?_
  refine V_getR 0 48 Z zc5 (by decide) rfl (by decide) rfl (by decide) ⟨rfl, rfl, rfl⟩ w766 (show decode cX6_image 1 = .ok (.getfield 9, 3) by decide +kernel) ?_
  refine V_aload_n 0 Z rfl rfl (show decode cX6_image 4 = .ok (.aload_n 0, 1) by decide +kernel) ?_
  refine V_getR 1 49 Z zc5 (by decide) rfl (by decide) rfl (by decide) ⟨rfl, rfl, rfl⟩ w767 (show decode cX6_image 5 = .ok (.getfield 13, 3) by decide +kernel) ?_
  obtain ⟨M2, e1, h⟩ := zB_bind h
  refine V_callS (rest := []) 2 Z (ok_X6_copyRow  e1) cd_X6_copyRow w999 w1000 rfl (show decode cX6_image 8 = .ok (.invokestatic 67, 3) by decide +kernel) rfl ?_
  refine V_aload_n 0 Z rfl rfl (show decode cX6_image 11 = .ok (.aload_n 0, 1) by decide +kernel) ?_
  refine V_iconst 1 (by decide) Z (show decode cX6_image 12 = .ok (.iconst 1, 1) by decide +kernel) ?_
  obtain ⟨M3, e4, h⟩ := zB_let h
  refine V_putZ 3 Z zc5 (by decide) rfl (by decide) rfl ⟨rfl, rfl, rfl⟩ rfl rfl rfl w769 (show decode cX6_image 13 = .ok (.putfield 329, 3) by decide +kernel) ?_
  refine V_nmM e4 ?_
  refine V_iconst 1 (by decide) Z (show decode cX6_image 16 = .ok (.iconst 1, 1) by decide +kernel) ?_
  exact V_iretM Z hE h (show decode cX6_image 17 = .ok (.ireturn, 1) by decide +kernel)
def f_X6_undo (M : zM) : Option (Int32 × zM) :=
  if (M 47 3) = 0 then
    (f_X6_finding (-1000004) M).bind fun ((v7, M8) : Int32 × zM) =>
    some ((v7, M8))
  else
    (f_X6_copyRow 49 48 M).bind fun (M3 : zM) =>
    (zrd M3 48 0).bind fun (v4 : Int32) =>
    some ((v4, M3))
theorem cd_X6_undo : zCd yX6_undo cX6_undo 1 (some .int) 0 := ⟨w1261, w69, ⟨by decide, by decide⟩, by decide +kernel⟩
set_option maxHeartbeats 4000000 in
set_option maxRecDepth 20000 in
theorem ok_X6_undo {M : zM} {y : Int32 × zM}  (h : f_X6_undo  M = some y) : zRuns yX6_undo cX6_undo 1 (some .int) 1 22 [.ref 47] M (some (.int y.1)) y.2 := by
  refine zRuns_of (by decide +kernel) (Nat.le_of_ble_eq_true rfl) (fun E Z hE => ?_)
  have h := zB_top h
  change VV E 1 0 [(0, Value.ref 47)] [] M
  refine V_aload_n 0 Z rfl rfl (show decode cX6_undo 0 = .ok (.aload_n 0, 1) by decide +kernel) ?_
  refine V_getI 3 Z zc5 (by decide) rfl (by decide) rfl ⟨rfl, rfl, rfl⟩ w769 (show decode cX6_undo 1 = .ok (.getfield 329, 3) by decide +kernel) ?_
  refine V_if_ne 14 Z (by decide) (show decode cX6_undo 4 = .ok (.ifCond .ne 10, 3) by decide +kernel) (fun c1 => ?_) (fun c1 => ?_)
  · have h := zB_neg c1 h
    refine V_aload_n 0 Z rfl rfl (show decode cX6_undo 14 = .ok (.aload_n 0, 1) by decide +kernel) ?_
    refine V_getR 1 49 Z zc5 (by decide) rfl (by decide) rfl (by decide) ⟨rfl, rfl, rfl⟩ w767 (show decode cX6_undo 15 = .ok (.getfield 13, 3) by decide +kernel) ?_
    refine V_aload_n 0 Z rfl rfl (show decode cX6_undo 18 = .ok (.aload_n 0, 1) by decide +kernel) ?_
    refine V_getR 0 48 Z zc5 (by decide) rfl (by decide) rfl (by decide) ⟨rfl, rfl, rfl⟩ w766 (show decode cX6_undo 19 = .ok (.getfield 9, 3) by decide +kernel) ?_
    obtain ⟨M3, e2, h⟩ := zB_bind h
    refine V_callS (rest := []) 2 Z (ok_X6_copyRow  e2) cd_X6_copyRow w999 w1000 rfl (show decode cX6_undo 22 = .ok (.invokestatic 67, 3) by decide +kernel) rfl ?_
    refine V_aload_n 0 Z rfl rfl (show decode cX6_undo 25 = .ok (.aload_n 0, 1) by decide +kernel) ?_
    refine V_getR 0 48 Z zc5 (by decide) rfl (by decide) rfl (by decide) ⟨rfl, rfl, rfl⟩ w766 (show decode cX6_undo 26 = .ok (.getfield 9, 3) by decide +kernel) ?_
    refine V_iconst 0 (by decide) Z (show decode cX6_undo 29 = .ok (.iconst 0, 1) by decide +kernel) ?_
    obtain ⟨v4, e5, h⟩ := zB_bind h
    refine V_iald Z e5 (show decode cX6_undo 30 = .ok (.iaload, 1) by decide +kernel) ?_
    exact V_iretM Z hE h (show decode cX6_undo 31 = .ok (.ireturn, 1) by decide +kernel)
  · have h := zB_pos c1 h
    refine V_aload_n 0 Z rfl rfl (show decode cX6_undo 7 = .ok (.aload_n 0, 1) by decide +kernel) ?_
    refine V_ldc (-1000004) Z w1018 (show decode cX6_undo 8 = .ok (.ldc 71, 2) by decide +kernel) ?_
    obtain ⟨⟨v7, M8⟩, e6, h⟩ := zB_bind h
    refine V_callV (rest := []) 1 Z (ok_X6_finding  e6) cd_X6_finding zc5 (by decide) rfl w844 w846 w17 rfl (show decode cX6_undo 10 = .ok (.invokevirtual 72, 3) by decide +kernel) rfl ?_
    exact V_iretM Z hE h (show decode cX6_undo 13 = .ok (.ireturn, 1) by decide +kernel)
def f_X6_tear_j12 (s0 : Int32) (M : zM) : Option (Int32 × zM) :=
  (some (zU M 47 3 0)).bind fun (M1 : zM) =>
  some ((s0, M1))
def f_X6_tear (M : zM) : Option (Int32 × zM) :=
  if (M 47 3) = 0 then
    f_X6_tear_j12 0 M
  else
    f_X6_tear_j12 1 M
theorem cd_X6_tear : zCd yX6_tear cX6_tear 2 (some .int) 0 := ⟨w1265, w69, ⟨by decide, by decide⟩, by decide +kernel⟩
set_option maxHeartbeats 4000000 in
set_option maxRecDepth 20000 in
theorem ok_X6_tear {M : zM} {y : Int32 × zM}  (h : f_X6_tear  M = some y) : zRuns yX6_tear cX6_tear 2 (some .int) 0 0 [.ref 47] M (some (.int y.1)) y.2 := by
  refine zRuns_of (by decide +kernel) (Nat.le_of_ble_eq_true rfl) (fun E Z hE => ?_)
  have h := zB_top h
  change VV E 2 0 [(0, Value.ref 47)] [] M
  have J12 : ∀ (s0 : Int32) (M : zM), (f_X6_tear_j12 s0 M).bind some = some y → VV E 2 12 [(0, Value.ref 47)] [Value.int s0] M := by
    intro s0 M h
    refine V_istore_n [(1, Value.int s0), (0, Value.ref 47)] Z (by decide) rfl rfl (show decode cX6_tear 12 = .ok (.istore_n 1, 1) by decide +kernel) ?_
    refine V_aload_n 1 Z rfl rfl (show decode cX6_tear 13 = .ok (.aload_n 0, 1) by decide +kernel) ?_
    refine V_iconst 0 (by decide) Z (show decode cX6_tear 14 = .ok (.iconst 0, 1) by decide +kernel) ?_
    obtain ⟨M1, e2, h⟩ := zB_let h
    refine V_putZ 3 Z zc5 (by decide) rfl (by decide) rfl ⟨rfl, rfl, rfl⟩ rfl rfl rfl w769 (show decode cX6_tear 15 = .ok (.putfield 329, 3) by decide +kernel) ?_
    refine V_nmM e2 ?_
    refine V_iload_n 0 Z rfl rfl (show decode cX6_tear 18 = .ok (.iload_n 1, 1) by decide +kernel) ?_
    exact V_iretM Z hE h (show decode cX6_tear 19 = .ok (.ireturn, 1) by decide +kernel)
  refine V_aload_n 0 Z rfl rfl (show decode cX6_tear 0 = .ok (.aload_n 0, 1) by decide +kernel) ?_
  refine V_getI 3 Z zc5 (by decide) rfl (by decide) rfl ⟨rfl, rfl, rfl⟩ w769 (show decode cX6_tear 1 = .ok (.getfield 329, 3) by decide +kernel) ?_
  refine V_if_eq 11 Z (by decide) (show decode cX6_tear 4 = .ok (.ifCond .eq 7, 3) by decide +kernel) (fun c3 => ?_) (fun c3 => ?_)
  · have h := zB_pos c3 h
    refine V_iconst 0 (by decide) Z (show decode cX6_tear 11 = .ok (.iconst 0, 1) by decide +kernel) ?_
    exact J12 _ _ h
  · have h := zB_neg c3 h
    refine V_iconst 1 (by decide) Z (show decode cX6_tear 7 = .ok (.iconst 1, 1) by decide +kernel) ?_
    refine V_goto 12 Z (by decide) (show decode cX6_tear 8 = .ok (.goto 4, 3) by decide +kernel) ?_
    exact J12 _ _ h
