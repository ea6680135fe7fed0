/-! Generated walks: X0_pairsIn X0_isPeaceful X0_purses X0_debts X0_spotsHeld X0_lineUp X0_placeOf J6_bitCount_0f7a4 X5_lowest -/
def f_X0_pairsIn_l4 (t : Nat) (y1 : Int32) (M : zM) : Int32 × Int32 → Option ((Int32 × Int32) ⊕ (Int32))
  | (y2, y3) =>
    if (M t 0) ≤ y3 then
      some (.inr (y2))
    else
      (zrd M (t + 5) y3).bind fun (v2 : Int32) =>
      if ((y1 >>> (y3 &&& 31)) &&& 1) = 1 then
        if v2 < 0 then
          (some (y3 + 1)).bind fun (x8 : Int32) =>
          some (.inl ((y2, x8)))
        else
          if (M t 0) ≤ v2 then
            (some (y3 + 1)).bind fun (x11 : Int32) =>
            some (.inl ((y2, x11)))
          else
            if ((y1 >>> (v2 &&& 31)) &&& 1) = 1 then
              if y3 < v2 then
                (some (y2 + 1)).bind fun (x17 : Int32) =>
                (some (y3 + 1)).bind fun (x19 : Int32) =>
                some (.inl ((x17, x19)))
              else
                (zrd M (t + 5) v2).bind fun (v21 : Int32) =>
                if v21 = y3 then
                  (some (y3 + 1)).bind fun (x24 : Int32) =>
                  some (.inl ((y2, x24)))
                else
                  (some (y2 + 1)).bind fun (x26 : Int32) =>
                  (some (y3 + 1)).bind fun (x28 : Int32) =>
                  some (.inl ((x26, x28)))
            else
              (some (y3 + 1)).bind fun (x14 : Int32) =>
              some (.inl ((y2, x14)))
      else
        (some (y3 + 1)).bind fun (x5 : Int32) =>
        some (.inl ((y2, x5)))
def f_X0_pairsIn (t : Nat) (x1 : Int32) (M : zM) : Option (Int32) :=
  zIter (f_X0_pairsIn_l4 t x1 M) 1000 (0, 0)
theorem cd_X0_pairsIn : zCd yX0_pairsIn cX0_pairsIn 5 (some .int) 1 := ⟨w382, w65, ⟨by decide, by decide⟩, by decide +kernel⟩
set_option maxHeartbeats 4000000 in
set_option maxRecDepth 20000 in
theorem ok_X0_pairsIn {t : Nat} {x1 : Int32} {M : zM} {y : Int32} (ht : isH t) (h : f_X0_pairsIn t x1 M = some y) : zRuns yX0_pairsIn cX0_pairsIn 5 (some .int) 0 0 [.ref t, .int x1] M (some (.int y)) M := by
  refine zRuns_of (by decide +kernel) (Nat.le_of_ble_eq_true rfl) (fun E Z hE => ?_)
  have h := zB_top h
  change VV E 5 0 [(0, Value.ref t), (1, Value.int x1)] [] M
  refine V_iconst 0 (by decide) Z (show decode cX0_pairsIn 0 = .ok (.iconst 0, 1) by decide +kernel) ?_
  refine V_istore_n [(2, Value.int 0), (0, Value.ref t), (1, Value.int x1)] Z (by decide) rfl rfl (show decode cX0_pairsIn 1 = .ok (.istore_n 2, 1) by decide +kernel) ?_
  refine V_iconst 0 (by decide) Z (show decode cX0_pairsIn 2 = .ok (.iconst 0, 1) by decide +kernel) ?_
  refine V_istore_n [(3, Value.int 0), (2, Value.int 0), (0, Value.ref t), (1, Value.int x1)] Z (by decide) rfl rfl (show decode cX0_pairsIn 3 = .ok (.istore_n 3, 1) by decide +kernel) ?_
  refine V_sub [2, 3, 1, 0] rfl ?_
  refine zIter_loop' (K := some) (fun s : Int32 × Int32 => VV E 5 4 [(0, Value.ref t), (1, Value.int x1), (2, Value.int s.1), (3, Value.int s.2)] [] M) (fun K1 s c1_i c1_r h => ?_) _ _ h
  obtain ⟨y2, y3⟩ := s
  change VV E 5 4 [(0, Value.ref t), (1, Value.int x1), (2, Value.int y2), (3, Value.int y3)] [] M
  refine V_iload_n 3 Z rfl rfl (show decode cX0_pairsIn 4 = .ok (.iload_n 3, 1) by decide +kernel) ?_
  refine V_aload_n 0 Z rfl rfl (show decode cX0_pairsIn 5 = .ok (.aload_n 0, 1) by decide +kernel) ?_
  refine V_getI 0 Z zc0 (isH_lt ht) (shH ht) (by decide) rfl ⟨rfl, rfl, rfl⟩ w92 (show decode cX0_pairsIn 6 = .ok (.getfield 9, 3) by decide +kernel) ?_
  refine V_icmp_ge 79 Z (by decide) (show decode cX0_pairsIn 9 = .ok (.if_icmp .ge 70, 3) by decide +kernel) (fun c1 => ?_) (fun c1 => ?_)
  · have h := zB_pos c1 h
    refine V_iload_n 2 Z rfl rfl (show decode cX0_pairsIn 79 = .ok (.iload_n 2, 1) by decide +kernel) ?_
    have h := c1_r _ h
    exact V_iretP Z hE h (show decode cX0_pairsIn 80 = .ok (.ireturn, 1) by decide +kernel)
  · have h := zB_neg c1 h
    refine V_aload_n 0 Z rfl rfl (show decode cX0_pairsIn 12 = .ok (.aload_n 0, 1) by decide +kernel) ?_
    refine V_getR 5 (t + 5) Z zc0 (isH_lt ht) (shH ht) (by decide) rfl (isH_ne ht 5) ⟨rfl, rfl, rfl⟩ w103 (show decode cX0_pairsIn 13 = .ok (.getfield 28, 3) by decide +kernel) ?_
    refine V_iload_n 3 Z rfl rfl (show decode cX0_pairsIn 16 = .ok (.iload_n 3, 1) by decide +kernel) ?_
    obtain ⟨v2, e3, h⟩ := zB_bind h
    refine V_iald Z e3 (show decode cX0_pairsIn 17 = .ok (.iaload, 1) by decide +kernel) ?_
    refine V_istore [(4, Value.int v2), (0, Value.ref t), (1, Value.int x1), (2, Value.int y2), (3, Value.int y3)] Z (by decide) rfl (show decode cX0_pairsIn 18 = .ok (.istore 4, 2) by decide +kernel) ?_
    refine V_iload_n 2 Z rfl rfl (show decode cX0_pairsIn 20 = .ok (.iload_n 1, 1) by decide +kernel) ?_
    refine V_iload_n 4 Z rfl rfl (show decode cX0_pairsIn 21 = .ok (.iload_n 3, 1) by decide +kernel) ?_
    refine V_ishr Z (show decode cX0_pairsIn 22 = .ok (.ishr, 1) by decide +kernel) ?_
    refine V_iconst 1 (by decide) Z (show decode cX0_pairsIn 23 = .ok (.iconst 1, 1) by decide +kernel) ?_
    refine V_iand Z (show decode cX0_pairsIn 24 = .ok (.iand, 1) by decide +kernel) ?_
    refine V_iconst 1 (by decide) Z (show decode cX0_pairsIn 25 = .ok (.iconst 1, 1) by decide +kernel) ?_
    refine V_icmp_ne 73 Z (by decide) (show decode cX0_pairsIn 26 = .ok (.if_icmp .ne 47, 3) by decide +kernel) (fun c4 => ?_) (fun c4 => ?_)
    · have h := zB_neg c4 h
      obtain ⟨x5, e6, h⟩ := zB_let h
      refine V_iinc (n := 1) 4 x5 [(3, Value.int x5), (4, Value.int v2), (0, Value.ref t), (1, Value.int x1), (2, Value.int y2)] Z (by decide) rfl e6 rfl (show decode cX0_pairsIn 73 = .ok (.iinc 3 1, 3) by decide +kernel) ?_
      refine V_goto 4 Z (by decide) (show decode cX0_pairsIn 76 = .ok (.goto (-72), 3) by decide +kernel) ?_
      refine V_sub [2, 3, 4, 0] rfl ?_
      exact c1_i _ h
    · have h := zB_pos c4 h
      refine V_iload 0 Z rfl (show decode cX0_pairsIn 29 = .ok (.iload 4, 2) by decide +kernel) ?_
      refine V_if_lt 73 Z (by decide) (show decode cX0_pairsIn 31 = .ok (.ifCond .lt 42, 3) by decide +kernel) (fun c7 => ?_) (fun c7 => ?_)
      · have h := zB_pos c7 h
        obtain ⟨x8, e9, h⟩ := zB_let h
        refine V_iinc (n := 1) 4 x8 [(3, Value.int x8), (4, Value.int v2), (0, Value.ref t), (1, Value.int x1), (2, Value.int y2)] Z (by decide) rfl e9 rfl (show decode cX0_pairsIn 73 = .ok (.iinc 3 1, 3) by decide +kernel) ?_
        refine V_goto 4 Z (by decide) (show decode cX0_pairsIn 76 = .ok (.goto (-72), 3) by decide +kernel) ?_
        refine V_sub [2, 3, 4, 0] rfl ?_
        exact c1_i _ h
      · have h := zB_neg c7 h
        refine V_iload 0 Z rfl (show decode cX0_pairsIn 34 = .ok (.iload 4, 2) by decide +kernel) ?_
        refine V_aload_n 1 Z rfl rfl (show decode cX0_pairsIn 36 = .ok (.aload_n 0, 1) by decide +kernel) ?_
        refine V_getI 0 Z zc0 (isH_lt ht) (shH ht) (by decide) rfl ⟨rfl, rfl, rfl⟩ w92 (show decode cX0_pairsIn 37 = .ok (.getfield 9, 3) by decide +kernel) ?_
        refine V_icmp_ge 73 Z (by decide) (show decode cX0_pairsIn 40 = .ok (.if_icmp .ge 33, 3) by decide +kernel) (fun c10 => ?_) (fun c10 => ?_)
        · have h := zB_pos c10 h
          obtain ⟨x11, e12, h⟩ := zB_let h
          refine V_iinc (n := 1) 4 x11 [(3, Value.int x11), (4, Value.int v2), (0, Value.ref t), (1, Value.int x1), (2, Value.int y2)] Z (by decide) rfl e12 rfl (show decode cX0_pairsIn 73 = .ok (.iinc 3 1, 3) by decide +kernel) ?_
          refine V_goto 4 Z (by decide) (show decode cX0_pairsIn 76 = .ok (.goto (-72), 3) by decide +kernel) ?_
          refine V_sub [2, 3, 4, 0] rfl ?_
          exact c1_i _ h
        · have h := zB_neg c10 h
          refine V_iload_n 2 Z rfl rfl (show decode cX0_pairsIn 43 = .ok (.iload_n 1, 1) by decide +kernel) ?_
          refine V_iload 0 Z rfl (show decode cX0_pairsIn 44 = .ok (.iload 4, 2) by decide +kernel) ?_
          refine V_ishr Z (show decode cX0_pairsIn 46 = .ok (.ishr, 1) by decide +kernel) ?_
          refine V_iconst 1 (by decide) Z (show decode cX0_pairsIn 47 = .ok (.iconst 1, 1) by decide +kernel) ?_
          refine V_iand Z (show decode cX0_pairsIn 48 = .ok (.iand, 1) by decide +kernel) ?_
          refine V_iconst 1 (by decide) Z (show decode cX0_pairsIn 49 = .ok (.iconst 1, 1) by decide +kernel) ?_
          refine V_icmp_ne 73 Z (by decide) (show decode cX0_pairsIn 50 = .ok (.if_icmp .ne 23, 3) by decide +kernel) (fun c13 => ?_) (fun c13 => ?_)
          · have h := zB_neg c13 h
            obtain ⟨x14, e15, h⟩ := zB_let h
            refine V_iinc (n := 1) 4 x14 [(3, Value.int x14), (4, Value.int v2), (0, Value.ref t), (1, Value.int x1), (2, Value.int y2)] Z (by decide) rfl e15 rfl (show decode cX0_pairsIn 73 = .ok (.iinc 3 1, 3) by decide +kernel) ?_
            refine V_goto 4 Z (by decide) (show decode cX0_pairsIn 76 = .ok (.goto (-72), 3) by decide +kernel) ?_
            refine V_sub [2, 3, 4, 0] rfl ?_
            exact c1_i _ h
          · have h := zB_pos c13 h
            refine V_iload_n 4 Z rfl rfl (show decode cX0_pairsIn 53 = .ok (.iload_n 3, 1) by decide +kernel) ?_
            refine V_iload 0 Z rfl (show decode cX0_pairsIn 54 = .ok (.iload 4, 2) by decide +kernel) ?_
            refine V_icmp_lt 70 Z (by decide) (show decode cX0_pairsIn 56 = .ok (.if_icmp .lt 14, 3) by decide +kernel) (fun c16 => ?_) (fun c16 => ?_)
            · have h := zB_pos c16 h
              obtain ⟨x17, e18, h⟩ := zB_let h
              refine V_iinc (n := 1) 3 x17 [(2, Value.int x17), (4, Value.int v2), (0, Value.ref t), (1, Value.int x1), (3, Value.int y3)] Z (by decide) rfl e18 rfl (show decode cX0_pairsIn 70 = .ok (.iinc 2 1, 3) by decide +kernel) ?_
              obtain ⟨x19, e20, h⟩ := zB_let h
              refine V_iinc (n := 1) 4 x19 [(3, Value.int x19), (2, Value.int x17), (4, Value.int v2), (0, Value.ref t), (1, Value.int x1)] Z (by decide) rfl e20 rfl (show decode cX0_pairsIn 73 = .ok (.iinc 3 1, 3) by decide +kernel) ?_
              refine V_goto 4 Z (by decide) (show decode cX0_pairsIn 76 = .ok (.goto (-72), 3) by decide +kernel) ?_
              refine V_sub [3, 4, 1, 0] rfl ?_
              exact c1_i _ h
            · have h := zB_neg c16 h
              refine V_aload_n 1 Z rfl rfl (show decode cX0_pairsIn 59 = .ok (.aload_n 0, 1) by decide +kernel) ?_
              refine V_getR 5 (t + 5) Z zc0 (isH_lt ht) (shH ht) (by decide) rfl (isH_ne ht 5) ⟨rfl, rfl, rfl⟩ w103 (show decode cX0_pairsIn 60 = .ok (.getfield 28, 3) by decide +kernel) ?_
              refine V_iload 0 Z rfl (show decode cX0_pairsIn 63 = .ok (.iload 4, 2) by decide +kernel) ?_
              obtain ⟨v21, e22, h⟩ := zB_bind h
              refine V_iald Z e22 (show decode cX0_pairsIn 65 = .ok (.iaload, 1) by decide +kernel) ?_
              refine V_iload_n 4 Z rfl rfl (show decode cX0_pairsIn 66 = .ok (.iload_n 3, 1) by decide +kernel) ?_
              refine V_icmp_eq 73 Z (by decide) (show decode cX0_pairsIn 67 = .ok (.if_icmp .eq 6, 3) by decide +kernel) (fun c23 => ?_) (fun c23 => ?_)
              · have h := zB_pos c23 h
                obtain ⟨x24, e25, h⟩ := zB_let h
                refine V_iinc (n := 1) 4 x24 [(3, Value.int x24), (4, Value.int v2), (0, Value.ref t), (1, Value.int x1), (2, Value.int y2)] Z (by decide) rfl e25 rfl (show decode cX0_pairsIn 73 = .ok (.iinc 3 1, 3) by decide +kernel) ?_
                refine V_goto 4 Z (by decide) (show decode cX0_pairsIn 76 = .ok (.goto (-72), 3) by decide +kernel) ?_
                refine V_sub [2, 3, 4, 0] rfl ?_
                exact c1_i _ h
              · have h := zB_neg c23 h
                obtain ⟨x26, e27, h⟩ := zB_let h
                refine V_iinc (n := 1) 3 x26 [(2, Value.int x26), (4, Value.int v2), (0, Value.ref t), (1, Value.int x1), (3, Value.int y3)] Z (by decide) rfl e27 rfl (show decode cX0_pairsIn 70 = .ok (.iinc 2 1, 3) by decide +kernel) ?_
                obtain ⟨x28, e29, h⟩ := zB_let h
                refine V_iinc (n := 1) 4 x28 [(3, Value.int x28), (2, Value.int x26), (4, Value.int v2), (0, Value.ref t), (1, Value.int x1)] Z (by decide) rfl e29 rfl (show decode cX0_pairsIn 73 = .ok (.iinc 3 1, 3) by decide +kernel) ?_
                refine V_goto 4 Z (by decide) (show decode cX0_pairsIn 76 = .ok (.goto (-72), 3) by decide +kernel) ?_
                refine V_sub [3, 4, 1, 0] rfl ?_
                exact c1_i _ h
def f_X0_isPeaceful (t : Nat) (x1 : Int32) (M : zM) : Option (Int32) :=
  (f_X0_pairsIn t x1 M).bind fun (v2 : Int32) =>
  if v2 = 0 then
    some ((1 : Int32))
  else
    some ((0 : Int32))
theorem cd_X0_isPeaceful : zCd yX0_isPeaceful cX0_isPeaceful 2 (some .boolean) 1 := ⟨w484, w65, ⟨by decide, by decide⟩, by decide +kernel⟩
set_option maxHeartbeats 4000000 in
set_option maxRecDepth 20000 in
theorem ok_X0_isPeaceful {t : Nat} {x1 : Int32} {M : zM} {y : Int32} (ht : isH t) (h : f_X0_isPeaceful t x1 M = some y) : zRuns yX0_isPeaceful cX0_isPeaceful 2 (some .boolean) 1 24 [.ref t, .int x1] M (some (.int y)) M := by
  refine zRuns_of (by decide +kernel) (Nat.le_of_ble_eq_true rfl) (fun E Z hE => ?_)
  have h := zB_top h
  change VV E 2 0 [(0, Value.ref t), (1, Value.int x1)] [] M
  refine V_aload_n 0 Z rfl rfl (show decode cX0_isPeaceful 0 = .ok (.aload_n 0, 1) by decide +kernel) ?_
  refine V_iload_n 1 Z rfl rfl (show decode cX0_isPeaceful 1 = .ok (.iload_n 1, 1) by decide +kernel) ?_
  obtain ⟨v2, e1, h⟩ := zB_bind h
  refine V_callV (rest := []) 1 Z (ok_X0_pairsIn ht e1) cd_X0_pairsIn zc0 (isH_lt ht) (shH ht) w379 w380 w381 rfl (show decode cX0_isPeaceful 2 = .ok (.invokevirtual 74, 3) by decide +kernel) rfl ?_
  refine V_if_ne 12 Z (by decide) (show decode cX0_isPeaceful 5 = .ok (.ifCond .ne 7, 3) by decide +kernel) (fun c3 => ?_) (fun c3 => ?_)
  · have h := zB_neg c3 h
    refine V_iconst 0 (by decide) Z (show decode cX0_isPeaceful 12 = .ok (.iconst 0, 1) by decide +kernel) ?_
    exact V_zretP Z hE h rfl (show decode cX0_isPeaceful 13 = .ok (.ireturn, 1) by decide +kernel)
  · have h := zB_pos c3 h
    refine V_iconst 1 (by decide) Z (show decode cX0_isPeaceful 8 = .ok (.iconst 1, 1) by decide +kernel) ?_
    refine V_goto 13 Z (by decide) (show decode cX0_isPeaceful 9 = .ok (.goto 4, 3) by decide +kernel) ?_
    exact V_zretP Z hE h rfl (show decode cX0_isPeaceful 13 = .ok (.ireturn, 1) by decide +kernel)
def f_X0_purses_l4 (t : Nat) (M : zM) : Int32 × Int32 → Option ((Int32 × Int32) ⊕ (Int32))
  | (y1, y2) =>
    if 6 ≤ y2 then
      some (.inr (y1))
    else
      (zrd M (t + 6) y2).bind fun (v2 : Int32) =>
      (some ((y1 + v2))).bind fun (x4 : Int32) =>
      (some (y2 + 1)).bind fun (x6 : Int32) =>
      some (.inl ((x4, x6)))
def f_X0_purses (t : Nat) (M : zM) : Option (Int32) :=
  zIter (f_X0_purses_l4 t M) 1000 (0, 0)
theorem cd_X0_purses : zCd yX0_purses cX0_purses 3 (some .int) 0 := ⟨w386, w65, ⟨by decide, by decide⟩, by decide +kernel⟩
set_option maxHeartbeats 4000000 in
set_option maxRecDepth 20000 in
theorem ok_X0_purses {t : Nat} {M : zM} {y : Int32} (ht : isH t) (h : f_X0_purses t M = some y) : zRuns yX0_purses cX0_purses 3 (some .int) 0 0 [.ref t] M (some (.int y)) M := by
  refine zRuns_of (by decide +kernel) (Nat.le_of_ble_eq_true rfl) (fun E Z hE => ?_)
  have h := zB_top h
  change VV E 3 0 [(0, Value.ref t)] [] M
  refine V_iconst 0 (by decide) Z (show decode cX0_purses 0 = .ok (.iconst 0, 1) by decide +kernel) ?_
  refine V_istore_n [(1, Value.int 0), (0, Value.ref t)] Z (by decide) rfl rfl (show decode cX0_purses 1 = .ok (.istore_n 1, 1) by decide +kernel) ?_
  refine V_iconst 0 (by decide) Z (show decode cX0_purses 2 = .ok (.iconst 0, 1) by decide +kernel) ?_
  refine V_istore_n [(2, Value.int 0), (1, Value.int 0), (0, Value.ref t)] Z (by decide) rfl rfl (show decode cX0_purses 3 = .ok (.istore_n 2, 1) by decide +kernel) ?_
  refine V_sub [2, 1, 0] rfl ?_
  refine zIter_loop' (K := some) (fun s : Int32 × Int32 => VV E 3 4 [(0, Value.ref t), (1, Value.int s.1), (2, Value.int s.2)] [] M) (fun K1 s c1_i c1_r h => ?_) _ _ h
  obtain ⟨y1, y2⟩ := s
  change VV E 3 4 [(0, Value.ref t), (1, Value.int y1), (2, Value.int y2)] [] M
  refine V_iload_n 2 Z rfl rfl (show decode cX0_purses 4 = .ok (.iload_n 2, 1) by decide +kernel) ?_
  refine V_bipush 6 (by decide) Z (show decode cX0_purses 5 = .ok (.bipush 6, 2) by decide +kernel) ?_
  refine V_icmp_ge 25 Z (by decide) (show decode cX0_purses 7 = .ok (.if_icmp .ge 18, 3) by decide +kernel) (fun c1 => ?_) (fun c1 => ?_)
  · have h := zB_pos c1 h
    refine V_iload_n 1 Z rfl rfl (show decode cX0_purses 25 = .ok (.iload_n 1, 1) by decide +kernel) ?_
    have h := c1_r _ h
    exact V_iretP Z hE h (show decode cX0_purses 26 = .ok (.ireturn, 1) by decide +kernel)
  · have h := zB_neg c1 h
    refine V_iload_n 1 Z rfl rfl (show decode cX0_purses 10 = .ok (.iload_n 1, 1) by decide +kernel) ?_
    refine V_aload_n 0 Z rfl rfl (show decode cX0_purses 11 = .ok (.aload_n 0, 1) by decide +kernel) ?_
    refine V_getR 6 (t + 6) Z zc0 (isH_lt ht) (shH ht) (by decide) rfl (isH_ne ht 6) ⟨rfl, rfl, rfl⟩ w105 (show decode cX0_purses 12 = .ok (.getfield 31, 3) by decide +kernel) ?_
    refine V_iload_n 2 Z rfl rfl (show decode cX0_purses 15 = .ok (.iload_n 2, 1) by decide +kernel) ?_
    obtain ⟨v2, e3, h⟩ := zB_bind h
    refine V_iald Z e3 (show decode cX0_purses 16 = .ok (.iaload, 1) by decide +kernel) ?_
    refine V_iadd Z (show decode cX0_purses 17 = .ok (.iadd, 1) by decide +kernel) ?_
    obtain ⟨x4, e5, h⟩ := zB_let h
    refine V_nm e5 ?_
    refine V_istore_n [(1, Value.int x4), (0, Value.ref t), (2, Value.int y2)] Z (by decide) rfl rfl (show decode cX0_purses 18 = .ok (.istore_n 1, 1) by decide +kernel) ?_
    obtain ⟨x6, e7, h⟩ := zB_let h
    refine V_iinc (n := 1) 2 x6 [(2, Value.int x6), (1, Value.int x4), (0, Value.ref t)] Z (by decide) rfl e7 rfl (show decode cX0_purses 19 = .ok (.iinc 2 1, 3) by decide +kernel) ?_
    refine V_goto 4 Z (by decide) (show decode cX0_purses 22 = .ok (.goto (-18), 3) by decide +kernel) ?_
    refine V_sub [2, 1, 0] rfl ?_
    exact c1_i _ h
def f_X0_debts_l4 (t : Nat) (M : zM) : Int32 × Int32 → Option ((Int32 × Int32) ⊕ (Int32))
  | (y1, y2) =>
    if (M t 0) ≤ y2 then
      some (.inr (y1))
    else
      (zrd M (t + 4) y2).bind fun (v2 : Int32) =>
      (some ((y1 + v2))).bind fun (x4 : Int32) =>
      (some (y2 + 1)).bind fun (x6 : Int32) =>
      some (.inl ((x4, x6)))
def f_X0_debts (t : Nat) (M : zM) : Option (Int32) :=
  zIter (f_X0_debts_l4 t M) 1000 (0, 0)
theorem cd_X0_debts : zCd yX0_debts cX0_debts 3 (some .int) 0 := ⟨w395, w65, ⟨by decide, by decide⟩, by decide +kernel⟩
set_option maxHeartbeats 4000000 in
set_option maxRecDepth 20000 in
theorem ok_X0_debts {t : Nat} {M : zM} {y : Int32} (ht : isH t) (h : f_X0_debts t M = some y) : zRuns yX0_debts cX0_debts 3 (some .int) 0 0 [.ref t] M (some (.int y)) M := by
  refine zRuns_of (by decide +kernel) (Nat.le_of_ble_eq_true rfl) (fun E Z hE => ?_)
  have h := zB_top h
  change VV E 3 0 [(0, Value.ref t)] [] M
  refine V_iconst 0 (by decide) Z (show decode cX0_debts 0 = .ok (.iconst 0, 1) by decide +kernel) ?_
  refine V_istore_n [(1, Value.int 0), (0, Value.ref t)] Z (by decide) rfl rfl (show decode cX0_debts 1 = .ok (.istore_n 1, 1) by decide +kernel) ?_
  refine V_iconst 0 (by decide) Z (show decode cX0_debts 2 = .ok (.iconst 0, 1) by decide +kernel) ?_
  refine V_istore_n [(2, Value.int 0), (1, Value.int 0), (0, Value.ref t)] Z (by decide) rfl rfl (show decode cX0_debts 3 = .ok (.istore_n 2, 1) by decide +kernel) ?_
  refine V_sub [2, 1, 0] rfl ?_
  refine zIter_loop' (K := some) (fun s : Int32 × Int32 => VV E 3 4 [(0, Value.ref t), (1, Value.int s.1), (2, Value.int s.2)] [] M) (fun K1 s c1_i c1_r h => ?_) _ _ h
  obtain ⟨y1, y2⟩ := s
  change VV E 3 4 [(0, Value.ref t), (1, Value.int y1), (2, Value.int y2)] [] M
  refine V_iload_n 2 Z rfl rfl (show decode cX0_debts 4 = .ok (.iload_n 2, 1) by decide +kernel) ?_
  refine V_aload_n 0 Z rfl rfl (show decode cX0_debts 5 = .ok (.aload_n 0, 1) by decide +kernel) ?_
  refine V_getI 0 Z zc0 (isH_lt ht) (shH ht) (by decide) rfl ⟨rfl, rfl, rfl⟩ w92 (show decode cX0_debts 6 = .ok (.getfield 9, 3) by decide +kernel) ?_
  refine V_icmp_ge 27 Z (by decide) (show decode cX0_debts 9 = .ok (.if_icmp .ge 18, 3) by decide +kernel) (fun c1 => ?_) (fun c1 => ?_)
  · have h := zB_pos c1 h
    refine V_iload_n 1 Z rfl rfl (show decode cX0_debts 27 = .ok (.iload_n 1, 1) by decide +kernel) ?_
    have h := c1_r _ h
    exact V_iretP Z hE h (show decode cX0_debts 28 = .ok (.ireturn, 1) by decide +kernel)
  · have h := zB_neg c1 h
    refine V_iload_n 1 Z rfl rfl (show decode cX0_debts 12 = .ok (.iload_n 1, 1) by decide +kernel) ?_
    refine V_aload_n 0 Z rfl rfl (show decode cX0_debts 13 = .ok (.aload_n 0, 1) by decide +kernel) ?_
    refine V_getR 4 (t + 4) Z zc0 (isH_lt ht) (shH ht) (by decide) rfl (isH_ne ht 4) ⟨rfl, rfl, rfl⟩ w101 (show decode cX0_debts 14 = .ok (.getfield 25, 3) by decide +kernel) ?_
    refine V_iload_n 2 Z rfl rfl (show decode cX0_debts 17 = .ok (.iload_n 2, 1) by decide +kernel) ?_
    obtain ⟨v2, e3, h⟩ := zB_bind h
    refine V_iald Z e3 (show decode cX0_debts 18 = .ok (.iaload, 1) by decide +kernel) ?_
    refine V_iadd Z (show decode cX0_debts 19 = .ok (.iadd, 1) by decide +kernel) ?_
    obtain ⟨x4, e5, h⟩ := zB_let h
    refine V_nm e5 ?_
    refine V_istore_n [(1, Value.int x4), (0, Value.ref t), (2, Value.int y2)] Z (by decide) rfl rfl (show decode cX0_debts 20 = .ok (.istore_n 1, 1) by decide +kernel) ?_
    obtain ⟨x6, e7, h⟩ := zB_let h
    refine V_iinc (n := 1) 2 x6 [(2, Value.int x6), (1, Value.int x4), (0, Value.ref t)] Z (by decide) rfl e7 rfl (show decode cX0_debts 21 = .ok (.iinc 2 1, 3) by decide +kernel) ?_
    refine V_goto 4 Z (by decide) (show decode cX0_debts 24 = .ok (.goto (-20), 3) by decide +kernel) ?_
    refine V_sub [2, 1, 0] rfl ?_
    exact c1_i _ h
def f_X0_spotsHeld_l4 (t : Nat) (M : zM) : Int32 × Int32 → Option ((Int32 × Int32) ⊕ (Int32))
  | (y1, y2) =>
    if 10 ≤ y2 then
      some (.inr (y1))
    else
      (zrd M (t + 8) y2).bind fun (v2 : Int32) =>
      if v2 < 0 then
        (some (y2 + 1)).bind fun (x5 : Int32) =>
        some (.inl ((y1, x5)))
      else
        (some (y1 + 1)).bind fun (x7 : Int32) =>
        (some (y2 + 1)).bind fun (x9 : Int32) =>
        some (.inl ((x7, x9)))
def f_X0_spotsHeld (t : Nat) (M : zM) : Option (Int32) :=
  zIter (f_X0_spotsHeld_l4 t M) 1000 (0, 0)
theorem cd_X0_spotsHeld : zCd yX0_spotsHeld cX0_spotsHeld 3 (some .int) 0 := ⟨w746, w65, ⟨by decide, by decide⟩, by decide +kernel⟩
set_option maxHeartbeats 4000000 in
set_option maxRecDepth 20000 in
theorem ok_X0_spotsHeld {t : Nat} {M : zM} {y : Int32} (ht : isH t) (h : f_X0_spotsHeld t M = some y) : zRuns yX0_spotsHeld cX0_spotsHeld 3 (some .int) 0 0 [.ref t] M (some (.int y)) M := by
  refine zRuns_of (by decide +kernel) (Nat.le_of_ble_eq_true rfl) (fun E Z hE => ?_)
  have h := zB_top h
  change VV E 3 0 [(0, Value.ref t)] [] M
  refine V_iconst 0 (by decide) Z (show decode cX0_spotsHeld 0 = .ok (.iconst 0, 1) by decide +kernel) ?_
  refine V_istore_n [(1, Value.int 0), (0, Value.ref t)] Z (by decide) rfl rfl (show decode cX0_spotsHeld 1 = .ok (.istore_n 1, 1) by decide +kernel) ?_
  refine V_iconst 0 (by decide) Z (show decode cX0_spotsHeld 2 = .ok (.iconst 0, 1) by decide +kernel) ?_
  refine V_istore_n [(2, Value.int 0), (1, Value.int 0), (0, Value.ref t)] Z (by decide) rfl rfl (show decode cX0_spotsHeld 3 = .ok (.istore_n 2, 1) by decide +kernel) ?_
  refine V_sub [2, 1, 0] rfl ?_
  refine zIter_loop' (K := some) (fun s : Int32 × Int32 => VV E 3 4 [(0, Value.ref t), (1, Value.int s.1), (2, Value.int s.2)] [] M) (fun K1 s c1_i c1_r h => ?_) _ _ h
  obtain ⟨y1, y2⟩ := s
  change VV E 3 4 [(0, Value.ref t), (1, Value.int y1), (2, Value.int y2)] [] M
  refine V_iload_n 2 Z rfl rfl (show decode cX0_spotsHeld 4 = .ok (.iload_n 2, 1) by decide +kernel) ?_
  refine V_bipush 10 (by decide) Z (show decode cX0_spotsHeld 5 = .ok (.bipush 10, 2) by decide +kernel) ?_
  refine V_icmp_ge 28 Z (by decide) (show decode cX0_spotsHeld 7 = .ok (.if_icmp .ge 21, 3) by decide +kernel) (fun c1 => ?_) (fun c1 => ?_)
  · have h := zB_pos c1 h
    refine V_iload_n 1 Z rfl rfl (show decode cX0_spotsHeld 28 = .ok (.iload_n 1, 1) by decide +kernel) ?_
    have h := c1_r _ h
    exact V_iretP Z hE h (show decode cX0_spotsHeld 29 = .ok (.ireturn, 1) by decide +kernel)
  · have h := zB_neg c1 h
    refine V_aload_n 0 Z rfl rfl (show decode cX0_spotsHeld 10 = .ok (.aload_n 0, 1) by decide +kernel) ?_
    refine V_getR 8 (t + 8) Z zc0 (isH_lt ht) (shH ht) (by decide) rfl (isH_ne ht 8) ⟨rfl, rfl, rfl⟩ w111 (show decode cX0_spotsHeld 11 = .ok (.getfield 37, 3) by decide +kernel) ?_
    refine V_iload_n 2 Z rfl rfl (show decode cX0_spotsHeld 14 = .ok (.iload_n 2, 1) by decide +kernel) ?_
    obtain ⟨v2, e3, h⟩ := zB_bind h
    refine V_iald Z e3 (show decode cX0_spotsHeld 15 = .ok (.iaload, 1) by decide +kernel) ?_
    refine V_if_lt 22 Z (by decide) (show decode cX0_spotsHeld 16 = .ok (.ifCond .lt 6, 3) by decide +kernel) (fun c4 => ?_) (fun c4 => ?_)
    · have h := zB_pos c4 h
      obtain ⟨x5, e6, h⟩ := zB_let h
      refine V_iinc (n := 1) 2 x5 [(2, Value.int x5), (0, Value.ref t), (1, Value.int y1)] Z (by decide) rfl e6 rfl (show decode cX0_spotsHeld 22 = .ok (.iinc 2 1, 3) by decide +kernel) ?_
      refine V_goto 4 Z (by decide) (show decode cX0_spotsHeld 25 = .ok (.goto (-21), 3) by decide +kernel) ?_
      refine V_sub [1, 2, 0] rfl ?_
      exact c1_i _ h
    · have h := zB_neg c4 h
      obtain ⟨x7, e8, h⟩ := zB_let h
      refine V_iinc (n := 1) 1 x7 [(1, Value.int x7), (0, Value.ref t), (2, Value.int y2)] Z (by decide) rfl e8 rfl (show decode cX0_spotsHeld 19 = .ok (.iinc 1 1, 3) by decide +kernel) ?_
      obtain ⟨x9, e10, h⟩ := zB_let h
      refine V_iinc (n := 1) 2 x9 [(2, Value.int x9), (1, Value.int x7), (0, Value.ref t)] Z (by decide) rfl e10 rfl (show decode cX0_spotsHeld 22 = .ok (.iinc 2 1, 3) by decide +kernel) ?_
      refine V_goto 4 Z (by decide) (show decode cX0_spotsHeld 25 = .ok (.goto (-21), 3) by decide +kernel) ?_
      refine V_sub [2, 1, 0] rfl ?_
      exact c1_i _ h
def f_X0_lineUp_l34 (t : Nat) (y2 : Int32) (y3 : Int32) : Int32 × zM → Option ((Int32 × zM) ⊕ ((Int32 × Int32 × zM) ⊕ (zM)))
  | (y5, M) =>
    if 6 ≤ y5 then
      (some (y3 + (-1))).bind fun (x13 : Int32) =>
      some (.inr (.inl ((y2, x13, M))))
    else
      (zrd M (t + 9) y5).bind fun (v15 : Int32) =>
      (zrd M (t + 9) y3).bind fun (v17 : Int32) =>
      if v15 < v17 then
        (some (y5 + 1)).bind fun (x20 : Int32) =>
        some (.inl ((x20, M)))
      else
        (zrd M (t + 9) y5).bind fun (v22 : Int32) =>
        (zwr M (t + 9) y5 (v22 + 1)).bind fun (M24 : zM) =>
        (some (y5 + 1)).bind fun (x26 : Int32) =>
        some (.inl ((x26, M24)))
def f_X0_lineUp_l4 (t : Nat) : Int32 × Int32 × zM → Option ((Int32 × Int32 × zM) ⊕ (zM))
  | (y2, y3, M) =>
    if y3 < 0 then
      some (.inr (M))
    else
      (some ((6 - y3))).bind fun (x2 : Int32) =>
      (zrm y2 x2).bind fun (v4 : Int32) =>
      (zwr M (t + 9) y3 v4).bind fun (M6 : zM) =>
      (zdv y2 x2).bind fun (v8 : Int32) =>
      (some ((y3 + 1))).bind fun (x10 : Int32) =>
      zIter (f_X0_lineUp_l34 t v8 y3) 1000 (x10, M6)
def f_X0_lineUp (t : Nat) (x1 : Int32) (M : zM) : Option (zM) :=
  zIter (f_X0_lineUp_l4 t) 1000 (x1, 5, M)
theorem cd_X0_lineUp : zCd yX0_lineUp cX0_lineUp 6 none 1 := ⟨w314, w65, ⟨by decide, by decide⟩, by decide +kernel⟩
set_option maxHeartbeats 4000000 in
set_option maxRecDepth 20000 in
theorem ok_X0_lineUp {t : Nat} {x1 : Int32} {M : zM} {y : zM} (ht : isH t) (h : f_X0_lineUp t x1 M = some y) : zRuns yX0_lineUp cX0_lineUp 6 none 0 0 [.ref t, .int x1] M none y := by
  refine zRuns_of (by decide +kernel) (Nat.le_of_ble_eq_true rfl) (fun E Z hE => ?_)
  have h := zB_top h
  change VV E 6 0 [(0, Value.ref t), (1, Value.int x1)] [] M
  refine V_iload_n 1 Z rfl rfl (show decode cX0_lineUp 0 = .ok (.iload_n 1, 1) by decide +kernel) ?_
  refine V_istore_n [(2, Value.int x1), (0, Value.ref t), (1, Value.int x1)] Z (by decide) rfl rfl (show decode cX0_lineUp 1 = .ok (.istore_n 2, 1) by decide +kernel) ?_
  refine V_iconst 5 (by decide) Z (show decode cX0_lineUp 2 = .ok (.iconst 5, 1) by decide +kernel) ?_
  refine V_istore_n [(3, Value.int 5), (2, Value.int x1), (0, Value.ref t), (1, Value.int x1)] Z (by decide) rfl rfl (show decode cX0_lineUp 3 = .ok (.istore_n 3, 1) by decide +kernel) ?_
  refine V_sub [2, 1, 0] rfl ?_
  refine zIter_loop' (K := some) (fun s : Int32 × Int32 × zM => VV E 6 4 [(0, Value.ref t), (2, Value.int s.1), (3, Value.int s.2.1)] [] s.2.2) (fun K1 s c1_i c1_r h => ?_) _ _ h
  obtain ⟨y2, y3, M⟩ := s
  change VV E 6 4 [(0, Value.ref t), (2, Value.int y2), (3, Value.int y3)] [] M
  refine V_iload_n 2 Z rfl rfl (show decode cX0_lineUp 4 = .ok (.iload_n 3, 1) by decide +kernel) ?_
  refine V_if_lt 80 Z (by decide) (show decode cX0_lineUp 5 = .ok (.ifCond .lt 75, 3) by decide +kernel) (fun c1 => ?_) (fun c1 => ?_)
  · have h := zB_pos c1 h
    have h := c1_r _ h
    exact V_vretM Z hE h (show decode cX0_lineUp 80 = .ok (.return_, 1) by decide +kernel)
  · have h := zB_neg c1 h
    refine V_bipush 6 (by decide) Z (show decode cX0_lineUp 8 = .ok (.bipush 6, 2) by decide +kernel) ?_
    refine V_iload_n 2 Z rfl rfl (show decode cX0_lineUp 10 = .ok (.iload_n 3, 1) by decide +kernel) ?_
    refine V_isub Z (show decode cX0_lineUp 11 = .ok (.isub, 1) by decide +kernel) ?_
    obtain ⟨x2, e3, h⟩ := zB_let h
    refine V_nm e3 ?_
    refine V_istore [(4, Value.int x2), (0, Value.ref t), (2, Value.int y2), (3, Value.int y3)] Z (by decide) rfl (show decode cX0_lineUp 12 = .ok (.istore 4, 2) by decide +kernel) ?_
    refine V_aload_n 1 Z rfl rfl (show decode cX0_lineUp 14 = .ok (.aload_n 0, 1) by decide +kernel) ?_
    refine V_getR 13 (t + 9) Z zc0 (isH_lt ht) (shH ht) (by decide) rfl (isH_ne ht 9) ⟨rfl, rfl, rfl⟩ w122 (show decode cX0_lineUp 15 = .ok (.getfield 52, 3) by decide +kernel) ?_
    refine V_iload_n 3 Z rfl rfl (show decode cX0_lineUp 18 = .ok (.iload_n 3, 1) by decide +kernel) ?_
    refine V_iload_n 2 Z rfl rfl (show decode cX0_lineUp 19 = .ok (.iload_n 2, 1) by decide +kernel) ?_
    refine V_iload 0 Z rfl (show decode cX0_lineUp 20 = .ok (.iload 4, 2) by decide +kernel) ?_
    obtain ⟨v4, e5, h⟩ := zB_bind h
    refine V_irem Z e5 (show decode cX0_lineUp 22 = .ok (.irem, 1) by decide +kernel) ?_
    obtain ⟨M6, e7, h⟩ := zB_bind h
    refine V_iast Z e7 (show decode cX0_lineUp 23 = .ok (.iastore, 1) by decide +kernel) ?_
    refine V_iload_n 2 Z rfl rfl (show decode cX0_lineUp 24 = .ok (.iload_n 2, 1) by decide +kernel) ?_
    refine V_iload 0 Z rfl (show decode cX0_lineUp 25 = .ok (.iload 4, 2) by decide +kernel) ?_
    obtain ⟨v8, e9, h⟩ := zB_bind h
    refine V_idiv Z e9 (show decode cX0_lineUp 27 = .ok (.idiv, 1) by decide +kernel) ?_
    refine V_istore_n [(2, Value.int v8), (4, Value.int x2), (0, Value.ref t), (3, Value.int y3)] Z (by decide) rfl rfl (show decode cX0_lineUp 28 = .ok (.istore_n 2, 1) by decide +kernel) ?_
    refine V_iload_n 3 Z rfl rfl (show decode cX0_lineUp 29 = .ok (.iload_n 3, 1) by decide +kernel) ?_
    refine V_iconst 1 (by decide) Z (show decode cX0_lineUp 30 = .ok (.iconst 1, 1) by decide +kernel) ?_
    refine V_iadd Z (show decode cX0_lineUp 31 = .ok (.iadd, 1) by decide +kernel) ?_
    obtain ⟨x10, e11, h⟩ := zB_let h
    refine V_nm e11 ?_
    refine V_istore [(5, Value.int x10), (2, Value.int v8), (4, Value.int x2), (0, Value.ref t), (3, Value.int y3)] Z (by decide) rfl (show decode cX0_lineUp 32 = .ok (.istore 5, 2) by decide +kernel) ?_
    refine V_sub [3, 1, 4, 0] rfl ?_
    refine zIter_loop' (K := K1) (fun s : Int32 × zM => VV E 6 34 [(0, Value.ref t), (2, Value.int v8), (3, Value.int y3), (5, Value.int s.1)] [] s.2) (fun K2 s c2_i c2_r h => ?_) _ _ h
    obtain ⟨y5, M⟩ := s
    change VV E 6 34 [(0, Value.ref t), (2, Value.int v8), (3, Value.int y3), (5, Value.int y5)] [] M
    refine V_iload 3 Z rfl (show decode cX0_lineUp 34 = .ok (.iload 5, 2) by decide +kernel) ?_
    refine V_bipush 6 (by decide) Z (show decode cX0_lineUp 36 = .ok (.bipush 6, 2) by decide +kernel) ?_
    refine V_icmp_ge 74 Z (by decide) (show decode cX0_lineUp 38 = .ok (.if_icmp .ge 36, 3) by decide +kernel) (fun c12 => ?_) (fun c12 => ?_)
    · have h := zB_pos c12 h
      obtain ⟨x13, e14, h⟩ := zB_let h
      refine V_iinc (n := (-1)) 2 x13 [(3, Value.int x13), (0, Value.ref t), (2, Value.int v8), (5, Value.int y5)] Z (by decide) rfl e14 rfl (show decode cX0_lineUp 74 = .ok (.iinc 3 (-1), 3) by decide +kernel) ?_
      refine V_goto 4 Z (by decide) (show decode cX0_lineUp 77 = .ok (.goto (-73), 3) by decide +kernel) ?_
      refine V_sub [1, 2, 0] rfl ?_
      have h := c2_r _ h
      exact c1_i _ h
    · have h := zB_neg c12 h
      refine V_aload_n 0 Z rfl rfl (show decode cX0_lineUp 41 = .ok (.aload_n 0, 1) by decide +kernel) ?_
      refine V_getR 13 (t + 9) Z zc0 (isH_lt ht) (shH ht) (by decide) rfl (isH_ne ht 9) ⟨rfl, rfl, rfl⟩ w122 (show decode cX0_lineUp 42 = .ok (.getfield 52, 3) by decide +kernel) ?_
      refine V_iload 3 Z rfl (show decode cX0_lineUp 45 = .ok (.iload 5, 2) by decide +kernel) ?_
      obtain ⟨v15, e16, h⟩ := zB_bind h
      refine V_iald Z e16 (show decode cX0_lineUp 47 = .ok (.iaload, 1) by decide +kernel) ?_
      refine V_aload_n 0 Z rfl rfl (show decode cX0_lineUp 48 = .ok (.aload_n 0, 1) by decide +kernel) ?_
      refine V_getR 13 (t + 9) Z zc0 (isH_lt ht) (shH ht) (by decide) rfl (isH_ne ht 9) ⟨rfl, rfl, rfl⟩ w122 (show decode cX0_lineUp 49 = .ok (.getfield 52, 3) by decide +kernel) ?_
      refine V_iload_n 2 Z rfl rfl (show decode cX0_lineUp 52 = .ok (.iload_n 3, 1) by decide +kernel) ?_
      obtain ⟨v17, e18, h⟩ := zB_bind h
      refine V_iald Z e18 (show decode cX0_lineUp 53 = .ok (.iaload, 1) by decide +kernel) ?_
      refine V_icmp_lt 68 Z (by decide) (show decode cX0_lineUp 54 = .ok (.if_icmp .lt 14, 3) by decide +kernel) (fun c19 => ?_) (fun c19 => ?_)
      · have h := zB_pos c19 h
        obtain ⟨x20, e21, h⟩ := zB_let h
        refine V_iinc (n := 1) 3 x20 [(5, Value.int x20), (0, Value.ref t), (2, Value.int v8), (3, Value.int y3)] Z (by decide) rfl e21 rfl (show decode cX0_lineUp 68 = .ok (.iinc 5 1, 3) by decide +kernel) ?_
        refine V_goto 34 Z (by decide) (show decode cX0_lineUp 71 = .ok (.goto (-37), 3) by decide +kernel) ?_
        refine V_sub [1, 2, 3, 0] rfl ?_
        exact c2_i _ h
      · have h := zB_neg c19 h
        refine V_aload_n 0 Z rfl rfl (show decode cX0_lineUp 57 = .ok (.aload_n 0, 1) by decide +kernel) ?_
        refine V_getR 13 (t + 9) Z zc0 (isH_lt ht) (shH ht) (by decide) rfl (isH_ne ht 9) ⟨rfl, rfl, rfl⟩ w122 (show decode cX0_lineUp 58 = .ok (.getfield 52, 3) by decide +kernel) ?_
        refine V_iload 3 Z rfl (show decode cX0_lineUp 61 = .ok (.iload 5, 2) by decide +kernel) ?_
        refine V_dup2 rfl rfl Z (show decode cX0_lineUp 63 = .ok (.dup2, 1) by decide +kernel) ?_
        obtain ⟨v22, e23, h⟩ := zB_bind h
        refine V_iald Z e23 (show decode cX0_lineUp 64 = .ok (.iaload, 1) by decide +kernel) ?_
        refine V_iconst 1 (by decide) Z (show decode cX0_lineUp 65 = .ok (.iconst 1, 1) by decide +kernel) ?_
        refine V_iadd Z (show decode cX0_lineUp 66 = .ok (.iadd, 1) by decide +kernel) ?_
        obtain ⟨M24, e25, h⟩ := zB_bind h
        refine V_iast Z e25 (show decode cX0_lineUp 67 = .ok (.iastore, 1) by decide +kernel) ?_
        obtain ⟨x26, e27, h⟩ := zB_let h
        refine V_iinc (n := 1) 3 x26 [(5, Value.int x26), (0, Value.ref t), (2, Value.int v8), (3, Value.int y3)] Z (by decide) rfl e27 rfl (show decode cX0_lineUp 68 = .ok (.iinc 5 1, 3) by decide +kernel) ?_
        refine V_goto 34 Z (by decide) (show decode cX0_lineUp 71 = .ok (.goto (-37), 3) by decide +kernel) ?_
        refine V_sub [1, 2, 3, 0] rfl ?_
        exact c2_i _ h
def f_X0_placeOf_l10 (t : Nat) (y1 : Int32) (M : zM) : Int32 → Option ((Int32) ⊕ (Int32 × zM))
  | y2 =>
    if 5 ≤ y2 then
      some (.inr ((y2, M)))
    else
      (zrd M (t + 9) y2).bind fun (v4 : Int32) =>
      if v4 = y1 then
        some (.inr ((y2, M)))
      else
        (some (y2 + 1)).bind fun (x7 : Int32) =>
        some (.inl (x7))
def f_X0_placeOf (t : Nat) (x1 : Int32) (M : zM) : Option (Int32 × zM) :=
  (f_X0_lineUp t (M t 9) M).bind fun (M2 : zM) =>
  zIter (f_X0_placeOf_l10 t x1 M2) 1000 (0 : Int32)
theorem cd_X0_placeOf : zCd yX0_placeOf cX0_placeOf 3 (some .int) 1 := ⟨w310, w65, ⟨by decide, by decide⟩, by decide +kernel⟩
set_option maxHeartbeats 4000000 in
set_option maxRecDepth 20000 in
theorem ok_X0_placeOf {t : Nat} {x1 : Int32} {M : zM} {y : Int32 × zM} (ht : isH t) (h : f_X0_placeOf t x1 M = some y) : zRuns yX0_placeOf cX0_placeOf 3 (some .int) 1 25 [.ref t, .int x1] M (some (.int y.1)) y.2 := by
  refine zRuns_of (by decide +kernel) (Nat.le_of_ble_eq_true rfl) (fun E Z hE => ?_)
  have h := zB_top h
  change VV E 3 0 [(0, Value.ref t), (1, Value.int x1)] [] M
  refine V_aload_n 0 Z rfl rfl (show decode cX0_placeOf 0 = .ok (.aload_n 0, 1) by decide +kernel) ?_
  refine V_aload_n 0 Z rfl rfl (show decode cX0_placeOf 1 = .ok (.aload_n 0, 1) by decide +kernel) ?_
  refine V_getI 9 Z zc0 (isH_lt ht) (shH ht) (by decide) rfl ⟨rfl, rfl, rfl⟩ w113 (show decode cX0_placeOf 2 = .ok (.getfield 40, 3) by decide +kernel) ?_
  obtain ⟨M2, e1, h⟩ := zB_bind h
  refine V_callV (rest := []) 1 Z (ok_X0_lineUp ht e1) cd_X0_lineUp zc0 (isH_lt ht) (shH ht) w311 w312 w313 rfl (show decode cX0_placeOf 5 = .ok (.invokevirtual 78, 3) by decide +kernel) rfl ?_
  refine V_iconst 0 (by decide) Z (show decode cX0_placeOf 8 = .ok (.iconst 0, 1) by decide +kernel) ?_
  refine V_istore_n [(2, Value.int 0), (0, Value.ref t), (1, Value.int x1)] Z (by decide) rfl rfl (show decode cX0_placeOf 9 = .ok (.istore_n 2, 1) by decide +kernel) ?_
  refine V_sub [1, 2, 0] rfl ?_
  refine zIter_loop' (K := some) (fun s : Int32 => VV E 3 10 [(0, Value.ref t), (1, Value.int x1), (2, Value.int s)] [] M2) (fun K1 y2 c1_i c1_r h => ?_) _ _ h
  refine V_iload_n 2 Z rfl rfl (show decode cX0_placeOf 10 = .ok (.iload_n 2, 1) by decide +kernel) ?_
  refine V_iconst 5 (by decide) Z (show decode cX0_placeOf 11 = .ok (.iconst 5, 1) by decide +kernel) ?_
  refine V_icmp_ge 31 Z (by decide) (show decode cX0_placeOf 12 = .ok (.if_icmp .ge 19, 3) by decide +kernel) (fun c3 => ?_) (fun c3 => ?_)
  · have h := zB_pos c3 h
    refine V_iload_n 2 Z rfl rfl (show decode cX0_placeOf 31 = .ok (.iload_n 2, 1) by decide +kernel) ?_
    have h := c1_r _ h
    exact V_iretM Z hE h (show decode cX0_placeOf 32 = .ok (.ireturn, 1) by decide +kernel)
  · have h := zB_neg c3 h
    refine V_aload_n 0 Z rfl rfl (show decode cX0_placeOf 15 = .ok (.aload_n 0, 1) by decide +kernel) ?_
    refine V_getR 13 (t + 9) Z zc0 (isH_lt ht) (shH ht) (by decide) rfl (isH_ne ht 9) ⟨rfl, rfl, rfl⟩ w122 (show decode cX0_placeOf 16 = .ok (.getfield 52, 3) by decide +kernel) ?_
    refine V_iload_n 2 Z rfl rfl (show decode cX0_placeOf 19 = .ok (.iload_n 2, 1) by decide +kernel) ?_
    obtain ⟨v4, e5, h⟩ := zB_bind h
    refine V_iald Z e5 (show decode cX0_placeOf 20 = .ok (.iaload, 1) by decide +kernel) ?_
    refine V_iload_n 1 Z rfl rfl (show decode cX0_placeOf 21 = .ok (.iload_n 1, 1) by decide +kernel) ?_
    refine V_icmp_eq 31 Z (by decide) (show decode cX0_placeOf 22 = .ok (.if_icmp .eq 9, 3) by decide +kernel) (fun c6 => ?_) (fun c6 => ?_)
    · have h := zB_pos c6 h
      refine V_iload_n 2 Z rfl rfl (show decode cX0_placeOf 31 = .ok (.iload_n 2, 1) by decide +kernel) ?_
      have h := c1_r _ h
      exact V_iretM Z hE h (show decode cX0_placeOf 32 = .ok (.ireturn, 1) by decide +kernel)
    · have h := zB_neg c6 h
      obtain ⟨x7, e8, h⟩ := zB_let h
      refine V_iinc (n := 1) 2 x7 [(2, Value.int x7), (0, Value.ref t), (1, Value.int x1)] Z (by decide) rfl e8 rfl (show decode cX0_placeOf 25 = .ok (.iinc 2 1, 3) by decide +kernel) ?_
      refine V_goto 10 Z (by decide) (show decode cX0_placeOf 28 = .ok (.goto (-18), 3) by decide +kernel) ?_
      refine V_sub [1, 2, 0] rfl ?_
      exact c1_i _ h
def f_J6_bitCount_0f7a4 (x0 : Int32) (M : zM) : Option (Int32) :=
  (some ((x0 - ((((x0 : Int32).toUInt32 >>> ((1 : Int32).toUInt32 &&& Int32.toUInt32 31)).toInt32) &&& 1431655765)))).bind fun (x1 : Int32) =>
  (some (((x1 &&& 858993459) + ((((x1 : Int32).toUInt32 >>> ((2 : Int32).toUInt32 &&& Int32.toUInt32 31)).toInt32) &&& 858993459)))).bind fun (x3 : Int32) =>
  (some (((x3 + (((x3 : Int32).toUInt32 >>> ((4 : Int32).toUInt32 &&& Int32.toUInt32 31)).toInt32)) &&& 252645135))).bind fun (x5 : Int32) =>
  (some ((x5 + (((x5 : Int32).toUInt32 >>> ((8 : Int32).toUInt32 &&& Int32.toUInt32 31)).toInt32)))).bind fun (x7 : Int32) =>
  (some ((x7 + (((x7 : Int32).toUInt32 >>> ((16 : Int32).toUInt32 &&& Int32.toUInt32 31)).toInt32)))).bind fun (x9 : Int32) =>
  some ((x9 &&& 63))
theorem cd_J6_bitCount_0f7a4 : zCd yJ6_bitCount_0f7a4 cJ6_bitCount_0f7a4 1 (some .int) 1 := ⟨w353, w72, ⟨by decide, by decide⟩, by decide +kernel⟩
set_option maxHeartbeats 4000000 in
set_option maxRecDepth 20000 in
theorem ok_J6_bitCount_0f7a4 {x0 : Int32} {M : zM} {y : Int32}  (h : f_J6_bitCount_0f7a4 x0 M = some y) : zRuns yJ6_bitCount_0f7a4 cJ6_bitCount_0f7a4 1 (some .int) 0 0 [.int x0] M (some (.int y)) M := by
  refine zRuns_of (by decide +kernel) (Nat.le_of_ble_eq_true rfl) (fun E Z hE => ?_)
  have h := zB_top h
  change VV E 1 0 [(0, Value.int x0)] [] M
  refine V_iload_n 0 Z rfl rfl (show decode cJ6_bitCount_0f7a4 0 = .ok (.iload_n 0, 1) by decide +kernel) ?_
  refine V_iload_n 0 Z rfl rfl (show decode cJ6_bitCount_0f7a4 1 = .ok (.iload_n 0, 1) by decide +kernel) ?_
  refine V_iconst 1 (by decide) Z (show decode cJ6_bitCount_0f7a4 2 = .ok (.iconst 1, 1) by decide +kernel) ?_
  refine V_iushr Z (show decode cJ6_bitCount_0f7a4 3 = .ok (.iushr, 1) by decide +kernel) ?_
  refine V_ldcw 1431655765 Z w354 (show decode cJ6_bitCount_0f7a4 4 = .ok (.ldc_w 265, 3) by decide +kernel) ?_
  refine V_iand Z (show decode cJ6_bitCount_0f7a4 7 = .ok (.iand, 1) by decide +kernel) ?_
  refine V_isub Z (show decode cJ6_bitCount_0f7a4 8 = .ok (.isub, 1) by decide +kernel) ?_
  obtain ⟨x1, e2, h⟩ := zB_let h
  refine V_nm e2 ?_
  refine V_istore_n [(0, Value.int x1)] Z (by decide) rfl rfl (show decode cJ6_bitCount_0f7a4 9 = .ok (.istore_n 0, 1) by decide +kernel) ?_
  refine V_iload_n 0 Z rfl rfl (show decode cJ6_bitCount_0f7a4 10 = .ok (.iload_n 0, 1) by decide +kernel) ?_
  refine V_ldcw 858993459 Z w355 (show decode cJ6_bitCount_0f7a4 11 = .ok (.ldc_w 266, 3) by decide +kernel) ?_
  refine V_iand Z (show decode cJ6_bitCount_0f7a4 14 = .ok (.iand, 1) by decide +kernel) ?_
  refine V_iload_n 0 Z rfl rfl (show decode cJ6_bitCount_0f7a4 15 = .ok (.iload_n 0, 1) by decide +kernel) ?_
  refine V_iconst 2 (by decide) Z (show decode cJ6_bitCount_0f7a4 16 = .ok (.iconst 2, 1) by decide +kernel) ?_
  refine V_iushr Z (show decode cJ6_bitCount_0f7a4 17 = .ok (.iushr, 1) by decide +kernel) ?_
  refine V_ldcw 858993459 Z w355 (show decode cJ6_bitCount_0f7a4 18 = .ok (.ldc_w 266, 3) by decide +kernel) ?_
  refine V_iand Z (show decode cJ6_bitCount_0f7a4 21 = .ok (.iand, 1) by decide +kernel) ?_
  refine V_iadd Z (show decode cJ6_bitCount_0f7a4 22 = .ok (.iadd, 1) by decide +kernel) ?_
  obtain ⟨x3, e4, h⟩ := zB_let h
  refine V_nm e4 ?_
  refine V_istore_n [(0, Value.int x3)] Z (by decide) rfl rfl (show decode cJ6_bitCount_0f7a4 23 = .ok (.istore_n 0, 1) by decide +kernel) ?_
  refine V_iload_n 0 Z rfl rfl (show decode cJ6_bitCount_0f7a4 24 = .ok (.iload_n 0, 1) by decide +kernel) ?_
  refine V_iload_n 0 Z rfl rfl (show decode cJ6_bitCount_0f7a4 25 = .ok (.iload_n 0, 1) by decide +kernel) ?_
  refine V_iconst 4 (by decide) Z (show decode cJ6_bitCount_0f7a4 26 = .ok (.iconst 4, 1) by decide +kernel) ?_
  refine V_iushr Z (show decode cJ6_bitCount_0f7a4 27 = .ok (.iushr, 1) by decide +kernel) ?_
  refine V_iadd Z (show decode cJ6_bitCount_0f7a4 28 = .ok (.iadd, 1) by decide +kernel) ?_
  refine V_ldcw 252645135 Z w356 (show decode cJ6_bitCount_0f7a4 29 = .ok (.ldc_w 267, 3) by decide +kernel) ?_
  refine V_iand Z (show decode cJ6_bitCount_0f7a4 32 = .ok (.iand, 1) by decide +kernel) ?_
  obtain ⟨x5, e6, h⟩ := zB_let h
  refine V_nm e6 ?_
  refine V_istore_n [(0, Value.int x5)] Z (by decide) rfl rfl (show decode cJ6_bitCount_0f7a4 33 = .ok (.istore_n 0, 1) by decide +kernel) ?_
  refine V_iload_n 0 Z rfl rfl (show decode cJ6_bitCount_0f7a4 34 = .ok (.iload_n 0, 1) by decide +kernel) ?_
  refine V_iload_n 0 Z rfl rfl (show decode cJ6_bitCount_0f7a4 35 = .ok (.iload_n 0, 1) by decide +kernel) ?_
  refine V_bipush 8 (by decide) Z (show decode cJ6_bitCount_0f7a4 36 = .ok (.bipush 8, 2) by decide +kernel) ?_
  refine V_iushr Z (show decode cJ6_bitCount_0f7a4 38 = .ok (.iushr, 1) by decide +kernel) ?_
  refine V_iadd Z (show decode cJ6_bitCount_0f7a4 39 = .ok (.iadd, 1) by decide +kernel) ?_
  obtain ⟨x7, e8, h⟩ := zB_let h
  refine V_nm e8 ?_
  refine V_istore_n [(0, Value.int x7)] Z (by decide) rfl rfl (show decode cJ6_bitCount_0f7a4 40 = .ok (.istore_n 0, 1) by decide +kernel) ?_
  refine V_iload_n 0 Z rfl rfl (show decode cJ6_bitCount_0f7a4 41 = .ok (.iload_n 0, 1) by decide +kernel) ?_
  refine V_iload_n 0 Z rfl rfl (show decode cJ6_bitCount_0f7a4 42 = .ok (.iload_n 0, 1) by decide +kernel) ?_
  refine V_bipush 16 (by decide) Z (show decode cJ6_bitCount_0f7a4 43 = .ok (.bipush 16, 2) by decide +kernel) ?_
  refine V_iushr Z (show decode cJ6_bitCount_0f7a4 45 = .ok (.iushr, 1) by decide +kernel) ?_
  refine V_iadd Z (show decode cJ6_bitCount_0f7a4 46 = .ok (.iadd, 1) by decide +kernel) ?_
  obtain ⟨x9, e10, h⟩ := zB_let h
  refine V_nm e10 ?_
  refine V_istore_n [(0, Value.int x9)] Z (by decide) rfl rfl (show decode cJ6_bitCount_0f7a4 47 = .ok (.istore_n 0, 1) by decide +kernel) ?_
  refine V_iload_n 0 Z rfl rfl (show decode cJ6_bitCount_0f7a4 48 = .ok (.iload_n 0, 1) by decide +kernel) ?_
  refine V_bipush 63 (by decide) Z (show decode cJ6_bitCount_0f7a4 49 = .ok (.bipush 63, 2) by decide +kernel) ?_
  refine V_iand Z (show decode cJ6_bitCount_0f7a4 51 = .ok (.iand, 1) by decide +kernel) ?_
  exact V_iretP Z hE h (show decode cJ6_bitCount_0f7a4 52 = .ok (.ireturn, 1) by decide +kernel)
def f_X5_lowest (x0 : Int32) (M : zM) : Option (Int32) :=
  (f_J6_bitCount_0f7a4 ((x0 &&& (-x0)) - 1) M).bind fun (v2 : Int32) =>
  some (v2)
theorem cd_X5_lowest : zCd yX5_lowest cX5_lowest 1 (some .int) 1 := ⟨w350, w64, ⟨by decide, by decide⟩, by decide +kernel⟩
set_option maxHeartbeats 4000000 in
set_option maxRecDepth 20000 in
theorem ok_X5_lowest {x0 : Int32} {M : zM} {y : Int32}  (h : f_X5_lowest x0 M = some y) : zRuns yX5_lowest cX5_lowest 1 (some .int) 1 20 [.int x0] M (some (.int y)) M := by
  refine zRuns_of (by decide +kernel) (Nat.le_of_ble_eq_true rfl) (fun E Z hE => ?_)
  have h := zB_top h
  change VV E 1 0 [(0, Value.int x0)] [] M
  refine V_iload_n 0 Z rfl rfl (show decode cX5_lowest 0 = .ok (.iload_n 0, 1) by decide +kernel) ?_
  refine V_iload_n 0 Z rfl rfl (show decode cX5_lowest 1 = .ok (.iload_n 0, 1) by decide +kernel) ?_
  refine V_ineg Z (show decode cX5_lowest 2 = .ok (.ineg, 1) by decide +kernel) ?_
  refine V_iand Z (show decode cX5_lowest 3 = .ok (.iand, 1) by decide +kernel) ?_
  refine V_iconst 1 (by decide) Z (show decode cX5_lowest 4 = .ok (.iconst 1, 1) by decide +kernel) ?_
  refine V_isub Z (show decode cX5_lowest 5 = .ok (.isub, 1) by decide +kernel) ?_
  obtain ⟨v2, e1, h⟩ := zB_bind h
  refine V_callS (rest := []) 1 Z (ok_J6_bitCount_0f7a4  e1) cd_J6_bitCount_0f7a4 w351 w352 rfl (show decode cX5_lowest 6 = .ok (.invokestatic 190, 3) by decide +kernel) rfl ?_
  exact V_iretP Z hE h (show decode cX5_lowest 9 = .ok (.ireturn, 1) by decide +kernel)
