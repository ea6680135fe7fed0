/-! Generated walks: X0_purses X0_debts X0_spotsHeld X0_lineUp X0_placeOf J6_bitCount_0f7a4 X5_lowest X0_draw X0_draws -/
def f_X0_purses_l4 (t : Nat) (M : zM) : Int32 × Int32 → Option ((Int32 × Int32) ⊕ (Int32))
  | (y1, y2) =>
    if 6 ≤ y2 then
      some (.inr (y1))
    else
      (zrd M (t + 6) y2).bind fun (v2 : Int32) =>
      (some ((y1 + v2))).bind fun (n4 : Int32) =>
      (some (y2 + 1)).bind fun (n6 : Int32) =>
      some (.inl ((n4, n6)))
def f_X0_purses (t : Nat) (M : zM) : Option (Int32) :=
  zIter (f_X0_purses_l4 t M) 1000 (0, 0)
theorem cd_X0_purses : zCd yX0_purses cX0_purses 3 (some .int) 0 := ⟨w386, w65, ⟨by decide, by decide⟩, by decide +kernel⟩
set_option maxHeartbeats 4000000 in
set_option maxRecDepth 20000 in
theorem ok_X0_purses {t : Nat} {M : zM} {y : Int32} (ht : isH t) (h : f_X0_purses t M = some y) : zRuns yX0_purses cX0_purses 3 (some .int) 0 0 [.ref t] M (some (.int y)) M := by
  refine zRuns_of (by decide +kernel) (Nat.le_of_ble_eq_true rfl) (fun E Z hE => ?_)
  have h := zB_top h
  change VV E 3 0 [(0, Value.ref t)] [] M
  refine V_iconst 0 (by decide) Z (show decode cX0_purses 0 = .ok (.iconst 0, 1) by decide +kernel) ?_
  refine V_istore_n [(1, Value.int 0), (0, Value.ref t)] Z (by decide) rfl rfl (show decode cX0_purses 1 = .ok (.istore_n 1, 1) by decide +kernel) ?_
  refine V_iconst 0 (by decide) Z (show decode cX0_purses 2 = .ok (.iconst 0, 1) by decide +kernel) ?_
  refine V_istore_n [(2, Value.int 0), (1, Value.int 0), (0, Value.ref t)] Z (by decide) rfl rfl (show decode cX0_purses 3 = .ok (.istore_n 2, 1) by decide +kernel) ?_
  refine V_sub [2, 1, 0] rfl ?_
  refine zIter_loop' (K := some) (fun s : Int32 × Int32 => VV E 3 4 [(0, Value.ref t), (1, Value.int s.1), (2, Value.int s.2)] [] M) (fun K1 s c1_i c1_r h => ?_) _ _ h
  obtain ⟨y1, y2⟩ := s
  change VV E 3 4 [(0, Value.ref t), (1, Value.int y1), (2, Value.int y2)] [] M
  refine V_iload_n 2 Z rfl rfl (show decode cX0_purses 4 = .ok (.iload_n 2, 1) by decide +kernel) ?_
  refine V_bipush 6 (by decide) Z (show decode cX0_purses 5 = .ok (.bipush 6, 2) by decide +kernel) ?_
  refine V_icmp_ge 25 Z (by decide) (show decode cX0_purses 7 = .ok (.if_icmp .ge 18, 3) by decide +kernel) (fun c1 => ?_) (fun c1 => ?_)
  · have h := zB_pos c1 h
    refine V_iload_n 1 Z rfl rfl (show decode cX0_purses 25 = .ok (.iload_n 1, 1) by decide +kernel) ?_
    have h := c1_r _ h
    exact V_iretP Z hE h (show decode cX0_purses 26 = .ok (.ireturn, 1) by decide +kernel)
  · have h := zB_neg c1 h
    refine V_iload_n 1 Z rfl rfl (show decode cX0_purses 10 = .ok (.iload_n 1, 1) by decide +kernel) ?_
    refine V_aload_n 0 Z rfl rfl (show decode cX0_purses 11 = .ok (.aload_n 0, 1) by decide +kernel) ?_
    refine V_getR 6 (t + 6) Z zc0 (isH_lt ht) (shH ht) (by decide) rfl (isH_ne ht 6) ⟨rfl, rfl, rfl⟩ w105 (show decode cX0_purses 12 = .ok (.getfield 31, 3) by decide +kernel) ?_
    refine V_iload_n 2 Z rfl rfl (show decode cX0_purses 15 = .ok (.iload_n 2, 1) by decide +kernel) ?_
    obtain ⟨v2, e3, h⟩ := zB_bind h
    refine V_iald Z e3 (show decode cX0_purses 16 = .ok (.iaload, 1) by decide +kernel) ?_
    refine V_iadd Z (show decode cX0_purses 17 = .ok (.iadd, 1) by decide +kernel) ?_
    obtain ⟨n4, e5, h⟩ := zB_let h
    refine V_nm e5 ?_
    refine V_istore_n [(1, Value.int n4), (0, Value.ref t), (2, Value.int y2)] Z (by decide) rfl rfl (show decode cX0_purses 18 = .ok (.istore_n 1, 1) by decide +kernel) ?_
    obtain ⟨n6, e7, h⟩ := zB_let h
    refine V_iinck 1 1 2 n6 [(2, Value.int n6), (1, Value.int n4), (0, Value.ref t)] Z (by decide) (by decide) rfl e7 rfl (show decode cX0_purses 19 = .ok (.iinc 2 1, 3) by decide +kernel) ?_
    refine V_goto 4 Z (by decide) (show decode cX0_purses 22 = .ok (.goto (-18), 3) by decide +kernel) ?_
    refine V_sub [2, 1, 0] rfl ?_
    exact c1_i _ h
def f_X0_debts_l4 (t : Nat) (M : zM) : Int32 × Int32 → Option ((Int32 × Int32) ⊕ (Int32))
  | (y1, y2) =>
    if (M t 0) ≤ y2 then
      some (.inr (y1))
    else
      (zrd M (t + 4) y2).bind fun (v2 : Int32) =>
      (some ((y1 + v2))).bind fun (n4 : Int32) =>
      (some (y2 + 1)).bind fun (n6 : Int32) =>
      some (.inl ((n4, n6)))
def f_X0_debts (t : Nat) (M : zM) : Option (Int32) :=
  zIter (f_X0_debts_l4 t M) 1000 (0, 0)
theorem cd_X0_debts : zCd yX0_debts cX0_debts 3 (some .int) 0 := ⟨w395, w65, ⟨by decide, by decide⟩, by decide +kernel⟩
set_option maxHeartbeats 4000000 in
set_option maxRecDepth 20000 in
theorem ok_X0_debts {t : Nat} {M : zM} {y : Int32} (ht : isH t) (h : f_X0_debts t M = some y) : zRuns yX0_debts cX0_debts 3 (some .int) 0 0 [.ref t] M (some (.int y)) M := by
  refine zRuns_of (by decide +kernel) (Nat.le_of_ble_eq_true rfl) (fun E Z hE => ?_)
  have h := zB_top h
  change VV E 3 0 [(0, Value.ref t)] [] M
  refine V_iconst 0 (by decide) Z (show decode cX0_debts 0 = .ok (.iconst 0, 1) by decide +kernel) ?_
  refine V_istore_n [(1, Value.int 0), (0, Value.ref t)] Z (by decide) rfl rfl (show decode cX0_debts 1 = .ok (.istore_n 1, 1) by decide +kernel) ?_
  refine V_iconst 0 (by decide) Z (show decode cX0_debts 2 = .ok (.iconst 0, 1) by decide +kernel) ?_
  refine V_istore_n [(2, Value.int 0), (1, Value.int 0), (0, Value.ref t)] Z (by decide) rfl rfl (show decode cX0_debts 3 = .ok (.istore_n 2, 1) by decide +kernel) ?_
  refine V_sub [2, 1, 0] rfl ?_
  refine zIter_loop' (K := some) (fun s : Int32 × Int32 => VV E 3 4 [(0, Value.ref t), (1, Value.int s.1), (2, Value.int s.2)] [] M) (fun K1 s c1_i c1_r h => ?_) _ _ h
  obtain ⟨y1, y2⟩ := s
  change VV E 3 4 [(0, Value.ref t), (1, Value.int y1), (2, Value.int y2)] [] M
  refine V_iload_n 2 Z rfl rfl (show decode cX0_debts 4 = .ok (.iload_n 2, 1) by decide +kernel) ?_
  refine V_aload_n 0 Z rfl rfl (show decode cX0_debts 5 = .ok (.aload_n 0, 1) by decide +kernel) ?_
  refine V_getI 0 Z zc0 (isH_lt ht) (shH ht) (by decide) rfl ⟨rfl, rfl, rfl⟩ w92 (show decode cX0_debts 6 = .ok (.getfield 9, 3) by decide +kernel) ?_
  refine V_icmp_ge 27 Z (by decide) (show decode cX0_debts 9 = .ok (.if_icmp .ge 18, 3) by decide +kernel) (fun c1 => ?_) (fun c1 => ?_)
  · have h := zB_pos c1 h
    refine V_iload_n 1 Z rfl rfl (show decode cX0_debts 27 = .ok (.iload_n 1, 1) by decide +kernel) ?_
    have h := c1_r _ h
    exact V_iretP Z hE h (show decode cX0_debts 28 = .ok (.ireturn, 1) by decide +kernel)
  · have h := zB_neg c1 h
    refine V_iload_n 1 Z rfl rfl (show decode cX0_debts 12 = .ok (.iload_n 1, 1) by decide +kernel) ?_
    refine V_aload_n 0 Z rfl rfl (show decode cX0_debts 13 = .ok (.aload_n 0, 1) by decide +kernel) ?_
    refine V_getR 4 (t + 4) Z zc0 (isH_lt ht) (shH ht) (by decide) rfl (isH_ne ht 4) ⟨rfl, rfl, rfl⟩ w101 (show decode cX0_debts 14 = .ok (.getfield 25, 3) by decide +kernel) ?_
    refine V_iload_n 2 Z rfl rfl (show decode cX0_debts 17 = .ok (.iload_n 2, 1) by decide +kernel) ?_
    obtain ⟨v2, e3, h⟩ := zB_bind h
    refine V_iald Z e3 (show decode cX0_debts 18 = .ok (.iaload, 1) by decide +kernel) ?_
    refine V_iadd Z (show decode cX0_debts 19 = .ok (.iadd, 1) by decide +kernel) ?_
    obtain ⟨n4, e5, h⟩ := zB_let h
    refine V_nm e5 ?_
    refine V_istore_n [(1, Value.int n4), (0, Value.ref t), (2, Value.int y2)] Z (by decide) rfl rfl (show decode cX0_debts 20 = .ok (.istore_n 1, 1) by decide +kernel) ?_
    obtain ⟨n6, e7, h⟩ := zB_let h
    refine V_iinck 1 1 2 n6 [(2, Value.int n6), (1, Value.int n4), (0, Value.ref t)] Z (by decide) (by decide) rfl e7 rfl (show decode cX0_debts 21 = .ok (.iinc 2 1, 3) by decide +kernel) ?_
    refine V_goto 4 Z (by decide) (show decode cX0_debts 24 = .ok (.goto (-20), 3) by decide +kernel) ?_
    refine V_sub [2, 1, 0] rfl ?_
    exact c1_i _ h
def f_X0_spotsHeld_l4 (t : Nat) (M : zM) : Int32 × Int32 → Option ((Int32 × Int32) ⊕ (Int32))
  | (y1, y2) =>
    if 10 ≤ y2 then
      some (.inr (y1))
    else
      (zrd M (t + 8) y2).bind fun (v2 : Int32) =>
      if v2 < 0 then
        (some (y2 + 1)).bind fun (n5 : Int32) =>
        some (.inl ((y1, n5)))
      else
        (some (y1 + 1)).bind fun (n7 : Int32) =>
        (some (y2 + 1)).bind fun (n9 : Int32) =>
        some (.inl ((n7, n9)))
def f_X0_spotsHeld (t : Nat) (M : zM) : Option (Int32) :=
  zIter (f_X0_spotsHeld_l4 t M) 1000 (0, 0)
theorem cd_X0_spotsHeld : zCd yX0_spotsHeld cX0_spotsHeld 3 (some .int) 0 := ⟨w746, w65, ⟨by decide, by decide⟩, by decide +kernel⟩
set_option maxHeartbeats 4000000 in
set_option maxRecDepth 20000 in
theorem ok_X0_spotsHeld {t : Nat} {M : zM} {y : Int32} (ht : isH t) (h : f_X0_spotsHeld t M = some y) : zRuns yX0_spotsHeld cX0_spotsHeld 3 (some .int) 0 0 [.ref t] M (some (.int y)) M := by
  refine zRuns_of (by decide +kernel) (Nat.le_of_ble_eq_true rfl) (fun E Z hE => ?_)
  have h := zB_top h
  change VV E 3 0 [(0, Value.ref t)] [] M
  refine V_iconst 0 (by decide) Z (show decode cX0_spotsHeld 0 = .ok (.iconst 0, 1) by decide +kernel) ?_
  refine V_istore_n [(1, Value.int 0), (0, Value.ref t)] Z (by decide) rfl rfl (show decode cX0_spotsHeld 1 = .ok (.istore_n 1, 1) by decide +kernel) ?_
  refine V_iconst 0 (by decide) Z (show decode cX0_spotsHeld 2 = .ok (.iconst 0, 1) by decide +kernel) ?_
  refine V_istore_n [(2, Value.int 0), (1, Value.int 0), (0, Value.ref t)] Z (by decide) rfl rfl (show decode cX0_spotsHeld 3 = .ok (.istore_n 2, 1) by decide +kernel) ?_
  refine V_sub [2, 1, 0] rfl ?_
  refine zIter_loop' (K := some) (fun s : Int32 × Int32 => VV E 3 4 [(0, Value.ref t), (1, Value.int s.1), (2, Value.int s.2)] [] M) (fun K1 s c1_i c1_r h => ?_) _ _ h
  obtain ⟨y1, y2⟩ := s
  change VV E 3 4 [(0, Value.ref t), (1, Value.int y1), (2, Value.int y2)] [] M
  refine V_iload_n 2 Z rfl rfl (show decode cX0_spotsHeld 4 = .ok (.iload_n 2, 1) by decide +kernel) ?_
  refine V_bipush 10 (by decide) Z (show decode cX0_spotsHeld 5 = .ok (.bipush 10, 2) by decide +kernel) ?_
  refine V_icmp_ge 28 Z (by decide) (show decode cX0_spotsHeld 7 = .ok (.if_icmp .ge 21, 3) by decide +kernel) (fun c1 => ?_) (fun c1 => ?_)
  · have h := zB_pos c1 h
    refine V_iload_n 1 Z rfl rfl (show decode cX0_spotsHeld 28 = .ok (.iload_n 1, 1) by decide +kernel) ?_
    have h := c1_r _ h
    exact V_iretP Z hE h (show decode cX0_spotsHeld 29 = .ok (.ireturn, 1) by decide +kernel)
  · have h := zB_neg c1 h
    refine V_aload_n 0 Z rfl rfl (show decode cX0_spotsHeld 10 = .ok (.aload_n 0, 1) by decide +kernel) ?_
    refine V_getR 8 (t + 8) Z zc0 (isH_lt ht) (shH ht) (by decide) rfl (isH_ne ht 8) ⟨rfl, rfl, rfl⟩ w111 (show decode cX0_spotsHeld 11 = .ok (.getfield 37, 3) by decide +kernel) ?_
    refine V_iload_n 2 Z rfl rfl (show decode cX0_spotsHeld 14 = .ok (.iload_n 2, 1) by decide +kernel) ?_
    obtain ⟨v2, e3, h⟩ := zB_bind h
    refine V_iald Z e3 (show decode cX0_spotsHeld 15 = .ok (.iaload, 1) by decide +kernel) ?_
    refine V_if_lt 22 Z (by decide) (show decode cX0_spotsHeld 16 = .ok (.ifCond .lt 6, 3) by decide +kernel) (fun c4 => ?_) (fun c4 => ?_)
    · have h := zB_pos c4 h
      obtain ⟨n5, e6, h⟩ := zB_let h
      refine V_iinck 1 1 2 n5 [(2, Value.int n5), (0, Value.ref t), (1, Value.int y1)] Z (by decide) (by decide) rfl e6 rfl (show decode cX0_spotsHeld 22 = .ok (.iinc 2 1, 3) by decide +kernel) ?_
      refine V_goto 4 Z (by decide) (show decode cX0_spotsHeld 25 = .ok (.goto (-21), 3) by decide +kernel) ?_
      refine V_sub [1, 2, 0] rfl ?_
      exact c1_i _ h
    · have h := zB_neg c4 h
      obtain ⟨n7, e8, h⟩ := zB_let h
      refine V_iinck 1 1 1 n7 [(1, Value.int n7), (0, Value.ref t), (2, Value.int y2)] Z (by decide) (by decide) rfl e8 rfl (show decode cX0_spotsHeld 19 = .ok (.iinc 1 1, 3) by decide +kernel) ?_
      obtain ⟨n9, e10, h⟩ := zB_let h
      refine V_iinck 1 1 2 n9 [(2, Value.int n9), (1, Value.int n7), (0, Value.ref t)] Z (by decide) (by decide) rfl e10 rfl (show decode cX0_spotsHeld 22 = .ok (.iinc 2 1, 3) by decide +kernel) ?_
      refine V_goto 4 Z (by decide) (show decode cX0_spotsHeld 25 = .ok (.goto (-21), 3) by decide +kernel) ?_
      refine V_sub [2, 1, 0] rfl ?_
      exact c1_i _ h
def f_X0_lineUp_l34 (t : Nat) (y2 : Int32) (y3 : Int32) : Int32 × zM → Option ((Int32 × zM) ⊕ ((Int32 × Int32 × zM) ⊕ (zM)))
  | (y5, M) =>
    if 6 ≤ y5 then
      (some (y3 + (-1))).bind fun (n13 : Int32) =>
      some (.inr (.inl ((y2, n13, M))))
    else
      (zrd M (t + 9) y5).bind fun (v15 : Int32) =>
      (zrd M (t + 9) y3).bind fun (v17 : Int32) =>
      if v15 < v17 then
        (some (y5 + 1)).bind fun (n20 : Int32) =>
        some (.inl ((n20, M)))
      else
        (zrd M (t + 9) y5).bind fun (v22 : Int32) =>
        (zwr M (t + 9) y5 (v22 + 1)).bind fun (M24 : zM) =>
        (some (y5 + 1)).bind fun (n26 : Int32) =>
        some (.inl ((n26, M24)))
def f_X0_lineUp_l4 (t : Nat) : Int32 × Int32 × zM → Option ((Int32 × Int32 × zM) ⊕ (zM))
  | (y2, y3, M) =>
    if y3 < 0 then
      some (.inr (M))
    else
      (some ((6 - y3))).bind fun (n2 : Int32) =>
      (zrm y2 n2).bind fun (v4 : Int32) =>
      (zwr M (t + 9) y3 v4).bind fun (M6 : zM) =>
      (zdv y2 n2).bind fun (v8 : Int32) =>
      (some ((y3 + 1))).bind fun (n10 : Int32) =>
      zIter (f_X0_lineUp_l34 t v8 y3) 1000 (n10, M6)
def f_X0_lineUp (t : Nat) (x1 : Int32) (M : zM) : Option (zM) :=
  zIter (f_X0_lineUp_l4 t) 1000 (x1, 5, M)
theorem cd_X0_lineUp : zCd yX0_lineUp cX0_lineUp 6 none 1 := ⟨w314, w65, ⟨by decide, by decide⟩, by decide +kernel⟩
set_option maxHeartbeats 4000000 in
set_option maxRecDepth 20000 in
theorem ok_X0_lineUp {t : Nat} {x1 : Int32} {M : zM} {y : zM} (ht : isH t) (h : f_X0_lineUp t x1 M = some y) : zRuns yX0_lineUp cX0_lineUp 6 none 0 0 [.ref t, .int x1] M none y := by
  refine zRuns_of (by decide +kernel) (Nat.le_of_ble_eq_true rfl) (fun E Z hE => ?_)
  have h := zB_top h
  change VV E 6 0 [(0, Value.ref t), (1, Value.int x1)] [] M
  refine V_iload_n 1 Z rfl rfl (show decode cX0_lineUp 0 = .ok (.iload_n 1, 1) by decide +kernel) ?_
  refine V_istore_n [(2, Value.int x1), (0, Value.ref t), (1, Value.int x1)] Z (by decide) rfl rfl (show decode cX0_lineUp 1 = .ok (.istore_n 2, 1) by decide +kernel) ?_
  refine V_iconst 5 (by decide) Z (show decode cX0_lineUp 2 = .ok (.iconst 5, 1) by decide +kernel) ?_
  refine V_istore_n [(3, Value.int 5), (2, Value.int x1), (0, Value.ref t), (1, Value.int x1)] Z (by decide) rfl rfl (show decode cX0_lineUp 3 = .ok (.istore_n 3, 1) by decide +kernel) ?_
  refine V_sub [2, 1, 0] rfl ?_
  refine zIter_loop' (K := some) (fun s : Int32 × Int32 × zM => VV E 6 4 [(0, Value.ref t), (2, Value.int s.1), (3, Value.int s.2.1)] [] s.2.2) (fun K1 s c1_i c1_r h => ?_) _ _ h
  obtain ⟨y2, y3, M⟩ := s
  change VV E 6 4 [(0, Value.ref t), (2, Value.int y2), (3, Value.int y3)] [] M
  refine V_iload_n 2 Z rfl rfl (show decode cX0_lineUp 4 = .ok (.iload_n 3, 1) by decide +kernel) ?_
  refine V_if_lt 80 Z (by decide) (show decode cX0_lineUp 5 = .ok (.ifCond .lt 75, 3) by decide +kernel) (fun c1 => ?_) (fun c1 => ?_)
  · have h := zB_pos c1 h
    have h := c1_r _ h
    exact V_vretM Z hE h (show decode cX0_lineUp 80 = .ok (.return_, 1) by decide +kernel)
  · have h := zB_neg c1 h
    refine V_bipush 6 (by decide) Z (show decode cX0_lineUp 8 = .ok (.bipush 6, 2) by decide +kernel) ?_
    refine V_iload_n 2 Z rfl rfl (show decode cX0_lineUp 10 = .ok (.iload_n 3, 1) by decide +kernel) ?_
    refine V_isub Z (show decode cX0_lineUp 11 = .ok (.isub, 1) by decide +kernel) ?_
    obtain ⟨n2, e3, h⟩ := zB_let h
    refine V_nm e3 ?_
    refine V_istore [(4, Value.int n2), (0, Value.ref t), (2, Value.int y2), (3, Value.int y3)] Z (by decide) rfl (show decode cX0_lineUp 12 = .ok (.istore 4, 2) by decide +kernel) ?_
    refine V_aload_n 1 Z rfl rfl (show decode cX0_lineUp 14 = .ok (.aload_n 0, 1) by decide +kernel) ?_
    refine V_getR 13 (t + 9) Z zc0 (isH_lt ht) (shH ht) (by decide) rfl (isH_ne ht 9) ⟨rfl, rfl, rfl⟩ w122 (show decode cX0_lineUp 15 = .ok (.getfield 52, 3) by decide +kernel) ?_
    refine V_iload_n 3 Z rfl rfl (show decode cX0_lineUp 18 = .ok (.iload_n 3, 1) by decide +kernel) ?_
    refine V_iload_n 2 Z rfl rfl (show decode cX0_lineUp 19 = .ok (.iload_n 2, 1) by decide +kernel) ?_
    refine V_iload 0 Z rfl (show decode cX0_lineUp 20 = .ok (.iload 4, 2) by decide +kernel) ?_
    obtain ⟨v4, e5, h⟩ := zB_bind h
    refine V_irem Z e5 (show decode cX0_lineUp 22 = .ok (.irem, 1) by decide +kernel) ?_
    obtain ⟨M6, e7, h⟩ := zB_bind h
    refine V_iast Z e7 (show decode cX0_lineUp 23 = .ok (.iastore, 1) by decide +kernel) ?_
    refine V_iload_n 2 Z rfl rfl (show decode cX0_lineUp 24 = .ok (.iload_n 2, 1) by decide +kernel) ?_
    refine V_iload 0 Z rfl (show decode cX0_lineUp 25 = .ok (.iload 4, 2) by decide +kernel) ?_
    obtain ⟨v8, e9, h⟩ := zB_bind h
    refine V_idiv Z e9 (show decode cX0_lineUp 27 = .ok (.idiv, 1) by decide +kernel) ?_
    refine V_istore_n [(2, Value.int v8), (4, Value.int n2), (0, Value.ref t), (3, Value.int y3)] Z (by decide) rfl rfl (show decode cX0_lineUp 28 = .ok (.istore_n 2, 1) by decide +kernel) ?_
    refine V_iload_n 3 Z rfl rfl (show decode cX0_lineUp 29 = .ok (.iload_n 3, 1) by decide +kernel) ?_
    refine V_iconst 1 (by decide) Z (show decode cX0_lineUp 30 = .ok (.iconst 1, 1) by decide +kernel) ?_
    refine V_iadd Z (show decode cX0_lineUp 31 = .ok (.iadd, 1) by decide +kernel) ?_
    obtain ⟨n10, e11, h⟩ := zB_let h
    refine V_nm e11 ?_
    refine V_istore [(5, Value.int n10), (2, Value.int v8), (4, Value.int n2), (0, Value.ref t), (3, Value.int y3)] Z (by decide) rfl (show decode cX0_lineUp 32 = .ok (.istore 5, 2) by decide +kernel) ?_
    refine V_sub [3, 1, 4, 0] rfl ?_
    refine zIter_loop' (K := K1) (fun s : Int32 × zM => VV E 6 34 [(0, Value.ref t), (2, Value.int v8), (3, Value.int y3), (5, Value.int s.1)] [] s.2) (fun K2 s c2_i c2_r h => ?_) _ _ h
    obtain ⟨y5, M⟩ := s
    change VV E 6 34 [(0, Value.ref t), (2, Value.int v8), (3, Value.int y3), (5, Value.int y5)] [] M
    refine V_iload 3 Z rfl (show decode cX0_lineUp 34 = .ok (.iload 5, 2) by decide +kernel) ?_
    refine V_bipush 6 (by decide) Z (show decode cX0_lineUp 36 = .ok (.bipush 6, 2) by decide +kernel) ?_
    refine V_icmp_ge 74 Z (by decide) (show decode cX0_lineUp 38 = .ok (.if_icmp .ge 36, 3) by decide +kernel) (fun c12 => ?_) (fun c12 => ?_)
    · have h := zB_pos c12 h
      obtain ⟨n13, e14, h⟩ := zB_let h
      refine V_iinck (-1) (-1) 2 n13 [(3, Value.int n13), (0, Value.ref t), (2, Value.int v8), (5, Value.int y5)] Z (by decide) (by decide) rfl e14 rfl (show decode cX0_lineUp 74 = .ok (.iinc 3 (-1), 3) by decide +kernel) ?_
      refine V_goto 4 Z (by decide) (show decode cX0_lineUp 77 = .ok (.goto (-73), 3) by decide +kernel) ?_
      refine V_sub [1, 2, 0] rfl ?_
      have h := c2_r _ h
      exact c1_i _ h
    · have h := zB_neg c12 h
      refine V_aload_n 0 Z rfl rfl (show decode cX0_lineUp 41 = .ok (.aload_n 0, 1) by decide +kernel) ?_
      refine V_getR 13 (t + 9) Z zc0 (isH_lt ht) (shH ht) (by decide) rfl (isH_ne ht 9) ⟨rfl, rfl, rfl⟩ w122 (show decode cX0_lineUp 42 = .ok (.getfield 52, 3) by decide +kernel) ?_
      refine V_iload 3 Z rfl (show decode cX0_lineUp 45 = .ok (.iload 5, 2) by decide +kernel) ?_
      obtain ⟨v15, e16, h⟩ := zB_bind h
      refine V_iald Z e16 (show decode cX0_lineUp 47 = .ok (.iaload, 1) by decide +kernel) ?_
      refine V_aload_n 0 Z rfl rfl (show decode cX0_lineUp 48 = .ok (.aload_n 0, 1) by decide +kernel) ?_
      refine V_getR 13 (t + 9) Z zc0 (isH_lt ht) (shH ht) (by decide) rfl (isH_ne ht 9) ⟨rfl, rfl, rfl⟩ w122 (show decode cX0_lineUp 49 = .ok (.getfield 52, 3) by decide +kernel) ?_
      refine V_iload_n 2 Z rfl rfl (show decode cX0_lineUp 52 = .ok (.iload_n 3, 1) by decide +kernel) ?_
      obtain ⟨v17, e18, h⟩ := zB_bind h
      refine V_iald Z e18 (show decode cX0_lineUp 53 = .ok (.iaload, 1) by decide +kernel) ?_
      refine V_icmp_lt 68 Z (by decide) (show decode cX0_lineUp 54 = .ok (.if_icmp .lt 14, 3) by decide +kernel) (fun c19 => ?_) (fun c19 => ?_)
      · have h := zB_pos c19 h
        obtain ⟨n20, e21, h⟩ := zB_let h
        refine V_iinck 1 1 3 n20 [(5, Value.int n20), (0, Value.ref t), (2, Value.int v8), (3, Value.int y3)] Z (by decide) (by decide) rfl e21 rfl (show decode cX0_lineUp 68 = .ok (.iinc 5 1, 3) by decide +kernel) ?_
        refine V_goto 34 Z (by decide) (show decode cX0_lineUp 71 = .ok (.goto (-37), 3) by decide +kernel) ?_
        refine V_sub [1, 2, 3, 0] rfl ?_
        exact c2_i _ h
      · have h := zB_neg c19 h
        refine V_aload_n 0 Z rfl rfl (show decode cX0_lineUp 57 = .ok (.aload_n 0, 1) by decide +kernel) ?_
        refine V_getR 13 (t + 9) Z zc0 (isH_lt ht) (shH ht) (by decide) rfl (isH_ne ht 9) ⟨rfl, rfl, rfl⟩ w122 (show decode cX0_lineUp 58 = .ok (.getfield 52, 3) by decide +kernel) ?_
        refine V_iload 3 Z rfl (show decode cX0_lineUp 61 = .ok (.iload 5, 2) by decide +kernel) ?_
        refine V_dup2 rfl rfl Z (show decode cX0_lineUp 63 = .ok (.dup2, 1) by decide +kernel) ?_
        obtain ⟨v22, e23, h⟩ := zB_bind h
        refine V_iald Z e23 (show decode cX0_lineUp 64 = .ok (.iaload, 1) by decide +kernel) ?_
        refine V_iconst 1 (by decide) Z (show decode cX0_lineUp 65 = .ok (.iconst 1, 1) by decide +kernel) ?_
        refine V_iadd Z (show decode cX0_lineUp 66 = .ok (.iadd, 1) by decide +kernel) ?_
        obtain ⟨M24, e25, h⟩ := zB_bind h
        refine V_iast Z e25 (show decode cX0_lineUp 67 = .ok (.iastore, 1) by decide +kernel) ?_
        obtain ⟨n26, e27, h⟩ := zB_let h
        refine V_iinck 1 1 3 n26 [(5, Value.int n26), (0, Value.ref t), (2, Value.int v8), (3, Value.int y3)] Z (by decide) (by decide) rfl e27 rfl (show decode cX0_lineUp 68 = .ok (.iinc 5 1, 3) by decide +kernel) ?_
        refine V_goto 34 Z (by decide) (show decode cX0_lineUp 71 = .ok (.goto (-37), 3) by decide +kernel) ?_
        refine V_sub [1, 2, 3, 0] rfl ?_
        exact c2_i _ h
def f_X0_placeOf_l10 (t : Nat) (y1 : Int32) (M : zM) : Int32 → Option ((Int32) ⊕ (Int32 × zM))
  | y2 =>
    if 5 ≤ y2 then
      some (.inr ((y2, M)))
    else
      (zrd M (t + 9) y2).bind fun (v4 : Int32) =>
      if v4 = y1 then
        some (.inr ((y2, M)))
      else
        (some (y2 + 1)).bind fun (n7 : Int32) =>
        some (.inl (n7))
def f_X0_placeOf (t : Nat) (x1 : Int32) (M : zM) : Option (Int32 × zM) :=
  (f_X0_lineUp t (M t 9) M).bind fun (M2 : zM) =>
  zIter (f_X0_placeOf_l10 t x1 M2) 1000 (0 : Int32)
theorem cd_X0_placeOf : zCd yX0_placeOf cX0_placeOf 3 (some .int) 1 := ⟨w310, w65, ⟨by decide, by decide⟩, by decide +kernel⟩
set_option maxHeartbeats 4000000 in
set_option maxRecDepth 20000 in
theorem ok_X0_placeOf {t : Nat} {x1 : Int32} {M : zM} {y : Int32 × zM} (ht : isH t) (h : f_X0_placeOf t x1 M = some y) : zRuns yX0_placeOf cX0_placeOf 3 (some .int) 1 25 [.ref t, .int x1] M (some (.int y.1)) y.2 := by
  refine zRuns_of (by decide +kernel) (Nat.le_of_ble_eq_true rfl) (fun E Z hE => ?_)
  have h := zB_top h
  change VV E 3 0 [(0, Value.ref t), (1, Value.int x1)] [] M
  refine V_aload_n 0 Z rfl rfl (show decode cX0_placeOf 0 = .ok (.aload_n 0, 1) by decide +kernel) ?_
  refine V_aload_n 0 Z rfl rfl (show decode cX0_placeOf 1 = .ok (.aload_n 0, 1) by decide +kernel) ?_
  refine V_getI 9 Z zc0 (isH_lt ht) (shH ht) (by decide) rfl ⟨rfl, rfl, rfl⟩ w113 (show decode cX0_placeOf 2 = .ok (.getfield 40, 3) by decide +kernel) ?_
  obtain ⟨M2, e1, h⟩ := zB_bind h
  refine V_callV (rest := []) 1 Z (ok_X0_lineUp ht e1) cd_X0_lineUp zc0 (isH_lt ht) (shH ht) w311 w312 w313 rfl (show decode cX0_placeOf 5 = .ok (.invokevirtual 78, 3) by decide +kernel) rfl ?_
  refine V_iconst 0 (by decide) Z (show decode cX0_placeOf 8 = .ok (.iconst 0, 1) by decide +kernel) ?_
  refine V_istore_n [(2, Value.int 0), (0, Value.ref t), (1, Value.int x1)] Z (by decide) rfl rfl (show decode cX0_placeOf 9 = .ok (.istore_n 2, 1) by decide +kernel) ?_
  refine V_sub [1, 2, 0] rfl ?_
  refine zIter_loop' (K := some) (fun s : Int32 => VV E 3 10 [(0, Value.ref t), (1, Value.int x1), (2, Value.int s)] [] M2) (fun K1 y2 c1_i c1_r h => ?_) _ _ h
  refine V_iload_n 2 Z rfl rfl (show decode cX0_placeOf 10 = .ok (.iload_n 2, 1) by decide +kernel) ?_
  refine V_iconst 5 (by decide) Z (show decode cX0_placeOf 11 = .ok (.iconst 5, 1) by decide +kernel) ?_
  refine V_icmp_ge 31 Z (by decide) (show decode cX0_placeOf 12 = .ok (.if_icmp .ge 19, 3) by decide +kernel) (fun c3 => ?_) (fun c3 => ?_)
  · have h := zB_pos c3 h
    refine V_iload_n 2 Z rfl rfl (show decode cX0_placeOf 31 = .ok (.iload_n 2, 1) by decide +kernel) ?_
    have h := c1_r _ h
    exact V_iretM Z hE h (show decode cX0_placeOf 32 = .ok (.ireturn, 1) by decide +kernel)
  · have h := zB_neg c3 h
    refine V_aload_n 0 Z rfl rfl (show decode cX0_placeOf 15 = .ok (.aload_n 0, 1) by decide +kernel) ?_
    refine V_getR 13 (t + 9) Z zc0 (isH_lt ht) (shH ht) (by decide) rfl (isH_ne ht 9) ⟨rfl, rfl, rfl⟩ w122 (show decode cX0_placeOf 16 = .ok (.getfield 52, 3) by decide +kernel) ?_
    refine V_iload_n 2 Z rfl rfl (show decode cX0_placeOf 19 = .ok (.iload_n 2, 1) by decide +kernel) ?_
    obtain ⟨v4, e5, h⟩ := zB_bind h
    refine V_iald Z e5 (show decode cX0_placeOf 20 = .ok (.iaload, 1) by decide +kernel) ?_
    refine V_iload_n 1 Z rfl rfl (show decode cX0_placeOf 21 = .ok (.iload_n 1, 1) by decide +kernel) ?_
    refine V_icmp_eq 31 Z (by decide) (show decode cX0_placeOf 22 = .ok (.if_icmp .eq 9, 3) by decide +kernel) (fun c6 => ?_) (fun c6 => ?_)
    · have h := zB_pos c6 h
      refine V_iload_n 2 Z rfl rfl (show decode cX0_placeOf 31 = .ok (.iload_n 2, 1) by decide +kernel) ?_
      have h := c1_r _ h
      exact V_iretM Z hE h (show decode cX0_placeOf 32 = .ok (.ireturn, 1) by decide +kernel)
    · have h := zB_neg c6 h
      obtain ⟨n7, e8, h⟩ := zB_let h
      refine V_iinck 1 1 2 n7 [(2, Value.int n7), (0, Value.ref t), (1, Value.int x1)] Z (by decide) (by decide) rfl e8 rfl (show decode cX0_placeOf 25 = .ok (.iinc 2 1, 3) by decide +kernel) ?_
      refine V_goto 10 Z (by decide) (show decode cX0_placeOf 28 = .ok (.goto (-18), 3) by decide +kernel) ?_
      refine V_sub [1, 2, 0] rfl ?_
      exact c1_i _ h
def f_J6_bitCount_0f7a4 (x0 : Int32) (M : zM) : Option (Int32) :=
  (some ((x0 - ((((x0 : Int32).toUInt32 >>> ((1 : Int32).toUInt32 &&& Int32.toUInt32 31)).toInt32) &&& 1431655765)))).bind fun (n1 : Int32) =>
  (some (((n1 &&& 858993459) + ((((n1 : Int32).toUInt32 >>> ((2 : Int32).toUInt32 &&& Int32.toUInt32 31)).toInt32) &&& 858993459)))).bind fun (n3 : Int32) =>
  (some (((n3 + (((n3 : Int32).toUInt32 >>> ((4 : Int32).toUInt32 &&& Int32.toUInt32 31)).toInt32)) &&& 252645135))).bind fun (n5 : Int32) =>
  (some ((n5 + (((n5 : Int32).toUInt32 >>> ((8 : Int32).toUInt32 &&& Int32.toUInt32 31)).toInt32)))).bind fun (n7 : Int32) =>
  (some ((n7 + (((n7 : Int32).toUInt32 >>> ((16 : Int32).toUInt32 &&& Int32.toUInt32 31)).toInt32)))).bind fun (n9 : Int32) =>
  some ((n9 &&& 63))
theorem cd_J6_bitCount_0f7a4 : zCd yJ6_bitCount_0f7a4 cJ6_bitCount_0f7a4 1 (some .int) 1 := ⟨w353, w72, ⟨by decide, by decide⟩, by decide +kernel⟩
set_option maxHeartbeats 4000000 in
set_option maxRecDepth 20000 in
theorem ok_J6_bitCount_0f7a4 {x0 : Int32} {M : zM} {y : Int32}  (h : f_J6_bitCount_0f7a4 x0 M = some y) : zRuns yJ6_bitCount_0f7a4 cJ6_bitCount_0f7a4 1 (some .int) 0 0 [.int x0] M (some (.int y)) M := by
  refine zRuns_of (by decide +kernel) (Nat.le_of_ble_eq_true rfl) (fun E Z hE => ?_)
  have h := zB_top h
  change VV E 1 0 [(0, Value.int x0)] [] M
  refine V_iload_n 0 Z rfl rfl (show decode cJ6_bitCount_0f7a4 0 = .ok (.iload_n 0, 1) by decide +kernel) ?_
  refine V_iload_n 0 Z rfl rfl (show decode cJ6_bitCount_0f7a4 1 = .ok (.iload_n 0, 1) by decide +kernel) ?_
  refine V_iconst 1 (by decide) Z (show decode cJ6_bitCount_0f7a4 2 = .ok (.iconst 1, 1) by decide +kernel) ?_
  refine V_iushr Z (show decode cJ6_bitCount_0f7a4 3 = .ok (.iushr, 1) by decide +kernel) ?_
  refine V_ldcw 1431655765 Z w354 (show decode cJ6_bitCount_0f7a4 4 = .ok (.ldc_w 265, 3) by decide +kernel) ?_
  refine V_iand Z (show decode cJ6_bitCount_0f7a4 7 = .ok (.iand, 1) by decide +kernel) ?_
  refine V_isub Z (show decode cJ6_bitCount_0f7a4 8 = .ok (.isub, 1) by decide +kernel) ?_
  obtain ⟨n1, e2, h⟩ := zB_let h
  refine V_nm e2 ?_
  refine V_istore_n [(0, Value.int n1)] Z (by decide) rfl rfl (show decode cJ6_bitCount_0f7a4 9 = .ok (.istore_n 0, 1) by decide +kernel) ?_
  refine V_iload_n 0 Z rfl rfl (show decode cJ6_bitCount_0f7a4 10 = .ok (.iload_n 0, 1) by decide +kernel) ?_
  refine V_ldcw 858993459 Z w355 (show decode cJ6_bitCount_0f7a4 11 = .ok (.ldc_w 266, 3) by decide +kernel) ?_
  refine V_iand Z (show decode cJ6_bitCount_0f7a4 14 = .ok (.iand, 1) by decide +kernel) ?_
  refine V_iload_n 0 Z rfl rfl (show decode cJ6_bitCount_0f7a4 15 = .ok (.iload_n 0, 1) by decide +kernel) ?_
  refine V_iconst 2 (by decide) Z (show decode cJ6_bitCount_0f7a4 16 = .ok (.iconst 2, 1) by decide +kernel) ?_
  refine V_iushr Z (show decode cJ6_bitCount_0f7a4 17 = .ok (.iushr, 1) by decide +kernel) ?_
  refine V_ldcw 858993459 Z w355 (show decode cJ6_bitCount_0f7a4 18 = .ok (.ldc_w 266, 3) by decide +kernel) ?_
  refine V_iand Z (show decode cJ6_bitCount_0f7a4 21 = .ok (.iand, 1) by decide +kernel) ?_
  refine V_iadd Z (show decode cJ6_bitCount_0f7a4 22 = .ok (.iadd, 1) by decide +kernel) ?_
  obtain ⟨n3, e4, h⟩ := zB_let h
  refine V_nm e4 ?_
  refine V_istore_n [(0, Value.int n3)] Z (by decide) rfl rfl (show decode cJ6_bitCount_0f7a4 23 = .ok (.istore_n 0, 1) by decide +kernel) ?_
  refine V_iload_n 0 Z rfl rfl (show decode cJ6_bitCount_0f7a4 24 = .ok (.iload_n 0, 1) by decide +kernel) ?_
  refine V_iload_n 0 Z rfl rfl (show decode cJ6_bitCount_0f7a4 25 = .ok (.iload_n 0, 1) by decide +kernel) ?_
  refine V_iconst 4 (by decide) Z (show decode cJ6_bitCount_0f7a4 26 = .ok (.iconst 4, 1) by decide +kernel) ?_
  refine V_iushr Z (show decode cJ6_bitCount_0f7a4 27 = .ok (.iushr, 1) by decide +kernel) ?_
  refine V_iadd Z (show decode cJ6_bitCount_0f7a4 28 = .ok (.iadd, 1) by decide +kernel) ?_
  refine V_ldcw 252645135 Z w356 (show decode cJ6_bitCount_0f7a4 29 = .ok (.ldc_w 267, 3) by decide +kernel) ?_
  refine V_iand Z (show decode cJ6_bitCount_0f7a4 32 = .ok (.iand, 1) by decide +kernel) ?_
  obtain ⟨n5, e6, h⟩ := zB_let h
  refine V_nm e6 ?_
  refine V_istore_n [(0, Value.int n5)] Z (by decide) rfl rfl (show decode cJ6_bitCount_0f7a4 33 = .ok (.istore_n 0, 1) by decide +kernel) ?_
  refine V_iload_n 0 Z rfl rfl (show decode cJ6_bitCount_0f7a4 34 = .ok (.iload_n 0, 1) by decide +kernel) ?_
  refine V_iload_n 0 Z rfl rfl (show decode cJ6_bitCount_0f7a4 35 = .ok (.iload_n 0, 1) by decide +kernel) ?_
  refine V_bipush 8 (by decide) Z (show decode cJ6_bitCount_0f7a4 36 = .ok (.bipush 8, 2) by decide +kernel) ?_
  refine V_iushr Z (show decode cJ6_bitCount_0f7a4 38 = .ok (.iushr, 1) by decide +kernel) ?_
  refine V_iadd Z (show decode cJ6_bitCount_0f7a4 39 = .ok (.iadd, 1) by decide +kernel) ?_
  obtain ⟨n7, e8, h⟩ := zB_let h
  refine V_nm e8 ?_
  refine V_istore_n [(0, Value.int n7)] Z (by decide) rfl rfl (show decode cJ6_bitCount_0f7a4 40 = .ok (.istore_n 0, 1) by decide +kernel) ?_
  refine V_iload_n 0 Z rfl rfl (show decode cJ6_bitCount_0f7a4 41 = .ok (.iload_n 0, 1) by decide +kernel) ?_
  refine V_iload_n 0 Z rfl rfl (show decode cJ6_bitCount_0f7a4 42 = .ok (.iload_n 0, 1) by decide +kernel) ?_
  refine V_bipush 16 (by decide) Z (show decode cJ6_bitCount_0f7a4 43 = .ok (.bipush 16, 2) by decide +kernel) ?_
  refine V_iushr Z (show decode cJ6_bitCount_0f7a4 45 = .ok (.iushr, 1) by decide +kernel) ?_
  refine V_iadd Z (show decode cJ6_bitCount_0f7a4 46 = .ok (.iadd, 1) by decide +kernel) ?_
  obtain ⟨n9, e10, h⟩ := zB_let h
  refine V_nm e10 ?_
  refine V_istore_n [(0, Value.int n9)] Z (by decide) rfl rfl (show decode cJ6_bitCount_0f7a4 47 = .ok (.istore_n 0, 1) by decide +kernel) ?_
  refine V_iload_n 0 Z rfl rfl (show decode cJ6_bitCount_0f7a4 48 = .ok (.iload_n 0, 1) by decide +kernel) ?_
  refine V_bipush 63 (by decide) Z (show decode cJ6_bitCount_0f7a4 49 = .ok (.bipush 63, 2) by decide +kernel) ?_
  refine V_iand Z (show decode cJ6_bitCount_0f7a4 51 = .ok (.iand, 1) by decide +kernel) ?_
  exact V_iretP Z hE h (show decode cJ6_bitCount_0f7a4 52 = .ok (.ireturn, 1) by decide +kernel)
def f_X5_lowest (x0 : Int32) (M : zM) : Option (Int32) :=
  (f_J6_bitCount_0f7a4 ((x0 &&& (-x0)) - 1) M).bind fun (v2 : Int32) =>
  some (v2)
theorem cd_X5_lowest : zCd yX5_lowest cX5_lowest 1 (some .int) 1 := ⟨w350, w64, ⟨by decide, by decide⟩, by decide +kernel⟩
set_option maxHeartbeats 4000000 in
set_option maxRecDepth 20000 in
theorem ok_X5_lowest {x0 : Int32} {M : zM} {y : Int32}  (h : f_X5_lowest x0 M = some y) : zRuns yX5_lowest cX5_lowest 1 (some .int) 1 20 [.int x0] M (some (.int y)) M := by
  refine zRuns_of (by decide +kernel) (Nat.le_of_ble_eq_true rfl) (fun E Z hE => ?_)
  have h := zB_top h
  change VV E 1 0 [(0, Value.int x0)] [] M
  refine V_iload_n 0 Z rfl rfl (show decode cX5_lowest 0 = .ok (.iload_n 0, 1) by decide +kernel) ?_
  refine V_iload_n 0 Z rfl rfl (show decode cX5_lowest 1 = .ok (.iload_n 0, 1) by decide +kernel) ?_
  refine V_ineg Z (show decode cX5_lowest 2 = .ok (.ineg, 1) by decide +kernel) ?_
  refine V_iand Z (show decode cX5_lowest 3 = .ok (.iand, 1) by decide +kernel) ?_
  refine V_iconst 1 (by decide) Z (show decode cX5_lowest 4 = .ok (.iconst 1, 1) by decide +kernel) ?_
  refine V_isub Z (show decode cX5_lowest 5 = .ok (.isub, 1) by decide +kernel) ?_
  obtain ⟨v2, e1, h⟩ := zB_bind h
  refine V_callS (rest := []) 1 Z (ok_J6_bitCount_0f7a4  e1) cd_J6_bitCount_0f7a4 w351 w352 rfl (show decode cX5_lowest 6 = .ok (.invokestatic 190, 3) by decide +kernel) rfl ?_
  exact V_iretP Z hE h (show decode cX5_lowest 9 = .ok (.ireturn, 1) by decide +kernel)
def f_X0_draw_j91 (t : Nat) (y2 : Int32) (y3 : Int32) (y4 : Int32) (y5 : Int32) (M : zM) : Option ((Int32 × Int32 × zM) ⊕ (zM)) :=
  (zwr M (t + 10) y4 y5).bind fun (M5 : zM) =>
  if y5 < 0 then
    (some (y3 + 1)).bind fun (n8 : Int32) =>
    some (.inl ((y2, n8, M5)))
  else
    (some ((y2 &&& ((1 <<< (y5 &&& 31)) ^^^ (-1))))).bind fun (n10 : Int32) =>
    (some (y3 + 1)).bind fun (n12 : Int32) =>
    some (.inl ((n10, n12, M5)))
def f_X0_draw_j81 (t : Nat) (y2 : Int32) (y3 : Int32) (y4 : Int32) (y5 : Int32) (M : zM) : Option ((Int32 × Int32 × zM) ⊕ (zM)) :=
  if y2 = 0 then
    f_X0_draw_j91 t y2 y3 y4 y5 M
  else
    (f_X5_lowest y2 M).bind fun (v16 : Int32) =>
    f_X0_draw_j91 t y2 y3 y4 v16 M
def f_X0_draw_l12 (t : Nat) : Int32 × Int32 × zM → Option ((Int32 × Int32 × zM) ⊕ (zM))
  | (y2, y3, M) =>
    if 6 ≤ y3 then
      some (.inr (M))
    else
      (zrd M (t + 9) y3).bind fun (v18 : Int32) =>
      if v18 < 0 then
        (some (y3 + 1)).bind fun (n21 : Int32) =>
        some (.inl ((y2, n21, M)))
      else
        if v18 < 6 then
          (zrd M (t + 7) v18).bind fun (v24 : Int32) =>
          if v24 < 0 then
            f_X0_draw_j81 t y2 y3 v18 (-1) M
          else
            (zrd M (t + 7) v18).bind fun (v27 : Int32) =>
            if ((y2 >>> (v27 &&& 31)) &&& 1) = 1 then
              (zrd M (t + 7) v18).bind fun (v30 : Int32) =>
              f_X0_draw_j91 t y2 y3 v18 v30 M
            else
              f_X0_draw_j81 t y2 y3 v18 (-1) M
        else
          (some (y3 + 1)).bind fun (n32 : Int32) =>
          some (.inl ((y2, n32, M)))
def f_X0_draw (t : Nat) (x1 : Int32) (M : zM) : Option (zM) :=
  (f_X0_lineUp t x1 M).bind fun (M2 : zM) =>
  (f_X0_hanging t M2).bind fun (v4 : Int32) =>
  zIter (f_X0_draw_l12 t) 1000 (v4, 0, M2)
theorem cd_X0_draw : zCd yX0_draw cX0_draw 6 none 1 := ⟨w342, w65, ⟨by decide, by decide⟩, by decide +kernel⟩
set_option maxHeartbeats 4000000 in
set_option maxRecDepth 20000 in
theorem ok_X0_draw {t : Nat} {x1 : Int32} {M : zM} {y : zM} (ht : isH t) (h : f_X0_draw t x1 M = some y) : zRuns yX0_draw cX0_draw 6 none 2 43 [.ref t, .int x1] M none y := by
  refine zRuns_of (by decide +kernel) (Nat.le_of_ble_eq_true rfl) (fun E Z hE => ?_)
  have h := zB_top h
  change VV E 6 0 [(0, Value.ref t), (1, Value.int x1)] [] M
  refine V_aload_n 0 Z rfl rfl (show decode cX0_draw 0 = .ok (.aload_n 0, 1) by decide +kernel) ?_
  refine V_iload_n 1 Z rfl rfl (show decode cX0_draw 1 = .ok (.iload_n 1, 1) by decide +kernel) ?_
  obtain ⟨M2, e1, h⟩ := zB_bind h
  refine V_callV (rest := []) 1 Z (ok_X0_lineUp ht e1) cd_X0_lineUp zc0 (isH_lt ht) (shH ht) w311 w312 w313 rfl (show decode cX0_draw 2 = .ok (.invokevirtual 78, 3) by decide +kernel) rfl ?_
  refine V_aload_n 0 Z rfl rfl (show decode cX0_draw 5 = .ok (.aload_n 0, 1) by decide +kernel) ?_
  obtain ⟨v4, e3, h⟩ := zB_bind h
  refine V_callV (rest := []) 0 Z (ok_X0_hanging ht e3) cd_X0_hanging zc0 (isH_lt ht) (shH ht) w343 w344 w345 rfl (show decode cX0_draw 6 = .ok (.invokevirtual 82, 3) by decide +kernel) rfl ?_
  refine V_istore_n [(2, Value.int v4), (0, Value.ref t), (1, Value.int x1)] Z (by decide) rfl rfl (show decode cX0_draw 9 = .ok (.istore_n 2, 1) by decide +kernel) ?_
  refine V_iconst 0 (by decide) Z (show decode cX0_draw 10 = .ok (.iconst 0, 1) by decide +kernel) ?_
  refine V_istore_n [(3, Value.int 0), (2, Value.int v4), (0, Value.ref t), (1, Value.int x1)] Z (by decide) rfl rfl (show decode cX0_draw 11 = .ok (.istore_n 3, 1) by decide +kernel) ?_
  refine V_sub [2, 1, 0] rfl ?_
  refine zIter_loop' (K := some) (fun s : Int32 × Int32 × zM => VV E 6 12 [(0, Value.ref t), (2, Value.int s.1), (3, Value.int s.2.1)] [] s.2.2) (fun K1 s c1_i c1_r h => ?_) _ _ h
  obtain ⟨y2, y3, M⟩ := s
  change VV E 6 12 [(0, Value.ref t), (2, Value.int y2), (3, Value.int y3)] [] M
  have J91 : ∀ (y2 : Int32) (y3 : Int32) (y4 : Int32) (y5 : Int32) (M : zM), (f_X0_draw_j91 t y2 y3 y4 y5 M).bind K1 = some y → VV E 6 91 [(0, Value.ref t), (2, Value.int y2), (3, Value.int y3), (4, Value.int y4), (5, Value.int y5)] [] M := by
    intro y2 y3 y4 y5 M h
    refine V_aload_n 0 Z rfl rfl (show decode cX0_draw 91 = .ok (.aload_n 0, 1) by decide +kernel) ?_
    refine V_getR 14 (t + 10) Z zc0 (isH_lt ht) (shH ht) (by decide) rfl (isH_ne ht 10) ⟨rfl, rfl, rfl⟩ w124 (show decode cX0_draw 92 = .ok (.getfield 55, 3) by decide +kernel) ?_
    refine V_iload 3 Z rfl (show decode cX0_draw 95 = .ok (.iload 4, 2) by decide +kernel) ?_
    refine V_iload 4 Z rfl (show decode cX0_draw 97 = .ok (.iload 5, 2) by decide +kernel) ?_
    obtain ⟨M5, e6, h⟩ := zB_bind h
    refine V_iast Z e6 (show decode cX0_draw 99 = .ok (.iastore, 1) by decide +kernel) ?_
    refine V_iload 4 Z rfl (show decode cX0_draw 100 = .ok (.iload 5, 2) by decide +kernel) ?_
    refine V_if_lt 114 Z (by decide) (show decode cX0_draw 102 = .ok (.ifCond .lt 12, 3) by decide +kernel) (fun c7 => ?_) (fun c7 => ?_)
    · have h := zB_pos c7 h
      obtain ⟨n8, e9, h⟩ := zB_let h
      refine V_iinck 1 1 2 n8 [(3, Value.int n8), (0, Value.ref t), (2, Value.int y2), (4, Value.int y4), (5, Value.int y5)] Z (by decide) (by decide) rfl e9 rfl (show decode cX0_draw 114 = .ok (.iinc 3 1, 3) by decide +kernel) ?_
      refine V_goto 12 Z (by decide) (show decode cX0_draw 117 = .ok (.goto (-105), 3) by decide +kernel) ?_
      refine V_sub [1, 2, 0] rfl ?_
      exact c1_i _ h
    · have h := zB_neg c7 h
      refine V_iload_n 1 Z rfl rfl (show decode cX0_draw 105 = .ok (.iload_n 2, 1) by decide +kernel) ?_
      refine V_iconst 1 (by decide) Z (show decode cX0_draw 106 = .ok (.iconst 1, 1) by decide +kernel) ?_
      refine V_iload 4 Z rfl (show decode cX0_draw 107 = .ok (.iload 5, 2) by decide +kernel) ?_
      refine V_ishl Z (show decode cX0_draw 109 = .ok (.ishl, 1) by decide +kernel) ?_
      refine V_iconst (-1) (by decide) Z (show decode cX0_draw 110 = .ok (.iconst (-1), 1) by decide +kernel) ?_
      refine V_ixor Z (show decode cX0_draw 111 = .ok (.ixor, 1) by decide +kernel) ?_
      refine V_iand Z (show decode cX0_draw 112 = .ok (.iand, 1) by decide +kernel) ?_
      obtain ⟨n10, e11, h⟩ := zB_let h
      refine V_nm e11 ?_
      refine V_istore_n [(2, Value.int n10), (0, Value.ref t), (3, Value.int y3), (4, Value.int y4), (5, Value.int y5)] Z (by decide) rfl rfl (show decode cX0_draw 113 = .ok (.istore_n 2, 1) by decide +kernel) ?_
      obtain ⟨n12, e13, h⟩ := zB_let h
      refine V_iinck 1 1 2 n12 [(3, Value.int n12), (2, Value.int n10), (0, Value.ref t), (4, Value.int y4), (5, Value.int y5)] Z (by decide) (by decide) rfl e13 rfl (show decode cX0_draw 114 = .ok (.iinc 3 1, 3) by decide +kernel) ?_
      refine V_goto 12 Z (by decide) (show decode cX0_draw 117 = .ok (.goto (-105), 3) by decide +kernel) ?_
      refine V_sub [2, 1, 0] rfl ?_
      exact c1_i _ h
  have J81 : ∀ (y2 : Int32) (y3 : Int32) (y4 : Int32) (y5 : Int32) (M : zM), (f_X0_draw_j81 t y2 y3 y4 y5 M).bind K1 = some y → VV E 6 81 [(0, Value.ref t), (2, Value.int y2), (3, Value.int y3), (4, Value.int y4), (5, Value.int y5)] [] M := by
    intro y2 y3 y4 y5 M h
    refine V_iload_n 1 Z rfl rfl (show decode cX0_draw 81 = .ok (.iload_n 2, 1) by decide +kernel) ?_
    refine V_if_eq 91 Z (by decide) (show decode cX0_draw 82 = .ok (.ifCond .eq 9, 3) by decide +kernel) (fun c14 => ?_) (fun c14 => ?_)
    · have h := zB_pos c14 h
      exact J91 _ _ _ _ _ h
    · have h := zB_neg c14 h
      refine V_iload_n 1 Z rfl rfl (show decode cX0_draw 85 = .ok (.iload_n 2, 1) by decide +kernel) ?_
      obtain ⟨v16, e15, h⟩ := zB_bind h
      refine V_callSN (rest := []) 1 "NameRail" Z (ok_X5_lowest  e15) cd_X5_lowest (by decide +kernel) w349 rfl (show decode cX0_draw 86 = .ok (.invokestatic 86, 3) by decide +kernel) rfl ?_
      refine V_istore [(5, Value.int v16), (0, Value.ref t), (2, Value.int y2), (3, Value.int y3), (4, Value.int y4)] Z (by decide) rfl (show decode cX0_draw 89 = .ok (.istore 5, 2) by decide +kernel) ?_
      refine V_sub [1, 2, 3, 4, 0] rfl ?_
      exact J91 _ _ _ _ _ h
  refine V_iload_n 2 Z rfl rfl (show decode cX0_draw 12 = .ok (.iload_n 3, 1) by decide +kernel) ?_
  refine V_bipush 6 (by decide) Z (show decode cX0_draw 13 = .ok (.bipush 6, 2) by decide +kernel) ?_
  refine V_icmp_ge 120 Z (by decide) (show decode cX0_draw 15 = .ok (.if_icmp .ge 105, 3) by decide +kernel) (fun c17 => ?_) (fun c17 => ?_)
  · have h := zB_pos c17 h
    have h := c1_r _ h
    exact V_vretM Z hE h (show decode cX0_draw 120 = .ok (.return_, 1) by decide +kernel)
  · have h := zB_neg c17 h
    refine V_aload_n 0 Z rfl rfl (show decode cX0_draw 18 = .ok (.aload_n 0, 1) by decide +kernel) ?_
    refine V_getR 13 (t + 9) Z zc0 (isH_lt ht) (shH ht) (by decide) rfl (isH_ne ht 9) ⟨rfl, rfl, rfl⟩ w122 (show decode cX0_draw 19 = .ok (.getfield 52, 3) by decide +kernel) ?_
    refine V_iload_n 2 Z rfl rfl (show decode cX0_draw 22 = .ok (.iload_n 3, 1) by decide +kernel) ?_
    obtain ⟨v18, e19, h⟩ := zB_bind h
    refine V_iald Z e19 (show decode cX0_draw 23 = .ok (.iaload, 1) by decide +kernel) ?_
    refine V_istore [(4, Value.int v18), (0, Value.ref t), (2, Value.int y2), (3, Value.int y3)] Z (by decide) rfl (show decode cX0_draw 24 = .ok (.istore 4, 2) by decide +kernel) ?_
    refine V_iload 0 Z rfl (show decode cX0_draw 26 = .ok (.iload 4, 2) by decide +kernel) ?_
    refine V_if_lt 114 Z (by decide) (show decode cX0_draw 28 = .ok (.ifCond .lt 86, 3) by decide +kernel) (fun c20 => ?_) (fun c20 => ?_)
    · have h := zB_pos c20 h
      obtain ⟨n21, e22, h⟩ := zB_let h
      refine V_iinck 1 1 3 n21 [(3, Value.int n21), (4, Value.int v18), (0, Value.ref t), (2, Value.int y2)] Z (by decide) (by decide) rfl e22 rfl (show decode cX0_draw 114 = .ok (.iinc 3 1, 3) by decide +kernel) ?_
      refine V_goto 12 Z (by decide) (show decode cX0_draw 117 = .ok (.goto (-105), 3) by decide +kernel) ?_
      refine V_sub [2, 3, 0] rfl ?_
      exact c1_i _ h
    · have h := zB_neg c20 h
      refine V_iload 0 Z rfl (show decode cX0_draw 31 = .ok (.iload 4, 2) by decide +kernel) ?_
      refine V_bipush 6 (by decide) Z (show decode cX0_draw 33 = .ok (.bipush 6, 2) by decide +kernel) ?_
      refine V_icmp_lt 41 Z (by decide) (show decode cX0_draw 35 = .ok (.if_icmp .lt 6, 3) by decide +kernel) (fun c23 => ?_) (fun c23 => ?_)
      · have h := zB_pos c23 h
        refine V_iconst (-1) (by decide) Z (show decode cX0_draw 41 = .ok (.iconst (-1), 1) by decide +kernel) ?_
        refine V_istore [(5, Value.int (-1)), (4, Value.int v18), (0, Value.ref t), (2, Value.int y2), (3, Value.int y3)] Z (by decide) rfl (show decode cX0_draw 42 = .ok (.istore 5, 2) by decide +kernel) ?_
        refine V_aload_n 2 Z rfl rfl (show decode cX0_draw 44 = .ok (.aload_n 0, 1) by decide +kernel) ?_
        refine V_getR 7 (t + 7) Z zc0 (isH_lt ht) (shH ht) (by decide) rfl (isH_ne ht 7) ⟨rfl, rfl, rfl⟩ w108 (show decode cX0_draw 45 = .ok (.getfield 34, 3) by decide +kernel) ?_
        refine V_iload 1 Z rfl (show decode cX0_draw 48 = .ok (.iload 4, 2) by decide +kernel) ?_
        obtain ⟨v24, e25, h⟩ := zB_bind h
        refine V_iald Z e25 (show decode cX0_draw 50 = .ok (.iaload, 1) by decide +kernel) ?_
        refine V_if_lt 81 Z (by decide) (show decode cX0_draw 51 = .ok (.ifCond .lt 30, 3) by decide +kernel) (fun c26 => ?_) (fun c26 => ?_)
        · have h := zB_pos c26 h
          refine V_sub [2, 3, 4, 1, 0] rfl ?_
          exact J81 _ _ _ _ _ h
        · have h := zB_neg c26 h
          refine V_iload_n 3 Z rfl rfl (show decode cX0_draw 54 = .ok (.iload_n 2, 1) by decide +kernel) ?_
          refine V_aload_n 2 Z rfl rfl (show decode cX0_draw 55 = .ok (.aload_n 0, 1) by decide +kernel) ?_
          refine V_getR 7 (t + 7) Z zc0 (isH_lt ht) (shH ht) (by decide) rfl (isH_ne ht 7) ⟨rfl, rfl, rfl⟩ w108 (show decode cX0_draw 56 = .ok (.getfield 34, 3) by decide +kernel) ?_
          refine V_iload 1 Z rfl (show decode cX0_draw 59 = .ok (.iload 4, 2) by decide +kernel) ?_
          obtain ⟨v27, e28, h⟩ := zB_bind h
          refine V_iald Z e28 (show decode cX0_draw 61 = .ok (.iaload, 1) by decide +kernel) ?_
          refine V_ishr Z (show decode cX0_draw 62 = .ok (.ishr, 1) by decide +kernel) ?_
          refine V_iconst 1 (by decide) Z (show decode cX0_draw 63 = .ok (.iconst 1, 1) by decide +kernel) ?_
          refine V_iand Z (show decode cX0_draw 64 = .ok (.iand, 1) by decide +kernel) ?_
          refine V_iconst 1 (by decide) Z (show decode cX0_draw 65 = .ok (.iconst 1, 1) by decide +kernel) ?_
          refine V_icmp_ne 81 Z (by decide) (show decode cX0_draw 66 = .ok (.if_icmp .ne 15, 3) by decide +kernel) (fun c29 => ?_) (fun c29 => ?_)
          · have h := zB_neg c29 h
            refine V_sub [2, 3, 4, 1, 0] rfl ?_
            exact J81 _ _ _ _ _ h
          · have h := zB_pos c29 h
            refine V_aload_n 2 Z rfl rfl (show decode cX0_draw 69 = .ok (.aload_n 0, 1) by decide +kernel) ?_
            refine V_getR 7 (t + 7) Z zc0 (isH_lt ht) (shH ht) (by decide) rfl (isH_ne ht 7) ⟨rfl, rfl, rfl⟩ w108 (show decode cX0_draw 70 = .ok (.getfield 34, 3) by decide +kernel) ?_
            refine V_iload 1 Z rfl (show decode cX0_draw 73 = .ok (.iload 4, 2) by decide +kernel) ?_
            obtain ⟨v30, e31, h⟩ := zB_bind h
            refine V_iald Z e31 (show decode cX0_draw 75 = .ok (.iaload, 1) by decide +kernel) ?_
            refine V_istore [(5, Value.int v30), (4, Value.int v18), (0, Value.ref t), (2, Value.int y2), (3, Value.int y3)] Z (by decide) rfl (show decode cX0_draw 76 = .ok (.istore 5, 2) by decide +kernel) ?_
            refine V_goto 91 Z (by decide) (show decode cX0_draw 78 = .ok (.goto 13, 3) by decide +kernel) ?_
            refine V_sub [2, 3, 4, 1, 0] rfl ?_
            exact J91 _ _ _ _ _ h
      · have h := zB_neg c23 h
        refine V_goto 114 Z (by decide) (show decode cX0_draw 38 = .ok (.goto 76, 3) by decide +kernel) ?_
        obtain ⟨n32, e33, h⟩ := zB_let h
        refine V_iinck 1 1 3 n32 [(3, Value.int n32), (4, Value.int v18), (0, Value.ref t), (2, Value.int y2)] Z (by decide) (by decide) rfl e33 rfl (show decode cX0_draw 114 = .ok (.iinc 3 1, 3) by decide +kernel) ?_
        refine V_goto 12 Z (by decide) (show decode cX0_draw 117 = .ok (.goto (-105), 3) by decide +kernel) ?_
        refine V_sub [2, 3, 0] rfl ?_
        exact c1_i _ h
def f_X0_draws (t : Nat) (x1 : Int32) (M : zM) : Option (Int32) :=
  (zrd M (t + 10) x1).bind fun (v1 : Int32) =>
  if v1 < 0 then
    some ((0 : Int32))
  else
    (zrd M (t + 10) x1).bind fun (v4 : Int32) =>
    if (M t 0) ≤ v4 then
      some ((0 : Int32))
    else
      some ((1 : Int32))
theorem cd_X0_draws : zCd yX0_draws cX0_draws 2 (some .boolean) 1 := ⟨w360, w65, ⟨by decide, by decide⟩, by decide +kernel⟩
set_option maxHeartbeats 4000000 in
set_option maxRecDepth 20000 in
theorem ok_X0_draws {t : Nat} {x1 : Int32} {M : zM} {y : Int32} (ht : isH t) (h : f_X0_draws t x1 M = some y) : zRuns yX0_draws cX0_draws 2 (some .boolean) 0 0 [.ref t, .int x1] M (some (.int y)) M := by
  refine zRuns_of (by decide +kernel) (Nat.le_of_ble_eq_true rfl) (fun E Z hE => ?_)
  have h := zB_top h
  change VV E 2 0 [(0, Value.ref t), (1, Value.int x1)] [] M
  refine V_aload_n 0 Z rfl rfl (show decode cX0_draws 0 = .ok (.aload_n 0, 1) by decide +kernel) ?_
  refine V_getR 14 (t + 10) Z zc0 (isH_lt ht) (shH ht) (by decide) rfl (isH_ne ht 10) ⟨rfl, rfl, rfl⟩ w124 (show decode cX0_draws 1 = .ok (.getfield 55, 3) by decide +kernel) ?_
  refine V_iload_n 1 Z rfl rfl (show decode cX0_draws 4 = .ok (.iload_n 1, 1) by decide +kernel) ?_
  obtain ⟨v1, e2, h⟩ := zB_bind h
  refine V_iald Z e2 (show decode cX0_draws 5 = .ok (.iaload, 1) by decide +kernel) ?_
  refine V_if_lt 26 Z (by decide) (show decode cX0_draws 6 = .ok (.ifCond .lt 20, 3) by decide +kernel) (fun c3 => ?_) (fun c3 => ?_)
  · have h := zB_pos c3 h
    refine V_iconst 0 (by decide) Z (show decode cX0_draws 26 = .ok (.iconst 0, 1) by decide +kernel) ?_
    exact V_zretP Z hE h rfl (show decode cX0_draws 27 = .ok (.ireturn, 1) by decide +kernel)
  · have h := zB_neg c3 h
    refine V_aload_n 0 Z rfl rfl (show decode cX0_draws 9 = .ok (.aload_n 0, 1) by decide +kernel) ?_
    refine V_getR 14 (t + 10) Z zc0 (isH_lt ht) (shH ht) (by decide) rfl (isH_ne ht 10) ⟨rfl, rfl, rfl⟩ w124 (show decode cX0_draws 10 = .ok (.getfield 55, 3) by decide +kernel) ?_
    refine V_iload_n 1 Z rfl rfl (show decode cX0_draws 13 = .ok (.iload_n 1, 1) by decide +kernel) ?_
    obtain ⟨v4, e5, h⟩ := zB_bind h
    refine V_iald Z e5 (show decode cX0_draws 14 = .ok (.iaload, 1) by decide +kernel) ?_
    refine V_aload_n 0 Z rfl rfl (show decode cX0_draws 15 = .ok (.aload_n 0, 1) by decide +kernel) ?_
    refine V_getI 0 Z zc0 (isH_lt ht) (shH ht) (by decide) rfl ⟨rfl, rfl, rfl⟩ w92 (show decode cX0_draws 16 = .ok (.getfield 9, 3) by decide +kernel) ?_
    refine V_icmp_ge 26 Z (by decide) (show decode cX0_draws 19 = .ok (.if_icmp .ge 7, 3) by decide +kernel) (fun c6 => ?_) (fun c6 => ?_)
    · have h := zB_pos c6 h
      refine V_iconst 0 (by decide) Z (show decode cX0_draws 26 = .ok (.iconst 0, 1) by decide +kernel) ?_
      exact V_zretP Z hE h rfl (show decode cX0_draws 27 = .ok (.ireturn, 1) by decide +kernel)
    · have h := zB_neg c6 h
      refine V_iconst 1 (by decide) Z (show decode cX0_draws 22 = .ok (.iconst 1, 1) by decide +kernel) ?_
      refine V_goto 27 Z (by decide) (show decode cX0_draws 23 = .ok (.goto 4, 3) by decide +kernel) ?_
      exact V_zretP Z hE h rfl (show decode cX0_draws 27 = .ok (.ireturn, 1) by decide +kernel)
