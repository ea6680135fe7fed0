/-! Generated walks: X0_duesDrawn X0_pairsDrawn X0_pay X1_fades X0_fade X0_passDay X0_pass X0_daysHung X0_pays X0_moth X1_above -/
def f_X0_duesDrawn_l4 (t : Nat) (M : zM) : Int32 × Int32 → Option ((Int32 × Int32) ⊕ (Int32))
  | (y1, y2) =>
    if 6 ≤ y2 then
      some (.inr (y1))
    else
      (f_X0_draws t y2 M).bind fun (v3 : Int32) =>
      if v3 = 0 then
        (some (y2 + 1)).bind fun (n5 : Int32) =>
        some (.inl ((y1, n5)))
      else
        (zrd M (t + 10) y2).bind fun (v7 : Int32) =>
        (f_X0_due t v7 M).bind fun (v10 : Int32) =>
        (some ((y1 + v10))).bind fun (n11 : Int32) =>
        (some (y2 + 1)).bind fun (n13 : Int32) =>
        some (.inl ((n11, n13)))
def f_X0_duesDrawn (t : Nat) (M : zM) : Option (Int32) :=
  zIter (f_X0_duesDrawn_l4 t M) 1000 (0, 0)
theorem cd_X0_duesDrawn : zCd yX0_duesDrawn cX0_duesDrawn 3 (some .int) 0 := ⟨w460, w65, ⟨by decide, by decide⟩, by decide +kernel⟩
set_option maxHeartbeats 4000000 in
set_option maxRecDepth 20000 in
theorem ok_X0_duesDrawn {t : Nat} {M : zM} {y : Int32} (ht : isH t) (h : f_X0_duesDrawn t M = some y) : zRuns yX0_duesDrawn cX0_duesDrawn 3 (some .int) 2 46 [.ref t] M (some (.int y)) M := by
  refine zRuns_of (by decide +kernel) (Nat.le_of_ble_eq_true rfl) (fun E Z hE => ?_)
  have h := zB_top h
  change VV E 3 0 [(0, Value.ref t)] [] M
  refine V_iconst 0 (by decide) Z (show decode cX0_duesDrawn 0 = .ok (.iconst 0, 1) by decide +kernel) ?_
  refine V_istore_n [(1, Value.int 0), (0, Value.ref t)] Z (by decide) rfl rfl (show decode cX0_duesDrawn 1 = .ok (.istore_n 1, 1) by decide +kernel) ?_
  refine V_iconst 0 (by decide) Z (show decode cX0_duesDrawn 2 = .ok (.iconst 0, 1) by decide +kernel) ?_
  refine V_istore_n [(2, Value.int 0), (1, Value.int 0), (0, Value.ref t)] Z (by decide) rfl rfl (show decode cX0_duesDrawn 3 = .ok (.istore_n 2, 1) by decide +kernel) ?_
  refine V_sub [2, 1, 0] rfl ?_
  refine zIter_loop' (K := some) (fun s : Int32 × Int32 => VV E 3 4 [(0, Value.ref t), (1, Value.int s.1), (2, Value.int s.2)] [] M) (fun K1 s c1_i c1_r h => ?_) _ _ h
  obtain ⟨y1, y2⟩ := s
  change VV E 3 4 [(0, Value.ref t), (1, Value.int y1), (2, Value.int y2)] [] M
  refine V_iload_n 2 Z rfl rfl (show decode cX0_duesDrawn 4 = .ok (.iload_n 2, 1) by decide +kernel) ?_
  refine V_bipush 6 (by decide) Z (show decode cX0_duesDrawn 5 = .ok (.bipush 6, 2) by decide +kernel) ?_
  refine V_icmp_ge 37 Z (by decide) (show decode cX0_duesDrawn 7 = .ok (.if_icmp .ge 30, 3) by decide +kernel) (fun c1 => ?_) (fun c1 => ?_)
  · have h := zB_pos c1 h
    refine V_iload_n 1 Z rfl rfl (show decode cX0_duesDrawn 37 = .ok (.iload_n 1, 1) by decide +kernel) ?_
    have h := c1_r _ h
    exact V_iretP Z hE h (show decode cX0_duesDrawn 38 = .ok (.ireturn, 1) by decide +kernel)
  · have h := zB_neg c1 h
    refine V_aload_n 0 Z rfl rfl (show decode cX0_duesDrawn 10 = .ok (.aload_n 0, 1) by decide +kernel) ?_
    refine V_iload_n 2 Z rfl rfl (show decode cX0_duesDrawn 11 = .ok (.iload_n 2, 1) by decide +kernel) ?_
    obtain ⟨v3, e2, h⟩ := zB_bind h
    refine V_callV (rest := []) 1 Z (ok_X0_draws ht e2) cd_X0_draws zc0 (isH_lt ht) (shH ht) w357 w358 w359 rfl (show decode cX0_duesDrawn 12 = .ok (.invokevirtual 89, 3) by decide +kernel) rfl ?_
    refine V_if_eq 31 Z (by decide) (show decode cX0_duesDrawn 15 = .ok (.ifCond .eq 16, 3) by decide +kernel) (fun c4 => ?_) (fun c4 => ?_)
    · have h := zB_pos c4 h
      obtain ⟨n5, e6, h⟩ := zB_let h
      refine V_iinck 1 1 2 n5 [(2, Value.int n5), (0, Value.ref t), (1, Value.int y1)] Z (by decide) (by decide) rfl e6 rfl (show decode cX0_duesDrawn 31 = .ok (.iinc 2 1, 3) by decide +kernel) ?_
      refine V_goto 4 Z (by decide) (show decode cX0_duesDrawn 34 = .ok (.goto (-30), 3) by decide +kernel) ?_
      refine V_sub [1, 2, 0] rfl ?_
      exact c1_i _ h
    · have h := zB_neg c4 h
      refine V_iload_n 1 Z rfl rfl (show decode cX0_duesDrawn 18 = .ok (.iload_n 1, 1) by decide +kernel) ?_
      refine V_aload_n 0 Z rfl rfl (show decode cX0_duesDrawn 19 = .ok (.aload_n 0, 1) by decide +kernel) ?_
      refine V_aload_n 0 Z rfl rfl (show decode cX0_duesDrawn 20 = .ok (.aload_n 0, 1) by decide +kernel) ?_
      refine V_getR 14 (t + 10) Z zc0 (isH_lt ht) (shH ht) (by decide) rfl (isH_ne ht 10) ⟨rfl, rfl, rfl⟩ w124 (show decode cX0_duesDrawn 21 = .ok (.getfield 55, 3) by decide +kernel) ?_
      refine V_iload_n 2 Z rfl rfl (show decode cX0_duesDrawn 24 = .ok (.iload_n 2, 1) by decide +kernel) ?_
      obtain ⟨v7, e8, h⟩ := zB_bind h
      refine V_iald Z e8 (show decode cX0_duesDrawn 25 = .ok (.iaload, 1) by decide +kernel) ?_
      obtain ⟨v10, e9, h⟩ := zB_bind h
      refine V_callV (rest := [_]) 1 Z (ok_X0_due ht e9) cd_X0_due zc0 (isH_lt ht) (shH ht) w365 w266 w267 rfl (show decode cX0_duesDrawn 26 = .ok (.invokevirtual 92, 3) by decide +kernel) rfl ?_
      refine V_iadd Z (show decode cX0_duesDrawn 29 = .ok (.iadd, 1) by decide +kernel) ?_
      obtain ⟨n11, e12, h⟩ := zB_let h
      refine V_nm e12 ?_
      refine V_istore_n [(1, Value.int n11), (0, Value.ref t), (2, Value.int y2)] Z (by decide) rfl rfl (show decode cX0_duesDrawn 30 = .ok (.istore_n 1, 1) by decide +kernel) ?_
      obtain ⟨n13, e14, h⟩ := zB_let h
      refine V_iinck 1 1 2 n13 [(2, Value.int n13), (1, Value.int n11), (0, Value.ref t)] Z (by decide) (by decide) rfl e14 rfl (show decode cX0_duesDrawn 31 = .ok (.iinc 2 1, 3) by decide +kernel) ?_
      refine V_goto 4 Z (by decide) (show decode cX0_duesDrawn 34 = .ok (.goto (-30), 3) by decide +kernel) ?_
      refine V_sub [2, 1, 0] rfl ?_
      exact c1_i _ h
def f_X0_pairsDrawn_j35 (t : Nat) (y1 : Int32) (M : zM) : Option (Int32) :=
  (f_X0_pairsIn t y1 M).bind fun (v2 : Int32) =>
  some (v2)
def f_X0_pairsDrawn_l4 (t : Nat) (M : zM) : Int32 × Int32 → Option ((Int32 × Int32) ⊕ (Int32))
  | (y1, y2) =>
    if 6 ≤ y2 then
      (f_X0_pairsDrawn_j35 t y1 M).bind fun z => some (Sum.inr z)
    else
      (f_X0_draws t y2 M).bind fun (v5 : Int32) =>
      if v5 = 0 then
        (some (y2 + 1)).bind fun (n7 : Int32) =>
        some (.inl ((y1, n7)))
      else
        (zrd M (t + 10) y2).bind fun (v9 : Int32) =>
        (some ((y1 ||| (1 <<< (v9 &&& 31))))).bind fun (n11 : Int32) =>
        (some (y2 + 1)).bind fun (n13 : Int32) =>
        some (.inl ((n11, n13)))
def f_X0_pairsDrawn (t : Nat) (M : zM) : Option (Int32) :=
  zIter (f_X0_pairsDrawn_l4 t M) 1000 (0, 0)
theorem cd_X0_pairsDrawn : zCd yX0_pairsDrawn cX0_pairsDrawn 3 (some .int) 0 := ⟨w378, w65, ⟨by decide, by decide⟩, by decide +kernel⟩
set_option maxHeartbeats 4000000 in
set_option maxRecDepth 20000 in
theorem ok_X0_pairsDrawn {t : Nat} {M : zM} {y : Int32} (ht : isH t) (h : f_X0_pairsDrawn t M = some y) : zRuns yX0_pairsDrawn cX0_pairsDrawn 3 (some .int) 1 24 [.ref t] M (some (.int y)) M := by
  refine zRuns_of (by decide +kernel) (Nat.le_of_ble_eq_true rfl) (fun E Z hE => ?_)
  have h := zB_top h
  change VV E 3 0 [(0, Value.ref t)] [] M
  have J35 : ∀ (y1 : Int32), (f_X0_pairsDrawn_j35 t y1 M).bind some = some y → VV E 3 35 [(0, Value.ref t), (1, Value.int y1)] [] M := by
    intro y1 h
    refine V_aload_n 0 Z rfl rfl (show decode cX0_pairsDrawn 35 = .ok (.aload_n 0, 1) by decide +kernel) ?_
    refine V_iload_n 1 Z rfl rfl (show decode cX0_pairsDrawn 36 = .ok (.iload_n 1, 1) by decide +kernel) ?_
    obtain ⟨v2, e1, h⟩ := zB_bind h
    refine V_callV (rest := []) 1 Z (ok_X0_pairsIn ht e1) cd_X0_pairsIn zc0 (isH_lt ht) (shH ht) w379 w380 w381 rfl (show decode cX0_pairsDrawn 37 = .ok (.invokevirtual 74, 3) by decide +kernel) rfl ?_
    exact V_iretP Z hE h (show decode cX0_pairsDrawn 40 = .ok (.ireturn, 1) by decide +kernel)
  refine V_iconst 0 (by decide) Z (show decode cX0_pairsDrawn 0 = .ok (.iconst 0, 1) by decide +kernel) ?_
  refine V_istore_n [(1, Value.int 0), (0, Value.ref t)] Z (by decide) rfl rfl (show decode cX0_pairsDrawn 1 = .ok (.istore_n 1, 1) by decide +kernel) ?_
  refine V_iconst 0 (by decide) Z (show decode cX0_pairsDrawn 2 = .ok (.iconst 0, 1) by decide +kernel) ?_
  refine V_istore_n [(2, Value.int 0), (1, Value.int 0), (0, Value.ref t)] Z (by decide) rfl rfl (show decode cX0_pairsDrawn 3 = .ok (.istore_n 2, 1) by decide +kernel) ?_
  refine V_sub [2, 1, 0] rfl ?_
  refine zIter_loop' (K := some) (fun s : Int32 × Int32 => VV E 3 4 [(0, Value.ref t), (1, Value.int s.1), (2, Value.int s.2)] [] M) (fun K1 s c1_i c1_r h => ?_) _ _ h
  obtain ⟨y1, y2⟩ := s
  change VV E 3 4 [(0, Value.ref t), (1, Value.int y1), (2, Value.int y2)] [] M
  refine V_iload_n 2 Z rfl rfl (show decode cX0_pairsDrawn 4 = .ok (.iload_n 2, 1) by decide +kernel) ?_
  refine V_bipush 6 (by decide) Z (show decode cX0_pairsDrawn 5 = .ok (.bipush 6, 2) by decide +kernel) ?_
  refine V_icmp_ge 35 Z (by decide) (show decode cX0_pairsDrawn 7 = .ok (.if_icmp .ge 28, 3) by decide +kernel) (fun c3 => ?_) (fun c3 => ?_)
  · have h := zB_pos c3 h
    refine V_sub [0, 1] rfl ?_
    have h := zB_lift c1_r h
    exact J35 _ h
  · have h := zB_neg c3 h
    refine V_aload_n 0 Z rfl rfl (show decode cX0_pairsDrawn 10 = .ok (.aload_n 0, 1) by decide +kernel) ?_
    refine V_iload_n 2 Z rfl rfl (show decode cX0_pairsDrawn 11 = .ok (.iload_n 2, 1) by decide +kernel) ?_
    obtain ⟨v5, e4, h⟩ := zB_bind h
    refine V_callV (rest := []) 1 Z (ok_X0_draws ht e4) cd_X0_draws zc0 (isH_lt ht) (shH ht) w357 w358 w359 rfl (show decode cX0_pairsDrawn 12 = .ok (.invokevirtual 89, 3) by decide +kernel) rfl ?_
    refine V_if_eq 29 Z (by decide) (show decode cX0_pairsDrawn 15 = .ok (.ifCond .eq 14, 3) by decide +kernel) (fun c6 => ?_) (fun c6 => ?_)
    · have h := zB_pos c6 h
      obtain ⟨n7, e8, h⟩ := zB_let h
      refine V_iinck 1 1 2 n7 [(2, Value.int n7), (0, Value.ref t), (1, Value.int y1)] Z (by decide) (by decide) rfl e8 rfl (show decode cX0_pairsDrawn 29 = .ok (.iinc 2 1, 3) by decide +kernel) ?_
      refine V_goto 4 Z (by decide) (show decode cX0_pairsDrawn 32 = .ok (.goto (-28), 3) by decide +kernel) ?_
      refine V_sub [1, 2, 0] rfl ?_
      exact c1_i _ h
    · have h := zB_neg c6 h
      refine V_iload_n 1 Z rfl rfl (show decode cX0_pairsDrawn 18 = .ok (.iload_n 1, 1) by decide +kernel) ?_
      refine V_iconst 1 (by decide) Z (show decode cX0_pairsDrawn 19 = .ok (.iconst 1, 1) by decide +kernel) ?_
      refine V_aload_n 0 Z rfl rfl (show decode cX0_pairsDrawn 20 = .ok (.aload_n 0, 1) by decide +kernel) ?_
      refine V_getR 14 (t + 10) Z zc0 (isH_lt ht) (shH ht) (by decide) rfl (isH_ne ht 10) ⟨rfl, rfl, rfl⟩ w124 (show decode cX0_pairsDrawn 21 = .ok (.getfield 55, 3) by decide +kernel) ?_
      refine V_iload_n 2 Z rfl rfl (show decode cX0_pairsDrawn 24 = .ok (.iload_n 2, 1) by decide +kernel) ?_
      obtain ⟨v9, e10, h⟩ := zB_bind h
      refine V_iald Z e10 (show decode cX0_pairsDrawn 25 = .ok (.iaload, 1) by decide +kernel) ?_
      refine V_ishl Z (show decode cX0_pairsDrawn 26 = .ok (.ishl, 1) by decide +kernel) ?_
      refine V_ior Z (show decode cX0_pairsDrawn 27 = .ok (.ior, 1) by decide +kernel) ?_
      obtain ⟨n11, e12, h⟩ := zB_let h
      refine V_nm e12 ?_
      refine V_istore_n [(1, Value.int n11), (0, Value.ref t), (2, Value.int y2)] Z (by decide) rfl rfl (show decode cX0_pairsDrawn 28 = .ok (.istore_n 1, 1) by decide +kernel) ?_
      obtain ⟨n13, e14, h⟩ := zB_let h
      refine V_iinck 1 1 2 n13 [(2, Value.int n13), (1, Value.int n11), (0, Value.ref t)] Z (by decide) (by decide) rfl e14 rfl (show decode cX0_pairsDrawn 29 = .ok (.iinc 2 1, 3) by decide +kernel) ?_
      refine V_goto 4 Z (by decide) (show decode cX0_pairsDrawn 32 = .ok (.goto (-28), 3) by decide +kernel) ?_
      refine V_sub [2, 1, 0] rfl ?_
      exact c1_i _ h
def f_X0_pay (t : Nat) (x1 : Int32) (x2 : Int32) (M : zM) : Option (zM) :=
  (f_X0_due t x2 M).bind fun (v2 : Int32) =>
  (zrd M (t + 6) x1).bind fun (v3 : Int32) =>
  (some ((if v3 < v2 then v3 else v2))).bind fun (n5 : Int32) =>
  (zrd M (t + 6) x1).bind fun (v7 : Int32) =>
  (zwr M (t + 6) x1 (v7 - n5)).bind fun (M9 : zM) =>
  (zrd M9 (t + 4) x2).bind fun (v11 : Int32) =>
  (zwr M9 (t + 4) x2 (if ((v11 + v2) - n5) < 99999 then ((v11 + v2) - n5) else 99999)).bind fun (M13 : zM) =>
  some (M13)
theorem cd_X0_pay : zCd yX0_pay cX0_pay 5 none 2 := ⟨w364, w65, ⟨by decide, by decide⟩, by decide +kernel⟩
set_option maxHeartbeats 4000000 in
set_option maxRecDepth 20000 in
theorem ok_X0_pay {t : Nat} {x1 : Int32} {x2 : Int32} {M : zM} {y : zM} (ht : isH t) (h : f_X0_pay t x1 x2 M = some y) : zRuns yX0_pay cX0_pay 5 none 2 46 [.ref t, .int x1, .int x2] M none y := by
  refine zRuns_of (by decide +kernel) (Nat.le_of_ble_eq_true rfl) (fun E Z hE => ?_)
  have h := zB_top h
  change VV E 5 0 [(0, Value.ref t), (1, Value.int x1), (2, Value.int x2)] [] M
  refine V_aload_n 0 Z rfl rfl (show decode cX0_pay 0 = .ok (.aload_n 0, 1) by decide +kernel) ?_
  refine V_iload_n 2 Z rfl rfl (show decode cX0_pay 1 = .ok (.iload_n 2, 1) by decide +kernel) ?_
  obtain ⟨v2, e1, h⟩ := zB_bind h
  refine V_callV (rest := []) 1 Z (ok_X0_due ht e1) cd_X0_due zc0 (isH_lt ht) (shH ht) w365 w266 w267 rfl (show decode cX0_pay 2 = .ok (.invokevirtual 92, 3) by decide +kernel) rfl ?_
  refine V_istore_n [(3, Value.int v2), (0, Value.ref t), (1, Value.int x1), (2, Value.int x2)] Z (by decide) rfl rfl (show decode cX0_pay 5 = .ok (.istore_n 3, 1) by decide +kernel) ?_
  refine V_iload_n 0 Z rfl rfl (show decode cX0_pay 6 = .ok (.iload_n 3, 1) by decide +kernel) ?_
  refine V_aload_n 1 Z rfl rfl (show decode cX0_pay 7 = .ok (.aload_n 0, 1) by decide +kernel) ?_
  refine V_getR 6 (t + 6) Z zc0 (isH_lt ht) (shH ht) (by decide) rfl (isH_ne ht 6) ⟨rfl, rfl, rfl⟩ w105 (show decode cX0_pay 8 = .ok (.getfield 31, 3) by decide +kernel) ?_
  refine V_iload_n 2 Z rfl rfl (show decode cX0_pay 11 = .ok (.iload_n 1, 1) by decide +kernel) ?_
  obtain ⟨v3, e4, h⟩ := zB_bind h
  refine V_iald Z e4 (show decode cX0_pay 12 = .ok (.iaload, 1) by decide +kernel) ?_
  refine V_min Z w366 w367 w71 w368 (show decode cX0_pay 13 = .ok (.invokestatic 108, 3) by decide +kernel) rfl ?_
  obtain ⟨n5, e6, h⟩ := zB_let h
  refine V_nm e6 ?_
  refine V_istore [(4, Value.int n5), (3, Value.int v2), (0, Value.ref t), (1, Value.int x1), (2, Value.int x2)] Z (by decide) rfl (show decode cX0_pay 16 = .ok (.istore 4, 2) by decide +kernel) ?_
  refine V_aload_n 2 Z rfl rfl (show decode cX0_pay 18 = .ok (.aload_n 0, 1) by decide +kernel) ?_
  refine V_getR 6 (t + 6) Z zc0 (isH_lt ht) (shH ht) (by decide) rfl (isH_ne ht 6) ⟨rfl, rfl, rfl⟩ w105 (show decode cX0_pay 19 = .ok (.getfield 31, 3) by decide +kernel) ?_
  refine V_iload_n 3 Z rfl rfl (show decode cX0_pay 22 = .ok (.iload_n 1, 1) by decide +kernel) ?_
  refine V_dup2 rfl rfl Z (show decode cX0_pay 23 = .ok (.dup2, 1) by decide +kernel) ?_
  obtain ⟨v7, e8, h⟩ := zB_bind h
  refine V_iald Z e8 (show decode cX0_pay 24 = .ok (.iaload, 1) by decide +kernel) ?_
  refine V_iload 0 Z rfl (show decode cX0_pay 25 = .ok (.iload 4, 2) by decide +kernel) ?_
  refine V_isub Z (show decode cX0_pay 27 = .ok (.isub, 1) by decide +kernel) ?_
  obtain ⟨M9, e10, h⟩ := zB_bind h
  refine V_iast Z e10 (show decode cX0_pay 28 = .ok (.iastore, 1) by decide +kernel) ?_
  refine V_aload_n 2 Z rfl rfl (show decode cX0_pay 29 = .ok (.aload_n 0, 1) by decide +kernel) ?_
  refine V_getR 4 (t + 4) Z zc0 (isH_lt ht) (shH ht) (by decide) rfl (isH_ne ht 4) ⟨rfl, rfl, rfl⟩ w101 (show decode cX0_pay 30 = .ok (.getfield 25, 3) by decide +kernel) ?_
  refine V_iload_n 4 Z rfl rfl (show decode cX0_pay 33 = .ok (.iload_n 2, 1) by decide +kernel) ?_
  refine V_ldc 99999 Z w369 (show decode cX0_pay 34 = .ok (.ldc 104, 2) by decide +kernel) ?_
  refine V_aload_n 2 Z rfl rfl (show decode cX0_pay 36 = .ok (.aload_n 0, 1) by decide +kernel) ?_
  refine V_getR 4 (t + 4) Z zc0 (isH_lt ht) (shH ht) (by decide) rfl (isH_ne ht 4) ⟨rfl, rfl, rfl⟩ w101 (show decode cX0_pay 37 = .ok (.getfield 25, 3) by decide +kernel) ?_
  refine V_iload_n 4 Z rfl rfl (show decode cX0_pay 40 = .ok (.iload_n 2, 1) by decide +kernel) ?_
  obtain ⟨v11, e12, h⟩ := zB_bind h
  refine V_iald Z e12 (show decode cX0_pay 41 = .ok (.iaload, 1) by decide +kernel) ?_
  refine V_iload_n 1 Z rfl rfl (show decode cX0_pay 42 = .ok (.iload_n 3, 1) by decide +kernel) ?_
  refine V_iadd Z (show decode cX0_pay 43 = .ok (.iadd, 1) by decide +kernel) ?_
  refine V_iload 0 Z rfl (show decode cX0_pay 44 = .ok (.iload 4, 2) by decide +kernel) ?_
  refine V_isub Z (show decode cX0_pay 46 = .ok (.isub, 1) by decide +kernel) ?_
  refine V_min Z w366 w367 w71 w368 (show decode cX0_pay 47 = .ok (.invokestatic 108, 3) by decide +kernel) rfl ?_
  obtain ⟨M13, e14, h⟩ := zB_bind h
  refine V_iast Z e14 (show decode cX0_pay 50 = .ok (.iastore, 1) by decide +kernel) ?_
  exact V_vretM Z hE h (show decode cX0_pay 51 = .ok (.return_, 1) by decide +kernel)
def f_X1_fades (x0 : Int32) (M : zM) : Option (Int32) :=
  if x0 = 1 then
    some ((2 : Int32))
  else
    if x0 = 5 then
      some ((3 : Int32))
    else
      if x0 = 6 then
        some ((4 : Int32))
      else
        some ((1 : Int32))
theorem cd_X1_fades : zCd yX1_fades cX1_fades 1 (some .int) 1 := ⟨w274, w70, ⟨by decide, by decide⟩, by decide +kernel⟩
set_option maxHeartbeats 4000000 in
set_option maxRecDepth 20000 in
theorem ok_X1_fades {x0 : Int32} {M : zM} {y : Int32}  (h : f_X1_fades x0 M = some y) : zRuns yX1_fades cX1_fades 1 (some .int) 0 0 [.int x0] M (some (.int y)) M := by
  refine zRuns_of (by decide +kernel) (Nat.le_of_ble_eq_true rfl) (fun E Z hE => ?_)
  have h := zB_top h
  change VV E 1 0 [(0, Value.int x0)] [] M
  refine V_iload_n 0 Z rfl rfl (show decode cX1_fades 0 = .ok (.iload_n 0, 1) by decide +kernel) ?_
  rcases zB_ite h with ⟨c1, h⟩ | ⟨c1, h⟩
  · refine V_lookE 1 36 Z c1 (show decode cX1_fades 1 = .ok (.lookupswitch 41 #[(1, 35), (5, 39), (6, 37)], 35) by decide +kernel) (by decide) ?_
    refine V_iconst 2 (by decide) Z (show decode cX1_fades 36 = .ok (.iconst 2, 1) by decide +kernel) ?_
    exact V_iretP Z hE h (show decode cX1_fades 37 = .ok (.ireturn, 1) by decide +kernel)
  · skip
    rcases zB_ite h with ⟨c2, h⟩ | ⟨c2, h⟩
    · refine V_lookE 5 40 Z c2 (show decode cX1_fades 1 = .ok (.lookupswitch 41 #[(1, 35), (5, 39), (6, 37)], 35) by decide +kernel) (by decide) ?_
      refine V_iconst 3 (by decide) Z (show decode cX1_fades 40 = .ok (.iconst 3, 1) by decide +kernel) ?_
      exact V_iretP Z hE h (show decode cX1_fades 41 = .ok (.ireturn, 1) by decide +kernel)
    · skip
      rcases zB_ite h with ⟨c3, h⟩ | ⟨c3, h⟩
      · refine V_lookE 6 38 Z c3 (show decode cX1_fades 1 = .ok (.lookupswitch 41 #[(1, 35), (5, 39), (6, 37)], 35) by decide +kernel) (by decide) ?_
        refine V_iconst 4 (by decide) Z (show decode cX1_fades 38 = .ok (.iconst 4, 1) by decide +kernel) ?_
        exact V_iretP Z hE h (show decode cX1_fades 39 = .ok (.ireturn, 1) by decide +kernel)
      · skip
        refine V_lookD 42 Z (show decode cX1_fades 1 = .ok (.lookupswitch 41 #[(1, 35), (5, 39), (6, 37)], 35) by decide +kernel) (by
            intro p hp e
            simp only [List.mem_cons, List.not_mem_nil, or_false] at hp
            rcases hp with rfl | rfl | rfl
            · exact c1 e
            · exact c2 e
            · exact c3 e) (by decide) ?_
        refine V_iconst 1 (by decide) Z (show decode cX1_fades 42 = .ok (.iconst 1, 1) by decide +kernel) ?_
        exact V_iretP Z hE h (show decode cX1_fades 43 = .ok (.ireturn, 1) by decide +kernel)
def f_X0_fade (t : Nat) (x1 : Int32) (M : zM) : Option (zM) :=
  (zrd M (t + 3) x1).bind fun (v1 : Int32) =>
  (zrd M (t + 1) x1).bind fun (v3 : Int32) =>
  (f_X1_fades v3 M).bind fun (v6 : Int32) =>
  (zwr M (t + 3) x1 (if (v1 + v6) < 99 then (v1 + v6) else 99)).bind fun (M7 : zM) =>
  some (M7)
theorem cd_X0_fade : zCd yX0_fade cX0_fade 2 none 1 := ⟨w373, w65, ⟨by decide, by decide⟩, by decide +kernel⟩
set_option maxHeartbeats 4000000 in
set_option maxRecDepth 20000 in
theorem ok_X0_fade {t : Nat} {x1 : Int32} {M : zM} {y : zM} (ht : isH t) (h : f_X0_fade t x1 M = some y) : zRuns yX0_fade cX0_fade 2 none 1 20 [.ref t, .int x1] M none y := by
  refine zRuns_of (by decide +kernel) (Nat.le_of_ble_eq_true rfl) (fun E Z hE => ?_)
  have h := zB_top h
  change VV E 2 0 [(0, Value.ref t), (1, Value.int x1)] [] M
  refine V_aload_n 0 Z rfl rfl (show decode cX0_fade 0 = .ok (.aload_n 0, 1) by decide +kernel) ?_
  refine V_getR 3 (t + 3) Z zc0 (isH_lt ht) (shH ht) (by decide) rfl (isH_ne ht 3) ⟨rfl, rfl, rfl⟩ w99 (show decode cX0_fade 1 = .ok (.getfield 22, 3) by decide +kernel) ?_
  refine V_iload_n 1 Z rfl rfl (show decode cX0_fade 4 = .ok (.iload_n 1, 1) by decide +kernel) ?_
  refine V_bipush 99 (by decide) Z (show decode cX0_fade 5 = .ok (.bipush 99, 2) by decide +kernel) ?_
  refine V_aload_n 0 Z rfl rfl (show decode cX0_fade 7 = .ok (.aload_n 0, 1) by decide +kernel) ?_
  refine V_getR 3 (t + 3) Z zc0 (isH_lt ht) (shH ht) (by decide) rfl (isH_ne ht 3) ⟨rfl, rfl, rfl⟩ w99 (show decode cX0_fade 8 = .ok (.getfield 22, 3) by decide +kernel) ?_
  refine V_iload_n 1 Z rfl rfl (show decode cX0_fade 11 = .ok (.iload_n 1, 1) by decide +kernel) ?_
  obtain ⟨v1, e2, h⟩ := zB_bind h
  refine V_iald Z e2 (show decode cX0_fade 12 = .ok (.iaload, 1) by decide +kernel) ?_
  refine V_aload_n 0 Z rfl rfl (show decode cX0_fade 13 = .ok (.aload_n 0, 1) by decide +kernel) ?_
  refine V_getR 1 (t + 1) Z zc0 (isH_lt ht) (shH ht) (by decide) rfl (isH_ne ht 1) ⟨rfl, rfl, rfl⟩ w95 (show decode cX0_fade 14 = .ok (.getfield 15, 3) by decide +kernel) ?_
  refine V_iload_n 1 Z rfl rfl (show decode cX0_fade 17 = .ok (.iload_n 1, 1) by decide +kernel) ?_
  obtain ⟨v3, e4, h⟩ := zB_bind h
  refine V_iald Z e4 (show decode cX0_fade 18 = .ok (.iaload, 1) by decide +kernel) ?_
  obtain ⟨v6, e5, h⟩ := zB_bind h
  refine V_callS (rest := [_, _, _, _]) 1 Z (ok_X1_fades  e5) cd_X1_fades w374 w273 rfl (show decode cX0_fade 19 = .ok (.invokestatic 114, 3) by decide +kernel) rfl ?_
  refine V_iadd Z (show decode cX0_fade 22 = .ok (.iadd, 1) by decide +kernel) ?_
  refine V_min Z w366 w367 w71 w368 (show decode cX0_fade 23 = .ok (.invokestatic 108, 3) by decide +kernel) rfl ?_
  obtain ⟨M7, e8, h⟩ := zB_bind h
  refine V_iast Z e8 (show decode cX0_fade 26 = .ok (.iastore, 1) by decide +kernel) ?_
  exact V_vretM Z hE h (show decode cX0_fade 27 = .ok (.return_, 1) by decide +kernel)
def f_X0_passDay_j51 (t : Nat) (M : zM) : Option (zM) :=
  (f_X0_pairsDrawn t M).bind fun (v2 : Int32) =>
  (some (zU M t 11 ((if ((M t 11) + v2) < 99999 then ((M t 11) + v2) else 99999)))).bind fun (M3 : zM) =>
  (some (zU M3 t 10 ((if ((M3 t 10) + 1) < 99999 then ((M3 t 10) + 1) else 99999)))).bind fun (M5 : zM) =>
  some (M5)
def f_X0_passDay_l10 (t : Nat) : Int32 × zM → Option ((Int32 × zM) ⊕ (zM))
  | (y1, M) =>
    if 6 ≤ y1 then
      (f_X0_passDay_j51 t M).bind fun z => some (Sum.inr z)
    else
      (f_X0_draws t y1 M).bind fun (v11 : Int32) =>
      if v11 = 0 then
        (some (y1 + 1)).bind fun (n13 : Int32) =>
        some (.inl ((n13, M)))
      else
        (zrd M (t + 10) y1).bind fun (v15 : Int32) =>
        (f_X0_pay t y1 v15 M).bind fun (M18 : zM) =>
        (zrd M18 (t + 10) y1).bind fun (v19 : Int32) =>
        (f_X0_fade t v19 M18).bind fun (M22 : zM) =>
        (some (y1 + 1)).bind fun (n23 : Int32) =>
        some (.inl ((n23, M22)))
def f_X0_passDay (t : Nat) (M : zM) : Option (zM) :=
  (f_X0_draw t (M t 9) M).bind fun (M8 : zM) =>
  zIter (f_X0_passDay_l10 t) 1000 (0, M8)
theorem cd_X0_passDay : zCd yX0_passDay cX0_passDay 2 none 0 := ⟨w338, w65, ⟨by decide, by decide⟩, by decide +kernel⟩
set_option maxHeartbeats 4000000 in
set_option maxRecDepth 20000 in
theorem ok_X0_passDay {t : Nat} {M : zM} {y : zM} (ht : isH t) (h : f_X0_passDay t M = some y) : zRuns yX0_passDay cX0_passDay 2 none 3 70 [.ref t] M none y := by
  refine zRuns_of (by decide +kernel) (Nat.le_of_ble_eq_true rfl) (fun E Z hE => ?_)
  have h := zB_top h
  change VV E 2 0 [(0, Value.ref t)] [] M
  have J51 : ∀ (M : zM), (f_X0_passDay_j51 t M).bind some = some y → VV E 2 51 [(0, Value.ref t)] [] M := by
    intro  M h
    refine V_aload_n 0 Z rfl rfl (show decode cX0_passDay 51 = .ok (.aload_n 0, 1) by decide +kernel) ?_
    refine V_ldc 99999 Z w369 (show decode cX0_passDay 52 = .ok (.ldc 104, 2) by decide +kernel) ?_
    refine V_aload_n 0 Z rfl rfl (show decode cX0_passDay 54 = .ok (.aload_n 0, 1) by decide +kernel) ?_
    refine V_getI 11 Z zc0 (isH_lt ht) (shH ht) (by decide) rfl ⟨rfl, rfl, rfl⟩ w118 (show decode cX0_passDay 55 = .ok (.getfield 46, 3) by decide +kernel) ?_
    refine V_aload_n 0 Z rfl rfl (show decode cX0_passDay 58 = .ok (.aload_n 0, 1) by decide +kernel) ?_
    obtain ⟨v2, e1, h⟩ := zB_bind h
    refine V_callV (rest := [_, _, _]) 0 Z (ok_X0_pairsDrawn ht e1) cd_X0_pairsDrawn zc0 (isH_lt ht) (shH ht) w375 w376 w377 rfl (show decode cX0_passDay 59 = .ok (.invokevirtual 105, 3) by decide +kernel) rfl ?_
    refine V_iadd Z (show decode cX0_passDay 62 = .ok (.iadd, 1) by decide +kernel) ?_
    refine V_min Z w366 w367 w71 w368 (show decode cX0_passDay 63 = .ok (.invokestatic 108, 3) by decide +kernel) rfl ?_
    obtain ⟨M3, e4, h⟩ := zB_let h
    refine V_putI 11 Z zc0 (isH_lt ht) (shH ht) (by decide) rfl ⟨rfl, rfl, rfl⟩ rfl rfl w118 (show decode cX0_passDay 66 = .ok (.putfield 46, 3) by decide +kernel) ?_
    refine V_nmM e4 ?_
    refine V_aload_n 0 Z rfl rfl (show decode cX0_passDay 69 = .ok (.aload_n 0, 1) by decide +kernel) ?_
    refine V_ldc 99999 Z w369 (show decode cX0_passDay 70 = .ok (.ldc 104, 2) by decide +kernel) ?_
    refine V_aload_n 0 Z rfl rfl (show decode cX0_passDay 72 = .ok (.aload_n 0, 1) by decide +kernel) ?_
    refine V_getI 10 Z zc0 (isH_lt ht) (shH ht) (by decide) rfl ⟨rfl, rfl, rfl⟩ w116 (show decode cX0_passDay 73 = .ok (.getfield 43, 3) by decide +kernel) ?_
    refine V_iconst 1 (by decide) Z (show decode cX0_passDay 76 = .ok (.iconst 1, 1) by decide +kernel) ?_
    refine V_iadd Z (show decode cX0_passDay 77 = .ok (.iadd, 1) by decide +kernel) ?_
    refine V_min Z w366 w367 w71 w368 (show decode cX0_passDay 78 = .ok (.invokestatic 108, 3) by decide +kernel) rfl ?_
    obtain ⟨M5, e6, h⟩ := zB_let h
    refine V_putI 10 Z zc0 (isH_lt ht) (shH ht) (by decide) rfl ⟨rfl, rfl, rfl⟩ rfl rfl w116 (show decode cX0_passDay 81 = .ok (.putfield 43, 3) by decide +kernel) ?_
    refine V_nmM e6 ?_
    exact V_vretM Z hE h (show decode cX0_passDay 84 = .ok (.return_, 1) by decide +kernel)
  refine V_aload_n 0 Z rfl rfl (show decode cX0_passDay 0 = .ok (.aload_n 0, 1) by decide +kernel) ?_
  refine V_aload_n 0 Z rfl rfl (show decode cX0_passDay 1 = .ok (.aload_n 0, 1) by decide +kernel) ?_
  refine V_getI 9 Z zc0 (isH_lt ht) (shH ht) (by decide) rfl ⟨rfl, rfl, rfl⟩ w113 (show decode cX0_passDay 2 = .ok (.getfield 40, 3) by decide +kernel) ?_
  obtain ⟨M8, e7, h⟩ := zB_bind h
  refine V_callV (rest := []) 1 Z (ok_X0_draw ht e7) cd_X0_draw zc0 (isH_lt ht) (shH ht) w339 w340 w341 rfl (show decode cX0_passDay 5 = .ok (.invokevirtual 94, 3) by decide +kernel) rfl ?_
  refine V_iconst 0 (by decide) Z (show decode cX0_passDay 8 = .ok (.iconst 0, 1) by decide +kernel) ?_
  refine V_istore_n [(1, Value.int 0), (0, Value.ref t)] Z (by decide) rfl rfl (show decode cX0_passDay 9 = .ok (.istore_n 1, 1) by decide +kernel) ?_
  refine V_sub [1, 0] rfl ?_
  refine zIter_loop' (K := some) (fun s : Int32 × zM => VV E 2 10 [(0, Value.ref t), (1, Value.int s.1)] [] s.2) (fun K1 s c1_i c1_r h => ?_) _ _ h
  obtain ⟨y1, M⟩ := s
  change VV E 2 10 [(0, Value.ref t), (1, Value.int y1)] [] M
  refine V_iload_n 1 Z rfl rfl (show decode cX0_passDay 10 = .ok (.iload_n 1, 1) by decide +kernel) ?_
  refine V_bipush 6 (by decide) Z (show decode cX0_passDay 11 = .ok (.bipush 6, 2) by decide +kernel) ?_
  refine V_icmp_ge 51 Z (by decide) (show decode cX0_passDay 13 = .ok (.if_icmp .ge 38, 3) by decide +kernel) (fun c9 => ?_) (fun c9 => ?_)
  · have h := zB_pos c9 h
    refine V_sub [0] rfl ?_
    have h := zB_lift c1_r h
    exact J51 _ h
  · have h := zB_neg c9 h
    refine V_aload_n 0 Z rfl rfl (show decode cX0_passDay 16 = .ok (.aload_n 0, 1) by decide +kernel) ?_
    refine V_iload_n 1 Z rfl rfl (show decode cX0_passDay 17 = .ok (.iload_n 1, 1) by decide +kernel) ?_
    obtain ⟨v11, e10, h⟩ := zB_bind h
    refine V_callV (rest := []) 1 Z (ok_X0_draws ht e10) cd_X0_draws zc0 (isH_lt ht) (shH ht) w357 w358 w359 rfl (show decode cX0_passDay 18 = .ok (.invokevirtual 89, 3) by decide +kernel) rfl ?_
    refine V_if_eq 45 Z (by decide) (show decode cX0_passDay 21 = .ok (.ifCond .eq 24, 3) by decide +kernel) (fun c12 => ?_) (fun c12 => ?_)
    · have h := zB_pos c12 h
      obtain ⟨n13, e14, h⟩ := zB_let h
      refine V_iinck 1 1 1 n13 [(1, Value.int n13), (0, Value.ref t)] Z (by decide) (by decide) rfl e14 rfl (show decode cX0_passDay 45 = .ok (.iinc 1 1, 3) by decide +kernel) ?_
      refine V_goto 10 Z (by decide) (show decode cX0_passDay 48 = .ok (.goto (-38), 3) by decide +kernel) ?_
      refine V_sub [1, 0] rfl ?_
      exact c1_i _ h
    · have h := zB_neg c12 h
      refine V_aload_n 0 Z rfl rfl (show decode cX0_passDay 24 = .ok (.aload_n 0, 1) by decide +kernel) ?_
      refine V_iload_n 1 Z rfl rfl (show decode cX0_passDay 25 = .ok (.iload_n 1, 1) by decide +kernel) ?_
      refine V_aload_n 0 Z rfl rfl (show decode cX0_passDay 26 = .ok (.aload_n 0, 1) by decide +kernel) ?_
      refine V_getR 14 (t + 10) Z zc0 (isH_lt ht) (shH ht) (by decide) rfl (isH_ne ht 10) ⟨rfl, rfl, rfl⟩ w124 (show decode cX0_passDay 27 = .ok (.getfield 55, 3) by decide +kernel) ?_
      refine V_iload_n 1 Z rfl rfl (show decode cX0_passDay 30 = .ok (.iload_n 1, 1) by decide +kernel) ?_
      obtain ⟨v15, e16, h⟩ := zB_bind h
      refine V_iald Z e16 (show decode cX0_passDay 31 = .ok (.iaload, 1) by decide +kernel) ?_
      obtain ⟨M18, e17, h⟩ := zB_bind h
      refine V_callV (rest := []) 2 Z (ok_X0_pay ht e17) cd_X0_pay zc0 (isH_lt ht) (shH ht) w361 w362 w363 rfl (show decode cX0_passDay 32 = .ok (.invokevirtual 97, 3) by decide +kernel) rfl ?_
      refine V_aload_n 0 Z rfl rfl (show decode cX0_passDay 35 = .ok (.aload_n 0, 1) by decide +kernel) ?_
      refine V_aload_n 0 Z rfl rfl (show decode cX0_passDay 36 = .ok (.aload_n 0, 1) by decide +kernel) ?_
      refine V_getR 14 (t + 10) Z zc0 (isH_lt ht) (shH ht) (by decide) rfl (isH_ne ht 10) ⟨rfl, rfl, rfl⟩ w124 (show decode cX0_passDay 37 = .ok (.getfield 55, 3) by decide +kernel) ?_
      refine V_iload_n 1 Z rfl rfl (show decode cX0_passDay 40 = .ok (.iload_n 1, 1) by decide +kernel) ?_
      obtain ⟨v19, e20, h⟩ := zB_bind h
      refine V_iald Z e20 (show decode cX0_passDay 41 = .ok (.iaload, 1) by decide +kernel) ?_
      obtain ⟨M22, e21, h⟩ := zB_bind h
      refine V_callV (rest := []) 1 Z (ok_X0_fade ht e21) cd_X0_fade zc0 (isH_lt ht) (shH ht) w370 w371 w372 rfl (show decode cX0_passDay 42 = .ok (.invokevirtual 101, 3) by decide +kernel) rfl ?_
      obtain ⟨n23, e24, h⟩ := zB_let h
      refine V_iinck 1 1 1 n23 [(1, Value.int n23), (0, Value.ref t)] Z (by decide) (by decide) rfl e24 rfl (show decode cX0_passDay 45 = .ok (.iinc 1 1, 3) by decide +kernel) ?_
      refine V_goto 10 Z (by decide) (show decode cX0_passDay 48 = .ok (.goto (-38), 3) by decide +kernel) ?_
      refine V_sub [1, 0] rfl ?_
      exact c1_i _ h
def f_X0_pass_l2 (t : Nat) (y1 : Int32) : Int32 × zM → Option ((Int32 × zM) ⊕ (zM))
  | (y2, M) =>
    if y1 ≤ y2 then
      some (.inr (M))
    else
      (f_X0_passDay t M).bind fun (M3 : zM) =>
      (some (y2 + 1)).bind fun (n4 : Int32) =>
      some (.inl ((n4, M3)))
def f_X0_pass (t : Nat) (x1 : Int32) (M : zM) : Option (zM) :=
  zIter (f_X0_pass_l2 t x1) 1000 (0, M)
theorem cd_X0_pass : zCd yX0_pass cX0_pass 3 none 1 := ⟨w334, w65, ⟨by decide, by decide⟩, by decide +kernel⟩
set_option maxHeartbeats 4000000 in
set_option maxRecDepth 20000 in
theorem ok_X0_pass {t : Nat} {x1 : Int32} {M : zM} {y : zM} (ht : isH t) (h : f_X0_pass t x1 M = some y) : zRuns yX0_pass cX0_pass 3 none 4 91 [.ref t, .int x1] M none y := by
  refine zRuns_of (by decide +kernel) (Nat.le_of_ble_eq_true rfl) (fun E Z hE => ?_)
  have h := zB_top h
  change VV E 3 0 [(0, Value.ref t), (1, Value.int x1)] [] M
  refine V_iconst 0 (by decide) Z (show decode cX0_pass 0 = .ok (.iconst 0, 1) by decide +kernel) ?_
  refine V_istore_n [(2, Value.int 0), (0, Value.ref t), (1, Value.int x1)] Z (by decide) rfl rfl (show decode cX0_pass 1 = .ok (.istore_n 2, 1) by decide +kernel) ?_
  refine V_sub [1, 2, 0] rfl ?_
  refine zIter_loop' (K := some) (fun s : Int32 × zM => VV E 3 2 [(0, Value.ref t), (1, Value.int x1), (2, Value.int s.1)] [] s.2) (fun K1 s c1_i c1_r h => ?_) _ _ h
  obtain ⟨y2, M⟩ := s
  change VV E 3 2 [(0, Value.ref t), (1, Value.int x1), (2, Value.int y2)] [] M
  refine V_iload_n 2 Z rfl rfl (show decode cX0_pass 2 = .ok (.iload_n 2, 1) by decide +kernel) ?_
  refine V_iload_n 1 Z rfl rfl (show decode cX0_pass 3 = .ok (.iload_n 1, 1) by decide +kernel) ?_
  refine V_icmp_ge 17 Z (by decide) (show decode cX0_pass 4 = .ok (.if_icmp .ge 13, 3) by decide +kernel) (fun c1 => ?_) (fun c1 => ?_)
  · have h := zB_pos c1 h
    have h := c1_r _ h
    exact V_vretM Z hE h (show decode cX0_pass 17 = .ok (.return_, 1) by decide +kernel)
  · have h := zB_neg c1 h
    refine V_aload_n 0 Z rfl rfl (show decode cX0_pass 7 = .ok (.aload_n 0, 1) by decide +kernel) ?_
    obtain ⟨M3, e2, h⟩ := zB_bind h
    refine V_callV (rest := []) 0 Z (ok_X0_passDay ht e2) cd_X0_passDay zc0 (isH_lt ht) (shH ht) w335 w336 w337 rfl (show decode cX0_pass 8 = .ok (.invokevirtual 117, 3) by decide +kernel) rfl ?_
    obtain ⟨n4, e5, h⟩ := zB_let h
    refine V_iinck 1 1 2 n4 [(2, Value.int n4), (0, Value.ref t), (1, Value.int x1)] Z (by decide) (by decide) rfl e5 rfl (show decode cX0_pass 11 = .ok (.iinc 2 1, 3) by decide +kernel) ?_
    refine V_goto 2 Z (by decide) (show decode cX0_pass 14 = .ok (.goto (-12), 3) by decide +kernel) ?_
    refine V_sub [1, 2, 0] rfl ?_
    exact c1_i _ h
def f_X0_daysHung_l2 (t : Nat) (y1 : Int32) : Int32 × zM → Option ((Int32 × zM) ⊕ (Int32 × zM))
  | (y2, M) =>
    if 100 < y2 then
      some (.inr ((y2, M)))
    else
      (f_X0_hangs t y1 M).bind fun (v3 : Int32) =>
      if v3 = 0 then
        some (.inr ((y2, M)))
      else
        (f_X0_passDay t M).bind fun (M6 : zM) =>
        (some (y2 + 1)).bind fun (n7 : Int32) =>
        some (.inl ((n7, M6)))
def f_X0_daysHung (t : Nat) (x1 : Int32) (M : zM) : Option (Int32 × zM) :=
  zIter (f_X0_daysHung_l2 t x1) 1000 (0, M)
theorem cd_X0_daysHung : zCd yX0_daysHung cX0_daysHung 3 (some .int) 1 := ⟨w430, w65, ⟨by decide, by decide⟩, by decide +kernel⟩
set_option maxHeartbeats 4000000 in
set_option maxRecDepth 20000 in
theorem ok_X0_daysHung {t : Nat} {x1 : Int32} {M : zM} {y : Int32 × zM} (ht : isH t) (h : f_X0_daysHung t x1 M = some y) : zRuns yX0_daysHung cX0_daysHung 3 (some .int) 4 91 [.ref t, .int x1] M (some (.int y.1)) y.2 := by
  refine zRuns_of (by decide +kernel) (Nat.le_of_ble_eq_true rfl) (fun E Z hE => ?_)
  have h := zB_top h
  change VV E 3 0 [(0, Value.ref t), (1, Value.int x1)] [] M
  refine V_iconst 0 (by decide) Z (show decode cX0_daysHung 0 = .ok (.iconst 0, 1) by decide +kernel) ?_
  refine V_istore_n [(2, Value.int 0), (0, Value.ref t), (1, Value.int x1)] Z (by decide) rfl rfl (show decode cX0_daysHung 1 = .ok (.istore_n 2, 1) by decide +kernel) ?_
  refine V_sub [1, 2, 0] rfl ?_
  refine zIter_loop' (K := some) (fun s : Int32 × zM => VV E 3 2 [(0, Value.ref t), (1, Value.int x1), (2, Value.int s.1)] [] s.2) (fun K1 s c1_i c1_r h => ?_) _ _ h
  obtain ⟨y2, M⟩ := s
  change VV E 3 2 [(0, Value.ref t), (1, Value.int x1), (2, Value.int y2)] [] M
  refine V_iload_n 2 Z rfl rfl (show decode cX0_daysHung 2 = .ok (.iload_n 2, 1) by decide +kernel) ?_
  refine V_bipush 100 (by decide) Z (show decode cX0_daysHung 3 = .ok (.bipush 100, 2) by decide +kernel) ?_
  refine V_icmp_gt 26 Z (by decide) (show decode cX0_daysHung 5 = .ok (.if_icmp .gt 21, 3) by decide +kernel) (fun c1 => ?_) (fun c1 => ?_)
  · have h := zB_pos c1 h
    refine V_iload_n 2 Z rfl rfl (show decode cX0_daysHung 26 = .ok (.iload_n 2, 1) by decide +kernel) ?_
    have h := c1_r _ h
    exact V_iretM Z hE h (show decode cX0_daysHung 27 = .ok (.ireturn, 1) by decide +kernel)
  · have h := zB_neg c1 h
    refine V_aload_n 0 Z rfl rfl (show decode cX0_daysHung 8 = .ok (.aload_n 0, 1) by decide +kernel) ?_
    refine V_iload_n 1 Z rfl rfl (show decode cX0_daysHung 9 = .ok (.iload_n 1, 1) by decide +kernel) ?_
    obtain ⟨v3, e2, h⟩ := zB_bind h
    refine V_callV (rest := []) 1 Z (ok_X0_hangs ht e2) cd_X0_hangs zc0 (isH_lt ht) (shH ht) w347 w276 w277 rfl (show decode cX0_daysHung 10 = .ok (.invokevirtual 70, 3) by decide +kernel) rfl ?_
    refine V_if_eq 26 Z (by decide) (show decode cX0_daysHung 13 = .ok (.ifCond .eq 13, 3) by decide +kernel) (fun c4 => ?_) (fun c4 => ?_)
    · have h := zB_pos c4 h
      refine V_iload_n 2 Z rfl rfl (show decode cX0_daysHung 26 = .ok (.iload_n 2, 1) by decide +kernel) ?_
      have h := c1_r _ h
      exact V_iretM Z hE h (show decode cX0_daysHung 27 = .ok (.ireturn, 1) by decide +kernel)
    · have h := zB_neg c4 h
      refine V_aload_n 0 Z rfl rfl (show decode cX0_daysHung 16 = .ok (.aload_n 0, 1) by decide +kernel) ?_
      obtain ⟨M6, e5, h⟩ := zB_bind h
      refine V_callV (rest := []) 0 Z (ok_X0_passDay ht e5) cd_X0_passDay zc0 (isH_lt ht) (shH ht) w335 w336 w337 rfl (show decode cX0_daysHung 17 = .ok (.invokevirtual 117, 3) by decide +kernel) rfl ?_
      obtain ⟨n7, e8, h⟩ := zB_let h
      refine V_iinck 1 1 2 n7 [(2, Value.int n7), (0, Value.ref t), (1, Value.int x1)] Z (by decide) (by decide) rfl e8 rfl (show decode cX0_daysHung 20 = .ok (.iinc 2 1, 3) by decide +kernel) ?_
      refine V_goto 2 Z (by decide) (show decode cX0_daysHung 23 = .ok (.goto (-21), 3) by decide +kernel) ?_
      refine V_sub [1, 2, 0] rfl ?_
      exact c1_i _ h
def f_X0_pays_j18 (t : Nat) (q : Nat) (y2 : Int32) (y3 : Int32) (M : zM) : Option ((Int32 × zM) ⊕ (Int32 × zM)) :=
  (zrd M (q + 1) y3).bind fun (v1 : Int32) =>
  if v1 = (-1) then
    (some (y3 + 1)).bind fun (n4 : Int32) =>
    some (.inl ((n4, M)))
  else
    (zrd M (q + 1) y3).bind fun (v6 : Int32) =>
    (zrd M (t + 6) y2).bind fun (v8 : Int32) =>
    if v6 = v8 then
      (some (y3 + 1)).bind fun (n11 : Int32) =>
      some (.inl ((n11, M)))
    else
      some (.inr ((0, M)))
def f_X0_pays_l2 (t : Nat) (q : Nat) (y2 : Int32) : Int32 × zM → Option ((Int32 × zM) ⊕ (Int32 × zM))
  | (y3, M) =>
    if (M q 2) ≤ y3 then
      some (.inr ((1, M)))
    else
      if y3 ≤ 0 then
        f_X0_pays_j18 t q y2 y3 M
      else
        (f_X0_passDay t M).bind fun (M16 : zM) =>
        f_X0_pays_j18 t q y2 y3 M16
def f_X0_pays (t : Nat) (q : Nat) (x2 : Int32) (M : zM) : Option (Int32 × zM) :=
  zIter (f_X0_pays_l2 t q x2) 1000 (0, M)
theorem cd_X0_pays : zCd yX0_pays cX0_pays 4 (some .boolean) 2 := ⟨w523, w65, ⟨by decide, by decide⟩, by decide +kernel⟩
set_option maxHeartbeats 4000000 in
set_option maxRecDepth 20000 in
theorem ok_X0_pays {t : Nat} {q : Nat} {x2 : Int32} {M : zM} {y : Int32 × zM} (ht : isH t) (hq : isS q) (h : f_X0_pays t q x2 M = some y) : zRuns yX0_pays cX0_pays 4 (some .boolean) 4 91 [.ref t, .ref q, .int x2] M (some (.int y.1)) y.2 := by
  refine zRuns_of (by decide +kernel) (Nat.le_of_ble_eq_true rfl) (fun E Z hE => ?_)
  have h := zB_top h
  change VV E 4 0 [(0, Value.ref t), (1, Value.ref q), (2, Value.int x2)] [] M
  refine V_iconst 0 (by decide) Z (show decode cX0_pays 0 = .ok (.iconst 0, 1) by decide +kernel) ?_
  refine V_istore_n [(3, Value.int 0), (0, Value.ref t), (1, Value.ref q), (2, Value.int x2)] Z (by decide) rfl rfl (show decode cX0_pays 1 = .ok (.istore_n 3, 1) by decide +kernel) ?_
  refine V_sub [1, 2, 3, 0] rfl ?_
  refine zIter_loop' (K := some) (fun s : Int32 × zM => VV E 4 2 [(0, Value.ref t), (1, Value.ref q), (2, Value.int x2), (3, Value.int s.1)] [] s.2) (fun K1 s c1_i c1_r h => ?_) _ _ h
  obtain ⟨y3, M⟩ := s
  change VV E 4 2 [(0, Value.ref t), (1, Value.ref q), (2, Value.int x2), (3, Value.int y3)] [] M
  have J18 : ∀ (y3 : Int32) (M : zM), (f_X0_pays_j18 t q x2 y3 M).bind K1 = some y → VV E 4 18 [(0, Value.ref t), (1, Value.ref q), (2, Value.int x2), (3, Value.int y3)] [] M := by
    intro y3 M h
    refine V_aload_n 1 Z rfl rfl (show decode cX0_pays 18 = .ok (.aload_n 1, 1) by decide +kernel) ?_
    refine V_getR 0 (q + 1) Z zc2 (isS_lt hq) (shS hq) (by decide) rfl (isS_ne hq 1) ⟨rfl, rfl, rfl⟩ w202 (show decode cX0_pays 19 = .ok (.getfield 125, 3) by decide +kernel) ?_
    refine V_iload_n 3 Z rfl rfl (show decode cX0_pays 22 = .ok (.iload_n 3, 1) by decide +kernel) ?_
    obtain ⟨v1, e2, h⟩ := zB_bind h
    refine V_iald Z e2 (show decode cX0_pays 23 = .ok (.iaload, 1) by decide +kernel) ?_
    refine V_iconst (-1) (by decide) Z (show decode cX0_pays 24 = .ok (.iconst (-1), 1) by decide +kernel) ?_
    refine V_icmp_eq 45 Z (by decide) (show decode cX0_pays 25 = .ok (.if_icmp .eq 20, 3) by decide +kernel) (fun c3 => ?_) (fun c3 => ?_)
    · have h := zB_pos c3 h
      obtain ⟨n4, e5, h⟩ := zB_let h
      refine V_iinck 1 1 3 n4 [(3, Value.int n4), (0, Value.ref t), (1, Value.ref q), (2, Value.int x2)] Z (by decide) (by decide) rfl e5 rfl (show decode cX0_pays 45 = .ok (.iinc 3 1, 3) by decide +kernel) ?_
      refine V_goto 2 Z (by decide) (show decode cX0_pays 48 = .ok (.goto (-46), 3) by decide +kernel) ?_
      refine V_sub [1, 2, 3, 0] rfl ?_
      exact c1_i _ h
    · have h := zB_neg c3 h
      refine V_aload_n 1 Z rfl rfl (show decode cX0_pays 28 = .ok (.aload_n 1, 1) by decide +kernel) ?_
      refine V_getR 0 (q + 1) Z zc2 (isS_lt hq) (shS hq) (by decide) rfl (isS_ne hq 1) ⟨rfl, rfl, rfl⟩ w202 (show decode cX0_pays 29 = .ok (.getfield 125, 3) by decide +kernel) ?_
      refine V_iload_n 3 Z rfl rfl (show decode cX0_pays 32 = .ok (.iload_n 3, 1) by decide +kernel) ?_
      obtain ⟨v6, e7, h⟩ := zB_bind h
      refine V_iald Z e7 (show decode cX0_pays 33 = .ok (.iaload, 1) by decide +kernel) ?_
      refine V_aload_n 0 Z rfl rfl (show decode cX0_pays 34 = .ok (.aload_n 0, 1) by decide +kernel) ?_
      refine V_getR 6 (t + 6) Z zc0 (isH_lt ht) (shH ht) (by decide) rfl (isH_ne ht 6) ⟨rfl, rfl, rfl⟩ w105 (show decode cX0_pays 35 = .ok (.getfield 31, 3) by decide +kernel) ?_
      refine V_iload_n 2 Z rfl rfl (show decode cX0_pays 38 = .ok (.iload_n 2, 1) by decide +kernel) ?_
      obtain ⟨v8, e9, h⟩ := zB_bind h
      refine V_iald Z e9 (show decode cX0_pays 39 = .ok (.iaload, 1) by decide +kernel) ?_
      refine V_icmp_eq 45 Z (by decide) (show decode cX0_pays 40 = .ok (.if_icmp .eq 5, 3) by decide +kernel) (fun c10 => ?_) (fun c10 => ?_)
      · have h := zB_pos c10 h
        obtain ⟨n11, e12, h⟩ := zB_let h
        refine V_iinck 1 1 3 n11 [(3, Value.int n11), (0, Value.ref t), (1, Value.ref q), (2, Value.int x2)] Z (by decide) (by decide) rfl e12 rfl (show decode cX0_pays 45 = .ok (.iinc 3 1, 3) by decide +kernel) ?_
        refine V_goto 2 Z (by decide) (show decode cX0_pays 48 = .ok (.goto (-46), 3) by decide +kernel) ?_
        refine V_sub [1, 2, 3, 0] rfl ?_
        exact c1_i _ h
      · have h := zB_neg c10 h
        refine V_iconst 0 (by decide) Z (show decode cX0_pays 43 = .ok (.iconst 0, 1) by decide +kernel) ?_
        have h := c1_r _ h
        exact V_zretM Z hE h rfl (show decode cX0_pays 44 = .ok (.ireturn, 1) by decide +kernel)
  refine V_iload_n 3 Z rfl rfl (show decode cX0_pays 2 = .ok (.iload_n 3, 1) by decide +kernel) ?_
  refine V_aload_n 1 Z rfl rfl (show decode cX0_pays 3 = .ok (.aload_n 1, 1) by decide +kernel) ?_
  refine V_getI 2 Z zc2 (isS_lt hq) (shS hq) (by decide) rfl ⟨rfl, rfl, rfl⟩ w207 (show decode cX0_pays 4 = .ok (.getfield 120, 3) by decide +kernel) ?_
  refine V_icmp_ge 51 Z (by decide) (show decode cX0_pays 7 = .ok (.if_icmp .ge 44, 3) by decide +kernel) (fun c13 => ?_) (fun c13 => ?_)
  · have h := zB_pos c13 h
    refine V_iconst 1 (by decide) Z (show decode cX0_pays 51 = .ok (.iconst 1, 1) by decide +kernel) ?_
    have h := c1_r _ h
    exact V_zretM Z hE h rfl (show decode cX0_pays 52 = .ok (.ireturn, 1) by decide +kernel)
  · have h := zB_neg c13 h
    refine V_iload_n 3 Z rfl rfl (show decode cX0_pays 10 = .ok (.iload_n 3, 1) by decide +kernel) ?_
    refine V_if_le 18 Z (by decide) (show decode cX0_pays 11 = .ok (.ifCond .le 7, 3) by decide +kernel) (fun c14 => ?_) (fun c14 => ?_)
    · have h := zB_pos c14 h
      exact J18 _ _ h
    · have h := zB_neg c14 h
      refine V_aload_n 0 Z rfl rfl (show decode cX0_pays 14 = .ok (.aload_n 0, 1) by decide +kernel) ?_
      obtain ⟨M16, e15, h⟩ := zB_bind h
      refine V_callV (rest := []) 0 Z (ok_X0_passDay ht e15) cd_X0_passDay zc0 (isH_lt ht) (shH ht) w335 w336 w337 rfl (show decode cX0_pays 15 = .ok (.invokevirtual 117, 3) by decide +kernel) rfl ?_
      exact J18 _ _ h
def f_X0_moth (t : Nat) (M : zM) : Option (zM) :=
  (some (zU M t 12 ((((M t 12) * 1103515245) + 12345)))).bind fun (M1 : zM) =>
  (some ((((((M1 t 12) : Int32).toUInt32 >>> ((8 : Int32).toUInt32 &&& Int32.toUInt32 31)).toInt32) - ((((M1 t 12) : Int32).toUInt32 >>> ((8 : Int32).toUInt32 &&& Int32.toUInt32 31)).toInt32) / 16 * 16))).bind fun (n3 : Int32) =>
  if (M1 t 0) ≤ n3 then
    some (M1)
  else
    (zrd M1 (t + 3) n3).bind fun (v6 : Int32) =>
    (zwr M1 (t + 3) n3 (if (v6 + 10) < 99 then (v6 + 10) else 99)).bind fun (M8 : zM) =>
    some (M8)
theorem cd_X0_moth : zCd yX0_moth cX0_moth 2 none 0 := ⟨w536, w65, ⟨by decide, by decide⟩, by decide +kernel⟩
set_option maxHeartbeats 4000000 in
set_option maxRecDepth 20000 in
theorem ok_X0_moth {t : Nat} {M : zM} {y : zM} (ht : isH t) (h : f_X0_moth t M = some y) : zRuns yX0_moth cX0_moth 2 none 1 15 [.ref t] M none y := by
  refine zRuns_of (by decide +kernel) (Nat.le_of_ble_eq_true rfl) (fun E Z hE => ?_)
  have h := zB_top h
  change VV E 2 0 [(0, Value.ref t)] [] M
  refine V_aload_n 0 Z rfl rfl (show decode cX0_moth 0 = .ok (.aload_n 0, 1) by decide +kernel) ?_
  refine V_aload_n 0 Z rfl rfl (show decode cX0_moth 1 = .ok (.aload_n 0, 1) by decide +kernel) ?_
  refine V_getI 12 Z zc0 (isH_lt ht) (shH ht) (by decide) rfl ⟨rfl, rfl, rfl⟩ w120 (show decode cX0_moth 2 = .ok (.getfield 49, 3) by decide +kernel) ?_
  refine V_ldc 1103515245 Z w537 (show decode cX0_moth 5 = .ok (.ldc 128, 2) by decide +kernel) ?_
  refine V_imul Z (show decode cX0_moth 7 = .ok (.imul, 1) by decide +kernel) ?_
  refine V_sipush 12345 (by decide) Z (show decode cX0_moth 8 = .ok (.sipush 12345, 3) by decide +kernel) ?_
  refine V_iadd Z (show decode cX0_moth 11 = .ok (.iadd, 1) by decide +kernel) ?_
  obtain ⟨M1, e2, h⟩ := zB_let h
  refine V_putI 12 Z zc0 (isH_lt ht) (shH ht) (by decide) rfl ⟨rfl, rfl, rfl⟩ rfl rfl w120 (show decode cX0_moth 12 = .ok (.putfield 49, 3) by decide +kernel) ?_
  refine V_nmM e2 ?_
  refine V_aload_n 0 Z rfl rfl (show decode cX0_moth 15 = .ok (.aload_n 0, 1) by decide +kernel) ?_
  refine V_getI 12 Z zc0 (isH_lt ht) (shH ht) (by decide) rfl ⟨rfl, rfl, rfl⟩ w120 (show decode cX0_moth 16 = .ok (.getfield 49, 3) by decide +kernel) ?_
  refine V_bipush 8 (by decide) Z (show decode cX0_moth 19 = .ok (.bipush 8, 2) by decide +kernel) ?_
  refine V_iushr Z (show decode cX0_moth 21 = .ok (.iushr, 1) by decide +kernel) ?_
  refine V_bipush 16 (by decide) Z (show decode cX0_moth 22 = .ok (.bipush 16, 2) by decide +kernel) ?_
  refine V_iremc (by decide) Z (show decode cX0_moth 24 = .ok (.irem, 1) by decide +kernel) ?_
  obtain ⟨n3, e4, h⟩ := zB_let h
  refine V_nm e4 ?_
  refine V_istore_n [(1, Value.int n3), (0, Value.ref t)] Z (by decide) rfl rfl (show decode cX0_moth 25 = .ok (.istore_n 1, 1) by decide +kernel) ?_
  refine V_iload_n 0 Z rfl rfl (show decode cX0_moth 26 = .ok (.iload_n 1, 1) by decide +kernel) ?_
  refine V_aload_n 1 Z rfl rfl (show decode cX0_moth 27 = .ok (.aload_n 0, 1) by decide +kernel) ?_
  refine V_getI 0 Z zc0 (isH_lt ht) (shH ht) (by decide) rfl ⟨rfl, rfl, rfl⟩ w92 (show decode cX0_moth 28 = .ok (.getfield 9, 3) by decide +kernel) ?_
  refine V_icmp_ge 54 Z (by decide) (show decode cX0_moth 31 = .ok (.if_icmp .ge 23, 3) by decide +kernel) (fun c5 => ?_) (fun c5 => ?_)
  · have h := zB_pos c5 h
    exact V_vretM Z hE h (show decode cX0_moth 54 = .ok (.return_, 1) by decide +kernel)
  · have h := zB_neg c5 h
    refine V_aload_n 1 Z rfl rfl (show decode cX0_moth 34 = .ok (.aload_n 0, 1) by decide +kernel) ?_
    refine V_getR 3 (t + 3) Z zc0 (isH_lt ht) (shH ht) (by decide) rfl (isH_ne ht 3) ⟨rfl, rfl, rfl⟩ w99 (show decode cX0_moth 35 = .ok (.getfield 22, 3) by decide +kernel) ?_
    refine V_iload_n 0 Z rfl rfl (show decode cX0_moth 38 = .ok (.iload_n 1, 1) by decide +kernel) ?_
    refine V_bipush 99 (by decide) Z (show decode cX0_moth 39 = .ok (.bipush 99, 2) by decide +kernel) ?_
    refine V_aload_n 1 Z rfl rfl (show decode cX0_moth 41 = .ok (.aload_n 0, 1) by decide +kernel) ?_
    refine V_getR 3 (t + 3) Z zc0 (isH_lt ht) (shH ht) (by decide) rfl (isH_ne ht 3) ⟨rfl, rfl, rfl⟩ w99 (show decode cX0_moth 42 = .ok (.getfield 22, 3) by decide +kernel) ?_
    refine V_iload_n 0 Z rfl rfl (show decode cX0_moth 45 = .ok (.iload_n 1, 1) by decide +kernel) ?_
    obtain ⟨v6, e7, h⟩ := zB_bind h
    refine V_iald Z e7 (show decode cX0_moth 46 = .ok (.iaload, 1) by decide +kernel) ?_
    refine V_bipush 10 (by decide) Z (show decode cX0_moth 47 = .ok (.bipush 10, 2) by decide +kernel) ?_
    refine V_iadd Z (show decode cX0_moth 49 = .ok (.iadd, 1) by decide +kernel) ?_
    refine V_min Z w366 w367 w71 w368 (show decode cX0_moth 50 = .ok (.invokestatic 108, 3) by decide +kernel) rfl ?_
    obtain ⟨M8, e9, h⟩ := zB_bind h
    refine V_iast Z e9 (show decode cX0_moth 53 = .ok (.iastore, 1) by decide +kernel) ?_
    exact V_vretM Z hE h (show decode cX0_moth 54 = .ok (.return_, 1) by decide +kernel)
def f_X1_above (x0 : Int32) (M : zM) : Option (Int32) :=
  if x0 = 1 then
    some ((0 : Int32))
  else
    if x0 = 2 then
      some ((0 : Int32))
    else
      if x0 = 3 then
        some ((2 : Int32))
      else
        if x0 = 4 then
          some ((3 : Int32))
        else
          if x0 = 5 then
            some ((0 : Int32))
          else
            if x0 = 6 then
              some ((1 : Int32))
            else
              some (((-1) : Int32))
theorem cd_X1_above : zCd yX1_above cX1_above 1 (some .int) 1 := ⟨w693, w70, ⟨by decide, by decide⟩, by decide +kernel⟩
set_option maxHeartbeats 4000000 in
set_option maxRecDepth 20000 in
theorem ok_X1_above {x0 : Int32} {M : zM} {y : Int32}  (h : f_X1_above x0 M = some y) : zRuns yX1_above cX1_above 1 (some .int) 0 0 [.int x0] M (some (.int y)) M := by
  refine zRuns_of (by decide +kernel) (Nat.le_of_ble_eq_true rfl) (fun E Z hE => ?_)
  have h := zB_top h
  change VV E 1 0 [(0, Value.int x0)] [] M
  refine V_iload_n 0 Z rfl rfl (show decode cX1_above 0 = .ok (.iload_n 0, 1) by decide +kernel) ?_
  rcases zB_ite h with ⟨c1, h⟩ | ⟨c1, h⟩
  · refine V_tabE (off := 39) 1 40 Z c1 (show decode cX1_above 1 = .ok (.tableswitch 51 1 6 #[39, 41, 43, 45, 47, 49], 39) by decide +kernel) (by decide) ?_
    refine V_iconst 0 (by decide) Z (show decode cX1_above 40 = .ok (.iconst 0, 1) by decide +kernel) ?_
    exact V_iretP Z hE h (show decode cX1_above 41 = .ok (.ireturn, 1) by decide +kernel)
  · skip
    rcases zB_ite h with ⟨c2, h⟩ | ⟨c2, h⟩
    · refine V_tabE (off := 41) 2 42 Z c2 (show decode cX1_above 1 = .ok (.tableswitch 51 1 6 #[39, 41, 43, 45, 47, 49], 39) by decide +kernel) (by decide) ?_
      refine V_iconst 0 (by decide) Z (show decode cX1_above 42 = .ok (.iconst 0, 1) by decide +kernel) ?_
      exact V_iretP Z hE h (show decode cX1_above 43 = .ok (.ireturn, 1) by decide +kernel)
    · skip
      rcases zB_ite h with ⟨c3, h⟩ | ⟨c3, h⟩
      · refine V_tabE (off := 43) 3 44 Z c3 (show decode cX1_above 1 = .ok (.tableswitch 51 1 6 #[39, 41, 43, 45, 47, 49], 39) by decide +kernel) (by decide) ?_
        refine V_iconst 2 (by decide) Z (show decode cX1_above 44 = .ok (.iconst 2, 1) by decide +kernel) ?_
        exact V_iretP Z hE h (show decode cX1_above 45 = .ok (.ireturn, 1) by decide +kernel)
      · skip
        rcases zB_ite h with ⟨c4, h⟩ | ⟨c4, h⟩
        · refine V_tabE (off := 45) 4 46 Z c4 (show decode cX1_above 1 = .ok (.tableswitch 51 1 6 #[39, 41, 43, 45, 47, 49], 39) by decide +kernel) (by decide) ?_
          refine V_iconst 3 (by decide) Z (show decode cX1_above 46 = .ok (.iconst 3, 1) by decide +kernel) ?_
          exact V_iretP Z hE h (show decode cX1_above 47 = .ok (.ireturn, 1) by decide +kernel)
        · skip
          rcases zB_ite h with ⟨c5, h⟩ | ⟨c5, h⟩
          · refine V_tabE (off := 47) 5 48 Z c5 (show decode cX1_above 1 = .ok (.tableswitch 51 1 6 #[39, 41, 43, 45, 47, 49], 39) by decide +kernel) (by decide) ?_
            refine V_iconst 0 (by decide) Z (show decode cX1_above 48 = .ok (.iconst 0, 1) by decide +kernel) ?_
            exact V_iretP Z hE h (show decode cX1_above 49 = .ok (.ireturn, 1) by decide +kernel)
          · skip
            rcases zB_ite h with ⟨c6, h⟩ | ⟨c6, h⟩
            · refine V_tabE (off := 49) 6 50 Z c6 (show decode cX1_above 1 = .ok (.tableswitch 51 1 6 #[39, 41, 43, 45, 47, 49], 39) by decide +kernel) (by decide) ?_
              refine V_iconst 1 (by decide) Z (show decode cX1_above 50 = .ok (.iconst 1, 1) by decide +kernel) ?_
              exact V_iretP Z hE h (show decode cX1_above 51 = .ok (.ireturn, 1) by decide +kernel)
            · skip
              refine V_tabOut 52 Z (show decode cX1_above 1 = .ok (.tableswitch 51 1 6 #[39, 41, 43, 45, 47, 49], 39) by decide +kernel) (z_out (fun i h1 h2 e => by
                  rcases (show i = 1 ∨ i = 2 ∨ i = 3 ∨ i = 4 ∨ i = 5 ∨ i = 6 by omega) with rfl | rfl | rfl | rfl | rfl | rfl
                  · exact c1 e
                  · exact c2 e
                  · exact c3 e
                  · exact c4 e
                  · exact c5 e
                  · exact c6 e)) (by decide) ?_
              refine V_iconst (-1) (by decide) Z (show decode cX1_above 52 = .ok (.iconst (-1), 1) by decide +kernel) ?_
              exact V_iretP Z hE h (show decode cX1_above 53 = .ok (.ireturn, 1) by decide +kernel)
