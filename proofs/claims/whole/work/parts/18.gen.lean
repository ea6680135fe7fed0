/-! Generated walks: X5_orderFor X5_orders X5_cheapest X5_calmest X5_best X5_wishFor X5_isIn -/
def f_X5_orderFor_j59 (M : zM) : Option (Int32 × zM) :=
  (f_X5_finding 3 M).bind fun ((v2, M3) : Int32 × zM) =>
  some ((v2, M3))
def f_X5_orderFor_j15 (M : zM) : Option (Int32 × zM) :=
  (f_X5_finding 0 M).bind fun ((v5, M6) : Int32 × zM) =>
  some ((v5, M6))
def f_X5_orderFor_l23 (y1 : Int32) (y2 : Int32) : Int32 × zM → Option ((Int32 × zM) ⊕ (Int32 × zM))
  | (y3, M) =>
    if 720 ≤ y3 then
      (f_X5_orderFor_j59  M).bind fun z => some (Sum.inr z)
    else
      (f_X0_draw 1 y3 M).bind fun (M15 : zM) =>
      (zrd M15 11 y1).bind fun (v16 : Int32) =>
      if v16 = y2 then
        some (.inr ((y3, M15)))
      else
        (some (y3 + 1)).bind fun (x19 : Int32) =>
        some (.inl ((x19, M15)))
def f_X5_orderFor (x1 : Int32) (x2 : Int32) (M : zM) : Option (Int32 × zM) :=
  (f_X5_isPerson x1 M).bind fun (v8 : Int32) =>
  if v8 = 0 then
    f_X5_orderFor_j15  M
  else
    (f_X5_isName x2 M).bind fun (v11 : Int32) =>
    if v11 = 0 then
      f_X5_orderFor_j15  M
    else
      zIter (f_X5_orderFor_l23 x1 x2) 1000 (0, M)
theorem cd_X5_orderFor : zCd yX5_orderFor cX5_orderFor 4 (some .int) 2 := ⟨w448, w64, ⟨by decide, by decide⟩, by decide +kernel⟩
set_option maxHeartbeats 4000000 in
set_option maxRecDepth 20000 in
theorem ok_X5_orderFor {x1 : Int32} {x2 : Int32} {M : zM} {y : Int32 × zM}  (h : f_X5_orderFor x1 x2 M = some y) : zRuns yX5_orderFor cX5_orderFor 4 (some .int) 3 68 [.ref 0, .int x1, .int x2] M (some (.int y.1)) y.2 := by
  refine zRuns_of (by decide +kernel) (Nat.le_of_ble_eq_true rfl) (fun E Z hE => ?_)
  have h := zB_top h
  change VV E 4 0 [(0, Value.ref 0), (1, Value.int x1), (2, Value.int x2)] [] M
  have J59 : ∀ (M : zM), (f_X5_orderFor_j59  M).bind some = some y → VV E 4 59 [(0, Value.ref 0)] [] M := by
    intro  M h
    refine V_aload_n 0 Z rfl rfl (show decode cX5_orderFor 59 = .ok (.aload_n 0, 1) by decide +kernel) ?_
    refine V_iconst 3 (by decide) Z (show decode cX5_orderFor 60 = .ok (.iconst 3, 1) by decide +kernel) ?_
    obtain ⟨⟨v2, M3⟩, e1, h⟩ := zB_bind h
    refine V_callV (rest := []) 1 Z (ok_X5_finding  e1) cd_X5_finding zc4 (by decide) rfl w248 w250 w0 rfl (show decode cX5_orderFor 61 = .ok (.invokevirtual 55, 3) by decide +kernel) rfl ?_
    exact V_iretM Z hE h (show decode cX5_orderFor 64 = .ok (.ireturn, 1) by decide +kernel)
  have J15 : ∀ (M : zM), (f_X5_orderFor_j15  M).bind some = some y → VV E 4 15 [(0, Value.ref 0)] [] M := by
    intro  M h
    refine V_aload_n 0 Z rfl rfl (show decode cX5_orderFor 15 = .ok (.aload_n 0, 1) by decide +kernel) ?_
    refine V_iconst 0 (by decide) Z (show decode cX5_orderFor 16 = .ok (.iconst 0, 1) by decide +kernel) ?_
    obtain ⟨⟨v5, M6⟩, e4, h⟩ := zB_bind h
    refine V_callV (rest := []) 1 Z (ok_X5_finding  e4) cd_X5_finding zc4 (by decide) rfl w248 w250 w0 rfl (show decode cX5_orderFor 17 = .ok (.invokevirtual 55, 3) by decide +kernel) rfl ?_
    exact V_iretM Z hE h (show decode cX5_orderFor 20 = .ok (.ireturn, 1) by decide +kernel)
  refine V_iload_n 1 Z rfl rfl (show decode cX5_orderFor 0 = .ok (.iload_n 1, 1) by decide +kernel) ?_
  obtain ⟨v8, e7, h⟩ := zB_bind h
  refine V_callS (rest := []) 1 Z (ok_X5_isPerson  e7) cd_X5_isPerson w300 w301 rfl (show decode cX5_orderFor 1 = .ok (.invokestatic 108, 3) by decide +kernel) rfl ?_
  refine V_if_eq 15 Z (by decide) (show decode cX5_orderFor 4 = .ok (.ifCond .eq 11, 3) by decide +kernel) (fun c9 => ?_) (fun c9 => ?_)
  · have h := zB_pos c9 h
    refine V_sub [0] rfl ?_
    exact J15 _ h
  · have h := zB_neg c9 h
    refine V_aload_n 0 Z rfl rfl (show decode cX5_orderFor 7 = .ok (.aload_n 0, 1) by decide +kernel) ?_
    refine V_iload_n 2 Z rfl rfl (show decode cX5_orderFor 8 = .ok (.iload_n 2, 1) by decide +kernel) ?_
    obtain ⟨v11, e10, h⟩ := zB_bind h
    refine V_callV (rest := []) 1 Z (ok_X5_isName  e10) cd_X5_isName zc4 (by decide) rfl w261 w263 w1 rfl (show decode cX5_orderFor 9 = .ok (.invokevirtual 67, 3) by decide +kernel) rfl ?_
    refine V_if_ne 21 Z (by decide) (show decode cX5_orderFor 12 = .ok (.ifCond .ne 9, 3) by decide +kernel) (fun c12 => ?_) (fun c12 => ?_)
    · have h := zB_neg c12 h
      refine V_iconst 0 (by decide) Z (show decode cX5_orderFor 21 = .ok (.iconst 0, 1) by decide +kernel) ?_
      refine V_istore_n [(3, Value.int 0), (0, Value.ref 0), (1, Value.int x1), (2, Value.int x2)] Z (by decide) rfl rfl (show decode cX5_orderFor 22 = .ok (.istore_n 3, 1) by decide +kernel) ?_
      refine V_sub [1, 2, 3, 0] rfl ?_
      refine zIter_loop' (K := some) (fun s : Int32 × zM => VV E 4 23 [(0, Value.ref 0), (1, Value.int x1), (2, Value.int x2), (3, Value.int s.1)] [] s.2) (fun K1 s c1_i c1_r h => ?_) _ _ h
      obtain ⟨y3, M⟩ := s
      change VV E 4 23 [(0, Value.ref 0), (1, Value.int x1), (2, Value.int x2), (3, Value.int y3)] [] M
      refine V_iload_n 3 Z rfl rfl (show decode cX5_orderFor 23 = .ok (.iload_n 3, 1) by decide +kernel) ?_
      refine V_sipush 720 (by decide) Z (show decode cX5_orderFor 24 = .ok (.sipush 720, 3) by decide +kernel) ?_
      refine V_icmp_ge 59 Z (by decide) (show decode cX5_orderFor 27 = .ok (.if_icmp .ge 32, 3) by decide +kernel) (fun c13 => ?_) (fun c13 => ?_)
      · have h := zB_pos c13 h
        refine V_sub [0] rfl ?_
        have h := zB_lift c1_r h
        exact J59 _ h
      · have h := zB_neg c13 h
        refine V_aload_n 0 Z rfl rfl (show decode cX5_orderFor 30 = .ok (.aload_n 0, 1) by decide +kernel) ?_
        refine V_getR 0 1 Z zc4 (by decide) rfl (by decide) rfl (by decide) ⟨rfl, rfl, rfl⟩ w216 (show decode cX5_orderFor 31 = .ok (.getfield 10, 3) by decide +kernel) ?_
        refine V_iload_n 3 Z rfl rfl (show decode cX5_orderFor 34 = .ok (.iload_n 3, 1) by decide +kernel) ?_
        obtain ⟨M15, e14, h⟩ := zB_bind h
        refine V_callV (rest := []) 1 Z (ok_X0_draw isH_1 e14) cd_X0_draw zc0 (isH_lt isH_1) (shH isH_1) w407 w340 w341 rfl (show decode cX5_orderFor 35 = .ok (.invokevirtual 158, 3) by decide +kernel) rfl ?_
        refine V_aload_n 0 Z rfl rfl (show decode cX5_orderFor 38 = .ok (.aload_n 0, 1) by decide +kernel) ?_
        refine V_getR 0 1 Z zc4 (by decide) rfl (by decide) rfl (by decide) ⟨rfl, rfl, rfl⟩ w216 (show decode cX5_orderFor 39 = .ok (.getfield 10, 3) by decide +kernel) ?_
        refine V_getR 14 11 Z zc0 (isH_lt isH_1) (shH isH_1) (by decide) rfl (by decide) ⟨rfl, rfl, rfl⟩ w125 (show decode cX5_orderFor 42 = .ok (.getfield 161, 3) by decide +kernel) ?_
        refine V_iload_n 1 Z rfl rfl (show decode cX5_orderFor 45 = .ok (.iload_n 1, 1) by decide +kernel) ?_
        obtain ⟨v16, e17, h⟩ := zB_bind h
        refine V_iald Z e17 (show decode cX5_orderFor 46 = .ok (.iaload, 1) by decide +kernel) ?_
        refine V_iload_n 2 Z rfl rfl (show decode cX5_orderFor 47 = .ok (.iload_n 2, 1) by decide +kernel) ?_
        refine V_icmp_ne 53 Z (by decide) (show decode cX5_orderFor 48 = .ok (.if_icmp .ne 5, 3) by decide +kernel) (fun c18 => ?_) (fun c18 => ?_)
        · have h := zB_neg c18 h
          obtain ⟨x19, e20, h⟩ := zB_let h
          refine V_iinc (n := 1) 3 x19 [(3, Value.int x19), (0, Value.ref 0), (1, Value.int x1), (2, Value.int x2)] Z (by decide) rfl e20 rfl (show decode cX5_orderFor 53 = .ok (.iinc 3 1, 3) by decide +kernel) ?_
          refine V_goto 23 Z (by decide) (show decode cX5_orderFor 56 = .ok (.goto (-33), 3) by decide +kernel) ?_
          refine V_sub [1, 2, 3, 0] rfl ?_
          exact c1_i _ h
        · have h := zB_pos c18 h
          refine V_iload_n 3 Z rfl rfl (show decode cX5_orderFor 51 = .ok (.iload_n 3, 1) by decide +kernel) ?_
          have h := c1_r _ h
          exact V_iretM Z hE h (show decode cX5_orderFor 52 = .ok (.ireturn, 1) by decide +kernel)
    · have h := zB_pos c12 h
      refine V_sub [0] rfl ?_
      exact J15 _ h
def f_X5_orders_j15 (M : zM) : Option (Int32 × zM) :=
  (f_X5_finding 0 M).bind fun ((v2, M3) : Int32 × zM) =>
  some ((v2, M3))
def f_X5_orders_l26 (y1 : Int32) (y2 : Int32) : Int32 × Int32 × zM → Option ((Int32 × Int32 × zM) ⊕ (Int32 × zM))
  | (y3, y4, M) =>
    if 720 ≤ y4 then
      some (.inr ((y3, M)))
    else
      (f_X0_draw 1 y4 M).bind fun (M12 : zM) =>
      (zrd M12 11 y1).bind fun (v13 : Int32) =>
      if v13 = y2 then
        (some (y3 + 1)).bind fun (x18 : Int32) =>
        (some (y4 + 1)).bind fun (x20 : Int32) =>
        some (.inl ((x18, x20, M12)))
      else
        (some (y4 + 1)).bind fun (x16 : Int32) =>
        some (.inl ((y3, x16, M12)))
def f_X5_orders (x1 : Int32) (x2 : Int32) (M : zM) : Option (Int32 × zM) :=
  (f_X5_isPerson x1 M).bind fun (v5 : Int32) =>
  if v5 = 0 then
    f_X5_orders_j15  M
  else
    (f_X5_isName x2 M).bind fun (v8 : Int32) =>
    if v8 = 0 then
      f_X5_orders_j15  M
    else
      zIter (f_X5_orders_l26 x1 x2) 1000 (0, 0, M)
theorem cd_X5_orders : zCd yX5_orders cX5_orders 5 (some .int) 2 := ⟨w452, w64, ⟨by decide, by decide⟩, by decide +kernel⟩
set_option maxHeartbeats 4000000 in
set_option maxRecDepth 20000 in
theorem ok_X5_orders {x1 : Int32} {x2 : Int32} {M : zM} {y : Int32 × zM}  (h : f_X5_orders x1 x2 M = some y) : zRuns yX5_orders cX5_orders 5 (some .int) 3 68 [.ref 0, .int x1, .int x2] M (some (.int y.1)) y.2 := by
  refine zRuns_of (by decide +kernel) (Nat.le_of_ble_eq_true rfl) (fun E Z hE => ?_)
  have h := zB_top h
  change VV E 5 0 [(0, Value.ref 0), (1, Value.int x1), (2, Value.int x2)] [] M
  have J15 : ∀ (M : zM), (f_X5_orders_j15  M).bind some = some y → VV E 5 15 [(0, Value.ref 0)] [] M := by
    intro  M h
    refine V_aload_n 0 Z rfl rfl (show decode cX5_orders 15 = .ok (.aload_n 0, 1) by decide +kernel) ?_
    refine V_iconst 0 (by decide) Z (show decode cX5_orders 16 = .ok (.iconst 0, 1) by decide +kernel) ?_
    obtain ⟨⟨v2, M3⟩, e1, h⟩ := zB_bind h
    refine V_callV (rest := []) 1 Z (ok_X5_finding  e1) cd_X5_finding zc4 (by decide) rfl w248 w250 w0 rfl (show decode cX5_orders 17 = .ok (.invokevirtual 55, 3) by decide +kernel) rfl ?_
    exact V_iretM Z hE h (show decode cX5_orders 20 = .ok (.ireturn, 1) by decide +kernel)
  refine V_iload_n 1 Z rfl rfl (show decode cX5_orders 0 = .ok (.iload_n 1, 1) by decide +kernel) ?_
  obtain ⟨v5, e4, h⟩ := zB_bind h
  refine V_callS (rest := []) 1 Z (ok_X5_isPerson  e4) cd_X5_isPerson w300 w301 rfl (show decode cX5_orders 1 = .ok (.invokestatic 108, 3) by decide +kernel) rfl ?_
  refine V_if_eq 15 Z (by decide) (show decode cX5_orders 4 = .ok (.ifCond .eq 11, 3) by decide +kernel) (fun c6 => ?_) (fun c6 => ?_)
  · have h := zB_pos c6 h
    refine V_sub [0] rfl ?_
    exact J15 _ h
  · have h := zB_neg c6 h
    refine V_aload_n 0 Z rfl rfl (show decode cX5_orders 7 = .ok (.aload_n 0, 1) by decide +kernel) ?_
    refine V_iload_n 2 Z rfl rfl (show decode cX5_orders 8 = .ok (.iload_n 2, 1) by decide +kernel) ?_
    obtain ⟨v8, e7, h⟩ := zB_bind h
    refine V_callV (rest := []) 1 Z (ok_X5_isName  e7) cd_X5_isName zc4 (by decide) rfl w261 w263 w1 rfl (show decode cX5_orders 9 = .ok (.invokevirtual 67, 3) by decide +kernel) rfl ?_
    refine V_if_ne 21 Z (by decide) (show decode cX5_orders 12 = .ok (.ifCond .ne 9, 3) by decide +kernel) (fun c9 => ?_) (fun c9 => ?_)
    · have h := zB_neg c9 h
      refine V_iconst 0 (by decide) Z (show decode cX5_orders 21 = .ok (.iconst 0, 1) by decide +kernel) ?_
      refine V_istore_n [(3, Value.int 0), (0, Value.ref 0), (1, Value.int x1), (2, Value.int x2)] Z (by decide) rfl rfl (show decode cX5_orders 22 = .ok (.istore_n 3, 1) by decide +kernel) ?_
      refine V_iconst 0 (by decide) Z (show decode cX5_orders 23 = .ok (.iconst 0, 1) by decide +kernel) ?_
      refine V_istore [(4, Value.int 0), (3, Value.int 0), (0, Value.ref 0), (1, Value.int x1), (2, Value.int x2)] Z (by decide) rfl (show decode cX5_orders 24 = .ok (.istore 4, 2) by decide +kernel) ?_
      refine V_sub [2, 3, 4, 1, 0] rfl ?_
      refine zIter_loop' (K := some) (fun s : Int32 × Int32 × zM => VV E 5 26 [(0, Value.ref 0), (1, Value.int x1), (2, Value.int x2), (3, Value.int s.1), (4, Value.int s.2.1)] [] s.2.2) (fun K1 s c1_i c1_r h => ?_) _ _ h
      obtain ⟨y3, y4, M⟩ := s
      change VV E 5 26 [(0, Value.ref 0), (1, Value.int x1), (2, Value.int x2), (3, Value.int y3), (4, Value.int y4)] [] M
      refine V_iload 4 Z rfl (show decode cX5_orders 26 = .ok (.iload 4, 2) by decide +kernel) ?_
      refine V_sipush 720 (by decide) Z (show decode cX5_orders 28 = .ok (.sipush 720, 3) by decide +kernel) ?_
      refine V_icmp_ge 65 Z (by decide) (show decode cX5_orders 31 = .ok (.if_icmp .ge 34, 3) by decide +kernel) (fun c10 => ?_) (fun c10 => ?_)
      · have h := zB_pos c10 h
        refine V_iload_n 3 Z rfl rfl (show decode cX5_orders 65 = .ok (.iload_n 3, 1) by decide +kernel) ?_
        have h := c1_r _ h
        exact V_iretM Z hE h (show decode cX5_orders 66 = .ok (.ireturn, 1) by decide +kernel)
      · have h := zB_neg c10 h
        refine V_aload_n 0 Z rfl rfl (show decode cX5_orders 34 = .ok (.aload_n 0, 1) by decide +kernel) ?_
        refine V_getR 0 1 Z zc4 (by decide) rfl (by decide) rfl (by decide) ⟨rfl, rfl, rfl⟩ w216 (show decode cX5_orders 35 = .ok (.getfield 10, 3) by decide +kernel) ?_
        refine V_iload 4 Z rfl (show decode cX5_orders 38 = .ok (.iload 4, 2) by decide +kernel) ?_
        obtain ⟨M12, e11, h⟩ := zB_bind h
        refine V_callV (rest := []) 1 Z (ok_X0_draw isH_1 e11) cd_X0_draw zc0 (isH_lt isH_1) (shH isH_1) w407 w340 w341 rfl (show decode cX5_orders 40 = .ok (.invokevirtual 158, 3) by decide +kernel) rfl ?_
        refine V_aload_n 0 Z rfl rfl (show decode cX5_orders 43 = .ok (.aload_n 0, 1) by decide +kernel) ?_
        refine V_getR 0 1 Z zc4 (by decide) rfl (by decide) rfl (by decide) ⟨rfl, rfl, rfl⟩ w216 (show decode cX5_orders 44 = .ok (.getfield 10, 3) by decide +kernel) ?_
        refine V_getR 14 11 Z zc0 (isH_lt isH_1) (shH isH_1) (by decide) rfl (by decide) ⟨rfl, rfl, rfl⟩ w125 (show decode cX5_orders 47 = .ok (.getfield 161, 3) by decide +kernel) ?_
        refine V_iload_n 1 Z rfl rfl (show decode cX5_orders 50 = .ok (.iload_n 1, 1) by decide +kernel) ?_
        obtain ⟨v13, e14, h⟩ := zB_bind h
        refine V_iald Z e14 (show decode cX5_orders 51 = .ok (.iaload, 1) by decide +kernel) ?_
        refine V_iload_n 2 Z rfl rfl (show decode cX5_orders 52 = .ok (.iload_n 2, 1) by decide +kernel) ?_
        refine V_icmp_ne 59 Z (by decide) (show decode cX5_orders 53 = .ok (.if_icmp .ne 6, 3) by decide +kernel) (fun c15 => ?_) (fun c15 => ?_)
        · have h := zB_neg c15 h
          obtain ⟨x16, e17, h⟩ := zB_let h
          refine V_iinc (n := 1) 4 x16 [(4, Value.int x16), (0, Value.ref 0), (1, Value.int x1), (2, Value.int x2), (3, Value.int y3)] Z (by decide) rfl e17 rfl (show decode cX5_orders 59 = .ok (.iinc 4 1, 3) by decide +kernel) ?_
          refine V_goto 26 Z (by decide) (show decode cX5_orders 62 = .ok (.goto (-36), 3) by decide +kernel) ?_
          refine V_sub [1, 2, 3, 4, 0] rfl ?_
          exact c1_i _ h
        · have h := zB_pos c15 h
          obtain ⟨x18, e19, h⟩ := zB_let h
          refine V_iinc (n := 1) 3 x18 [(3, Value.int x18), (0, Value.ref 0), (1, Value.int x1), (2, Value.int x2), (4, Value.int y4)] Z (by decide) rfl e19 rfl (show decode cX5_orders 56 = .ok (.iinc 3 1, 3) by decide +kernel) ?_
          obtain ⟨x20, e21, h⟩ := zB_let h
          refine V_iinc (n := 1) 4 x20 [(4, Value.int x20), (3, Value.int x18), (0, Value.ref 0), (1, Value.int x1), (2, Value.int x2)] Z (by decide) rfl e21 rfl (show decode cX5_orders 59 = .ok (.iinc 4 1, 3) by decide +kernel) ?_
          refine V_goto 26 Z (by decide) (show decode cX5_orders 62 = .ok (.goto (-36), 3) by decide +kernel) ?_
          refine V_sub [2, 3, 4, 1, 0] rfl ?_
          exact c1_i _ h
    · have h := zB_pos c9 h
      refine V_sub [0] rfl ?_
      exact J15 _ h
def f_X5_cheapest_j40 (y3 : Int32) (y4 : Int32) (M : zM) : Option ((Int32 × Int32 × Int32 × zM) ⊕ (Int32 × zM)) :=
  (some (y3 + 1)).bind fun (x1 : Int32) =>
  some (.inl ((y3, y4, x1, M)))
def f_X5_cheapest_l6  : Int32 × Int32 × Int32 × zM → Option ((Int32 × Int32 × Int32 × zM) ⊕ (Int32 × zM))
  | (y1, y2, y3, M) =>
    if 720 ≤ y3 then
      some (.inr ((y1, M)))
    else
      (f_X0_draw 1 y3 M).bind fun (M5 : zM) =>
      (f_X0_duesDrawn 1 M5).bind fun (v7 : Int32) =>
      if y3 = 0 then
        f_X5_cheapest_j40 y3 v7 M5
      else
        if y2 ≤ v7 then
          (some (y3 + 1)).bind fun (x10 : Int32) =>
          some (.inl ((y1, y2, x10, M5)))
        else
          f_X5_cheapest_j40 y3 v7 M5
def f_X5_cheapest (M : zM) : Option (Int32 × zM) :=
  zIter (f_X5_cheapest_l6 ) 1000 (0, (-1), 0, M)
theorem cd_X5_cheapest : zCd yX5_cheapest cX5_cheapest 5 (some .int) 0 := ⟨w456, w64, ⟨by decide, by decide⟩, by decide +kernel⟩
set_option maxHeartbeats 4000000 in
set_option maxRecDepth 20000 in
theorem ok_X5_cheapest {M : zM} {y : Int32 × zM}  (h : f_X5_cheapest  M = some y) : zRuns yX5_cheapest cX5_cheapest 5 (some .int) 3 68 [.ref 0] M (some (.int y.1)) y.2 := by
  refine zRuns_of (by decide +kernel) (Nat.le_of_ble_eq_true rfl) (fun E Z hE => ?_)
  have h := zB_top h
  change VV E 5 0 [(0, Value.ref 0)] [] M
  refine V_iconst 0 (by decide) Z (show decode cX5_cheapest 0 = .ok (.iconst 0, 1) by decide +kernel) ?_
  refine V_istore_n [(1, Value.int 0), (0, Value.ref 0)] Z (by decide) rfl rfl (show decode cX5_cheapest 1 = .ok (.istore_n 1, 1) by decide +kernel) ?_
  refine V_iconst (-1) (by decide) Z (show decode cX5_cheapest 2 = .ok (.iconst (-1), 1) by decide +kernel) ?_
  refine V_istore_n [(2, Value.int (-1)), (1, Value.int 0), (0, Value.ref 0)] Z (by decide) rfl rfl (show decode cX5_cheapest 3 = .ok (.istore_n 2, 1) by decide +kernel) ?_
  refine V_iconst 0 (by decide) Z (show decode cX5_cheapest 4 = .ok (.iconst 0, 1) by decide +kernel) ?_
  refine V_istore_n [(3, Value.int 0), (2, Value.int (-1)), (1, Value.int 0), (0, Value.ref 0)] Z (by decide) rfl rfl (show decode cX5_cheapest 5 = .ok (.istore_n 3, 1) by decide +kernel) ?_
  refine V_sub [3, 2, 1, 0] rfl ?_
  refine zIter_loop' (K := some) (fun s : Int32 × Int32 × Int32 × zM => VV E 5 6 [(0, Value.ref 0), (1, Value.int s.1), (2, Value.int s.2.1), (3, Value.int s.2.2.1)] [] s.2.2.2) (fun K1 s c1_i c1_r h => ?_) _ _ h
  obtain ⟨y1, y2, y3, M⟩ := s
  change VV E 5 6 [(0, Value.ref 0), (1, Value.int y1), (2, Value.int y2), (3, Value.int y3)] [] M
  have J40 : ∀ (y3 : Int32) (y4 : Int32) (M : zM), (f_X5_cheapest_j40 y3 y4 M).bind K1 = some y → VV E 5 40 [(0, Value.ref 0), (3, Value.int y3), (4, Value.int y4)] [] M := by
    intro y3 y4 M h
    refine V_iload_n 1 Z rfl rfl (show decode cX5_cheapest 40 = .ok (.iload_n 3, 1) by decide +kernel) ?_
    refine V_istore_n [(1, Value.int y3), (0, Value.ref 0), (3, Value.int y3), (4, Value.int y4)] Z (by decide) rfl rfl (show decode cX5_cheapest 41 = .ok (.istore_n 1, 1) by decide +kernel) ?_
    refine V_iload 3 Z rfl (show decode cX5_cheapest 42 = .ok (.iload 4, 2) by decide +kernel) ?_
    refine V_istore_n [(2, Value.int y4), (1, Value.int y3), (0, Value.ref 0), (3, Value.int y3), (4, Value.int y4)] Z (by decide) rfl rfl (show decode cX5_cheapest 44 = .ok (.istore_n 2, 1) by decide +kernel) ?_
    obtain ⟨x1, e2, h⟩ := zB_let h
    refine V_iinc (n := 1) 3 x1 [(3, Value.int x1), (2, Value.int y4), (1, Value.int y3), (0, Value.ref 0), (4, Value.int y4)] Z (by decide) rfl e2 rfl (show decode cX5_cheapest 45 = .ok (.iinc 3 1, 3) by decide +kernel) ?_
    refine V_goto 6 Z (by decide) (show decode cX5_cheapest 48 = .ok (.goto (-42), 3) by decide +kernel) ?_
    refine V_sub [3, 2, 1, 0] rfl ?_
    exact c1_i _ h
  refine V_iload_n 3 Z rfl rfl (show decode cX5_cheapest 6 = .ok (.iload_n 3, 1) by decide +kernel) ?_
  refine V_sipush 720 (by decide) Z (show decode cX5_cheapest 7 = .ok (.sipush 720, 3) by decide +kernel) ?_
  refine V_icmp_ge 51 Z (by decide) (show decode cX5_cheapest 10 = .ok (.if_icmp .ge 41, 3) by decide +kernel) (fun c3 => ?_) (fun c3 => ?_)
  · have h := zB_pos c3 h
    refine V_iload_n 1 Z rfl rfl (show decode cX5_cheapest 51 = .ok (.iload_n 1, 1) by decide +kernel) ?_
    have h := c1_r _ h
    exact V_iretM Z hE h (show decode cX5_cheapest 52 = .ok (.ireturn, 1) by decide +kernel)
  · have h := zB_neg c3 h
    refine V_aload_n 0 Z rfl rfl (show decode cX5_cheapest 13 = .ok (.aload_n 0, 1) by decide +kernel) ?_
    refine V_getR 0 1 Z zc4 (by decide) rfl (by decide) rfl (by decide) ⟨rfl, rfl, rfl⟩ w216 (show decode cX5_cheapest 14 = .ok (.getfield 10, 3) by decide +kernel) ?_
    refine V_iload_n 3 Z rfl rfl (show decode cX5_cheapest 17 = .ok (.iload_n 3, 1) by decide +kernel) ?_
    obtain ⟨M5, e4, h⟩ := zB_bind h
    refine V_callV (rest := []) 1 Z (ok_X0_draw isH_1 e4) cd_X0_draw zc0 (isH_lt isH_1) (shH isH_1) w407 w340 w341 rfl (show decode cX5_cheapest 18 = .ok (.invokevirtual 158, 3) by decide +kernel) rfl ?_
    refine V_aload_n 0 Z rfl rfl (show decode cX5_cheapest 21 = .ok (.aload_n 0, 1) by decide +kernel) ?_
    refine V_getR 0 1 Z zc4 (by decide) rfl (by decide) rfl (by decide) ⟨rfl, rfl, rfl⟩ w216 (show decode cX5_cheapest 22 = .ok (.getfield 10, 3) by decide +kernel) ?_
    obtain ⟨v7, e6, h⟩ := zB_bind h
    refine V_callV (rest := []) 0 Z (ok_X0_duesDrawn isH_1 e6) cd_X0_duesDrawn zc0 (isH_lt isH_1) (shH isH_1) w457 w458 w459 rfl (show decode cX5_cheapest 25 = .ok (.invokevirtual 177, 3) by decide +kernel) rfl ?_
    refine V_istore [(4, Value.int v7), (0, Value.ref 0), (1, Value.int y1), (2, Value.int y2), (3, Value.int y3)] Z (by decide) rfl (show decode cX5_cheapest 28 = .ok (.istore 4, 2) by decide +kernel) ?_
    refine V_iload_n 4 Z rfl rfl (show decode cX5_cheapest 30 = .ok (.iload_n 3, 1) by decide +kernel) ?_
    refine V_if_eq 40 Z (by decide) (show decode cX5_cheapest 31 = .ok (.ifCond .eq 9, 3) by decide +kernel) (fun c8 => ?_) (fun c8 => ?_)
    · have h := zB_pos c8 h
      refine V_sub [1, 4, 0] rfl ?_
      exact J40 _ _ _ h
    · have h := zB_neg c8 h
      refine V_iload 0 Z rfl (show decode cX5_cheapest 34 = .ok (.iload 4, 2) by decide +kernel) ?_
      refine V_iload_n 3 Z rfl rfl (show decode cX5_cheapest 36 = .ok (.iload_n 2, 1) by decide +kernel) ?_
      refine V_icmp_ge 45 Z (by decide) (show decode cX5_cheapest 37 = .ok (.if_icmp .ge 8, 3) by decide +kernel) (fun c9 => ?_) (fun c9 => ?_)
      · have h := zB_pos c9 h
        obtain ⟨x10, e11, h⟩ := zB_let h
        refine V_iinc (n := 1) 4 x10 [(3, Value.int x10), (4, Value.int v7), (0, Value.ref 0), (1, Value.int y1), (2, Value.int y2)] Z (by decide) rfl e11 rfl (show decode cX5_cheapest 45 = .ok (.iinc 3 1, 3) by decide +kernel) ?_
        refine V_goto 6 Z (by decide) (show decode cX5_cheapest 48 = .ok (.goto (-42), 3) by decide +kernel) ?_
        refine V_sub [2, 3, 4, 0] rfl ?_
        exact c1_i _ h
      · have h := zB_neg c9 h
        refine V_sub [1, 4, 0] rfl ?_
        exact J40 _ _ _ h
def f_X5_calmest_j40 (y3 : Int32) (y4 : Int32) (M : zM) : Option ((Int32 × Int32 × Int32 × zM) ⊕ (Int32 × zM)) :=
  (some (y3 + 1)).bind fun (x1 : Int32) =>
  some (.inl ((y3, y4, x1, M)))
def f_X5_calmest_l6  : Int32 × Int32 × Int32 × zM → Option ((Int32 × Int32 × Int32 × zM) ⊕ (Int32 × zM))
  | (y1, y2, y3, M) =>
    if 720 ≤ y3 then
      some (.inr ((y1, M)))
    else
      (f_X0_draw 1 y3 M).bind fun (M5 : zM) =>
      (f_X0_pairsDrawn 1 M5).bind fun (v7 : Int32) =>
      if y3 = 0 then
        f_X5_calmest_j40 y3 v7 M5
      else
        if y2 ≤ v7 then
          (some (y3 + 1)).bind fun (x10 : Int32) =>
          some (.inl ((y1, y2, x10, M5)))
        else
          f_X5_calmest_j40 y3 v7 M5
def f_X5_calmest (M : zM) : Option (Int32 × zM) :=
  zIter (f_X5_calmest_l6 ) 1000 (0, (-1), 0, M)
theorem cd_X5_calmest : zCd yX5_calmest cX5_calmest 5 (some .int) 0 := ⟨w464, w64, ⟨by decide, by decide⟩, by decide +kernel⟩
set_option maxHeartbeats 4000000 in
set_option maxRecDepth 20000 in
theorem ok_X5_calmest {M : zM} {y : Int32 × zM}  (h : f_X5_calmest  M = some y) : zRuns yX5_calmest cX5_calmest 5 (some .int) 3 68 [.ref 0] M (some (.int y.1)) y.2 := by
  refine zRuns_of (by decide +kernel) (Nat.le_of_ble_eq_true rfl) (fun E Z hE => ?_)
  have h := zB_top h
  change VV E 5 0 [(0, Value.ref 0)] [] M
  refine V_iconst 0 (by decide) Z (show decode cX5_calmest 0 = .ok (.iconst 0, 1) by decide +kernel) ?_
  refine V_istore_n [(1, Value.int 0), (0, Value.ref 0)] Z (by decide) rfl rfl (show decode cX5_calmest 1 = .ok (.istore_n 1, 1) by decide +kernel) ?_
  refine V_iconst (-1) (by decide) Z (show decode cX5_calmest 2 = .ok (.iconst (-1), 1) by decide +kernel) ?_
  refine V_istore_n [(2, Value.int (-1)), (1, Value.int 0), (0, Value.ref 0)] Z (by decide) rfl rfl (show decode cX5_calmest 3 = .ok (.istore_n 2, 1) by decide +kernel) ?_
  refine V_iconst 0 (by decide) Z (show decode cX5_calmest 4 = .ok (.iconst 0, 1) by decide +kernel) ?_
  refine V_istore_n [(3, Value.int 0), (2, Value.int (-1)), (1, Value.int 0), (0, Value.ref 0)] Z (by decide) rfl rfl (show decode cX5_calmest 5 = .ok (.istore_n 3, 1) by decide +kernel) ?_
  refine V_sub [3, 2, 1, 0] rfl ?_
  refine zIter_loop' (K := some) (fun s : Int32 × Int32 × Int32 × zM => VV E 5 6 [(0, Value.ref 0), (1, Value.int s.1), (2, Value.int s.2.1), (3, Value.int s.2.2.1)] [] s.2.2.2) (fun K1 s c1_i c1_r h => ?_) _ _ h
  obtain ⟨y1, y2, y3, M⟩ := s
  change VV E 5 6 [(0, Value.ref 0), (1, Value.int y1), (2, Value.int y2), (3, Value.int y3)] [] M
  have J40 : ∀ (y3 : Int32) (y4 : Int32) (M : zM), (f_X5_calmest_j40 y3 y4 M).bind K1 = some y → VV E 5 40 [(0, Value.ref 0), (3, Value.int y3), (4, Value.int y4)] [] M := by
    intro y3 y4 M h
    refine V_iload_n 1 Z rfl rfl (show decode cX5_calmest 40 = .ok (.iload_n 3, 1) by decide +kernel) ?_
    refine V_istore_n [(1, Value.int y3), (0, Value.ref 0), (3, Value.int y3), (4, Value.int y4)] Z (by decide) rfl rfl (show decode cX5_calmest 41 = .ok (.istore_n 1, 1) by decide +kernel) ?_
    refine V_iload 3 Z rfl (show decode cX5_calmest 42 = .ok (.iload 4, 2) by decide +kernel) ?_
    refine V_istore_n [(2, Value.int y4), (1, Value.int y3), (0, Value.ref 0), (3, Value.int y3), (4, Value.int y4)] Z (by decide) rfl rfl (show decode cX5_calmest 44 = .ok (.istore_n 2, 1) by decide +kernel) ?_
    obtain ⟨x1, e2, h⟩ := zB_let h
    refine V_iinc (n := 1) 3 x1 [(3, Value.int x1), (2, Value.int y4), (1, Value.int y3), (0, Value.ref 0), (4, Value.int y4)] Z (by decide) rfl e2 rfl (show decode cX5_calmest 45 = .ok (.iinc 3 1, 3) by decide +kernel) ?_
    refine V_goto 6 Z (by decide) (show decode cX5_calmest 48 = .ok (.goto (-42), 3) by decide +kernel) ?_
    refine V_sub [3, 2, 1, 0] rfl ?_
    exact c1_i _ h
  refine V_iload_n 3 Z rfl rfl (show decode cX5_calmest 6 = .ok (.iload_n 3, 1) by decide +kernel) ?_
  refine V_sipush 720 (by decide) Z (show decode cX5_calmest 7 = .ok (.sipush 720, 3) by decide +kernel) ?_
  refine V_icmp_ge 51 Z (by decide) (show decode cX5_calmest 10 = .ok (.if_icmp .ge 41, 3) by decide +kernel) (fun c3 => ?_) (fun c3 => ?_)
  · have h := zB_pos c3 h
    refine V_iload_n 1 Z rfl rfl (show decode cX5_calmest 51 = .ok (.iload_n 1, 1) by decide +kernel) ?_
    have h := c1_r _ h
    exact V_iretM Z hE h (show decode cX5_calmest 52 = .ok (.ireturn, 1) by decide +kernel)
  · have h := zB_neg c3 h
    refine V_aload_n 0 Z rfl rfl (show decode cX5_calmest 13 = .ok (.aload_n 0, 1) by decide +kernel) ?_
    refine V_getR 0 1 Z zc4 (by decide) rfl (by decide) rfl (by decide) ⟨rfl, rfl, rfl⟩ w216 (show decode cX5_calmest 14 = .ok (.getfield 10, 3) by decide +kernel) ?_
    refine V_iload_n 3 Z rfl rfl (show decode cX5_calmest 17 = .ok (.iload_n 3, 1) by decide +kernel) ?_
    obtain ⟨M5, e4, h⟩ := zB_bind h
    refine V_callV (rest := []) 1 Z (ok_X0_draw isH_1 e4) cd_X0_draw zc0 (isH_lt isH_1) (shH isH_1) w407 w340 w341 rfl (show decode cX5_calmest 18 = .ok (.invokevirtual 158, 3) by decide +kernel) rfl ?_
    refine V_aload_n 0 Z rfl rfl (show decode cX5_calmest 21 = .ok (.aload_n 0, 1) by decide +kernel) ?_
    refine V_getR 0 1 Z zc4 (by decide) rfl (by decide) rfl (by decide) ⟨rfl, rfl, rfl⟩ w216 (show decode cX5_calmest 22 = .ok (.getfield 10, 3) by decide +kernel) ?_
    obtain ⟨v7, e6, h⟩ := zB_bind h
    refine V_callV (rest := []) 0 Z (ok_X0_pairsDrawn isH_1 e6) cd_X0_pairsDrawn zc0 (isH_lt isH_1) (shH isH_1) w465 w376 w377 rfl (show decode cX5_calmest 25 = .ok (.invokevirtual 180, 3) by decide +kernel) rfl ?_
    refine V_istore [(4, Value.int v7), (0, Value.ref 0), (1, Value.int y1), (2, Value.int y2), (3, Value.int y3)] Z (by decide) rfl (show decode cX5_calmest 28 = .ok (.istore 4, 2) by decide +kernel) ?_
    refine V_iload_n 4 Z rfl rfl (show decode cX5_calmest 30 = .ok (.iload_n 3, 1) by decide +kernel) ?_
    refine V_if_eq 40 Z (by decide) (show decode cX5_calmest 31 = .ok (.ifCond .eq 9, 3) by decide +kernel) (fun c8 => ?_) (fun c8 => ?_)
    · have h := zB_pos c8 h
      refine V_sub [1, 4, 0] rfl ?_
      exact J40 _ _ _ h
    · have h := zB_neg c8 h
      refine V_iload 0 Z rfl (show decode cX5_calmest 34 = .ok (.iload 4, 2) by decide +kernel) ?_
      refine V_iload_n 3 Z rfl rfl (show decode cX5_calmest 36 = .ok (.iload_n 2, 1) by decide +kernel) ?_
      refine V_icmp_ge 45 Z (by decide) (show decode cX5_calmest 37 = .ok (.if_icmp .ge 8, 3) by decide +kernel) (fun c9 => ?_) (fun c9 => ?_)
      · have h := zB_pos c9 h
        obtain ⟨x10, e11, h⟩ := zB_let h
        refine V_iinc (n := 1) 4 x10 [(3, Value.int x10), (4, Value.int v7), (0, Value.ref 0), (1, Value.int y1), (2, Value.int y2)] Z (by decide) rfl e11 rfl (show decode cX5_calmest 45 = .ok (.iinc 3 1, 3) by decide +kernel) ?_
        refine V_goto 6 Z (by decide) (show decode cX5_calmest 48 = .ok (.goto (-42), 3) by decide +kernel) ?_
        refine V_sub [2, 3, 4, 0] rfl ?_
        exact c1_i _ h
      · have h := zB_neg c9 h
        refine V_sub [1, 4, 0] rfl ?_
        exact J40 _ _ _ h
def f_X5_best_j17 (M : zM) : Option (Int32 × zM) :=
  (f_X5_finding 0 M).bind fun ((v2, M3) : Int32 × zM) =>
  some ((v2, M3))
def f_X5_best_l31 (y1 : Int32) (y2 : Int32) : Int32 × Int32 × Int32 × zM → Option ((Int32 × Int32 × Int32 × zM) ⊕ (Int32 × zM))
  | (y3, y4, y5, M) =>
    if 720 ≤ y5 then
      some (.inr ((y3, M)))
    else
      (f_X0_become 23 1 M).bind fun (M12 : zM) =>
      (some (zU M12 23 9 y5)).bind fun (M13 : zM) =>
      (f_X0_pass 23 y2 M13).bind fun (M16 : zM) =>
      (zrd M16 29 y1).bind fun (v17 : Int32) =>
      if v17 ≤ y4 then
        (some (y5 + 1)).bind fun (x20 : Int32) =>
        some (.inl ((y3, y4, x20, M16)))
      else
        (zrd M16 29 y1).bind fun (v22 : Int32) =>
        (some (y5 + 1)).bind fun (x24 : Int32) =>
        some (.inl ((y5, v22, x24, M16)))
def f_X5_best (x1 : Int32) (x2 : Int32) (M : zM) : Option (Int32 × zM) :=
  (f_X5_isPerson x1 M).bind fun (v5 : Int32) =>
  if v5 = 0 then
    f_X5_best_j17  M
  else
    (f_X5_within x2 0 10 M).bind fun (v8 : Int32) =>
    if v8 = 0 then
      f_X5_best_j17  M
    else
      zIter (f_X5_best_l31 x1 x2) 1000 (0, (-1), 0, M)
theorem cd_X5_best : zCd yX5_best cX5_best 6 (some .int) 2 := ⟨w469, w64, ⟨by decide, by decide⟩, by decide +kernel⟩
set_option maxHeartbeats 4000000 in
set_option maxRecDepth 20000 in
theorem ok_X5_best {x1 : Int32} {x2 : Int32} {M : zM} {y : Int32 × zM}  (h : f_X5_best x1 x2 M = some y) : zRuns yX5_best cX5_best 6 (some .int) 5 113 [.ref 0, .int x1, .int x2] M (some (.int y.1)) y.2 := by
  refine zRuns_of (by decide +kernel) (Nat.le_of_ble_eq_true rfl) (fun E Z hE => ?_)
  have h := zB_top h
  change VV E 6 0 [(0, Value.ref 0), (1, Value.int x1), (2, Value.int x2)] [] M
  have J17 : ∀ (M : zM), (f_X5_best_j17  M).bind some = some y → VV E 6 17 [(0, Value.ref 0)] [] M := by
    intro  M h
    refine V_aload_n 0 Z rfl rfl (show decode cX5_best 17 = .ok (.aload_n 0, 1) by decide +kernel) ?_
    refine V_iconst 0 (by decide) Z (show decode cX5_best 18 = .ok (.iconst 0, 1) by decide +kernel) ?_
    obtain ⟨⟨v2, M3⟩, e1, h⟩ := zB_bind h
    refine V_callV (rest := []) 1 Z (ok_X5_finding  e1) cd_X5_finding zc4 (by decide) rfl w248 w250 w0 rfl (show decode cX5_best 19 = .ok (.invokevirtual 55, 3) by decide +kernel) rfl ?_
    exact V_iretM Z hE h (show decode cX5_best 22 = .ok (.ireturn, 1) by decide +kernel)
  refine V_iload_n 1 Z rfl rfl (show decode cX5_best 0 = .ok (.iload_n 1, 1) by decide +kernel) ?_
  obtain ⟨v5, e4, h⟩ := zB_bind h
  refine V_callS (rest := []) 1 Z (ok_X5_isPerson  e4) cd_X5_isPerson w300 w301 rfl (show decode cX5_best 1 = .ok (.invokestatic 108, 3) by decide +kernel) rfl ?_
  refine V_if_eq 17 Z (by decide) (show decode cX5_best 4 = .ok (.ifCond .eq 13, 3) by decide +kernel) (fun c6 => ?_) (fun c6 => ?_)
  · have h := zB_pos c6 h
    refine V_sub [0] rfl ?_
    exact J17 _ h
  · have h := zB_neg c6 h
    refine V_iload_n 2 Z rfl rfl (show decode cX5_best 7 = .ok (.iload_n 2, 1) by decide +kernel) ?_
    refine V_iconst 0 (by decide) Z (show decode cX5_best 8 = .ok (.iconst 0, 1) by decide +kernel) ?_
    refine V_bipush 10 (by decide) Z (show decode cX5_best 9 = .ok (.bipush 10, 2) by decide +kernel) ?_
    obtain ⟨v8, e7, h⟩ := zB_bind h
    refine V_callS (rest := []) 3 Z (ok_X5_within  e7) cd_X5_within w245 w246 rfl (show decode cX5_best 11 = .ok (.invokestatic 51, 3) by decide +kernel) rfl ?_
    refine V_if_ne 23 Z (by decide) (show decode cX5_best 14 = .ok (.ifCond .ne 9, 3) by decide +kernel) (fun c9 => ?_) (fun c9 => ?_)
    · have h := zB_neg c9 h
      refine V_iconst 0 (by decide) Z (show decode cX5_best 23 = .ok (.iconst 0, 1) by decide +kernel) ?_
      refine V_istore_n [(3, Value.int 0), (0, Value.ref 0), (1, Value.int x1), (2, Value.int x2)] Z (by decide) rfl rfl (show decode cX5_best 24 = .ok (.istore_n 3, 1) by decide +kernel) ?_
      refine V_iconst (-1) (by decide) Z (show decode cX5_best 25 = .ok (.iconst (-1), 1) by decide +kernel) ?_
      refine V_istore [(4, Value.int (-1)), (3, Value.int 0), (0, Value.ref 0), (1, Value.int x1), (2, Value.int x2)] Z (by decide) rfl (show decode cX5_best 26 = .ok (.istore 4, 2) by decide +kernel) ?_
      refine V_iconst 0 (by decide) Z (show decode cX5_best 28 = .ok (.iconst 0, 1) by decide +kernel) ?_
      refine V_istore [(5, Value.int 0), (4, Value.int (-1)), (3, Value.int 0), (0, Value.ref 0), (1, Value.int x1), (2, Value.int x2)] Z (by decide) rfl (show decode cX5_best 29 = .ok (.istore 5, 2) by decide +kernel) ?_
      refine V_sub [3, 4, 5, 2, 1, 0] rfl ?_
      refine zIter_loop' (K := some) (fun s : Int32 × Int32 × Int32 × zM => VV E 6 31 [(0, Value.ref 0), (1, Value.int x1), (2, Value.int x2), (3, Value.int s.1), (4, Value.int s.2.1), (5, Value.int s.2.2.1)] [] s.2.2.2) (fun K1 s c1_i c1_r h => ?_) _ _ h
      obtain ⟨y3, y4, y5, M⟩ := s
      change VV E 6 31 [(0, Value.ref 0), (1, Value.int x1), (2, Value.int x2), (3, Value.int y3), (4, Value.int y4), (5, Value.int y5)] [] M
      refine V_iload 5 Z rfl (show decode cX5_best 31 = .ok (.iload 5, 2) by decide +kernel) ?_
      refine V_sipush 720 (by decide) Z (show decode cX5_best 33 = .ok (.sipush 720, 3) by decide +kernel) ?_
      refine V_icmp_ge 101 Z (by decide) (show decode cX5_best 36 = .ok (.if_icmp .ge 65, 3) by decide +kernel) (fun c10 => ?_) (fun c10 => ?_)
      · have h := zB_pos c10 h
        refine V_iload_n 3 Z rfl rfl (show decode cX5_best 101 = .ok (.iload_n 3, 1) by decide +kernel) ?_
        have h := c1_r _ h
        exact V_iretM Z hE h (show decode cX5_best 102 = .ok (.ireturn, 1) by decide +kernel)
      · have h := zB_neg c10 h
        refine V_aload_n 0 Z rfl rfl (show decode cX5_best 39 = .ok (.aload_n 0, 1) by decide +kernel) ?_
        refine V_getR 2 23 Z zc4 (by decide) rfl (by decide) rfl (by decide) ⟨rfl, rfl, rfl⟩ w218 (show decode cX5_best 40 = .ok (.getfield 19, 3) by decide +kernel) ?_
        refine V_aload_n 0 Z rfl rfl (show decode cX5_best 43 = .ok (.aload_n 0, 1) by decide +kernel) ?_
        refine V_getR 0 1 Z zc4 (by decide) rfl (by decide) rfl (by decide) ⟨rfl, rfl, rfl⟩ w216 (show decode cX5_best 44 = .ok (.getfield 10, 3) by decide +kernel) ?_
        obtain ⟨M12, e11, h⟩ := zB_bind h
        refine V_callV (rest := []) 1 Z (ok_X0_become isH_23 isH_1 e11) cd_X0_become zc0 (isH_lt isH_23) (shH isH_23) w412 w413 w414 rfl (show decode cX5_best 47 = .ok (.invokevirtual 164, 3) by decide +kernel) rfl ?_
        refine V_aload_n 0 Z rfl rfl (show decode cX5_best 50 = .ok (.aload_n 0, 1) by decide +kernel) ?_
        refine V_getR 2 23 Z zc4 (by decide) rfl (by decide) rfl (by decide) ⟨rfl, rfl, rfl⟩ w218 (show decode cX5_best 51 = .ok (.getfield 19, 3) by decide +kernel) ?_
        refine V_iload 5 Z rfl (show decode cX5_best 54 = .ok (.iload 5, 2) by decide +kernel) ?_
        obtain ⟨M13, e14, h⟩ := zB_let h
        refine V_putI 9 Z zc0 (isH_lt isH_23) (shH isH_23) (by decide) rfl ⟨rfl, rfl, rfl⟩ rfl rfl w114 (show decode cX5_best 56 = .ok (.putfield 123, 3) by decide +kernel) ?_
        refine V_nmM e14 ?_
        refine V_aload_n 0 Z rfl rfl (show decode cX5_best 59 = .ok (.aload_n 0, 1) by decide +kernel) ?_
        refine V_getR 2 23 Z zc4 (by decide) rfl (by decide) rfl (by decide) ⟨rfl, rfl, rfl⟩ w218 (show decode cX5_best 60 = .ok (.getfield 19, 3) by decide +kernel) ?_
        refine V_iload_n 2 Z rfl rfl (show decode cX5_best 63 = .ok (.iload_n 2, 1) by decide +kernel) ?_
        obtain ⟨M16, e15, h⟩ := zB_bind h
        refine V_callV (rest := []) 1 Z (ok_X0_pass isH_23 e15) cd_X0_pass zc0 (isH_lt isH_23) (shH isH_23) w331 w332 w333 rfl (show decode cX5_best 64 = .ok (.invokevirtual 136, 3) by decide +kernel) rfl ?_
        refine V_aload_n 0 Z rfl rfl (show decode cX5_best 67 = .ok (.aload_n 0, 1) by decide +kernel) ?_
        refine V_getR 2 23 Z zc4 (by decide) rfl (by decide) rfl (by decide) ⟨rfl, rfl, rfl⟩ w218 (show decode cX5_best 68 = .ok (.getfield 19, 3) by decide +kernel) ?_
        refine V_getR 6 29 Z zc0 (isH_lt isH_23) (shH isH_23) (by decide) rfl (by decide) ⟨rfl, rfl, rfl⟩ w106 (show decode cX5_best 71 = .ok (.getfield 111, 3) by decide +kernel) ?_
        refine V_iload_n 1 Z rfl rfl (show decode cX5_best 74 = .ok (.iload_n 1, 1) by decide +kernel) ?_
        obtain ⟨v17, e18, h⟩ := zB_bind h
        refine V_iald Z e18 (show decode cX5_best 75 = .ok (.iaload, 1) by decide +kernel) ?_
        refine V_iload 4 Z rfl (show decode cX5_best 76 = .ok (.iload 4, 2) by decide +kernel) ?_
        refine V_icmp_le 95 Z (by decide) (show decode cX5_best 78 = .ok (.if_icmp .le 17, 3) by decide +kernel) (fun c19 => ?_) (fun c19 => ?_)
        · have h := zB_pos c19 h
          obtain ⟨x20, e21, h⟩ := zB_let h
          refine V_iinc (n := 1) 5 x20 [(5, Value.int x20), (0, Value.ref 0), (1, Value.int x1), (2, Value.int x2), (3, Value.int y3), (4, Value.int y4)] Z (by decide) rfl e21 rfl (show decode cX5_best 95 = .ok (.iinc 5 1, 3) by decide +kernel) ?_
          refine V_goto 31 Z (by decide) (show decode cX5_best 98 = .ok (.goto (-67), 3) by decide +kernel) ?_
          refine V_sub [1, 2, 3, 4, 5, 0] rfl ?_
          exact c1_i _ h
        · have h := zB_neg c19 h
          refine V_iload 5 Z rfl (show decode cX5_best 81 = .ok (.iload 5, 2) by decide +kernel) ?_
          refine V_istore_n [(3, Value.int y5), (0, Value.ref 0), (1, Value.int x1), (2, Value.int x2), (4, Value.int y4), (5, Value.int y5)] Z (by decide) rfl rfl (show decode cX5_best 83 = .ok (.istore_n 3, 1) by decide +kernel) ?_
          refine V_aload_n 1 Z rfl rfl (show decode cX5_best 84 = .ok (.aload_n 0, 1) by decide +kernel) ?_
          refine V_getR 2 23 Z zc4 (by decide) rfl (by decide) rfl (by decide) ⟨rfl, rfl, rfl⟩ w218 (show decode cX5_best 85 = .ok (.getfield 19, 3) by decide +kernel) ?_
          refine V_getR 6 29 Z zc0 (isH_lt isH_23) (shH isH_23) (by decide) rfl (by decide) ⟨rfl, rfl, rfl⟩ w106 (show decode cX5_best 88 = .ok (.getfield 111, 3) by decide +kernel) ?_
          refine V_iload_n 2 Z rfl rfl (show decode cX5_best 91 = .ok (.iload_n 1, 1) by decide +kernel) ?_
          obtain ⟨v22, e23, h⟩ := zB_bind h
          refine V_iald Z e23 (show decode cX5_best 92 = .ok (.iaload, 1) by decide +kernel) ?_
          refine V_istore [(4, Value.int v22), (3, Value.int y5), (0, Value.ref 0), (1, Value.int x1), (2, Value.int x2), (5, Value.int y5)] Z (by decide) rfl (show decode cX5_best 93 = .ok (.istore 4, 2) by decide +kernel) ?_
          obtain ⟨x24, e25, h⟩ := zB_let h
          refine V_iinc (n := 1) 5 x24 [(5, Value.int x24), (4, Value.int v22), (3, Value.int y5), (0, Value.ref 0), (1, Value.int x1), (2, Value.int x2)] Z (by decide) rfl e25 rfl (show decode cX5_best 95 = .ok (.iinc 5 1, 3) by decide +kernel) ?_
          refine V_goto 31 Z (by decide) (show decode cX5_best 98 = .ok (.goto (-67), 3) by decide +kernel) ?_
          refine V_sub [3, 4, 5, 2, 1, 0] rfl ?_
          exact c1_i _ h
    · have h := zB_pos c9 h
      refine V_sub [0] rfl ?_
      exact J17 _ h
def f_X5_wishFor_j17 (M : zM) : Option (Int32 × zM) :=
  (f_X5_finding 0 M).bind fun ((v2, M3) : Int32 × zM) =>
  some ((v2, M3))
def f_X5_wishFor_l31 (y1 : Int32) (y2 : Int32) : Int32 × Int32 × Int32 × zM → Option ((Int32 × Int32 × Int32 × zM) ⊕ (Int32 × zM))
  | (y3, y4, y5, M) =>
    if (M 1 0) ≤ y5 then
      some (.inr ((y3, M)))
    else
      (f_X0_become 23 1 M).bind fun (M12 : zM) =>
      (zwr M12 30 y1 y5).bind fun (M13 : zM) =>
      (f_X0_pass 23 y2 M13).bind fun (M16 : zM) =>
      (zrd M16 29 y1).bind fun (v17 : Int32) =>
      if v17 ≤ y4 then
        (some (y5 + 1)).bind fun (x20 : Int32) =>
        some (.inl ((y3, y4, x20, M16)))
      else
        (zrd M16 29 y1).bind fun (v22 : Int32) =>
        (some (y5 + 1)).bind fun (x24 : Int32) =>
        some (.inl ((y5, v22, x24, M16)))
def f_X5_wishFor (x1 : Int32) (x2 : Int32) (M : zM) : Option (Int32 × zM) :=
  (f_X5_isPerson x1 M).bind fun (v5 : Int32) =>
  if v5 = 0 then
    f_X5_wishFor_j17  M
  else
    (f_X5_within x2 0 60 M).bind fun (v8 : Int32) =>
    if v8 = 0 then
      f_X5_wishFor_j17  M
    else
      zIter (f_X5_wishFor_l31 x1 x2) 1000 ((-1), (-1), (-1), M)
theorem cd_X5_wishFor : zCd yX5_wishFor cX5_wishFor 6 (some .int) 2 := ⟨w473, w64, ⟨by decide, by decide⟩, by decide +kernel⟩
set_option maxHeartbeats 4000000 in
set_option maxRecDepth 20000 in
theorem ok_X5_wishFor {x1 : Int32} {x2 : Int32} {M : zM} {y : Int32 × zM}  (h : f_X5_wishFor x1 x2 M = some y) : zRuns yX5_wishFor cX5_wishFor 6 (some .int) 5 113 [.ref 0, .int x1, .int x2] M (some (.int y.1)) y.2 := by
  refine zRuns_of (by decide +kernel) (Nat.le_of_ble_eq_true rfl) (fun E Z hE => ?_)
  have h := zB_top h
  change VV E 6 0 [(0, Value.ref 0), (1, Value.int x1), (2, Value.int x2)] [] M
  have J17 : ∀ (M : zM), (f_X5_wishFor_j17  M).bind some = some y → VV E 6 17 [(0, Value.ref 0)] [] M := by
    intro  M h
    refine V_aload_n 0 Z rfl rfl (show decode cX5_wishFor 17 = .ok (.aload_n 0, 1) by decide +kernel) ?_
    refine V_iconst 0 (by decide) Z (show decode cX5_wishFor 18 = .ok (.iconst 0, 1) by decide +kernel) ?_
    obtain ⟨⟨v2, M3⟩, e1, h⟩ := zB_bind h
    refine V_callV (rest := []) 1 Z (ok_X5_finding  e1) cd_X5_finding zc4 (by decide) rfl w248 w250 w0 rfl (show decode cX5_wishFor 19 = .ok (.invokevirtual 55, 3) by decide +kernel) rfl ?_
    exact V_iretM Z hE h (show decode cX5_wishFor 22 = .ok (.ireturn, 1) by decide +kernel)
  refine V_iload_n 1 Z rfl rfl (show decode cX5_wishFor 0 = .ok (.iload_n 1, 1) by decide +kernel) ?_
  obtain ⟨v5, e4, h⟩ := zB_bind h
  refine V_callS (rest := []) 1 Z (ok_X5_isPerson  e4) cd_X5_isPerson w300 w301 rfl (show decode cX5_wishFor 1 = .ok (.invokestatic 108, 3) by decide +kernel) rfl ?_
  refine V_if_eq 17 Z (by decide) (show decode cX5_wishFor 4 = .ok (.ifCond .eq 13, 3) by decide +kernel) (fun c6 => ?_) (fun c6 => ?_)
  · have h := zB_pos c6 h
    refine V_sub [0] rfl ?_
    exact J17 _ h
  · have h := zB_neg c6 h
    refine V_iload_n 2 Z rfl rfl (show decode cX5_wishFor 7 = .ok (.iload_n 2, 1) by decide +kernel) ?_
    refine V_iconst 0 (by decide) Z (show decode cX5_wishFor 8 = .ok (.iconst 0, 1) by decide +kernel) ?_
    refine V_bipush 60 (by decide) Z (show decode cX5_wishFor 9 = .ok (.bipush 60, 2) by decide +kernel) ?_
    obtain ⟨v8, e7, h⟩ := zB_bind h
    refine V_callS (rest := []) 3 Z (ok_X5_within  e7) cd_X5_within w245 w246 rfl (show decode cX5_wishFor 11 = .ok (.invokestatic 51, 3) by decide +kernel) rfl ?_
    refine V_if_ne 23 Z (by decide) (show decode cX5_wishFor 14 = .ok (.ifCond .ne 9, 3) by decide +kernel) (fun c9 => ?_) (fun c9 => ?_)
    · have h := zB_neg c9 h
      refine V_iconst (-1) (by decide) Z (show decode cX5_wishFor 23 = .ok (.iconst (-1), 1) by decide +kernel) ?_
      refine V_istore_n [(3, Value.int (-1)), (0, Value.ref 0), (1, Value.int x1), (2, Value.int x2)] Z (by decide) rfl rfl (show decode cX5_wishFor 24 = .ok (.istore_n 3, 1) by decide +kernel) ?_
      refine V_iconst (-1) (by decide) Z (show decode cX5_wishFor 25 = .ok (.iconst (-1), 1) by decide +kernel) ?_
      refine V_istore [(4, Value.int (-1)), (3, Value.int (-1)), (0, Value.ref 0), (1, Value.int x1), (2, Value.int x2)] Z (by decide) rfl (show decode cX5_wishFor 26 = .ok (.istore 4, 2) by decide +kernel) ?_
      refine V_iconst (-1) (by decide) Z (show decode cX5_wishFor 28 = .ok (.iconst (-1), 1) by decide +kernel) ?_
      refine V_istore [(5, Value.int (-1)), (4, Value.int (-1)), (3, Value.int (-1)), (0, Value.ref 0), (1, Value.int x1), (2, Value.int x2)] Z (by decide) rfl (show decode cX5_wishFor 29 = .ok (.istore 5, 2) by decide +kernel) ?_
      refine V_sub [3, 4, 5, 2, 1, 0] rfl ?_
      refine zIter_loop' (K := some) (fun s : Int32 × Int32 × Int32 × zM => VV E 6 31 [(0, Value.ref 0), (1, Value.int x1), (2, Value.int x2), (3, Value.int s.1), (4, Value.int s.2.1), (5, Value.int s.2.2.1)] [] s.2.2.2) (fun K1 s c1_i c1_r h => ?_) _ _ h
      obtain ⟨y3, y4, y5, M⟩ := s
      change VV E 6 31 [(0, Value.ref 0), (1, Value.int x1), (2, Value.int x2), (3, Value.int y3), (4, Value.int y4), (5, Value.int y5)] [] M
      refine V_iload 5 Z rfl (show decode cX5_wishFor 31 = .ok (.iload 5, 2) by decide +kernel) ?_
      refine V_aload_n 0 Z rfl rfl (show decode cX5_wishFor 33 = .ok (.aload_n 0, 1) by decide +kernel) ?_
      refine V_getR 0 1 Z zc4 (by decide) rfl (by decide) rfl (by decide) ⟨rfl, rfl, rfl⟩ w216 (show decode cX5_wishFor 34 = .ok (.getfield 10, 3) by decide +kernel) ?_
      refine V_getI 0 Z zc0 (isH_lt isH_1) (shH isH_1) (by decide) rfl ⟨rfl, rfl, rfl⟩ w93 (show decode cX5_wishFor 37 = .ok (.getfield 59, 3) by decide +kernel) ?_
      refine V_icmp_ge 107 Z (by decide) (show decode cX5_wishFor 40 = .ok (.if_icmp .ge 67, 3) by decide +kernel) (fun c10 => ?_) (fun c10 => ?_)
      · have h := zB_pos c10 h
        refine V_iload_n 3 Z rfl rfl (show decode cX5_wishFor 107 = .ok (.iload_n 3, 1) by decide +kernel) ?_
        have h := c1_r _ h
        exact V_iretM Z hE h (show decode cX5_wishFor 108 = .ok (.ireturn, 1) by decide +kernel)
      · have h := zB_neg c10 h
        refine V_aload_n 0 Z rfl rfl (show decode cX5_wishFor 43 = .ok (.aload_n 0, 1) by decide +kernel) ?_
        refine V_getR 2 23 Z zc4 (by decide) rfl (by decide) rfl (by decide) ⟨rfl, rfl, rfl⟩ w218 (show decode cX5_wishFor 44 = .ok (.getfield 19, 3) by decide +kernel) ?_
        refine V_aload_n 0 Z rfl rfl (show decode cX5_wishFor 47 = .ok (.aload_n 0, 1) by decide +kernel) ?_
        refine V_getR 0 1 Z zc4 (by decide) rfl (by decide) rfl (by decide) ⟨rfl, rfl, rfl⟩ w216 (show decode cX5_wishFor 48 = .ok (.getfield 10, 3) by decide +kernel) ?_
        obtain ⟨M12, e11, h⟩ := zB_bind h
        refine V_callV (rest := []) 1 Z (ok_X0_become isH_23 isH_1 e11) cd_X0_become zc0 (isH_lt isH_23) (shH isH_23) w412 w413 w414 rfl (show decode cX5_wishFor 51 = .ok (.invokevirtual 164, 3) by decide +kernel) rfl ?_
        refine V_aload_n 0 Z rfl rfl (show decode cX5_wishFor 54 = .ok (.aload_n 0, 1) by decide +kernel) ?_
        refine V_getR 2 23 Z zc4 (by decide) rfl (by decide) rfl (by decide) ⟨rfl, rfl, rfl⟩ w218 (show decode cX5_wishFor 55 = .ok (.getfield 19, 3) by decide +kernel) ?_
        refine V_getR 7 30 Z zc0 (isH_lt isH_23) (shH isH_23) (by decide) rfl (by decide) ⟨rfl, rfl, rfl⟩ w109 (show decode cX5_wishFor 58 = .ok (.getfield 114, 3) by decide +kernel) ?_
        refine V_iload_n 1 Z rfl rfl (show decode cX5_wishFor 61 = .ok (.iload_n 1, 1) by decide +kernel) ?_
        refine V_iload 5 Z rfl (show decode cX5_wishFor 62 = .ok (.iload 5, 2) by decide +kernel) ?_
        obtain ⟨M13, e14, h⟩ := zB_bind h
        refine V_iast Z e14 (show decode cX5_wishFor 64 = .ok (.iastore, 1) by decide +kernel) ?_
        refine V_aload_n 0 Z rfl rfl (show decode cX5_wishFor 65 = .ok (.aload_n 0, 1) by decide +kernel) ?_
        refine V_getR 2 23 Z zc4 (by decide) rfl (by decide) rfl (by decide) ⟨rfl, rfl, rfl⟩ w218 (show decode cX5_wishFor 66 = .ok (.getfield 19, 3) by decide +kernel) ?_
        refine V_iload_n 2 Z rfl rfl (show decode cX5_wishFor 69 = .ok (.iload_n 2, 1) by decide +kernel) ?_
        obtain ⟨M16, e15, h⟩ := zB_bind h
        refine V_callV (rest := []) 1 Z (ok_X0_pass isH_23 e15) cd_X0_pass zc0 (isH_lt isH_23) (shH isH_23) w331 w332 w333 rfl (show decode cX5_wishFor 70 = .ok (.invokevirtual 136, 3) by decide +kernel) rfl ?_
        refine V_aload_n 0 Z rfl rfl (show decode cX5_wishFor 73 = .ok (.aload_n 0, 1) by decide +kernel) ?_
        refine V_getR 2 23 Z zc4 (by decide) rfl (by decide) rfl (by decide) ⟨rfl, rfl, rfl⟩ w218 (show decode cX5_wishFor 74 = .ok (.getfield 19, 3) by decide +kernel) ?_
        refine V_getR 6 29 Z zc0 (isH_lt isH_23) (shH isH_23) (by decide) rfl (by decide) ⟨rfl, rfl, rfl⟩ w106 (show decode cX5_wishFor 77 = .ok (.getfield 111, 3) by decide +kernel) ?_
        refine V_iload_n 1 Z rfl rfl (show decode cX5_wishFor 80 = .ok (.iload_n 1, 1) by decide +kernel) ?_
        obtain ⟨v17, e18, h⟩ := zB_bind h
        refine V_iald Z e18 (show decode cX5_wishFor 81 = .ok (.iaload, 1) by decide +kernel) ?_
        refine V_iload 4 Z rfl (show decode cX5_wishFor 82 = .ok (.iload 4, 2) by decide +kernel) ?_
        refine V_icmp_le 101 Z (by decide) (show decode cX5_wishFor 84 = .ok (.if_icmp .le 17, 3) by decide +kernel) (fun c19 => ?_) (fun c19 => ?_)
        · have h := zB_pos c19 h
          obtain ⟨x20, e21, h⟩ := zB_let h
          refine V_iinc (n := 1) 5 x20 [(5, Value.int x20), (0, Value.ref 0), (1, Value.int x1), (2, Value.int x2), (3, Value.int y3), (4, Value.int y4)] Z (by decide) rfl e21 rfl (show decode cX5_wishFor 101 = .ok (.iinc 5 1, 3) by decide +kernel) ?_
          refine V_goto 31 Z (by decide) (show decode cX5_wishFor 104 = .ok (.goto (-73), 3) by decide +kernel) ?_
          refine V_sub [1, 2, 3, 4, 5, 0] rfl ?_
          exact c1_i _ h
        · have h := zB_neg c19 h
          refine V_iload 5 Z rfl (show decode cX5_wishFor 87 = .ok (.iload 5, 2) by decide +kernel) ?_
          refine V_istore_n [(3, Value.int y5), (0, Value.ref 0), (1, Value.int x1), (2, Value.int x2), (4, Value.int y4), (5, Value.int y5)] Z (by decide) rfl rfl (show decode cX5_wishFor 89 = .ok (.istore_n 3, 1) by decide +kernel) ?_
          refine V_aload_n 1 Z rfl rfl (show decode cX5_wishFor 90 = .ok (.aload_n 0, 1) by decide +kernel) ?_
          refine V_getR 2 23 Z zc4 (by decide) rfl (by decide) rfl (by decide) ⟨rfl, rfl, rfl⟩ w218 (show decode cX5_wishFor 91 = .ok (.getfield 19, 3) by decide +kernel) ?_
          refine V_getR 6 29 Z zc0 (isH_lt isH_23) (shH isH_23) (by decide) rfl (by decide) ⟨rfl, rfl, rfl⟩ w106 (show decode cX5_wishFor 94 = .ok (.getfield 111, 3) by decide +kernel) ?_
          refine V_iload_n 2 Z rfl rfl (show decode cX5_wishFor 97 = .ok (.iload_n 1, 1) by decide +kernel) ?_
          obtain ⟨v22, e23, h⟩ := zB_bind h
          refine V_iald Z e23 (show decode cX5_wishFor 98 = .ok (.iaload, 1) by decide +kernel) ?_
          refine V_istore [(4, Value.int v22), (3, Value.int y5), (0, Value.ref 0), (1, Value.int x1), (2, Value.int x2), (5, Value.int y5)] Z (by decide) rfl (show decode cX5_wishFor 99 = .ok (.istore 4, 2) by decide +kernel) ?_
          obtain ⟨x24, e25, h⟩ := zB_let h
          refine V_iinc (n := 1) 5 x24 [(5, Value.int x24), (4, Value.int v22), (3, Value.int y5), (0, Value.ref 0), (1, Value.int x1), (2, Value.int x2)] Z (by decide) rfl e25 rfl (show decode cX5_wishFor 101 = .ok (.iinc 5 1, 3) by decide +kernel) ?_
          refine V_goto 31 Z (by decide) (show decode cX5_wishFor 104 = .ok (.goto (-73), 3) by decide +kernel) ?_
          refine V_sub [3, 4, 5, 2, 1, 0] rfl ?_
          exact c1_i _ h
    · have h := zB_pos c9 h
      refine V_sub [0] rfl ?_
      exact J17 _ h
def f_X5_isIn (x0 : Int32) (x1 : Int32) (M : zM) : Option (Int32) :=
  if (x0 &&& (x1 ^^^ (-1))) = 0 then
    some ((1 : Int32))
  else
    some ((0 : Int32))
theorem cd_X5_isIn : zCd yX5_isIn cX5_isIn 2 (some .boolean) 2 := ⟨w480, w64, ⟨by decide, by decide⟩, by decide +kernel⟩
set_option maxHeartbeats 4000000 in
set_option maxRecDepth 20000 in
theorem ok_X5_isIn {x0 : Int32} {x1 : Int32} {M : zM} {y : Int32}  (h : f_X5_isIn x0 x1 M = some y) : zRuns yX5_isIn cX5_isIn 2 (some .boolean) 0 0 [.int x0, .int x1] M (some (.int y)) M := by
  refine zRuns_of (by decide +kernel) (Nat.le_of_ble_eq_true rfl) (fun E Z hE => ?_)
  have h := zB_top h
  change VV E 2 0 [(0, Value.int x0), (1, Value.int x1)] [] M
  refine V_iload_n 0 Z rfl rfl (show decode cX5_isIn 0 = .ok (.iload_n 0, 1) by decide +kernel) ?_
  refine V_iload_n 1 Z rfl rfl (show decode cX5_isIn 1 = .ok (.iload_n 1, 1) by decide +kernel) ?_
  refine V_iconst (-1) (by decide) Z (show decode cX5_isIn 2 = .ok (.iconst (-1), 1) by decide +kernel) ?_
  refine V_ixor Z (show decode cX5_isIn 3 = .ok (.ixor, 1) by decide +kernel) ?_
  refine V_iand Z (show decode cX5_isIn 4 = .ok (.iand, 1) by decide +kernel) ?_
  refine V_if_ne 12 Z (by decide) (show decode cX5_isIn 5 = .ok (.ifCond .ne 7, 3) by decide +kernel) (fun c1 => ?_) (fun c1 => ?_)
  · have h := zB_neg c1 h
    refine V_iconst 0 (by decide) Z (show decode cX5_isIn 12 = .ok (.iconst 0, 1) by decide +kernel) ?_
    exact V_zretP Z hE h rfl (show decode cX5_isIn 13 = .ok (.ireturn, 1) by decide +kernel)
  · have h := zB_pos c1 h
    refine V_iconst 1 (by decide) Z (show decode cX5_isIn 8 = .ok (.iconst 1, 1) by decide +kernel) ?_
    refine V_goto 13 Z (by decide) (show decode cX5_isIn 9 = .ok (.goto 4, 3) by decide +kernel) ?_
    exact V_zretP Z hE h rfl (show decode cX5_isIn 13 = .ok (.ireturn, 1) by decide +kernel)
