/-! Generated walks: X5_cheapest X5_calmest X5_best X5_wishFor X5_isIn X5_peace X5_peaceful -/
def f_X5_cheapest_j40 (y3 : Int32) (y4 : Int32) (M : zM) : Option ((Int32 × Int32 × Int32 × zM) ⊕ (Int32 × zM)) :=
  (some (y3 + 1)).bind fun (n1 : Int32) =>
  some (.inl ((y3, y4, n1, M)))
def f_X5_cheapest_l6  : Int32 × Int32 × Int32 × zM → Option ((Int32 × Int32 × Int32 × zM) ⊕ (Int32 × zM))
  | (y1, y2, y3, M) =>
    if 720 ≤ y3 then
      some (.inr ((y1, M)))
    else
      (f_X0_draw 1 y3 M).bind fun (M5 : zM) =>
      (f_X0_duesDrawn 1 M5).bind fun (v7 : Int32) =>
      if y3 = 0 then
        f_X5_cheapest_j40 y3 v7 M5
      else
        if y2 ≤ v7 then
          (some (y3 + 1)).bind fun (n10 : Int32) =>
          some (.inl ((y1, y2, n10, M5)))
        else
          f_X5_cheapest_j40 y3 v7 M5
def f_X5_cheapest (M : zM) : Option (Int32 × zM) :=
  zIter (f_X5_cheapest_l6 ) 1000 (0, (-1), 0, M)
theorem cd_X5_cheapest : zCd yX5_cheapest cX5_cheapest 5 (some .int) 0 := ⟨w456, w64, ⟨by decide, by decide⟩, by decide +kernel⟩
set_option maxHeartbeats 4000000 in
set_option maxRecDepth 20000 in
theorem ok_X5_cheapest {M : zM} {y : Int32 × zM}  (h : f_X5_cheapest  M = some y) : zRuns yX5_cheapest cX5_cheapest 5 (some .int) 3 68 [.ref 0] M (some (.int y.1)) y.2 := by
  refine zRuns_of (by decide +kernel) (Nat.le_of_ble_eq_true rfl) (fun E Z hE => ?_)
  have h := zB_top h
  change VV E 5 0 [(0, Value.ref 0)] [] M
  refine V_iconst 0 (by decide) Z (show decode cX5_cheapest 0 = .ok (.iconst 0, 1) by decide +kernel) ?_
  refine V_istore_n [(1, Value.int 0), (0, Value.ref 0)] Z (by decide) rfl rfl (show decode cX5_cheapest 1 = .ok (.istore_n 1, 1) by decide +kernel) ?_
  refine V_iconst (-1) (by decide) Z (show decode cX5_cheapest 2 = .ok (.iconst (-1), 1) by decide +kernel) ?_
  refine V_istore_n [(2, Value.int (-1)), (1, Value.int 0), (0, Value.ref 0)] Z (by decide) rfl rfl (show decode cX5_cheapest 3 = .ok (.istore_n 2, 1) by decide +kernel) ?_
  refine V_iconst 0 (by decide) Z (show decode cX5_cheapest 4 = .ok (.iconst 0, 1) by decide +kernel) ?_
  refine V_istore_n [(3, Value.int 0), (2, Value.int (-1)), (1, Value.int 0), (0, Value.ref 0)] Z (by decide) rfl rfl (show decode cX5_cheapest 5 = .ok (.istore_n 3, 1) by decide +kernel) ?_
  refine V_sub [3, 2, 1, 0] rfl ?_
  refine zIter_loop' (K := some) (fun s : Int32 × Int32 × Int32 × zM => VV E 5 6 [(0, Value.ref 0), (1, Value.int s.1), (2, Value.int s.2.1), (3, Value.int s.2.2.1)] [] s.2.2.2) (fun K1 s c1_i c1_r h => ?_) _ _ h
  obtain ⟨y1, y2, y3, M⟩ := s
  change VV E 5 6 [(0, Value.ref 0), (1, Value.int y1), (2, Value.int y2), (3, Value.int y3)] [] M
  have J40 : ∀ (y3 : Int32) (y4 : Int32) (M : zM), (f_X5_cheapest_j40 y3 y4 M).bind K1 = some y → VV E 5 40 [(0, Value.ref 0), (3, Value.int y3), (4, Value.int y4)] [] M := by
    intro y3 y4 M h
    refine V_iload_n 1 Z rfl rfl (show decode cX5_cheapest 40 = .ok (.iload_n 3, 1) by decide +kernel) ?_
    refine V_istore_n [(1, Value.int y3), (0, Value.ref 0), (3, Value.int y3), (4, Value.int y4)] Z (by decide) rfl rfl (show decode cX5_cheapest 41 = .ok (.istore_n 1, 1) by decide +kernel) ?_
    refine V_iload 3 Z rfl (show decode cX5_cheapest 42 = .ok (.iload 4, 2) by decide +kernel) ?_
    refine V_istore_n [(2, Value.int y4), (1, Value.int y3), (0, Value.ref 0), (3, Value.int y3), (4, Value.int y4)] Z (by decide) rfl rfl (show decode cX5_cheapest 44 = .ok (.istore_n 2, 1) by decide +kernel) ?_
    obtain ⟨n1, e2, h⟩ := zB_let h
    refine V_iinck 1 1 3 n1 [(3, Value.int n1), (2, Value.int y4), (1, Value.int y3), (0, Value.ref 0), (4, Value.int y4)] Z (by decide) (by decide) rfl e2 rfl (show decode cX5_cheapest 45 = .ok (.iinc 3 1, 3) by decide +kernel) ?_
    refine V_goto 6 Z (by decide) (show decode cX5_cheapest 48 = .ok (.goto (-42), 3) by decide +kernel) ?_
    refine V_sub [3, 2, 1, 0] rfl ?_
    exact c1_i _ h
  refine V_iload_n 3 Z rfl rfl (show decode cX5_cheapest 6 = .ok (.iload_n 3, 1) by decide +kernel) ?_
  refine V_sipush 720 (by decide) Z (show decode cX5_cheapest 7 = .ok (.sipush 720, 3) by decide +kernel) ?_
  refine V_icmp_ge 51 Z (by decide) (show decode cX5_cheapest 10 = .ok (.if_icmp .ge 41, 3) by decide +kernel) (fun c3 => ?_) (fun c3 => ?_)
  · have h := zB_pos c3 h
    refine V_iload_n 1 Z rfl rfl (show decode cX5_cheapest 51 = .ok (.iload_n 1, 1) by decide +kernel) ?_
    have h := c1_r _ h
    exact V_iretM Z hE h (show decode cX5_cheapest 52 = .ok (.ireturn, 1) by decide +kernel)
  · have h := zB_neg c3 h
    refine V_aload_n 0 Z rfl rfl (show decode cX5_cheapest 13 = .ok (.aload_n 0, 1) by decide +kernel) ?_
    refine V_getR 0 1 Z zc4 (by decide) rfl (by decide) rfl (by decide) ⟨rfl, rfl, rfl⟩ w216 (show decode cX5_cheapest 14 = .ok (.getfield 10, 3) by decide +kernel) ?_
    refine V_iload_n 3 Z rfl rfl (show decode cX5_cheapest 17 = .ok (.iload_n 3, 1) by decide +kernel) ?_
    obtain ⟨M5, e4, h⟩ := zB_bind h
    refine V_callV (rest := []) 1 Z (ok_X0_draw isH_1 e4) cd_X0_draw zc0 (isH_lt isH_1) (shH isH_1) w407 w340 w341 rfl (show decode cX5_cheapest 18 = .ok (.invokevirtual 158, 3) by decide +kernel) rfl ?_
    refine V_aload_n 0 Z rfl rfl (show decode cX5_cheapest 21 = .ok (.aload_n 0, 1) by decide +kernel) ?_
    refine V_getR 0 1 Z zc4 (by decide) rfl (by decide) rfl (by decide) ⟨rfl, rfl, rfl⟩ w216 (show decode cX5_cheapest 22 = .ok (.getfield 10, 3) by decide +kernel) ?_
    obtain ⟨v7, e6, h⟩ := zB_bind h
    refine V_callV (rest := []) 0 Z (ok_X0_duesDrawn isH_1 e6) cd_X0_duesDrawn zc0 (isH_lt isH_1) (shH isH_1) w457 w458 w459 rfl (show decode cX5_cheapest 25 = .ok (.invokevirtual 177, 3) by decide +kernel) rfl ?_
    refine V_istore [(4, Value.int v7), (0, Value.ref 0), (1, Value.int y1), (2, Value.int y2), (3, Value.int y3)] Z (by decide) rfl (show decode cX5_cheapest 28 = .ok (.istore 4, 2) by decide +kernel) ?_
    refine V_iload_n 4 Z rfl rfl (show decode cX5_cheapest 30 = .ok (.iload_n 3, 1) by decide +kernel) ?_
    refine V_if_eq 40 Z (by decide) (show decode cX5_cheapest 31 = .ok (.ifCond .eq 9, 3) by decide +kernel) (fun c8 => ?_) (fun c8 => ?_)
    · have h := zB_pos c8 h
      refine V_sub [1, 4, 0] rfl ?_
      exact J40 _ _ _ h
    · have h := zB_neg c8 h
      refine V_iload 0 Z rfl (show decode cX5_cheapest 34 = .ok (.iload 4, 2) by decide +kernel) ?_
      refine V_iload_n 3 Z rfl rfl (show decode cX5_cheapest 36 = .ok (.iload_n 2, 1) by decide +kernel) ?_
      refine V_icmp_ge 45 Z (by decide) (show decode cX5_cheapest 37 = .ok (.if_icmp .ge 8, 3) by decide +kernel) (fun c9 => ?_) (fun c9 => ?_)
      · have h := zB_pos c9 h
        obtain ⟨n10, e11, h⟩ := zB_let h
        refine V_iinck 1 1 4 n10 [(3, Value.int n10), (4, Value.int v7), (0, Value.ref 0), (1, Value.int y1), (2, Value.int y2)] Z (by decide) (by decide) rfl e11 rfl (show decode cX5_cheapest 45 = .ok (.iinc 3 1, 3) by decide +kernel) ?_
        refine V_goto 6 Z (by decide) (show decode cX5_cheapest 48 = .ok (.goto (-42), 3) by decide +kernel) ?_
        refine V_sub [2, 3, 4, 0] rfl ?_
        exact c1_i _ h
      · have h := zB_neg c9 h
        refine V_sub [1, 4, 0] rfl ?_
        exact J40 _ _ _ h
def f_X5_calmest_j40 (y3 : Int32) (y4 : Int32) (M : zM) : Option ((Int32 × Int32 × Int32 × zM) ⊕ (Int32 × zM)) :=
  (some (y3 + 1)).bind fun (n1 : Int32) =>
  some (.inl ((y3, y4, n1, M)))
def f_X5_calmest_l6  : Int32 × Int32 × Int32 × zM → Option ((Int32 × Int32 × Int32 × zM) ⊕ (Int32 × zM))
  | (y1, y2, y3, M) =>
    if 720 ≤ y3 then
      some (.inr ((y1, M)))
    else
      (f_X0_draw 1 y3 M).bind fun (M5 : zM) =>
      (f_X0_pairsDrawn 1 M5).bind fun (v7 : Int32) =>
      if y3 = 0 then
        f_X5_calmest_j40 y3 v7 M5
      else
        if y2 ≤ v7 then
          (some (y3 + 1)).bind fun (n10 : Int32) =>
          some (.inl ((y1, y2, n10, M5)))
        else
          f_X5_calmest_j40 y3 v7 M5
def f_X5_calmest (M : zM) : Option (Int32 × zM) :=
  zIter (f_X5_calmest_l6 ) 1000 (0, (-1), 0, M)
theorem cd_X5_calmest : zCd yX5_calmest cX5_calmest 5 (some .int) 0 := ⟨w464, w64, ⟨by decide, by decide⟩, by decide +kernel⟩
set_option maxHeartbeats 4000000 in
set_option maxRecDepth 20000 in
theorem ok_X5_calmest {M : zM} {y : Int32 × zM}  (h : f_X5_calmest  M = some y) : zRuns yX5_calmest cX5_calmest 5 (some .int) 3 68 [.ref 0] M (some (.int y.1)) y.2 := by
  refine zRuns_of (by decide +kernel) (Nat.le_of_ble_eq_true rfl) (fun E Z hE => ?_)
  have h := zB_top h
  change VV E 5 0 [(0, Value.ref 0)] [] M
  refine V_iconst 0 (by decide) Z (show decode cX5_calmest 0 = .ok (.iconst 0, 1) by decide +kernel) ?_
  refine V_istore_n [(1, Value.int 0), (0, Value.ref 0)] Z (by decide) rfl rfl (show decode cX5_calmest 1 = .ok (.istore_n 1, 1) by decide +kernel) ?_
  refine V_iconst (-1) (by decide) Z (show decode cX5_calmest 2 = .ok (.iconst (-1), 1) by decide +kernel) ?_
  refine V_istore_n [(2, Value.int (-1)), (1, Value.int 0), (0, Value.ref 0)] Z (by decide) rfl rfl (show decode cX5_calmest 3 = .ok (.istore_n 2, 1) by decide +kernel) ?_
  refine V_iconst 0 (by decide) Z (show decode cX5_calmest 4 = .ok (.iconst 0, 1) by decide +kernel) ?_
  refine V_istore_n [(3, Value.int 0), (2, Value.int (-1)), (1, Value.int 0), (0, Value.ref 0)] Z (by decide) rfl rfl (show decode cX5_calmest 5 = .ok (.istore_n 3, 1) by decide +kernel) ?_
  refine V_sub [3, 2, 1, 0] rfl ?_
  refine zIter_loop' (K := some) (fun s : Int32 × Int32 × Int32 × zM => VV E 5 6 [(0, Value.ref 0), (1, Value.int s.1), (2, Value.int s.2.1), (3, Value.int s.2.2.1)] [] s.2.2.2) (fun K1 s c1_i c1_r h => ?_) _ _ h
  obtain ⟨y1, y2, y3, M⟩ := s
  change VV E 5 6 [(0, Value.ref 0), (1, Value.int y1), (2, Value.int y2), (3, Value.int y3)] [] M
  have J40 : ∀ (y3 : Int32) (y4 : Int32) (M : zM), (f_X5_calmest_j40 y3 y4 M).bind K1 = some y → VV E 5 40 [(0, Value.ref 0), (3, Value.int y3), (4, Value.int y4)] [] M := by
    intro y3 y4 M h
    refine V_iload_n 1 Z rfl rfl (show decode cX5_calmest 40 = .ok (.iload_n 3, 1) by decide +kernel) ?_
    refine V_istore_n [(1, Value.int y3), (0, Value.ref 0), (3, Value.int y3), (4, Value.int y4)] Z (by decide) rfl rfl (show decode cX5_calmest 41 = .ok (.istore_n 1, 1) by decide +kernel) ?_
    refine V_iload 3 Z rfl (show decode cX5_calmest 42 = .ok (.iload 4, 2) by decide +kernel) ?_
    refine V_istore_n [(2, Value.int y4), (1, Value.int y3), (0, Value.ref 0), (3, Value.int y3), (4, Value.int y4)] Z (by decide) rfl rfl (show decode cX5_calmest 44 = .ok (.istore_n 2, 1) by decide +kernel) ?_
    obtain ⟨n1, e2, h⟩ := zB_let h
    refine V_iinck 1 1 3 n1 [(3, Value.int n1), (2, Value.int y4), (1, Value.int y3), (0, Value.ref 0), (4, Value.int y4)] Z (by decide) (by decide) rfl e2 rfl (show decode cX5_calmest 45 = .ok (.iinc 3 1, 3) by decide +kernel) ?_
    refine V_goto 6 Z (by decide) (show decode cX5_calmest 48 = .ok (.goto (-42), 3) by decide +kernel) ?_
    refine V_sub [3, 2, 1, 0] rfl ?_
    exact c1_i _ h
  refine V_iload_n 3 Z rfl rfl (show decode cX5_calmest 6 = .ok (.iload_n 3, 1) by decide +kernel) ?_
  refine V_sipush 720 (by decide) Z (show decode cX5_calmest 7 = .ok (.sipush 720, 3) by decide +kernel) ?_
  refine V_icmp_ge 51 Z (by decide) (show decode cX5_calmest 10 = .ok (.if_icmp .ge 41, 3) by decide +kernel) (fun c3 => ?_) (fun c3 => ?_)
  · have h := zB_pos c3 h
    refine V_iload_n 1 Z rfl rfl (show decode cX5_calmest 51 = .ok (.iload_n 1, 1) by decide +kernel) ?_
    have h := c1_r _ h
    exact V_iretM Z hE h (show decode cX5_calmest 52 = .ok (.ireturn, 1) by decide +kernel)
  · have h := zB_neg c3 h
    refine V_aload_n 0 Z rfl rfl (show decode cX5_calmest 13 = .ok (.aload_n 0, 1) by decide +kernel) ?_
    refine V_getR 0 1 Z zc4 (by decide) rfl (by decide) rfl (by decide) ⟨rfl, rfl, rfl⟩ w216 (show decode cX5_calmest 14 = .ok (.getfield 10, 3) by decide +kernel) ?_
    refine V_iload_n 3 Z rfl rfl (show decode cX5_calmest 17 = .ok (.iload_n 3, 1) by decide +kernel) ?_
    obtain ⟨M5, e4, h⟩ := zB_bind h
    refine V_callV (rest := []) 1 Z (ok_X0_draw isH_1 e4) cd_X0_draw zc0 (isH_lt isH_1) (shH isH_1) w407 w340 w341 rfl (show decode cX5_calmest 18 = .ok (.invokevirtual 158, 3) by decide +kernel) rfl ?_
    refine V_aload_n 0 Z rfl rfl (show decode cX5_calmest 21 = .ok (.aload_n 0, 1) by decide +kernel) ?_
    refine V_getR 0 1 Z zc4 (by decide) rfl (by decide) rfl (by decide) ⟨rfl, rfl, rfl⟩ w216 (show decode cX5_calmest 22 = .ok (.getfield 10, 3) by decide +kernel) ?_
    obtain ⟨v7, e6, h⟩ := zB_bind h
    refine V_callV (rest := []) 0 Z (ok_X0_pairsDrawn isH_1 e6) cd_X0_pairsDrawn zc0 (isH_lt isH_1) (shH isH_1) w465 w376 w377 rfl (show decode cX5_calmest 25 = .ok (.invokevirtual 180, 3) by decide +kernel) rfl ?_
    refine V_istore [(4, Value.int v7), (0, Value.ref 0), (1, Value.int y1), (2, Value.int y2), (3, Value.int y3)] Z (by decide) rfl (show decode cX5_calmest 28 = .ok (.istore 4, 2) by decide +kernel) ?_
    refine V_iload_n 4 Z rfl rfl (show decode cX5_calmest 30 = .ok (.iload_n 3, 1) by decide +kernel) ?_
    refine V_if_eq 40 Z (by decide) (show decode cX5_calmest 31 = .ok (.ifCond .eq 9, 3) by decide +kernel) (fun c8 => ?_) (fun c8 => ?_)
    · have h := zB_pos c8 h
      refine V_sub [1, 4, 0] rfl ?_
      exact J40 _ _ _ h
    · have h := zB_neg c8 h
      refine V_iload 0 Z rfl (show decode cX5_calmest 34 = .ok (.iload 4, 2) by decide +kernel) ?_
      refine V_iload_n 3 Z rfl rfl (show decode cX5_calmest 36 = .ok (.iload_n 2, 1) by decide +kernel) ?_
      refine V_icmp_ge 45 Z (by decide) (show decode cX5_calmest 37 = .ok (.if_icmp .ge 8, 3) by decide +kernel) (fun c9 => ?_) (fun c9 => ?_)
      · have h := zB_pos c9 h
        obtain ⟨n10, e11, h⟩ := zB_let h
        refine V_iinck 1 1 4 n10 [(3, Value.int n10), (4, Value.int v7), (0, Value.ref 0), (1, Value.int y1), (2, Value.int y2)] Z (by decide) (by decide) rfl e11 rfl (show decode cX5_calmest 45 = .ok (.iinc 3 1, 3) by decide +kernel) ?_
        refine V_goto 6 Z (by decide) (show decode cX5_calmest 48 = .ok (.goto (-42), 3) by decide +kernel) ?_
        refine V_sub [2, 3, 4, 0] rfl ?_
        exact c1_i _ h
      · have h := zB_neg c9 h
        refine V_sub [1, 4, 0] rfl ?_
        exact J40 _ _ _ h
def f_X5_best_j17 (M : zM) : Option (Int32 × zM) :=
  (f_X5_finding 0 M).bind fun ((v2, M3) : Int32 × zM) =>
  some ((v2, M3))
def f_X5_best_l31 (y1 : Int32) (y2 : Int32) : Int32 × Int32 × Int32 × zM → Option ((Int32 × Int32 × Int32 × zM) ⊕ (Int32 × zM))
  | (y3, y4, y5, M) =>
    if 720 ≤ y5 then
      some (.inr ((y3, M)))
    else
      (f_X0_become 23 1 M).bind fun (M12 : zM) =>
      (some (zU M12 23 9 y5)).bind fun (M13 : zM) =>
      (f_X0_pass 23 y2 M13).bind fun (M16 : zM) =>
      (zrd M16 29 y1).bind fun (v17 : Int32) =>
      if v17 ≤ y4 then
        (some (y5 + 1)).bind fun (n20 : Int32) =>
        some (.inl ((y3, y4, n20, M16)))
      else
        (zrd M16 29 y1).bind fun (v22 : Int32) =>
        (some (y5 + 1)).bind fun (n24 : Int32) =>
        some (.inl ((y5, v22, n24, M16)))
def f_X5_best (x1 : Int32) (x2 : Int32) (M : zM) : Option (Int32 × zM) :=
  (f_X5_isPerson x1 M).bind fun (v5 : Int32) =>
  if v5 = 0 then
    f_X5_best_j17  M
  else
    (f_X5_within x2 0 10 M).bind fun (v8 : Int32) =>
    if v8 = 0 then
      f_X5_best_j17  M
    else
      zIter (f_X5_best_l31 x1 x2) 1000 (0, (-1), 0, M)
theorem cd_X5_best : zCd yX5_best cX5_best 6 (some .int) 2 := ⟨w469, w64, ⟨by decide, by decide⟩, by decide +kernel⟩
set_option maxHeartbeats 4000000 in
set_option maxRecDepth 20000 in
theorem ok_X5_best {x1 : Int32} {x2 : Int32} {M : zM} {y : Int32 × zM}  (h : f_X5_best x1 x2 M = some y) : zRuns yX5_best cX5_best 6 (some .int) 5 113 [.ref 0, .int x1, .int x2] M (some (.int y.1)) y.2 := by
  refine zRuns_of (by decide +kernel) (Nat.le_of_ble_eq_true rfl) (fun E Z hE => ?_)
  have h := zB_top h
  change VV E 6 0 [(0, Value.ref 0), (1, Value.int x1), (2, Value.int x2)] [] M
  have J17 : ∀ (M : zM), (f_X5_best_j17  M).bind some = some y → VV E 6 17 [(0, Value.ref 0)] [] M := by
    intro  M h
    refine V_aload_n 0 Z rfl rfl (show decode cX5_best 17 = .ok (.aload_n 0, 1) by decide +kernel) ?_
    refine V_iconst 0 (by decide) Z (show decode cX5_best 18 = .ok (.iconst 0, 1) by decide +kernel) ?_
    obtain ⟨⟨v2, M3⟩, e1, h⟩ := zB_bind h
    refine V_callV (rest := []) 1 Z (ok_X5_finding  e1) cd_X5_finding zc4 (by decide) rfl w248 w250 w0 rfl (show decode cX5_best 19 = .ok (.invokevirtual 55, 3) by decide +kernel) rfl ?_
    exact V_iretM Z hE h (show decode cX5_best 22 = .ok (.ireturn, 1) by decide +kernel)
  refine V_iload_n 1 Z rfl rfl (show decode cX5_best 0 = .ok (.iload_n 1, 1) by decide +kernel) ?_
  obtain ⟨v5, e4, h⟩ := zB_bind h
  refine V_callS (rest := []) 1 Z (ok_X5_isPerson  e4) cd_X5_isPerson w300 w301 rfl (show decode cX5_best 1 = .ok (.invokestatic 108, 3) by decide +kernel) rfl ?_
  refine V_if_eq 17 Z (by decide) (show decode cX5_best 4 = .ok (.ifCond .eq 13, 3) by decide +kernel) (fun c6 => ?_) (fun c6 => ?_)
  · have h := zB_pos c6 h
    refine V_sub [0] rfl ?_
    exact J17 _ h
  · have h := zB_neg c6 h
    refine V_iload_n 2 Z rfl rfl (show decode cX5_best 7 = .ok (.iload_n 2, 1) by decide +kernel) ?_
    refine V_iconst 0 (by decide) Z (show decode cX5_best 8 = .ok (.iconst 0, 1) by decide +kernel) ?_
    refine V_bipush 10 (by decide) Z (show decode cX5_best 9 = .ok (.bipush 10, 2) by decide +kernel) ?_
    obtain ⟨v8, e7, h⟩ := zB_bind h
    refine V_callS (rest := []) 3 Z (ok_X5_within  e7) cd_X5_within w245 w246 rfl (show decode cX5_best 11 = .ok (.invokestatic 51, 3) by decide +kernel) rfl ?_
    refine V_if_ne 23 Z (by decide) (show decode cX5_best 14 = .ok (.ifCond .ne 9, 3) by decide +kernel) (fun c9 => ?_) (fun c9 => ?_)
    · have h := zB_neg c9 h
      refine V_iconst 0 (by decide) Z (show decode cX5_best 23 = .ok (.iconst 0, 1) by decide +kernel) ?_
      refine V_istore_n [(3, Value.int 0), (0, Value.ref 0), (1, Value.int x1), (2, Value.int x2)] Z (by decide) rfl rfl (show decode cX5_best 24 = .ok (.istore_n 3, 1) by decide +kernel) ?_
      refine V_iconst (-1) (by decide) Z (show decode cX5_best 25 = .ok (.iconst (-1), 1) by decide +kernel) ?_
      refine V_istore [(4, Value.int (-1)), (3, Value.int 0), (0, Value.ref 0), (1, Value.int x1), (2, Value.int x2)] Z (by decide) rfl (show decode cX5_best 26 = .ok (.istore 4, 2) by decide +kernel) ?_
      refine V_iconst 0 (by decide) Z (show decode cX5_best 28 = .ok (.iconst 0, 1) by decide +kernel) ?_
      refine V_istore [(5, Value.int 0), (4, Value.int (-1)), (3, Value.int 0), (0, Value.ref 0), (1, Value.int x1), (2, Value.int x2)] Z (by decide) rfl (show decode cX5_best 29 = .ok (.istore 5, 2) by decide +kernel) ?_
      refine V_sub [3, 4, 5, 2, 1, 0] rfl ?_
      refine zIter_loop' (K := some) (fun s : Int32 × Int32 × Int32 × zM => VV E 6 31 [(0, Value.ref 0), (1, Value.int x1), (2, Value.int x2), (3, Value.int s.1), (4, Value.int s.2.1), (5, Value.int s.2.2.1)] [] s.2.2.2) (fun K1 s c1_i c1_r h => ?_) _ _ h
      obtain ⟨y3, y4, y5, M⟩ := s
      change VV E 6 31 [(0, Value.ref 0), (1, Value.int x1), (2, Value.int x2), (3, Value.int y3), (4, Value.int y4), (5, Value.int y5)] [] M
      refine V_iload 5 Z rfl (show decode cX5_best 31 = .ok (.iload 5, 2) by decide +kernel) ?_
      refine V_sipush 720 (by decide) Z (show decode cX5_best 33 = .ok (.sipush 720, 3) by decide +kernel) ?_
      refine V_icmp_ge 101 Z (by decide) (show decode cX5_best 36 = .ok (.if_icmp .ge 65, 3) by decide +kernel) (fun c10 => ?_) (fun c10 => ?_)
      · have h := zB_pos c10 h
        refine V_iload_n 3 Z rfl rfl (show decode cX5_best 101 = .ok (.iload_n 3, 1) by decide +kernel) ?_
        have h := c1_r _ h
        exact V_iretM Z hE h (show decode cX5_best 102 = .ok (.ireturn, 1) by decide +kernel)
      · have h := zB_neg c10 h
        refine V_aload_n 0 Z rfl rfl (show decode cX5_best 39 = .ok (.aload_n 0, 1) by decide +kernel) ?_
        refine V_getR 2 23 Z zc4 (by decide) rfl (by decide) rfl (by decide) ⟨rfl, rfl, rfl⟩ w218 (show decode cX5_best 40 = .ok (.getfield 19, 3) by decide +kernel) ?_
        refine V_aload_n 0 Z rfl rfl (show decode cX5_best 43 = .ok (.aload_n 0, 1) by decide +kernel) ?_
        refine V_getR 0 1 Z zc4 (by decide) rfl (by decide) rfl (by decide) ⟨rfl, rfl, rfl⟩ w216 (show decode cX5_best 44 = .ok (.getfield 10, 3) by decide +kernel) ?_
        obtain ⟨M12, e11, h⟩ := zB_bind h
        refine V_callV (rest := []) 1 Z (ok_X0_become isH_23 isH_1 e11) cd_X0_become zc0 (isH_lt isH_23) (shH isH_23) w412 w413 w414 rfl (show decode cX5_best 47 = .ok (.invokevirtual 164, 3) by decide +kernel) rfl ?_
        refine V_aload_n 0 Z rfl rfl (show decode cX5_best 50 = .ok (.aload_n 0, 1) by decide +kernel) ?_
        refine V_getR 2 23 Z zc4 (by decide) rfl (by decide) rfl (by decide) ⟨rfl, rfl, rfl⟩ w218 (show decode cX5_best 51 = .ok (.getfield 19, 3) by decide +kernel) ?_
        refine V_iload 5 Z rfl (show decode cX5_best 54 = .ok (.iload 5, 2) by decide +kernel) ?_
        obtain ⟨M13, e14, h⟩ := zB_let h
        refine V_putI 9 Z zc0 (isH_lt isH_23) (shH isH_23) (by decide) rfl ⟨rfl, rfl, rfl⟩ rfl rfl w114 (show decode cX5_best 56 = .ok (.putfield 123, 3) by decide +kernel) ?_
        refine V_nmM e14 ?_
        refine V_aload_n 0 Z rfl rfl (show decode cX5_best 59 = .ok (.aload_n 0, 1) by decide +kernel) ?_
        refine V_getR 2 23 Z zc4 (by decide) rfl (by decide) rfl (by decide) ⟨rfl, rfl, rfl⟩ w218 (show decode cX5_best 60 = .ok (.getfield 19, 3) by decide +kernel) ?_
        refine V_iload_n 2 Z rfl rfl (show decode cX5_best 63 = .ok (.iload_n 2, 1) by decide +kernel) ?_
        obtain ⟨M16, e15, h⟩ := zB_bind h
        refine V_callV (rest := []) 1 Z (ok_X0_pass isH_23 e15) cd_X0_pass zc0 (isH_lt isH_23) (shH isH_23) w331 w332 w333 rfl (show decode cX5_best 64 = .ok (.invokevirtual 136, 3) by decide +kernel) rfl ?_
        refine V_aload_n 0 Z rfl rfl (show decode cX5_best 67 = .ok (.aload_n 0, 1) by decide +kernel) ?_
        refine V_getR 2 23 Z zc4 (by decide) rfl (by decide) rfl (by decide) ⟨rfl, rfl, rfl⟩ w218 (show decode cX5_best 68 = .ok (.getfield 19, 3) by decide +kernel) ?_
        refine V_getR 6 29 Z zc0 (isH_lt isH_23) (shH isH_23) (by decide) rfl (by decide) ⟨rfl, rfl, rfl⟩ w106 (show decode cX5_best 71 = .ok (.getfield 111, 3) by decide +kernel) ?_
        refine V_iload_n 1 Z rfl rfl (show decode cX5_best 74 = .ok (.iload_n 1, 1) by decide +kernel) ?_
        obtain ⟨v17, e18, h⟩ := zB_bind h
        refine V_iald Z e18 (show decode cX5_best 75 = .ok (.iaload, 1) by decide +kernel) ?_
        refine V_iload 4 Z rfl (show decode cX5_best 76 = .ok (.iload 4, 2) by decide +kernel) ?_
        refine V_icmp_le 95 Z (by decide) (show decode cX5_best 78 = .ok (.if_icmp .le 17, 3) by decide +kernel) (fun c19 => ?_) (fun c19 => ?_)
        · have h := zB_pos c19 h
          obtain ⟨n20, e21, h⟩ := zB_let h
          refine V_iinck 1 1 5 n20 [(5, Value.int n20), (0, Value.ref 0), (1, Value.int x1), (2, Value.int x2), (3, Value.int y3), (4, Value.int y4)] Z (by decide) (by decide) rfl e21 rfl (show decode cX5_best 95 = .ok (.iinc 5 1, 3) by decide +kernel) ?_
          refine V_goto 31 Z (by decide) (show decode cX5_best 98 = .ok (.goto (-67), 3) by decide +kernel) ?_
          refine V_sub [1, 2, 3, 4, 5, 0] rfl ?_
          exact c1_i _ h
        · have h := zB_neg c19 h
          refine V_iload 5 Z rfl (show decode cX5_best 81 = .ok (.iload 5, 2) by decide +kernel) ?_
          refine V_istore_n [(3, Value.int y5), (0, Value.ref 0), (1, Value.int x1), (2, Value.int x2), (4, Value.int y4), (5, Value.int y5)] Z (by decide) rfl rfl (show decode cX5_best 83 = .ok (.istore_n 3, 1) by decide +kernel) ?_
          refine V_aload_n 1 Z rfl rfl (show decode cX5_best 84 = .ok (.aload_n 0, 1) by decide +kernel) ?_
          refine V_getR 2 23 Z zc4 (by decide) rfl (by decide) rfl (by decide) ⟨rfl, rfl, rfl⟩ w218 (show decode cX5_best 85 = .ok (.getfield 19, 3) by decide +kernel) ?_
          refine V_getR 6 29 Z zc0 (isH_lt isH_23) (shH isH_23) (by decide) rfl (by decide) ⟨rfl, rfl, rfl⟩ w106 (show decode cX5_best 88 = .ok (.getfield 111, 3) by decide +kernel) ?_
          refine V_iload_n 2 Z rfl rfl (show decode cX5_best 91 = .ok (.iload_n 1, 1) by decide +kernel) ?_
          obtain ⟨v22, e23, h⟩ := zB_bind h
          refine V_iald Z e23 (show decode cX5_best 92 = .ok (.iaload, 1) by decide +kernel) ?_
          refine V_istore [(4, Value.int v22), (3, Value.int y5), (0, Value.ref 0), (1, Value.int x1), (2, Value.int x2), (5, Value.int y5)] Z (by decide) rfl (show decode cX5_best 93 = .ok (.istore 4, 2) by decide +kernel) ?_
          obtain ⟨n24, e25, h⟩ := zB_let h
          refine V_iinck 1 1 5 n24 [(5, Value.int n24), (4, Value.int v22), (3, Value.int y5), (0, Value.ref 0), (1, Value.int x1), (2, Value.int x2)] Z (by decide) (by decide) rfl e25 rfl (show decode cX5_best 95 = .ok (.iinc 5 1, 3) by decide +kernel) ?_
          refine V_goto 31 Z (by decide) (show decode cX5_best 98 = .ok (.goto (-67), 3) by decide +kernel) ?_
          refine V_sub [3, 4, 5, 2, 1, 0] rfl ?_
          exact c1_i _ h
    · have h := zB_pos c9 h
      refine V_sub [0] rfl ?_
      exact J17 _ h
def f_X5_wishFor_j17 (M : zM) : Option (Int32 × zM) :=
  (f_X5_finding 0 M).bind fun ((v2, M3) : Int32 × zM) =>
  some ((v2, M3))
def f_X5_wishFor_l31 (y1 : Int32) (y2 : Int32) : Int32 × Int32 × Int32 × zM → Option ((Int32 × Int32 × Int32 × zM) ⊕ (Int32 × zM))
  | (y3, y4, y5, M) =>
    if (M 1 0) ≤ y5 then
      some (.inr ((y3, M)))
    else
      (f_X0_become 23 1 M).bind fun (M12 : zM) =>
      (zwr M12 30 y1 y5).bind fun (M13 : zM) =>
      (f_X0_pass 23 y2 M13).bind fun (M16 : zM) =>
      (zrd M16 29 y1).bind fun (v17 : Int32) =>
      if v17 ≤ y4 then
        (some (y5 + 1)).bind fun (n20 : Int32) =>
        some (.inl ((y3, y4, n20, M16)))
      else
        (zrd M16 29 y1).bind fun (v22 : Int32) =>
        (some (y5 + 1)).bind fun (n24 : Int32) =>
        some (.inl ((y5, v22, n24, M16)))
def f_X5_wishFor (x1 : Int32) (x2 : Int32) (M : zM) : Option (Int32 × zM) :=
  (f_X5_isPerson x1 M).bind fun (v5 : Int32) =>
  if v5 = 0 then
    f_X5_wishFor_j17  M
  else
    (f_X5_within x2 0 60 M).bind fun (v8 : Int32) =>
    if v8 = 0 then
      f_X5_wishFor_j17  M
    else
      zIter (f_X5_wishFor_l31 x1 x2) 1000 ((-1), (-1), (-1), M)
theorem cd_X5_wishFor : zCd yX5_wishFor cX5_wishFor 6 (some .int) 2 := ⟨w473, w64, ⟨by decide, by decide⟩, by decide +kernel⟩
set_option maxHeartbeats 4000000 in
set_option maxRecDepth 20000 in
theorem ok_X5_wishFor {x1 : Int32} {x2 : Int32} {M : zM} {y : Int32 × zM}  (h : f_X5_wishFor x1 x2 M = some y) : zRuns yX5_wishFor cX5_wishFor 6 (some .int) 5 113 [.ref 0, .int x1, .int x2] M (some (.int y.1)) y.2 := by
  refine zRuns_of (by decide +kernel) (Nat.le_of_ble_eq_true rfl) (fun E Z hE => ?_)
  have h := zB_top h
  change VV E 6 0 [(0, Value.ref 0), (1, Value.int x1), (2, Value.int x2)] [] M
  have J17 : ∀ (M : zM), (f_X5_wishFor_j17  M).bind some = some y → VV E 6 17 [(0, Value.ref 0)] [] M := by
    intro  M h
    refine V_aload_n 0 Z rfl rfl (show decode cX5_wishFor 17 = .ok (.aload_n 0, 1) by decide +kernel) ?_
    refine V_iconst 0 (by decide) Z (show decode cX5_wishFor 18 = .ok (.iconst 0, 1) by decide +kernel) ?_
    obtain ⟨⟨v2, M3⟩, e1, h⟩ := zB_bind h
    refine V_callV (rest := []) 1 Z (ok_X5_finding  e1) cd_X5_finding zc4 (by decide) rfl w248 w250 w0 rfl (show decode cX5_wishFor 19 = .ok (.invokevirtual 55, 3) by decide +kernel) rfl ?_
    exact V_iretM Z hE h (show decode cX5_wishFor 22 = .ok (.ireturn, 1) by decide +kernel)
  refine V_iload_n 1 Z rfl rfl (show decode cX5_wishFor 0 = .ok (.iload_n 1, 1) by decide +kernel) ?_
  obtain ⟨v5, e4, h⟩ := zB_bind h
  refine V_callS (rest := []) 1 Z (ok_X5_isPerson  e4) cd_X5_isPerson w300 w301 rfl (show decode cX5_wishFor 1 = .ok (.invokestatic 108, 3) by decide +kernel) rfl ?_
  refine V_if_eq 17 Z (by decide) (show decode cX5_wishFor 4 = .ok (.ifCond .eq 13, 3) by decide +kernel) (fun c6 => ?_) (fun c6 => ?_)
  · have h := zB_pos c6 h
    refine V_sub [0] rfl ?_
    exact J17 _ h
  · have h := zB_neg c6 h
    refine V_iload_n 2 Z rfl rfl (show decode cX5_wishFor 7 = .ok (.iload_n 2, 1) by decide +kernel) ?_
    refine V_iconst 0 (by decide) Z (show decode cX5_wishFor 8 = .ok (.iconst 0, 1) by decide +kernel) ?_
    refine V_bipush 60 (by decide) Z (show decode cX5_wishFor 9 = .ok (.bipush 60, 2) by decide +kernel) ?_
    obtain ⟨v8, e7, h⟩ := zB_bind h
    refine V_callS (rest := []) 3 Z (ok_X5_within  e7) cd_X5_within w245 w246 rfl (show decode cX5_wishFor 11 = .ok (.invokestatic 51, 3) by decide +kernel) rfl ?_
    refine V_if_ne 23 Z (by decide) (show decode cX5_wishFor 14 = .ok (.ifCond .ne 9, 3) by decide +kernel) (fun c9 => ?_) (fun c9 => ?_)
    · have h := zB_neg c9 h
      refine V_iconst (-1) (by decide) Z (show decode cX5_wishFor 23 = .ok (.iconst (-1), 1) by decide +kernel) ?_
      refine V_istore_n [(3, Value.int (-1)), (0, Value.ref 0), (1, Value.int x1), (2, Value.int x2)] Z (by decide) rfl rfl (show decode cX5_wishFor 24 = .ok (.istore_n 3, 1) by decide +kernel) ?_
      refine V_iconst (-1) (by decide) Z (show decode cX5_wishFor 25 = .ok (.iconst (-1), 1) by decide +kernel) ?_
      refine V_istore [(4, Value.int (-1)), (3, Value.int (-1)), (0, Value.ref 0), (1, Value.int x1), (2, Value.int x2)] Z (by decide) rfl (show decode cX5_wishFor 26 = .ok (.istore 4, 2) by decide +kernel) ?_
      refine V_iconst (-1) (by decide) Z (show decode cX5_wishFor 28 = .ok (.iconst (-1), 1) by decide +kernel) ?_
      refine V_istore [(5, Value.int (-1)), (4, Value.int (-1)), (3, Value.int (-1)), (0, Value.ref 0), (1, Value.int x1), (2, Value.int x2)] Z (by decide) rfl (show decode cX5_wishFor 29 = .ok (.istore 5, 2) by decide +kernel) ?_
      refine V_sub [3, 4, 5, 2, 1, 0] rfl ?_
      refine zIter_loop' (K := some) (fun s : Int32 × Int32 × Int32 × zM => VV E 6 31 [(0, Value.ref 0), (1, Value.int x1), (2, Value.int x2), (3, Value.int s.1), (4, Value.int s.2.1), (5, Value.int s.2.2.1)] [] s.2.2.2) (fun K1 s c1_i c1_r h => ?_) _ _ h
      obtain ⟨y3, y4, y5, M⟩ := s
      change VV E 6 31 [(0, Value.ref 0), (1, Value.int x1), (2, Value.int x2), (3, Value.int y3), (4, Value.int y4), (5, Value.int y5)] [] M
      refine V_iload 5 Z rfl (show decode cX5_wishFor 31 = .ok (.iload 5, 2) by decide +kernel) ?_
      refine V_aload_n 0 Z rfl rfl (show decode cX5_wishFor 33 = .ok (.aload_n 0, 1) by decide +kernel) ?_
      refine V_getR 0 1 Z zc4 (by decide) rfl (by decide) rfl (by decide) ⟨rfl, rfl, rfl⟩ w216 (show decode cX5_wishFor 34 = .ok (.getfield 10, 3) by decide +kernel) ?_
      refine V_getI 0 Z zc0 (isH_lt isH_1) (shH isH_1) (by decide) rfl ⟨rfl, rfl, rfl⟩ w93 (show decode cX5_wishFor 37 = .ok (.getfield 59, 3) by decide +kernel) ?_
      refine V_icmp_ge 107 Z (by decide) (show decode cX5_wishFor 40 = .ok (.if_icmp .ge 67, 3) by decide +kernel) (fun c10 => ?_) (fun c10 => ?_)
      · have h := zB_pos c10 h
        refine V_iload_n 3 Z rfl rfl (show decode cX5_wishFor 107 = .ok (.iload_n 3, 1) by decide +kernel) ?_
        have h := c1_r _ h
        exact V_iretM Z hE h (show decode cX5_wishFor 108 = .ok (.ireturn, 1) by decide +kernel)
      · have h := zB_neg c10 h
        refine V_aload_n 0 Z rfl rfl (show decode cX5_wishFor 43 = .ok (.aload_n 0, 1) by decide +kernel) ?_
        refine V_getR 2 23 Z zc4 (by decide) rfl (by decide) rfl (by decide) ⟨rfl, rfl, rfl⟩ w218 (show decode cX5_wishFor 44 = .ok (.getfield 19, 3) by decide +kernel) ?_
        refine V_aload_n 0 Z rfl rfl (show decode cX5_wishFor 47 = .ok (.aload_n 0, 1) by decide +kernel) ?_
        refine V_getR 0 1 Z zc4 (by decide) rfl (by decide) rfl (by decide) ⟨rfl, rfl, rfl⟩ w216 (show decode cX5_wishFor 48 = .ok (.getfield 10, 3) by decide +kernel) ?_
        obtain ⟨M12, e11, h⟩ := zB_bind h
        refine V_callV (rest := []) 1 Z (ok_X0_become isH_23 isH_1 e11) cd_X0_become zc0 (isH_lt isH_23) (shH isH_23) w412 w413 w414 rfl (show decode cX5_wishFor 51 = .ok (.invokevirtual 164, 3) by decide +kernel) rfl ?_
        refine V_aload_n 0 Z rfl rfl (show decode cX5_wishFor 54 = .ok (.aload_n 0, 1) by decide +kernel) ?_
        refine V_getR 2 23 Z zc4 (by decide) rfl (by decide) rfl (by decide) ⟨rfl, rfl, rfl⟩ w218 (show decode cX5_wishFor 55 = .ok (.getfield 19, 3) by decide +kernel) ?_
        refine V_getR 7 30 Z zc0 (isH_lt isH_23) (shH isH_23) (by decide) rfl (by decide) ⟨rfl, rfl, rfl⟩ w109 (show decode cX5_wishFor 58 = .ok (.getfield 114, 3) by decide +kernel) ?_
        refine V_iload_n 1 Z rfl rfl (show decode cX5_wishFor 61 = .ok (.iload_n 1, 1) by decide +kernel) ?_
        refine V_iload 5 Z rfl (show decode cX5_wishFor 62 = .ok (.iload 5, 2) by decide +kernel) ?_
        obtain ⟨M13, e14, h⟩ := zB_bind h
        refine V_iast Z e14 (show decode cX5_wishFor 64 = .ok (.iastore, 1) by decide +kernel) ?_
        refine V_aload_n 0 Z rfl rfl (show decode cX5_wishFor 65 = .ok (.aload_n 0, 1) by decide +kernel) ?_
        refine V_getR 2 23 Z zc4 (by decide) rfl (by decide) rfl (by decide) ⟨rfl, rfl, rfl⟩ w218 (show decode cX5_wishFor 66 = .ok (.getfield 19, 3) by decide +kernel) ?_
        refine V_iload_n 2 Z rfl rfl (show decode cX5_wishFor 69 = .ok (.iload_n 2, 1) by decide +kernel) ?_
        obtain ⟨M16, e15, h⟩ := zB_bind h
        refine V_callV (rest := []) 1 Z (ok_X0_pass isH_23 e15) cd_X0_pass zc0 (isH_lt isH_23) (shH isH_23) w331 w332 w333 rfl (show decode cX5_wishFor 70 = .ok (.invokevirtual 136, 3) by decide +kernel) rfl ?_
        refine V_aload_n 0 Z rfl rfl (show decode cX5_wishFor 73 = .ok (.aload_n 0, 1) by decide +kernel) ?_
        refine V_getR 2 23 Z zc4 (by decide) rfl (by decide) rfl (by decide) ⟨rfl, rfl, rfl⟩ w218 (show decode cX5_wishFor 74 = .ok (.getfield 19, 3) by decide +kernel) ?_
        refine V_getR 6 29 Z zc0 (isH_lt isH_23) (shH isH_23) (by decide) rfl (by decide) ⟨rfl, rfl, rfl⟩ w106 (show decode cX5_wishFor 77 = .ok (.getfield 111, 3) by decide +kernel) ?_
        refine V_iload_n 1 Z rfl rfl (show decode cX5_wishFor 80 = .ok (.iload_n 1, 1) by decide +kernel) ?_
        obtain ⟨v17, e18, h⟩ := zB_bind h
        refine V_iald Z e18 (show decode cX5_wishFor 81 = .ok (.iaload, 1) by decide +kernel) ?_
        refine V_iload 4 Z rfl (show decode cX5_wishFor 82 = .ok (.iload 4, 2) by decide +kernel) ?_
        refine V_icmp_le 101 Z (by decide) (show decode cX5_wishFor 84 = .ok (.if_icmp .le 17, 3) by decide +kernel) (fun c19 => ?_) (fun c19 => ?_)
        · have h := zB_pos c19 h
          obtain ⟨n20, e21, h⟩ := zB_let h
          refine V_iinck 1 1 5 n20 [(5, Value.int n20), (0, Value.ref 0), (1, Value.int x1), (2, Value.int x2), (3, Value.int y3), (4, Value.int y4)] Z (by decide) (by decide) rfl e21 rfl (show decode cX5_wishFor 101 = .ok (.iinc 5 1, 3) by decide +kernel) ?_
          refine V_goto 31 Z (by decide) (show decode cX5_wishFor 104 = .ok (.goto (-73), 3) by decide +kernel) ?_
          refine V_sub [1, 2, 3, 4, 5, 0] rfl ?_
          exact c1_i _ h
        · have h := zB_neg c19 h
          refine V_iload 5 Z rfl (show decode cX5_wishFor 87 = .ok (.iload 5, 2) by decide +kernel) ?_
          refine V_istore_n [(3, Value.int y5), (0, Value.ref 0), (1, Value.int x1), (2, Value.int x2), (4, Value.int y4), (5, Value.int y5)] Z (by decide) rfl rfl (show decode cX5_wishFor 89 = .ok (.istore_n 3, 1) by decide +kernel) ?_
          refine V_aload_n 1 Z rfl rfl (show decode cX5_wishFor 90 = .ok (.aload_n 0, 1) by decide +kernel) ?_
          refine V_getR 2 23 Z zc4 (by decide) rfl (by decide) rfl (by decide) ⟨rfl, rfl, rfl⟩ w218 (show decode cX5_wishFor 91 = .ok (.getfield 19, 3) by decide +kernel) ?_
          refine V_getR 6 29 Z zc0 (isH_lt isH_23) (shH isH_23) (by decide) rfl (by decide) ⟨rfl, rfl, rfl⟩ w106 (show decode cX5_wishFor 94 = .ok (.getfield 111, 3) by decide +kernel) ?_
          refine V_iload_n 2 Z rfl rfl (show decode cX5_wishFor 97 = .ok (.iload_n 1, 1) by decide +kernel) ?_
          obtain ⟨v22, e23, h⟩ := zB_bind h
          refine V_iald Z e23 (show decode cX5_wishFor 98 = .ok (.iaload, 1) by decide +kernel) ?_
          refine V_istore [(4, Value.int v22), (3, Value.int y5), (0, Value.ref 0), (1, Value.int x1), (2, Value.int x2), (5, Value.int y5)] Z (by decide) rfl (show decode cX5_wishFor 99 = .ok (.istore 4, 2) by decide +kernel) ?_
          obtain ⟨n24, e25, h⟩ := zB_let h
          refine V_iinck 1 1 5 n24 [(5, Value.int n24), (4, Value.int v22), (3, Value.int y5), (0, Value.ref 0), (1, Value.int x1), (2, Value.int x2)] Z (by decide) (by decide) rfl e25 rfl (show decode cX5_wishFor 101 = .ok (.iinc 5 1, 3) by decide +kernel) ?_
          refine V_goto 31 Z (by decide) (show decode cX5_wishFor 104 = .ok (.goto (-73), 3) by decide +kernel) ?_
          refine V_sub [3, 4, 5, 2, 1, 0] rfl ?_
          exact c1_i _ h
    · have h := zB_pos c9 h
      refine V_sub [0] rfl ?_
      exact J17 _ h
def f_X5_isIn (x0 : Int32) (x1 : Int32) (M : zM) : Option (Int32) :=
  if (x0 &&& (x1 ^^^ (-1))) = 0 then
    some ((1 : Int32))
  else
    some ((0 : Int32))
theorem cd_X5_isIn : zCd yX5_isIn cX5_isIn 2 (some .boolean) 2 := ⟨w480, w64, ⟨by decide, by decide⟩, by decide +kernel⟩
set_option maxHeartbeats 4000000 in
set_option maxRecDepth 20000 in
theorem ok_X5_isIn {x0 : Int32} {x1 : Int32} {M : zM} {y : Int32}  (h : f_X5_isIn x0 x1 M = some y) : zRuns yX5_isIn cX5_isIn 2 (some .boolean) 0 0 [.int x0, .int x1] M (some (.int y)) M := by
  refine zRuns_of (by decide +kernel) (Nat.le_of_ble_eq_true rfl) (fun E Z hE => ?_)
  have h := zB_top h
  change VV E 2 0 [(0, Value.int x0), (1, Value.int x1)] [] M
  refine V_iload_n 0 Z rfl rfl (show decode cX5_isIn 0 = .ok (.iload_n 0, 1) by decide +kernel) ?_
  refine V_iload_n 1 Z rfl rfl (show decode cX5_isIn 1 = .ok (.iload_n 1, 1) by decide +kernel) ?_
  refine V_iconst (-1) (by decide) Z (show decode cX5_isIn 2 = .ok (.iconst (-1), 1) by decide +kernel) ?_
  refine V_ixor Z (show decode cX5_isIn 3 = .ok (.ixor, 1) by decide +kernel) ?_
  refine V_iand Z (show decode cX5_isIn 4 = .ok (.iand, 1) by decide +kernel) ?_
  refine V_if_ne 12 Z (by decide) (show decode cX5_isIn 5 = .ok (.ifCond .ne 7, 3) by decide +kernel) (fun c1 => ?_) (fun c1 => ?_)
  · have h := zB_neg c1 h
    refine V_iconst 0 (by decide) Z (show decode cX5_isIn 12 = .ok (.iconst 0, 1) by decide +kernel) ?_
    exact V_zretP Z hE h rfl (show decode cX5_isIn 13 = .ok (.ireturn, 1) by decide +kernel)
  · have h := zB_pos c1 h
    refine V_iconst 1 (by decide) Z (show decode cX5_isIn 8 = .ok (.iconst 1, 1) by decide +kernel) ?_
    refine V_goto 13 Z (by decide) (show decode cX5_isIn 9 = .ok (.goto 4, 3) by decide +kernel) ?_
    exact V_zretP Z hE h rfl (show decode cX5_isIn 13 = .ok (.ireturn, 1) by decide +kernel)
def f_X5_peace_l12 (y1 : Int32) (M : zM) : Int32 × Int32 → Option ((Int32 × Int32) ⊕ (Int32))
  | (y2, y3) =>
    if (1 <<< ((M 1 0) &&& 31)) ≤ y3 then
      some (.inr (y2))
    else
      (f_X5_isIn y3 y1 M).bind fun (v5 : Int32) =>
      if v5 = 0 then
        (some (y3 + 1)).bind fun (n7 : Int32) =>
        some (.inl ((y2, n7)))
      else
        (f_X0_isPeaceful 1 y3 M).bind fun (v10 : Int32) =>
        if v10 = 0 then
          (some (y3 + 1)).bind fun (n12 : Int32) =>
          some (.inl ((y2, n12)))
        else
          (f_J6_bitCount_0f7a4 y3 M).bind fun (v15 : Int32) =>
          (f_J6_bitCount_0f7a4 y2 M).bind fun (v17 : Int32) =>
          if v15 ≤ v17 then
            (some (y3 + 1)).bind fun (n19 : Int32) =>
            some (.inl ((y2, n19)))
          else
            (some (y3 + 1)).bind fun (n21 : Int32) =>
            some (.inl ((y3, n21)))
def f_X5_peace (M : zM) : Option (Int32) :=
  (f_X0_hanging 1 M).bind fun (v2 : Int32) =>
  zIter (f_X5_peace_l12 v2 M) 1000 (0, 0)
theorem cd_X5_peace : zCd yX5_peace cX5_peace 4 (some .int) 0 := ⟨w477, w64, ⟨by decide, by decide⟩, by decide +kernel⟩
set_option maxHeartbeats 4000000 in
set_option maxRecDepth 20000 in
theorem ok_X5_peace {M : zM} {y : Int32}  (h : f_X5_peace  M = some y) : zRuns yX5_peace cX5_peace 4 (some .int) 2 45 [.ref 0] M (some (.int y)) M := by
  refine zRuns_of (by decide +kernel) (Nat.le_of_ble_eq_true rfl) (fun E Z hE => ?_)
  have h := zB_top h
  change VV E 4 0 [(0, Value.ref 0)] [] M
  refine V_aload_n 0 Z rfl rfl (show decode cX5_peace 0 = .ok (.aload_n 0, 1) by decide +kernel) ?_
  refine V_getR 0 1 Z zc4 (by decide) rfl (by decide) rfl (by decide) ⟨rfl, rfl, rfl⟩ w216 (show decode cX5_peace 1 = .ok (.getfield 10, 3) by decide +kernel) ?_
  obtain ⟨v2, e1, h⟩ := zB_bind h
  refine V_callV (rest := []) 0 Z (ok_X0_hanging isH_1 e1) cd_X0_hanging zc0 (isH_lt isH_1) (shH isH_1) w391 w344 w345 rfl (show decode cX5_peace 4 = .ok (.invokevirtual 143, 3) by decide +kernel) rfl ?_
  refine V_istore_n [(1, Value.int v2), (0, Value.ref 0)] Z (by decide) rfl rfl (show decode cX5_peace 7 = .ok (.istore_n 1, 1) by decide +kernel) ?_
  refine V_iconst 0 (by decide) Z (show decode cX5_peace 8 = .ok (.iconst 0, 1) by decide +kernel) ?_
  refine V_istore_n [(2, Value.int 0), (1, Value.int v2), (0, Value.ref 0)] Z (by decide) rfl rfl (show decode cX5_peace 9 = .ok (.istore_n 2, 1) by decide +kernel) ?_
  refine V_iconst 0 (by decide) Z (show decode cX5_peace 10 = .ok (.iconst 0, 1) by decide +kernel) ?_
  refine V_istore_n [(3, Value.int 0), (2, Value.int 0), (1, Value.int v2), (0, Value.ref 0)] Z (by decide) rfl rfl (show decode cX5_peace 11 = .ok (.istore_n 3, 1) by decide +kernel) ?_
  refine V_sub [3, 2, 1, 0] rfl ?_
  refine zIter_loop' (K := some) (fun s : Int32 × Int32 => VV E 4 12 [(0, Value.ref 0), (1, Value.int v2), (2, Value.int s.1), (3, Value.int s.2)] [] M) (fun K1 s c1_i c1_r h => ?_) _ _ h
  obtain ⟨y2, y3⟩ := s
  change VV E 4 12 [(0, Value.ref 0), (1, Value.int v2), (2, Value.int y2), (3, Value.int y3)] [] M
  refine V_iload_n 3 Z rfl rfl (show decode cX5_peace 12 = .ok (.iload_n 3, 1) by decide +kernel) ?_
  refine V_iconst 1 (by decide) Z (show decode cX5_peace 13 = .ok (.iconst 1, 1) by decide +kernel) ?_
  refine V_aload_n 0 Z rfl rfl (show decode cX5_peace 14 = .ok (.aload_n 0, 1) by decide +kernel) ?_
  refine V_getR 0 1 Z zc4 (by decide) rfl (by decide) rfl (by decide) ⟨rfl, rfl, rfl⟩ w216 (show decode cX5_peace 15 = .ok (.getfield 10, 3) by decide +kernel) ?_
  refine V_getI 0 Z zc0 (isH_lt isH_1) (shH isH_1) (by decide) rfl ⟨rfl, rfl, rfl⟩ w93 (show decode cX5_peace 18 = .ok (.getfield 59, 3) by decide +kernel) ?_
  refine V_ishl Z (show decode cX5_peace 21 = .ok (.ishl, 1) by decide +kernel) ?_
  refine V_icmp_ge 63 Z (by decide) (show decode cX5_peace 22 = .ok (.if_icmp .ge 41, 3) by decide +kernel) (fun c3 => ?_) (fun c3 => ?_)
  · have h := zB_pos c3 h
    refine V_iload_n 2 Z rfl rfl (show decode cX5_peace 63 = .ok (.iload_n 2, 1) by decide +kernel) ?_
    have h := c1_r _ h
    exact V_iretP Z hE h (show decode cX5_peace 64 = .ok (.ireturn, 1) by decide +kernel)
  · have h := zB_neg c3 h
    refine V_iload_n 3 Z rfl rfl (show decode cX5_peace 25 = .ok (.iload_n 3, 1) by decide +kernel) ?_
    refine V_iload_n 1 Z rfl rfl (show decode cX5_peace 26 = .ok (.iload_n 1, 1) by decide +kernel) ?_
    obtain ⟨v5, e4, h⟩ := zB_bind h
    refine V_callS (rest := []) 2 Z (ok_X5_isIn  e4) cd_X5_isIn w478 w479 rfl (show decode cX5_peace 27 = .ok (.invokestatic 183, 3) by decide +kernel) rfl ?_
    refine V_if_eq 57 Z (by decide) (show decode cX5_peace 30 = .ok (.ifCond .eq 27, 3) by decide +kernel) (fun c6 => ?_) (fun c6 => ?_)
    · have h := zB_pos c6 h
      obtain ⟨n7, e8, h⟩ := zB_let h
      refine V_iinck 1 1 3 n7 [(3, Value.int n7), (0, Value.ref 0), (1, Value.int v2), (2, Value.int y2)] Z (by decide) (by decide) rfl e8 rfl (show decode cX5_peace 57 = .ok (.iinc 3 1, 3) by decide +kernel) ?_
      refine V_goto 12 Z (by decide) (show decode cX5_peace 60 = .ok (.goto (-48), 3) by decide +kernel) ?_
      refine V_sub [1, 2, 3, 0] rfl ?_
      exact c1_i _ h
    · have h := zB_neg c6 h
      refine V_aload_n 0 Z rfl rfl (show decode cX5_peace 33 = .ok (.aload_n 0, 1) by decide +kernel) ?_
      refine V_getR 0 1 Z zc4 (by decide) rfl (by decide) rfl (by decide) ⟨rfl, rfl, rfl⟩ w216 (show decode cX5_peace 34 = .ok (.getfield 10, 3) by decide +kernel) ?_
      refine V_iload_n 3 Z rfl rfl (show decode cX5_peace 37 = .ok (.iload_n 3, 1) by decide +kernel) ?_
      obtain ⟨v10, e9, h⟩ := zB_bind h
      refine V_callV (rest := []) 1 Z (ok_X0_isPeaceful isH_1 e9) cd_X0_isPeaceful zc0 (isH_lt isH_1) (shH isH_1) w481 w482 w483 rfl (show decode cX5_peace 38 = .ok (.invokevirtual 187, 3) by decide +kernel) rfl ?_
      refine V_if_eq 57 Z (by decide) (show decode cX5_peace 41 = .ok (.ifCond .eq 16, 3) by decide +kernel) (fun c11 => ?_) (fun c11 => ?_)
      · have h := zB_pos c11 h
        obtain ⟨n12, e13, h⟩ := zB_let h
        refine V_iinck 1 1 3 n12 [(3, Value.int n12), (0, Value.ref 0), (1, Value.int v2), (2, Value.int y2)] Z (by decide) (by decide) rfl e13 rfl (show decode cX5_peace 57 = .ok (.iinc 3 1, 3) by decide +kernel) ?_
        refine V_goto 12 Z (by decide) (show decode cX5_peace 60 = .ok (.goto (-48), 3) by decide +kernel) ?_
        refine V_sub [1, 2, 3, 0] rfl ?_
        exact c1_i _ h
      · have h := zB_neg c11 h
        refine V_iload_n 3 Z rfl rfl (show decode cX5_peace 44 = .ok (.iload_n 3, 1) by decide +kernel) ?_
        obtain ⟨v15, e14, h⟩ := zB_bind h
        refine V_callS (rest := []) 1 Z (ok_J6_bitCount_0f7a4  e14) cd_J6_bitCount_0f7a4 w351 w352 rfl (show decode cX5_peace 45 = .ok (.invokestatic 190, 3) by decide +kernel) rfl ?_
        refine V_iload_n 2 Z rfl rfl (show decode cX5_peace 48 = .ok (.iload_n 2, 1) by decide +kernel) ?_
        obtain ⟨v17, e16, h⟩ := zB_bind h
        refine V_callS (rest := [_]) 1 Z (ok_J6_bitCount_0f7a4  e16) cd_J6_bitCount_0f7a4 w351 w352 rfl (show decode cX5_peace 49 = .ok (.invokestatic 190, 3) by decide +kernel) rfl ?_
        refine V_icmp_le 57 Z (by decide) (show decode cX5_peace 52 = .ok (.if_icmp .le 5, 3) by decide +kernel) (fun c18 => ?_) (fun c18 => ?_)
        · have h := zB_pos c18 h
          obtain ⟨n19, e20, h⟩ := zB_let h
          refine V_iinck 1 1 3 n19 [(3, Value.int n19), (0, Value.ref 0), (1, Value.int v2), (2, Value.int y2)] Z (by decide) (by decide) rfl e20 rfl (show decode cX5_peace 57 = .ok (.iinc 3 1, 3) by decide +kernel) ?_
          refine V_goto 12 Z (by decide) (show decode cX5_peace 60 = .ok (.goto (-48), 3) by decide +kernel) ?_
          refine V_sub [1, 2, 3, 0] rfl ?_
          exact c1_i _ h
        · have h := zB_neg c18 h
          refine V_iload_n 3 Z rfl rfl (show decode cX5_peace 55 = .ok (.iload_n 3, 1) by decide +kernel) ?_
          refine V_istore_n [(2, Value.int y3), (0, Value.ref 0), (1, Value.int v2), (3, Value.int y3)] Z (by decide) rfl rfl (show decode cX5_peace 56 = .ok (.istore_n 2, 1) by decide +kernel) ?_
          obtain ⟨n21, e22, h⟩ := zB_let h
          refine V_iinck 1 1 3 n21 [(3, Value.int n21), (2, Value.int y3), (0, Value.ref 0), (1, Value.int v2)] Z (by decide) (by decide) rfl e22 rfl (show decode cX5_peace 57 = .ok (.iinc 3 1, 3) by decide +kernel) ?_
          refine V_goto 12 Z (by decide) (show decode cX5_peace 60 = .ok (.goto (-48), 3) by decide +kernel) ?_
          refine V_sub [2, 3, 1, 0] rfl ?_
          exact c1_i _ h
def f_X5_peaceful_l29 (y1 : Int32) (y2 : Int32) (M : zM) : Int32 × Int32 → Option ((Int32 × Int32) ⊕ (Int32 × zM))
  | (y3, y4) =>
    if (1 <<< ((M 1 0) &&& 31)) ≤ y4 then
      some (.inr ((y3, M)))
    else
      (f_J6_bitCount_0f7a4 y4 M).bind fun (v8 : Int32) =>
      if v8 = y1 then
        (f_X5_isIn y4 y2 M).bind fun (v13 : Int32) =>
        if v13 = 0 then
          (some (y4 + 1)).bind fun (n15 : Int32) =>
          some (.inl ((y3, n15)))
        else
          (f_X0_isPeaceful 1 y4 M).bind fun (v18 : Int32) =>
          if v18 = 0 then
            (some (y4 + 1)).bind fun (n20 : Int32) =>
            some (.inl ((y3, n20)))
          else
            (some (y3 + 1)).bind fun (n22 : Int32) =>
            (some (y4 + 1)).bind fun (n24 : Int32) =>
            some (.inl ((n22, n24)))
      else
        (some (y4 + 1)).bind fun (n10 : Int32) =>
        some (.inl ((y3, n10)))
def f_X5_peaceful (x1 : Int32) (M : zM) : Option (Int32 × zM) :=
  (f_X5_within x1 0 8 M).bind fun (v2 : Int32) =>
  if v2 = 0 then
    (f_X5_finding 0 M).bind fun ((v27, M28) : Int32 × zM) =>
    some ((v27, M28))
  else
    (f_X0_hanging 1 M).bind fun (v5 : Int32) =>
    zIter (f_X5_peaceful_l29 x1 v5 M) 1000 (0, 0)
theorem cd_X5_peaceful : zCd yX5_peaceful cX5_peaceful 5 (some .int) 1 := ⟨w488, w64, ⟨by decide, by decide⟩, by decide +kernel⟩
set_option maxHeartbeats 4000000 in
set_option maxRecDepth 20000 in
theorem ok_X5_peaceful {x1 : Int32} {M : zM} {y : Int32 × zM}  (h : f_X5_peaceful x1 M = some y) : zRuns yX5_peaceful cX5_peaceful 5 (some .int) 2 45 [.ref 0, .int x1] M (some (.int y.1)) y.2 := by
  refine zRuns_of (by decide +kernel) (Nat.le_of_ble_eq_true rfl) (fun E Z hE => ?_)
  have h := zB_top h
  change VV E 5 0 [(0, Value.ref 0), (1, Value.int x1)] [] M
  refine V_iload_n 1 Z rfl rfl (show decode cX5_peaceful 0 = .ok (.iload_n 1, 1) by decide +kernel) ?_
  refine V_iconst 0 (by decide) Z (show decode cX5_peaceful 1 = .ok (.iconst 0, 1) by decide +kernel) ?_
  refine V_bipush 8 (by decide) Z (show decode cX5_peaceful 2 = .ok (.bipush 8, 2) by decide +kernel) ?_
  obtain ⟨v2, e1, h⟩ := zB_bind h
  refine V_callS (rest := []) 3 Z (ok_X5_within  e1) cd_X5_within w245 w246 rfl (show decode cX5_peaceful 4 = .ok (.invokestatic 51, 3) by decide +kernel) rfl ?_
  refine V_if_ne 16 Z (by decide) (show decode cX5_peaceful 7 = .ok (.ifCond .ne 9, 3) by decide +kernel) (fun c3 => ?_) (fun c3 => ?_)
  · have h := zB_neg c3 h
    refine V_aload_n 0 Z rfl rfl (show decode cX5_peaceful 16 = .ok (.aload_n 0, 1) by decide +kernel) ?_
    refine V_getR 0 1 Z zc4 (by decide) rfl (by decide) rfl (by decide) ⟨rfl, rfl, rfl⟩ w216 (show decode cX5_peaceful 17 = .ok (.getfield 10, 3) by decide +kernel) ?_
    obtain ⟨v5, e4, h⟩ := zB_bind h
    refine V_callV (rest := []) 0 Z (ok_X0_hanging isH_1 e4) cd_X0_hanging zc0 (isH_lt isH_1) (shH isH_1) w391 w344 w345 rfl (show decode cX5_peaceful 20 = .ok (.invokevirtual 143, 3) by decide +kernel) rfl ?_
    refine V_istore_n [(2, Value.int v5), (0, Value.ref 0), (1, Value.int x1)] Z (by decide) rfl rfl (show decode cX5_peaceful 23 = .ok (.istore_n 2, 1) by decide +kernel) ?_
    refine V_iconst 0 (by decide) Z (show decode cX5_peaceful 24 = .ok (.iconst 0, 1) by decide +kernel) ?_
    refine V_istore_n [(3, Value.int 0), (2, Value.int v5), (0, Value.ref 0), (1, Value.int x1)] Z (by decide) rfl rfl (show decode cX5_peaceful 25 = .ok (.istore_n 3, 1) by decide +kernel) ?_
    refine V_iconst 0 (by decide) Z (show decode cX5_peaceful 26 = .ok (.iconst 0, 1) by decide +kernel) ?_
    refine V_istore [(4, Value.int 0), (3, Value.int 0), (2, Value.int v5), (0, Value.ref 0), (1, Value.int x1)] Z (by decide) rfl (show decode cX5_peaceful 27 = .ok (.istore 4, 2) by decide +kernel) ?_
    refine V_sub [3, 4, 2, 1, 0] rfl ?_
    refine zIter_loop' (K := some) (fun s : Int32 × Int32 => VV E 5 29 [(0, Value.ref 0), (1, Value.int x1), (2, Value.int v5), (3, Value.int s.1), (4, Value.int s.2)] [] M) (fun K1 s c1_i c1_r h => ?_) _ _ h
    obtain ⟨y3, y4⟩ := s
    change VV E 5 29 [(0, Value.ref 0), (1, Value.int x1), (2, Value.int v5), (3, Value.int y3), (4, Value.int y4)] [] M
    refine V_iload 4 Z rfl (show decode cX5_peaceful 29 = .ok (.iload 4, 2) by decide +kernel) ?_
    refine V_iconst 1 (by decide) Z (show decode cX5_peaceful 31 = .ok (.iconst 1, 1) by decide +kernel) ?_
    refine V_aload_n 0 Z rfl rfl (show decode cX5_peaceful 32 = .ok (.aload_n 0, 1) by decide +kernel) ?_
    refine V_getR 0 1 Z zc4 (by decide) rfl (by decide) rfl (by decide) ⟨rfl, rfl, rfl⟩ w216 (show decode cX5_peaceful 33 = .ok (.getfield 10, 3) by decide +kernel) ?_
    refine V_getI 0 Z zc0 (isH_lt isH_1) (shH isH_1) (by decide) rfl ⟨rfl, rfl, rfl⟩ w93 (show decode cX5_peaceful 36 = .ok (.getfield 59, 3) by decide +kernel) ?_
    refine V_ishl Z (show decode cX5_peaceful 39 = .ok (.ishl, 1) by decide +kernel) ?_
    refine V_icmp_ge 82 Z (by decide) (show decode cX5_peaceful 40 = .ok (.if_icmp .ge 42, 3) by decide +kernel) (fun c6 => ?_) (fun c6 => ?_)
    · have h := zB_pos c6 h
      refine V_iload_n 3 Z rfl rfl (show decode cX5_peaceful 82 = .ok (.iload_n 3, 1) by decide +kernel) ?_
      have h := c1_r _ h
      exact V_iretM Z hE h (show decode cX5_peaceful 83 = .ok (.ireturn, 1) by decide +kernel)
    · have h := zB_neg c6 h
      refine V_iload 4 Z rfl (show decode cX5_peaceful 43 = .ok (.iload 4, 2) by decide +kernel) ?_
      obtain ⟨v8, e7, h⟩ := zB_bind h
      refine V_callS (rest := []) 1 Z (ok_J6_bitCount_0f7a4  e7) cd_J6_bitCount_0f7a4 w351 w352 rfl (show decode cX5_peaceful 45 = .ok (.invokestatic 190, 3) by decide +kernel) rfl ?_
      refine V_iload_n 1 Z rfl rfl (show decode cX5_peaceful 48 = .ok (.iload_n 1, 1) by decide +kernel) ?_
      refine V_icmp_ne 76 Z (by decide) (show decode cX5_peaceful 49 = .ok (.if_icmp .ne 27, 3) by decide +kernel) (fun c9 => ?_) (fun c9 => ?_)
      · have h := zB_neg c9 h
        obtain ⟨n10, e11, h⟩ := zB_let h
        refine V_iinck 1 1 4 n10 [(4, Value.int n10), (0, Value.ref 0), (1, Value.int x1), (2, Value.int v5), (3, Value.int y3)] Z (by decide) (by decide) rfl e11 rfl (show decode cX5_peaceful 76 = .ok (.iinc 4 1, 3) by decide +kernel) ?_
        refine V_goto 29 Z (by decide) (show decode cX5_peaceful 79 = .ok (.goto (-50), 3) by decide +kernel) ?_
        refine V_sub [1, 2, 3, 4, 0] rfl ?_
        exact c1_i _ h
      · have h := zB_pos c9 h
        refine V_iload 4 Z rfl (show decode cX5_peaceful 52 = .ok (.iload 4, 2) by decide +kernel) ?_
        refine V_iload_n 2 Z rfl rfl (show decode cX5_peaceful 54 = .ok (.iload_n 2, 1) by decide +kernel) ?_
        obtain ⟨v13, e12, h⟩ := zB_bind h
        refine V_callS (rest := []) 2 Z (ok_X5_isIn  e12) cd_X5_isIn w478 w479 rfl (show decode cX5_peaceful 55 = .ok (.invokestatic 183, 3) by decide +kernel) rfl ?_
        refine V_if_eq 76 Z (by decide) (show decode cX5_peaceful 58 = .ok (.ifCond .eq 18, 3) by decide +kernel) (fun c14 => ?_) (fun c14 => ?_)
        · have h := zB_pos c14 h
          obtain ⟨n15, e16, h⟩ := zB_let h
          refine V_iinck 1 1 4 n15 [(4, Value.int n15), (0, Value.ref 0), (1, Value.int x1), (2, Value.int v5), (3, Value.int y3)] Z (by decide) (by decide) rfl e16 rfl (show decode cX5_peaceful 76 = .ok (.iinc 4 1, 3) by decide +kernel) ?_
          refine V_goto 29 Z (by decide) (show decode cX5_peaceful 79 = .ok (.goto (-50), 3) by decide +kernel) ?_
          refine V_sub [1, 2, 3, 4, 0] rfl ?_
          exact c1_i _ h
        · have h := zB_neg c14 h
          refine V_aload_n 0 Z rfl rfl (show decode cX5_peaceful 61 = .ok (.aload_n 0, 1) by decide +kernel) ?_
          refine V_getR 0 1 Z zc4 (by decide) rfl (by decide) rfl (by decide) ⟨rfl, rfl, rfl⟩ w216 (show decode cX5_peaceful 62 = .ok (.getfield 10, 3) by decide +kernel) ?_
          refine V_iload 4 Z rfl (show decode cX5_peaceful 65 = .ok (.iload 4, 2) by decide +kernel) ?_
          obtain ⟨v18, e17, h⟩ := zB_bind h
          refine V_callV (rest := []) 1 Z (ok_X0_isPeaceful isH_1 e17) cd_X0_isPeaceful zc0 (isH_lt isH_1) (shH isH_1) w481 w482 w483 rfl (show decode cX5_peaceful 67 = .ok (.invokevirtual 187, 3) by decide +kernel) rfl ?_
          refine V_if_eq 76 Z (by decide) (show decode cX5_peaceful 70 = .ok (.ifCond .eq 6, 3) by decide +kernel) (fun c19 => ?_) (fun c19 => ?_)
          · have h := zB_pos c19 h
            obtain ⟨n20, e21, h⟩ := zB_let h
            refine V_iinck 1 1 4 n20 [(4, Value.int n20), (0, Value.ref 0), (1, Value.int x1), (2, Value.int v5), (3, Value.int y3)] Z (by decide) (by decide) rfl e21 rfl (show decode cX5_peaceful 76 = .ok (.iinc 4 1, 3) by decide +kernel) ?_
            refine V_goto 29 Z (by decide) (show decode cX5_peaceful 79 = .ok (.goto (-50), 3) by decide +kernel) ?_
            refine V_sub [1, 2, 3, 4, 0] rfl ?_
            exact c1_i _ h
          · have h := zB_neg c19 h
            obtain ⟨n22, e23, h⟩ := zB_let h
            refine V_iinck 1 1 3 n22 [(3, Value.int n22), (0, Value.ref 0), (1, Value.int x1), (2, Value.int v5), (4, Value.int y4)] Z (by decide) (by decide) rfl e23 rfl (show decode cX5_peaceful 73 = .ok (.iinc 3 1, 3) by decide +kernel) ?_
            obtain ⟨n24, e25, h⟩ := zB_let h
            refine V_iinck 1 1 4 n24 [(4, Value.int n24), (3, Value.int n22), (0, Value.ref 0), (1, Value.int x1), (2, Value.int v5)] Z (by decide) (by decide) rfl e25 rfl (show decode cX5_peaceful 76 = .ok (.iinc 4 1, 3) by decide +kernel) ?_
            refine V_goto 29 Z (by decide) (show decode cX5_peaceful 79 = .ok (.goto (-50), 3) by decide +kernel) ?_
            refine V_sub [2, 3, 4, 1, 0] rfl ?_
            exact c1_i _ h
  · have h := zB_pos c3 h
    refine V_aload_n 0 Z rfl rfl (show decode cX5_peaceful 10 = .ok (.aload_n 0, 1) by decide +kernel) ?_
    refine V_iconst 0 (by decide) Z (show decode cX5_peaceful 11 = .ok (.iconst 0, 1) by decide +kernel) ?_
    obtain ⟨⟨v27, M28⟩, e26, h⟩ := zB_bind h
    refine V_callV (rest := []) 1 Z (ok_X5_finding  e26) cd_X5_finding zc4 (by decide) rfl w248 w250 w0 rfl (show decode cX5_peaceful 12 = .ok (.invokevirtual 55, 3) by decide +kernel) rfl ?_
    exact V_iretM Z hE h (show decode cX5_peaceful 15 = .ok (.ireturn, 1) by decide +kernel)
