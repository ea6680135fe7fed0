/-! Generated walks: X6_duesIn X6_leastOrder X6_cheapest X6_calmest X6_greatest X6_best X6_wishFor X6_isPeace X6_peace X6_peaceful -/
def f_X6_duesIn_l4 (y1 : Int32) (M : zM) : Int32 × Int32 → Option ((Int32 × Int32) ⊕ (Int32))
  | (y2, y3) =>
    (zrd M 48 1).bind fun (v1 : Int32) =>
    if v1 ≤ y3 then
      some (.inr (y2))
    else
      (f_X6_has y1 y3 M).bind fun (v5 : Int32) =>
      if v5 = 0 then
        (some ((y2 + 0))).bind fun (n7 : Int32) =>
        (some (y3 + 1)).bind fun (n9 : Int32) =>
        some (.inl ((n7, n9)))
      else
        (f_X6_dueOf y3 M).bind fun (v12 : Int32) =>
        (some ((y2 + v12))).bind fun (n13 : Int32) =>
        (some (y3 + 1)).bind fun (n15 : Int32) =>
        some (.inl ((n13, n15)))
def f_X6_duesIn (x1 : Int32) (M : zM) : Option (Int32) :=
  zIter (f_X6_duesIn_l4 x1 M) 1000 (0, 0)
theorem cd_X6_duesIn : zCd yX6_duesIn cX6_duesIn 4 (some .int) 1 := ⟨w1059, w69, ⟨by decide, by decide⟩, by decide +kernel⟩
set_option maxHeartbeats 4000000 in
set_option maxRecDepth 20000 in
theorem ok_X6_duesIn {x1 : Int32} {M : zM} {y : Int32}  (h : f_X6_duesIn x1 M = some y) : zRuns yX6_duesIn cX6_duesIn 4 (some .int) 3 66 [.ref 47, .int x1] M (some (.int y)) M := by
  refine zRuns_of (by decide +kernel) (Nat.le_of_ble_eq_true rfl) (fun E Z hE => ?_)
  have h := zB_top h
  change VV E 4 0 [(0, Value.ref 47), (1, Value.int x1)] [] M
  refine V_iconst 0 (by decide) Z (show decode cX6_duesIn 0 = .ok (.iconst 0, 1) by decide +kernel) ?_
  refine V_istore_n [(2, Value.int 0), (0, Value.ref 47), (1, Value.int x1)] Z (by decide) rfl rfl (show decode cX6_duesIn 1 = .ok (.istore_n 2, 1) by decide +kernel) ?_
  refine V_iconst 0 (by decide) Z (show decode cX6_duesIn 2 = .ok (.iconst 0, 1) by decide +kernel) ?_
  refine V_istore_n [(3, Value.int 0), (2, Value.int 0), (0, Value.ref 47), (1, Value.int x1)] Z (by decide) rfl rfl (show decode cX6_duesIn 3 = .ok (.istore_n 3, 1) by decide +kernel) ?_
  refine V_sub [2, 3, 1, 0] rfl ?_
  refine zIter_loop' (K := some) (fun s : Int32 × Int32 => VV E 4 4 [(0, Value.ref 47), (1, Value.int x1), (2, Value.int s.1), (3, Value.int s.2)] [] M) (fun K1 s c1_i c1_r h => ?_) _ _ h
  obtain ⟨y2, y3⟩ := s
  change VV E 4 4 [(0, Value.ref 47), (1, Value.int x1), (2, Value.int y2), (3, Value.int y3)] [] M
  rw [f_X6_duesIn_l4] at h
  refine V_iload_n 3 Z rfl rfl (show decode cX6_duesIn 4 = .ok (.iload_n 3, 1) by decide +kernel) ?_
  refine V_aload_n 0 Z rfl rfl (show decode cX6_duesIn 5 = .ok (.aload_n 0, 1) by decide +kernel) ?_
  refine V_getR 0 48 Z zc5 (by decide) rfl (by decide) rfl (by decide) ⟨rfl, rfl, rfl⟩ w766 (show decode cX6_duesIn 6 = .ok (.getfield 9, 3) by decide +kernel) ?_
  refine V_iconst 1 (by decide) Z (show decode cX6_duesIn 9 = .ok (.iconst 1, 1) by decide +kernel) ?_
  obtain ⟨v1, e2, h⟩ := zB_bind h
  refine V_iald Z e2 (show decode cX6_duesIn 10 = .ok (.iaload, 1) by decide +kernel) ?_
  refine V_icmp_ge 40 Z (by decide) (show decode cX6_duesIn 11 = .ok (.if_icmp .ge 29, 3) by decide +kernel) (fun c3 => ?_) (fun c3 => ?_)
  · have h := zB_pos c3 h
    refine V_iload_n 2 Z rfl rfl (show decode cX6_duesIn 40 = .ok (.iload_n 2, 1) by decide +kernel) ?_
    have h := c1_r _ h
    exact V_iretP Z hE h (show decode cX6_duesIn 41 = .ok (.ireturn, 1) by decide +kernel)
  · have h := zB_neg c3 h
    refine V_iload_n 2 Z rfl rfl (show decode cX6_duesIn 14 = .ok (.iload_n 2, 1) by decide +kernel) ?_
    refine V_iload_n 1 Z rfl rfl (show decode cX6_duesIn 15 = .ok (.iload_n 1, 1) by decide +kernel) ?_
    refine V_iload_n 3 Z rfl rfl (show decode cX6_duesIn 16 = .ok (.iload_n 3, 1) by decide +kernel) ?_
    obtain ⟨v5, e4, h⟩ := zB_bind h
    refine V_callS (rest := [_]) 2 Z (ok_X6_has  e4) cd_X6_has w923 w924 rfl (show decode cX6_duesIn 17 = .ok (.invokestatic 133, 3) by decide +kernel) rfl ?_
    refine V_if_eq 31 Z (by decide) (show decode cX6_duesIn 20 = .ok (.ifCond .eq 11, 3) by decide +kernel) (fun c6 => ?_) (fun c6 => ?_)
    · have h := zB_pos c6 h
      refine V_iconst 0 (by decide) Z (show decode cX6_duesIn 31 = .ok (.iconst 0, 1) by decide +kernel) ?_
      refine V_iadd Z (show decode cX6_duesIn 32 = .ok (.iadd, 1) by decide +kernel) ?_
      obtain ⟨n7, e8, h⟩ := zB_let h
      refine V_nm e8 ?_
      refine V_istore_n [(2, Value.int n7), (0, Value.ref 47), (1, Value.int x1), (3, Value.int y3)] Z (by decide) rfl rfl (show decode cX6_duesIn 33 = .ok (.istore_n 2, 1) by decide +kernel) ?_
      obtain ⟨n9, e10, h⟩ := zB_let h
      refine V_iinck 1 1 3 n9 [(3, Value.int n9), (2, Value.int n7), (0, Value.ref 47), (1, Value.int x1)] Z (by decide) (by decide) rfl e10 rfl (show decode cX6_duesIn 34 = .ok (.iinc 3 1, 3) by decide +kernel) ?_
      refine V_goto 4 Z (by decide) (show decode cX6_duesIn 37 = .ok (.goto (-33), 3) by decide +kernel) ?_
      refine V_sub [2, 3, 1, 0] rfl ?_
      exact c1_i _ h
    · have h := zB_neg c6 h
      refine V_aload_n 0 Z rfl rfl (show decode cX6_duesIn 23 = .ok (.aload_n 0, 1) by decide +kernel) ?_
      refine V_iload_n 3 Z rfl rfl (show decode cX6_duesIn 24 = .ok (.iload_n 3, 1) by decide +kernel) ?_
      obtain ⟨v12, e11, h⟩ := zB_bind h
      refine V_callV (rest := [_]) 1 Z (ok_X6_dueOf  e11) cd_X6_dueOf zc5 (by decide) rfl w864 w866 w20 rfl (show decode cX6_duesIn 25 = .ok (.invokevirtual 103, 3) by decide +kernel) rfl ?_
      refine V_goto 32 Z (by decide) (show decode cX6_duesIn 28 = .ok (.goto 4, 3) by decide +kernel) ?_
      refine V_iadd Z (show decode cX6_duesIn 32 = .ok (.iadd, 1) by decide +kernel) ?_
      obtain ⟨n13, e14, h⟩ := zB_let h
      refine V_nm e14 ?_
      refine V_istore_n [(2, Value.int n13), (0, Value.ref 47), (1, Value.int x1), (3, Value.int y3)] Z (by decide) rfl rfl (show decode cX6_duesIn 33 = .ok (.istore_n 2, 1) by decide +kernel) ?_
      obtain ⟨n15, e16, h⟩ := zB_let h
      refine V_iinck 1 1 3 n15 [(3, Value.int n15), (2, Value.int n13), (0, Value.ref 47), (1, Value.int x1)] Z (by decide) (by decide) rfl e16 rfl (show decode cX6_duesIn 34 = .ok (.iinc 3 1, 3) by decide +kernel) ?_
      refine V_goto 4 Z (by decide) (show decode cX6_duesIn 37 = .ok (.goto (-33), 3) by decide +kernel) ?_
      refine V_sub [2, 3, 1, 0] rfl ?_
      exact c1_i _ h
def f_X6_leastOrder_j57 (y1 : Int32) (y3 : Int32) (y4 : Int32) (y6 : Int32) (s0 : Int32) (M : zM) : Option ((Int32 × Int32 × Int32 × zM) ⊕ (Int32 × zM)) :=
  (some ((if y6 < y3 then y6 else y3))).bind fun (n1 : Int32) =>
  (some (y4 + 1)).bind fun (n3 : Int32) =>
  some (.inl ((s0, n1, n3, M)))
def f_X6_leastOrder_j43 (y1 : Int32) (y2 : Int32) (y3 : Int32) (y4 : Int32) (s0 : Int32) (M : zM) : Option ((Int32 × Int32 × Int32 × zM) ⊕ (Int32 × zM)) :=
  if y3 ≤ s0 then
    f_X6_leastOrder_j57 y1 y3 y4 s0 y2 M
  else
    f_X6_leastOrder_j57 y1 y3 y4 s0 y4 M
def f_X6_leastOrder_l8 (y1 : Int32) : Int32 × Int32 × Int32 × zM → Option ((Int32 × Int32 × Int32 × zM) ⊕ (Int32 × zM))
  | (y2, y3, y4, M) =>
    if 720 ≤ y4 then
      some (.inr ((y2, M)))
    else
      (f_X6_drawBy y4 M).bind fun ((v8, M9) : Int32 × zM) =>
      if y1 = 0 then
        (f_X6_quarrelsIn v8 M9).bind fun (v12 : Int32) =>
        f_X6_leastOrder_j43 y1 y2 y3 y4 v12 M9
      else
        (f_X6_duesIn v8 M9).bind fun (v14 : Int32) =>
        f_X6_leastOrder_j43 y1 y2 y3 y4 v14 M9
def f_X6_leastOrder (x1 : Int32) (M : zM) : Option (Int32 × zM) :=
  zIter (f_X6_leastOrder_l8 x1) 1000 (0, 2147483647, 0, M)
theorem cd_X6_leastOrder : zCd yX6_leastOrder cX6_leastOrder 7 (some .int) 1 := ⟨w1054, w69, ⟨by decide, by decide⟩, by decide +kernel⟩
set_option maxHeartbeats 4000000 in
set_option maxRecDepth 20000 in
theorem ok_X6_leastOrder {x1 : Int32} {M : zM} {y : Int32 × zM}  (h : f_X6_leastOrder x1 M = some y) : zRuns yX6_leastOrder cX6_leastOrder 7 (some .int) 5 112 [.ref 47, .int x1] M (some (.int y.1)) y.2 := by
  refine zRuns_of (by decide +kernel) (Nat.le_of_ble_eq_true rfl) (fun E Z hE => ?_)
  have h := zB_top h
  change VV E 7 0 [(0, Value.ref 47), (1, Value.int x1)] [] M
  refine V_iconst 0 (by decide) Z (show decode cX6_leastOrder 0 = .ok (.iconst 0, 1) by decide +kernel) ?_
  refine V_istore_n [(2, Value.int 0), (0, Value.ref 47), (1, Value.int x1)] Z (by decide) rfl rfl (show decode cX6_leastOrder 1 = .ok (.istore_n 2, 1) by decide +kernel) ?_
  refine V_ldc 2147483647 Z w1055 (show decode cX6_leastOrder 2 = .ok (.ldc 195, 2) by decide +kernel) ?_
  refine V_istore_n [(3, Value.int 2147483647), (2, Value.int 0), (0, Value.ref 47), (1, Value.int x1)] Z (by decide) rfl rfl (show decode cX6_leastOrder 4 = .ok (.istore_n 3, 1) by decide +kernel) ?_
  refine V_iconst 0 (by decide) Z (show decode cX6_leastOrder 5 = .ok (.iconst 0, 1) by decide +kernel) ?_
  refine V_istore [(4, Value.int 0), (3, Value.int 2147483647), (2, Value.int 0), (0, Value.ref 47), (1, Value.int x1)] Z (by decide) rfl (show decode cX6_leastOrder 6 = .ok (.istore 4, 2) by decide +kernel) ?_
  refine V_sub [3, 4, 2, 1, 0] rfl ?_
  refine zIter_loop' (K := some) (fun s : Int32 × Int32 × Int32 × zM => VV E 7 8 [(0, Value.ref 47), (1, Value.int x1), (2, Value.int s.1), (3, Value.int s.2.1), (4, Value.int s.2.2.1)] [] s.2.2.2) (fun K1 s c1_i c1_r h => ?_) _ _ h
  obtain ⟨y2, y3, y4, M⟩ := s
  change VV E 7 8 [(0, Value.ref 47), (1, Value.int x1), (2, Value.int y2), (3, Value.int y3), (4, Value.int y4)] [] M
  have J57 : ∀ (y3 : Int32) (y4 : Int32) (y6 : Int32) (s0 : Int32) (M : zM), (f_X6_leastOrder_j57 x1 y3 y4 y6 s0 M).bind K1 = some y → VV E 7 57 [(0, Value.ref 47), (1, Value.int x1), (3, Value.int y3), (4, Value.int y4), (6, Value.int y6)] [Value.int s0] M := by
    intro y3 y4 y6 s0 M h
    refine V_istore_n [(2, Value.int s0), (0, Value.ref 47), (1, Value.int x1), (3, Value.int y3), (4, Value.int y4), (6, Value.int y6)] Z (by decide) rfl rfl (show decode cX6_leastOrder 57 = .ok (.istore_n 2, 1) by decide +kernel) ?_
    refine V_iload_n 3 Z rfl rfl (show decode cX6_leastOrder 58 = .ok (.iload_n 3, 1) by decide +kernel) ?_
    refine V_iload 5 Z rfl (show decode cX6_leastOrder 59 = .ok (.iload 6, 2) by decide +kernel) ?_
    refine V_min Z w962 w367 w71 w368 (show decode cX6_leastOrder 61 = .ok (.invokestatic 148, 3) by decide +kernel) rfl ?_
    obtain ⟨n1, e2, h⟩ := zB_let h
    refine V_nm e2 ?_
    refine V_istore_n [(3, Value.int n1), (2, Value.int s0), (0, Value.ref 47), (1, Value.int x1), (4, Value.int y4), (6, Value.int y6)] Z (by decide) rfl rfl (show decode cX6_leastOrder 64 = .ok (.istore_n 3, 1) by decide +kernel) ?_
    obtain ⟨n3, e4, h⟩ := zB_let h
    refine V_iinck 1 1 4 n3 [(4, Value.int n3), (3, Value.int n1), (2, Value.int s0), (0, Value.ref 47), (1, Value.int x1), (6, Value.int y6)] Z (by decide) (by decide) rfl e4 rfl (show decode cX6_leastOrder 65 = .ok (.iinc 4 1, 3) by decide +kernel) ?_
    refine V_goto 8 Z (by decide) (show decode cX6_leastOrder 68 = .ok (.goto (-60), 3) by decide +kernel) ?_
    refine V_sub [3, 4, 2, 1, 0] rfl ?_
    exact c1_i _ h
  have J43 : ∀ (y2 : Int32) (y3 : Int32) (y4 : Int32) (s0 : Int32) (M : zM), (f_X6_leastOrder_j43 x1 y2 y3 y4 s0 M).bind K1 = some y → VV E 7 43 [(0, Value.ref 47), (1, Value.int x1), (2, Value.int y2), (3, Value.int y3), (4, Value.int y4)] [Value.int s0] M := by
    intro y2 y3 y4 s0 M h
    refine V_istore [(6, Value.int s0), (0, Value.ref 47), (1, Value.int x1), (2, Value.int y2), (3, Value.int y3), (4, Value.int y4)] Z (by decide) rfl (show decode cX6_leastOrder 43 = .ok (.istore 6, 2) by decide +kernel) ?_
    refine V_iload 0 Z rfl (show decode cX6_leastOrder 45 = .ok (.iload 6, 2) by decide +kernel) ?_
    refine V_iload_n 4 Z rfl rfl (show decode cX6_leastOrder 47 = .ok (.iload_n 3, 1) by decide +kernel) ?_
    refine V_icmp_ge 56 Z (by decide) (show decode cX6_leastOrder 48 = .ok (.if_icmp .ge 8, 3) by decide +kernel) (fun c5 => ?_) (fun c5 => ?_)
    · have h := zB_pos c5 h
      refine V_iload_n 3 Z rfl rfl (show decode cX6_leastOrder 56 = .ok (.iload_n 2, 1) by decide +kernel) ?_
      refine V_sub [1, 2, 4, 5, 0] rfl ?_
      exact J57 _ _ _ _ _ h
    · have h := zB_neg c5 h
      refine V_iload 5 Z rfl (show decode cX6_leastOrder 51 = .ok (.iload 4, 2) by decide +kernel) ?_
      refine V_goto 57 Z (by decide) (show decode cX6_leastOrder 53 = .ok (.goto 4, 3) by decide +kernel) ?_
      refine V_sub [1, 2, 4, 5, 0] rfl ?_
      exact J57 _ _ _ _ _ h
  refine V_iload 4 Z rfl (show decode cX6_leastOrder 8 = .ok (.iload 4, 2) by decide +kernel) ?_
  refine V_sipush 720 (by decide) Z (show decode cX6_leastOrder 10 = .ok (.sipush 720, 3) by decide +kernel) ?_
  refine V_icmp_ge 71 Z (by decide) (show decode cX6_leastOrder 13 = .ok (.if_icmp .ge 58, 3) by decide +kernel) (fun c6 => ?_) (fun c6 => ?_)
  · have h := zB_pos c6 h
    refine V_iload_n 2 Z rfl rfl (show decode cX6_leastOrder 71 = .ok (.iload_n 2, 1) by decide +kernel) ?_
    have h := c1_r _ h
    exact V_iretM Z hE h (show decode cX6_leastOrder 72 = .ok (.ireturn, 1) by decide +kernel)
  · have h := zB_neg c6 h
    refine V_aload_n 0 Z rfl rfl (show decode cX6_leastOrder 16 = .ok (.aload_n 0, 1) by decide +kernel) ?_
    refine V_iload 4 Z rfl (show decode cX6_leastOrder 17 = .ok (.iload 4, 2) by decide +kernel) ?_
    obtain ⟨⟨v8, M9⟩, e7, h⟩ := zB_bind h
    refine V_callV (rest := []) 1 Z (ok_X6_drawBy  e7) cd_X6_drawBy zc5 (by decide) rfl w950 w952 w31 rfl (show decode cX6_leastOrder 19 = .ok (.invokevirtual 151, 3) by decide +kernel) rfl ?_
    refine V_istore [(5, Value.int v8), (0, Value.ref 47), (1, Value.int x1), (2, Value.int y2), (3, Value.int y3), (4, Value.int y4)] Z (by decide) rfl (show decode cX6_leastOrder 22 = .ok (.istore 5, 2) by decide +kernel) ?_
    refine V_iload_n 2 Z rfl rfl (show decode cX6_leastOrder 24 = .ok (.iload_n 1, 1) by decide +kernel) ?_
    refine V_if_eq 37 Z (by decide) (show decode cX6_leastOrder 25 = .ok (.ifCond .eq 12, 3) by decide +kernel) (fun c10 => ?_) (fun c10 => ?_)
    · have h := zB_pos c10 h
      refine V_aload_n 1 Z rfl rfl (show decode cX6_leastOrder 37 = .ok (.aload_n 0, 1) by decide +kernel) ?_
      refine V_iload 0 Z rfl (show decode cX6_leastOrder 38 = .ok (.iload 5, 2) by decide +kernel) ?_
      obtain ⟨v12, e11, h⟩ := zB_bind h
      refine V_callV (rest := []) 1 Z (ok_X6_quarrelsIn  e11) cd_X6_quarrelsIn zc5 (by decide) rfl w963 w965 w34 rfl (show decode cX6_leastOrder 40 = .ok (.invokevirtual 158, 3) by decide +kernel) rfl ?_
      refine V_sub [1, 2, 3, 4, 5] rfl ?_
      exact J43 _ _ _ _ _ h
    · have h := zB_neg c10 h
      refine V_aload_n 1 Z rfl rfl (show decode cX6_leastOrder 28 = .ok (.aload_n 0, 1) by decide +kernel) ?_
      refine V_iload 0 Z rfl (show decode cX6_leastOrder 29 = .ok (.iload 5, 2) by decide +kernel) ?_
      obtain ⟨v14, e13, h⟩ := zB_bind h
      refine V_callV (rest := []) 1 Z (ok_X6_duesIn  e13) cd_X6_duesIn zc5 (by decide) rfl w1056 w1058 w44 rfl (show decode cX6_leastOrder 31 = .ok (.invokevirtual 196, 3) by decide +kernel) rfl ?_
      refine V_goto 43 Z (by decide) (show decode cX6_leastOrder 34 = .ok (.goto 9, 3) by decide +kernel) ?_
      refine V_sub [1, 2, 3, 4, 5] rfl ?_
      exact J43 _ _ _ _ _ h
def f_X6_cheapest (M : zM) : Option (Int32 × zM) :=
  (f_X6_leastOrder 1 M).bind fun ((v2, M3) : Int32 × zM) =>
  some ((v2, M3))
theorem cd_X6_cheapest : zCd yX6_cheapest cX6_cheapest 1 (some .int) 0 := ⟨w1050, w69, ⟨by decide, by decide⟩, by decide +kernel⟩
set_option maxHeartbeats 4000000 in
set_option maxRecDepth 20000 in
theorem ok_X6_cheapest {M : zM} {y : Int32 × zM}  (h : f_X6_cheapest  M = some y) : zRuns yX6_cheapest cX6_cheapest 1 (some .int) 6 138 [.ref 47] M (some (.int y.1)) y.2 := by
  refine zRuns_of (by decide +kernel) (Nat.le_of_ble_eq_true rfl) (fun E Z hE => ?_)
  have h := zB_top h
  change VV E 1 0 [(0, Value.ref 47)] [] M
  refine V_aload_n 0 Z rfl rfl (show decode cX6_cheapest 0 = .ok (.aload_n 0, 1) by decide +kernel) ?_
  refine V_iconst 1 (by decide) Z (show decode cX6_cheapest 1 = .ok (.iconst 1, 1) by decide +kernel) ?_
  obtain ⟨⟨v2, M3⟩, e1, h⟩ := zB_bind h
  refine V_callV (rest := []) 1 Z (ok_X6_leastOrder  e1) cd_X6_leastOrder zc5 (by decide) rfl w1051 w1053 w43 rfl (show decode cX6_cheapest 2 = .ok (.invokevirtual 199, 3) by decide +kernel) rfl ?_
  exact V_iretM Z hE h (show decode cX6_cheapest 5 = .ok (.ireturn, 1) by decide +kernel)
def f_X6_calmest (M : zM) : Option (Int32 × zM) :=
  (f_X6_leastOrder 0 M).bind fun ((v2, M3) : Int32 × zM) =>
  some ((v2, M3))
theorem cd_X6_calmest : zCd yX6_calmest cX6_calmest 1 (some .int) 0 := ⟨w1063, w69, ⟨by decide, by decide⟩, by decide +kernel⟩
set_option maxHeartbeats 4000000 in
set_option maxRecDepth 20000 in
theorem ok_X6_calmest {M : zM} {y : Int32 × zM}  (h : f_X6_calmest  M = some y) : zRuns yX6_calmest cX6_calmest 1 (some .int) 6 138 [.ref 47] M (some (.int y.1)) y.2 := by
  refine zRuns_of (by decide +kernel) (Nat.le_of_ble_eq_true rfl) (fun E Z hE => ?_)
  have h := zB_top h
  change VV E 1 0 [(0, Value.ref 47)] [] M
  refine V_aload_n 0 Z rfl rfl (show decode cX6_calmest 0 = .ok (.aload_n 0, 1) by decide +kernel) ?_
  refine V_iconst 0 (by decide) Z (show decode cX6_calmest 1 = .ok (.iconst 0, 1) by decide +kernel) ?_
  obtain ⟨⟨v2, M3⟩, e1, h⟩ := zB_bind h
  refine V_callV (rest := []) 1 Z (ok_X6_leastOrder  e1) cd_X6_leastOrder zc5 (by decide) rfl w1051 w1053 w43 rfl (show decode cX6_calmest 2 = .ok (.invokevirtual 199, 3) by decide +kernel) rfl ?_
  exact V_iretM Z hE h (show decode cX6_calmest 5 = .ok (.ireturn, 1) by decide +kernel)
def f_X6_greatest_j74 (y1 : Int32) (y6 : Int32) (y7 : Int32) (M : zM) : Option (Int32 × zM) :=
  (zwr M 48 y1 y6).bind fun (M1 : zM) =>
  some ((y7, M1))
def f_X6_greatest_j57 (y1 : Int32) (y3 : Int32) (y4 : Int32) (y5 : Int32) (y6 : Int32) (y8 : Int32) (y9 : Int32) (y10 : Int32) (s0 : Int32) (M : zM) : Option ((Int32 × Int32 × Int32 × zM) ⊕ (Int32 × zM)) :=
  (some ((if y8 < y10 then y10 else y8))).bind fun (n7 : Int32) =>
  (some (y9 + 1)).bind fun (n9 : Int32) =>
  some (.inl ((s0, n7, n9, M)))
def f_X6_greatest_l19 (y1 : Int32) (y3 : Int32) (y4 : Int32) (y5 : Int32) (y6 : Int32) : Int32 × Int32 × Int32 × zM → Option ((Int32 × Int32 × Int32 × zM) ⊕ (Int32 × zM))
  | (y7, y8, y9, M) =>
    if y3 < y9 then
      (f_X6_greatest_j74 y1 y6 y7 M).bind fun z => some (Sum.inr z)
    else
      (zwr M 48 y1 y9).bind fun (M12 : zM) =>
      (f_X6_behind y4 y5 M12).bind fun ((v15, M16) : Int32 × zM) =>
      if v15 ≤ y8 then
        f_X6_greatest_j57 y1 y3 y4 y5 y6 y8 y9 v15 y7 M16
      else
        f_X6_greatest_j57 y1 y3 y4 y5 y6 y8 y9 v15 y9 M16
def f_X6_greatest (x1 : Int32) (x2 : Int32) (x3 : Int32) (x4 : Int32) (x5 : Int32) (M : zM) : Option (Int32 × zM) :=
  (zrd M 48 x1).bind fun (v3 : Int32) =>
  (some ((x2 - 1))).bind fun (n5 : Int32) =>
  zIter (f_X6_greatest_l19 x1 x3 x4 x5 v3) 1000 (n5, (-1), x2, M)
theorem cd_X6_greatest : zCd yX6_greatest cX6_greatest 11 (some .int) 5 := ⟨w1071, w69, ⟨by decide, by decide⟩, by decide +kernel⟩
set_option maxHeartbeats 4000000 in
set_option maxRecDepth 20000 in
theorem ok_X6_greatest {x1 : Int32} {x2 : Int32} {x3 : Int32} {x4 : Int32} {x5 : Int32} {M : zM} {y : Int32 × zM}  (h : f_X6_greatest x1 x2 x3 x4 x5 M = some y) : zRuns yX6_greatest cX6_greatest 11 (some .int) 8 178 [.ref 47, .int x1, .int x2, .int x3, .int x4, .int x5] M (some (.int y.1)) y.2 := by
  refine zRuns_of (by decide +kernel) (Nat.le_of_ble_eq_true rfl) (fun E Z hE => ?_)
  have h := zB_top h
  change VV E 11 0 [(0, Value.ref 47), (1, Value.int x1), (2, Value.int x2), (3, Value.int x3), (4, Value.int x4), (5, Value.int x5)] [] M
  have J74 : ∀ (y1 : Int32) (y6 : Int32) (y7 : Int32) (M : zM), (f_X6_greatest_j74 y1 y6 y7 M).bind some = some y → VV E 11 74 [(0, Value.ref 47), (1, Value.int y1), (6, Value.int y6), (7, Value.int y7)] [] M := by
    intro y1 y6 y7 M h
    refine V_aload_n 0 Z rfl rfl (show decode cX6_greatest 74 = .ok (.aload_n 0, 1) by decide +kernel) ?_
    refine V_getR 0 48 Z zc5 (by decide) rfl (by decide) rfl (by decide) ⟨rfl, rfl, rfl⟩ w766 (show decode cX6_greatest 75 = .ok (.getfield 9, 3) by decide +kernel) ?_
    refine V_iload_n 1 Z rfl rfl (show decode cX6_greatest 78 = .ok (.iload_n 1, 1) by decide +kernel) ?_
    refine V_iload 2 Z rfl (show decode cX6_greatest 79 = .ok (.iload 6, 2) by decide +kernel) ?_
    obtain ⟨M1, e2, h⟩ := zB_bind h
    refine V_iast Z e2 (show decode cX6_greatest 81 = .ok (.iastore, 1) by decide +kernel) ?_
    refine V_iload 3 Z rfl (show decode cX6_greatest 82 = .ok (.iload 7, 2) by decide +kernel) ?_
    exact V_iretM Z hE h (show decode cX6_greatest 84 = .ok (.ireturn, 1) by decide +kernel)
  refine V_aload_n 0 Z rfl rfl (show decode cX6_greatest 0 = .ok (.aload_n 0, 1) by decide +kernel) ?_
  refine V_getR 0 48 Z zc5 (by decide) rfl (by decide) rfl (by decide) ⟨rfl, rfl, rfl⟩ w766 (show decode cX6_greatest 1 = .ok (.getfield 9, 3) by decide +kernel) ?_
  refine V_iload_n 1 Z rfl rfl (show decode cX6_greatest 4 = .ok (.iload_n 1, 1) by decide +kernel) ?_
  obtain ⟨v3, e4, h⟩ := zB_bind h
  refine V_iald Z e4 (show decode cX6_greatest 5 = .ok (.iaload, 1) by decide +kernel) ?_
  refine V_istore [(6, Value.int v3), (0, Value.ref 47), (1, Value.int x1), (2, Value.int x2), (3, Value.int x3), (4, Value.int x4), (5, Value.int x5)] Z (by decide) rfl (show decode cX6_greatest 6 = .ok (.istore 6, 2) by decide +kernel) ?_
  refine V_iload_n 3 Z rfl rfl (show decode cX6_greatest 8 = .ok (.iload_n 2, 1) by decide +kernel) ?_
  refine V_iconst 1 (by decide) Z (show decode cX6_greatest 9 = .ok (.iconst 1, 1) by decide +kernel) ?_
  refine V_isub Z (show decode cX6_greatest 10 = .ok (.isub, 1) by decide +kernel) ?_
  obtain ⟨n5, e6, h⟩ := zB_let h
  refine V_nm e6 ?_
  refine V_istore [(7, Value.int n5), (6, Value.int v3), (0, Value.ref 47), (1, Value.int x1), (2, Value.int x2), (3, Value.int x3), (4, Value.int x4), (5, Value.int x5)] Z (by decide) rfl (show decode cX6_greatest 11 = .ok (.istore 7, 2) by decide +kernel) ?_
  refine V_iconst (-1) (by decide) Z (show decode cX6_greatest 13 = .ok (.iconst (-1), 1) by decide +kernel) ?_
  refine V_istore [(8, Value.int (-1)), (7, Value.int n5), (6, Value.int v3), (0, Value.ref 47), (1, Value.int x1), (2, Value.int x2), (3, Value.int x3), (4, Value.int x4), (5, Value.int x5)] Z (by decide) rfl (show decode cX6_greatest 14 = .ok (.istore 8, 2) by decide +kernel) ?_
  refine V_iload_n 5 Z rfl rfl (show decode cX6_greatest 16 = .ok (.iload_n 2, 1) by decide +kernel) ?_
  refine V_istore [(9, Value.int x2), (8, Value.int (-1)), (7, Value.int n5), (6, Value.int v3), (0, Value.ref 47), (1, Value.int x1), (2, Value.int x2), (3, Value.int x3), (4, Value.int x4), (5, Value.int x5)] Z (by decide) rfl (show decode cX6_greatest 17 = .ok (.istore 9, 2) by decide +kernel) ?_
  refine V_sub [4, 5, 7, 8, 9, 3, 2, 1, 0] rfl ?_
  refine zIter_loop' (K := some) (fun s : Int32 × Int32 × Int32 × zM => VV E 11 19 [(0, Value.ref 47), (1, Value.int x1), (3, Value.int x3), (4, Value.int x4), (5, Value.int x5), (6, Value.int v3), (7, Value.int s.1), (8, Value.int s.2.1), (9, Value.int s.2.2.1)] [] s.2.2.2) (fun K1 s c1_i c1_r h => ?_) _ _ h
  obtain ⟨y7, y8, y9, M⟩ := s
  change VV E 11 19 [(0, Value.ref 47), (1, Value.int x1), (3, Value.int x3), (4, Value.int x4), (5, Value.int x5), (6, Value.int v3), (7, Value.int y7), (8, Value.int y8), (9, Value.int y9)] [] M
  have J57 : ∀ (y8 : Int32) (y9 : Int32) (y10 : Int32) (s0 : Int32) (M : zM), (f_X6_greatest_j57 x1 x3 x4 x5 v3 y8 y9 y10 s0 M).bind K1 = some y → VV E 11 57 [(0, Value.ref 47), (1, Value.int x1), (3, Value.int x3), (4, Value.int x4), (5, Value.int x5), (6, Value.int v3), (8, Value.int y8), (9, Value.int y9), (10, Value.int y10)] [Value.int s0] M := by
    intro y8 y9 y10 s0 M h
    refine V_istore [(7, Value.int s0), (0, Value.ref 47), (1, Value.int x1), (3, Value.int x3), (4, Value.int x4), (5, Value.int x5), (6, Value.int v3), (8, Value.int y8), (9, Value.int y9), (10, Value.int y10)] Z (by decide) rfl (show decode cX6_greatest 57 = .ok (.istore 7, 2) by decide +kernel) ?_
    refine V_iload 7 Z rfl (show decode cX6_greatest 59 = .ok (.iload 8, 2) by decide +kernel) ?_
    refine V_iload 9 Z rfl (show decode cX6_greatest 61 = .ok (.iload 10, 2) by decide +kernel) ?_
    refine V_max Z w922 w401 w71 w402 (show decode cX6_greatest 63 = .ok (.invokestatic 128, 3) by decide +kernel) rfl ?_
    obtain ⟨n7, e8, h⟩ := zB_let h
    refine V_nm e8 ?_
    refine V_istore [(8, Value.int n7), (7, Value.int s0), (0, Value.ref 47), (1, Value.int x1), (3, Value.int x3), (4, Value.int x4), (5, Value.int x5), (6, Value.int v3), (9, Value.int y9), (10, Value.int y10)] Z (by decide) rfl (show decode cX6_greatest 66 = .ok (.istore 8, 2) by decide +kernel) ?_
    obtain ⟨n9, e10, h⟩ := zB_let h
    refine V_iinck 1 1 8 n9 [(9, Value.int n9), (8, Value.int n7), (7, Value.int s0), (0, Value.ref 47), (1, Value.int x1), (3, Value.int x3), (4, Value.int x4), (5, Value.int x5), (6, Value.int v3), (10, Value.int y10)] Z (by decide) (by decide) rfl e10 rfl (show decode cX6_greatest 68 = .ok (.iinc 9 1, 3) by decide +kernel) ?_
    refine V_goto 19 Z (by decide) (show decode cX6_greatest 71 = .ok (.goto (-52), 3) by decide +kernel) ?_
    refine V_sub [3, 4, 5, 6, 7, 8, 2, 1, 0] rfl ?_
    exact c1_i _ h
  refine V_iload 8 Z rfl (show decode cX6_greatest 19 = .ok (.iload 9, 2) by decide +kernel) ?_
  refine V_iload_n 2 Z rfl rfl (show decode cX6_greatest 21 = .ok (.iload_n 3, 1) by decide +kernel) ?_
  refine V_icmp_gt 74 Z (by decide) (show decode cX6_greatest 22 = .ok (.if_icmp .gt 52, 3) by decide +kernel) (fun c11 => ?_) (fun c11 => ?_)
  · have h := zB_pos c11 h
    refine V_sub [0, 1, 5, 6] rfl ?_
    have h := zB_lift c1_r h
    exact J74 _ _ _ _ h
  · have h := zB_neg c11 h
    refine V_aload_n 0 Z rfl rfl (show decode cX6_greatest 25 = .ok (.aload_n 0, 1) by decide +kernel) ?_
    refine V_getR 0 48 Z zc5 (by decide) rfl (by decide) rfl (by decide) ⟨rfl, rfl, rfl⟩ w766 (show decode cX6_greatest 26 = .ok (.getfield 9, 3) by decide +kernel) ?_
    refine V_iload_n 1 Z rfl rfl (show decode cX6_greatest 29 = .ok (.iload_n 1, 1) by decide +kernel) ?_
    refine V_iload 8 Z rfl (show decode cX6_greatest 30 = .ok (.iload 9, 2) by decide +kernel) ?_
    obtain ⟨M12, e13, h⟩ := zB_bind h
    refine V_iast Z e13 (show decode cX6_greatest 32 = .ok (.iastore, 1) by decide +kernel) ?_
    refine V_aload_n 0 Z rfl rfl (show decode cX6_greatest 33 = .ok (.aload_n 0, 1) by decide +kernel) ?_
    refine V_iload 3 Z rfl (show decode cX6_greatest 34 = .ok (.iload 4, 2) by decide +kernel) ?_
    refine V_iload 4 Z rfl (show decode cX6_greatest 36 = .ok (.iload 5, 2) by decide +kernel) ?_
    obtain ⟨⟨v15, M16⟩, e14, h⟩ := zB_bind h
    refine V_callV (rest := []) 2 Z (ok_X6_behind  e14) cd_X6_behind zc5 (by decide) rfl w995 w997 w38 rfl (show decode cX6_greatest 38 = .ok (.invokevirtual 181, 3) by decide +kernel) rfl ?_
    refine V_istore [(10, Value.int v15), (0, Value.ref 47), (1, Value.int x1), (3, Value.int x3), (4, Value.int x4), (5, Value.int x5), (6, Value.int v3), (7, Value.int y7), (8, Value.int y8), (9, Value.int y9)] Z (by decide) rfl (show decode cX6_greatest 41 = .ok (.istore 10, 2) by decide +kernel) ?_
    refine V_iload 0 Z rfl (show decode cX6_greatest 43 = .ok (.iload 10, 2) by decide +kernel) ?_
    refine V_iload 8 Z rfl (show decode cX6_greatest 45 = .ok (.iload 8, 2) by decide +kernel) ?_
    refine V_icmp_le 55 Z (by decide) (show decode cX6_greatest 47 = .ok (.if_icmp .le 8, 3) by decide +kernel) (fun c17 => ?_) (fun c17 => ?_)
    · have h := zB_pos c17 h
      refine V_iload 7 Z rfl (show decode cX6_greatest 55 = .ok (.iload 7, 2) by decide +kernel) ?_
      refine V_sub [1, 2, 3, 4, 5, 6, 8, 9, 0] rfl ?_
      exact J57 _ _ _ _ _ h
    · have h := zB_neg c17 h
      refine V_iload 9 Z rfl (show decode cX6_greatest 50 = .ok (.iload 9, 2) by decide +kernel) ?_
      refine V_goto 57 Z (by decide) (show decode cX6_greatest 52 = .ok (.goto 5, 3) by decide +kernel) ?_
      refine V_sub [1, 2, 3, 4, 5, 6, 8, 9, 0] rfl ?_
      exact J57 _ _ _ _ _ h
def f_X6_best_j34 (M : zM) : Option (Int32 × zM) :=
  (f_X6_finding (-1000001) M).bind fun ((v2, M3) : Int32 × zM) =>
  some ((v2, M3))
def f_X6_best (x1 : Int32) (x2 : Int32) (M : zM) : Option (Int32 × zM) :=
  (f_X6_isPerson x1 M).bind fun (v5 : Int32) =>
  if v5 = 0 then
    f_X6_best_j34  M
  else
    (f_X6_within x2 0 10 M).bind fun (v8 : Int32) =>
    if v8 = 0 then
      f_X6_best_j34  M
    else
      (f_X6_greatest 3 0 719 (55 + x1) x2 M).bind fun ((v11, M12) : Int32 × zM) =>
      some ((v11, M12))
theorem cd_X6_best : zCd yX6_best cX6_best 3 (some .int) 2 := ⟨w1067, w69, ⟨by decide, by decide⟩, by decide +kernel⟩
set_option maxHeartbeats 4000000 in
set_option maxRecDepth 20000 in
theorem ok_X6_best {x1 : Int32} {x2 : Int32} {M : zM} {y : Int32 × zM}  (h : f_X6_best x1 x2 M = some y) : zRuns yX6_best cX6_best 3 (some .int) 9 208 [.ref 47, .int x1, .int x2] M (some (.int y.1)) y.2 := by
  refine zRuns_of (by decide +kernel) (Nat.le_of_ble_eq_true rfl) (fun E Z hE => ?_)
  have h := zB_top h
  change VV E 3 0 [(0, Value.ref 47), (1, Value.int x1), (2, Value.int x2)] [] M
  have J34 : ∀ (M : zM), (f_X6_best_j34  M).bind some = some y → VV E 3 34 [(0, Value.ref 47)] [] M := by
    intro  M h
    refine V_aload_n 0 Z rfl rfl (show decode cX6_best 34 = .ok (.aload_n 0, 1) by decide +kernel) ?_
    refine V_ldc (-1000001) Z w843 (show decode cX6_best 35 = .ok (.ldc 66, 2) by decide +kernel) ?_
    obtain ⟨⟨v2, M3⟩, e1, h⟩ := zB_bind h
    refine V_callV (rest := []) 1 Z (ok_X6_finding  e1) cd_X6_finding zc5 (by decide) rfl w844 w846 w17 rfl (show decode cX6_best 37 = .ok (.invokevirtual 72, 3) by decide +kernel) rfl ?_
    exact V_iretM Z hE h (show decode cX6_best 40 = .ok (.ireturn, 1) by decide +kernel)
  refine V_iload_n 1 Z rfl rfl (show decode cX6_best 0 = .ok (.iload_n 1, 1) by decide +kernel) ?_
  obtain ⟨v5, e4, h⟩ := zB_bind h
  refine V_callS (rest := []) 1 Z (ok_X6_isPerson  e4) cd_X6_isPerson w908 w909 rfl (show decode cX6_best 1 = .ok (.invokestatic 125, 3) by decide +kernel) rfl ?_
  refine V_if_eq 34 Z (by decide) (show decode cX6_best 4 = .ok (.ifCond .eq 30, 3) by decide +kernel) (fun c6 => ?_) (fun c6 => ?_)
  · have h := zB_pos c6 h
    refine V_sub [0] rfl ?_
    exact J34 _ h
  · have h := zB_neg c6 h
    refine V_iload_n 2 Z rfl rfl (show decode cX6_best 7 = .ok (.iload_n 2, 1) by decide +kernel) ?_
    refine V_iconst 0 (by decide) Z (show decode cX6_best 8 = .ok (.iconst 0, 1) by decide +kernel) ?_
    refine V_bipush 10 (by decide) Z (show decode cX6_best 9 = .ok (.bipush 10, 2) by decide +kernel) ?_
    obtain ⟨v8, e7, h⟩ := zB_bind h
    refine V_callS (rest := []) 3 Z (ok_X6_within  e7) cd_X6_within w840 w841 rfl (show decode cX6_best 11 = .ok (.invokestatic 76, 3) by decide +kernel) rfl ?_
    refine V_if_eq 34 Z (by decide) (show decode cX6_best 14 = .ok (.ifCond .eq 20, 3) by decide +kernel) (fun c9 => ?_) (fun c9 => ?_)
    · have h := zB_pos c9 h
      refine V_sub [0] rfl ?_
      exact J34 _ h
    · have h := zB_neg c9 h
      refine V_aload_n 0 Z rfl rfl (show decode cX6_best 17 = .ok (.aload_n 0, 1) by decide +kernel) ?_
      refine V_iconst 3 (by decide) Z (show decode cX6_best 18 = .ok (.iconst 3, 1) by decide +kernel) ?_
      refine V_iconst 0 (by decide) Z (show decode cX6_best 19 = .ok (.iconst 0, 1) by decide +kernel) ?_
      refine V_sipush 719 (by decide) Z (show decode cX6_best 20 = .ok (.sipush 719, 3) by decide +kernel) ?_
      refine V_bipush 55 (by decide) Z (show decode cX6_best 23 = .ok (.bipush 55, 2) by decide +kernel) ?_
      refine V_iload_n 1 Z rfl rfl (show decode cX6_best 25 = .ok (.iload_n 1, 1) by decide +kernel) ?_
      refine V_iadd Z (show decode cX6_best 26 = .ok (.iadd, 1) by decide +kernel) ?_
      refine V_iload_n 2 Z rfl rfl (show decode cX6_best 27 = .ok (.iload_n 2, 1) by decide +kernel) ?_
      obtain ⟨⟨v11, M12⟩, e10, h⟩ := zB_bind h
      refine V_callV (rest := []) 5 Z (ok_X6_greatest  e10) cd_X6_greatest zc5 (by decide) rfl w1068 w1070 w45 rfl (show decode cX6_best 28 = .ok (.invokevirtual 203, 3) by decide +kernel) rfl ?_
      refine V_goto 40 Z (by decide) (show decode cX6_best 31 = .ok (.goto 9, 3) by decide +kernel) ?_
      exact V_iretM Z hE h (show decode cX6_best 40 = .ok (.ireturn, 1) by decide +kernel)
def f_X6_wishFor_j42 (M : zM) : Option (Int32 × zM) :=
  (f_X6_finding (-1000001) M).bind fun ((v2, M3) : Int32 × zM) =>
  some ((v2, M3))
def f_X6_wishFor (x1 : Int32) (x2 : Int32) (M : zM) : Option (Int32 × zM) :=
  (f_X6_isPerson x1 M).bind fun (v5 : Int32) =>
  if v5 = 0 then
    f_X6_wishFor_j42  M
  else
    (f_X6_within x2 0 60 M).bind fun (v8 : Int32) =>
    if v8 = 0 then
      f_X6_wishFor_j42  M
    else
      (zrd M 48 1).bind fun (v10 : Int32) =>
      (f_X6_greatest (61 + x1) (-1) (v10 - 1) (55 + x1) x2 M).bind fun ((v13, M14) : Int32 × zM) =>
      some ((v13, M14))
theorem cd_X6_wishFor : zCd yX6_wishFor cX6_wishFor 3 (some .int) 2 := ⟨w1075, w69, ⟨by decide, by decide⟩, by decide +kernel⟩
set_option maxHeartbeats 4000000 in
set_option maxRecDepth 20000 in
theorem ok_X6_wishFor {x1 : Int32} {x2 : Int32} {M : zM} {y : Int32 × zM}  (h : f_X6_wishFor x1 x2 M = some y) : zRuns yX6_wishFor cX6_wishFor 3 (some .int) 9 208 [.ref 47, .int x1, .int x2] M (some (.int y.1)) y.2 := by
  refine zRuns_of (by decide +kernel) (Nat.le_of_ble_eq_true rfl) (fun E Z hE => ?_)
  have h := zB_top h
  change VV E 3 0 [(0, Value.ref 47), (1, Value.int x1), (2, Value.int x2)] [] M
  have J42 : ∀ (M : zM), (f_X6_wishFor_j42  M).bind some = some y → VV E 3 42 [(0, Value.ref 47)] [] M := by
    intro  M h
    refine V_aload_n 0 Z rfl rfl (show decode cX6_wishFor 42 = .ok (.aload_n 0, 1) by decide +kernel) ?_
    refine V_ldc (-1000001) Z w843 (show decode cX6_wishFor 43 = .ok (.ldc 66, 2) by decide +kernel) ?_
    obtain ⟨⟨v2, M3⟩, e1, h⟩ := zB_bind h
    refine V_callV (rest := []) 1 Z (ok_X6_finding  e1) cd_X6_finding zc5 (by decide) rfl w844 w846 w17 rfl (show decode cX6_wishFor 45 = .ok (.invokevirtual 72, 3) by decide +kernel) rfl ?_
    exact V_iretM Z hE h (show decode cX6_wishFor 48 = .ok (.ireturn, 1) by decide +kernel)
  refine V_iload_n 1 Z rfl rfl (show decode cX6_wishFor 0 = .ok (.iload_n 1, 1) by decide +kernel) ?_
  obtain ⟨v5, e4, h⟩ := zB_bind h
  refine V_callS (rest := []) 1 Z (ok_X6_isPerson  e4) cd_X6_isPerson w908 w909 rfl (show decode cX6_wishFor 1 = .ok (.invokestatic 125, 3) by decide +kernel) rfl ?_
  refine V_if_eq 42 Z (by decide) (show decode cX6_wishFor 4 = .ok (.ifCond .eq 38, 3) by decide +kernel) (fun c6 => ?_) (fun c6 => ?_)
  · have h := zB_pos c6 h
    refine V_sub [0] rfl ?_
    exact J42 _ h
  · have h := zB_neg c6 h
    refine V_iload_n 2 Z rfl rfl (show decode cX6_wishFor 7 = .ok (.iload_n 2, 1) by decide +kernel) ?_
    refine V_iconst 0 (by decide) Z (show decode cX6_wishFor 8 = .ok (.iconst 0, 1) by decide +kernel) ?_
    refine V_bipush 60 (by decide) Z (show decode cX6_wishFor 9 = .ok (.bipush 60, 2) by decide +kernel) ?_
    obtain ⟨v8, e7, h⟩ := zB_bind h
    refine V_callS (rest := []) 3 Z (ok_X6_within  e7) cd_X6_within w840 w841 rfl (show decode cX6_wishFor 11 = .ok (.invokestatic 76, 3) by decide +kernel) rfl ?_
    refine V_if_eq 42 Z (by decide) (show decode cX6_wishFor 14 = .ok (.ifCond .eq 28, 3) by decide +kernel) (fun c9 => ?_) (fun c9 => ?_)
    · have h := zB_pos c9 h
      refine V_sub [0] rfl ?_
      exact J42 _ h
    · have h := zB_neg c9 h
      refine V_aload_n 0 Z rfl rfl (show decode cX6_wishFor 17 = .ok (.aload_n 0, 1) by decide +kernel) ?_
      refine V_bipush 61 (by decide) Z (show decode cX6_wishFor 18 = .ok (.bipush 61, 2) by decide +kernel) ?_
      refine V_iload_n 1 Z rfl rfl (show decode cX6_wishFor 20 = .ok (.iload_n 1, 1) by decide +kernel) ?_
      refine V_iadd Z (show decode cX6_wishFor 21 = .ok (.iadd, 1) by decide +kernel) ?_
      refine V_iconst (-1) (by decide) Z (show decode cX6_wishFor 22 = .ok (.iconst (-1), 1) by decide +kernel) ?_
      refine V_aload_n 0 Z rfl rfl (show decode cX6_wishFor 23 = .ok (.aload_n 0, 1) by decide +kernel) ?_
      refine V_getR 0 48 Z zc5 (by decide) rfl (by decide) rfl (by decide) ⟨rfl, rfl, rfl⟩ w766 (show decode cX6_wishFor 24 = .ok (.getfield 9, 3) by decide +kernel) ?_
      refine V_iconst 1 (by decide) Z (show decode cX6_wishFor 27 = .ok (.iconst 1, 1) by decide +kernel) ?_
      obtain ⟨v10, e11, h⟩ := zB_bind h
      refine V_iald Z e11 (show decode cX6_wishFor 28 = .ok (.iaload, 1) by decide +kernel) ?_
      refine V_iconst 1 (by decide) Z (show decode cX6_wishFor 29 = .ok (.iconst 1, 1) by decide +kernel) ?_
      refine V_isub Z (show decode cX6_wishFor 30 = .ok (.isub, 1) by decide +kernel) ?_
      refine V_bipush 55 (by decide) Z (show decode cX6_wishFor 31 = .ok (.bipush 55, 2) by decide +kernel) ?_
      refine V_iload_n 1 Z rfl rfl (show decode cX6_wishFor 33 = .ok (.iload_n 1, 1) by decide +kernel) ?_
      refine V_iadd Z (show decode cX6_wishFor 34 = .ok (.iadd, 1) by decide +kernel) ?_
      refine V_iload_n 2 Z rfl rfl (show decode cX6_wishFor 35 = .ok (.iload_n 2, 1) by decide +kernel) ?_
      obtain ⟨⟨v13, M14⟩, e12, h⟩ := zB_bind h
      refine V_callV (rest := []) 5 Z (ok_X6_greatest  e12) cd_X6_greatest zc5 (by decide) rfl w1068 w1070 w45 rfl (show decode cX6_wishFor 36 = .ok (.invokevirtual 203, 3) by decide +kernel) rfl ?_
      refine V_goto 48 Z (by decide) (show decode cX6_wishFor 39 = .ok (.goto 9, 3) by decide +kernel) ?_
      exact V_iretM Z hE h (show decode cX6_wishFor 48 = .ok (.ireturn, 1) by decide +kernel)
def f_X6_isPeace (x1 : Int32) (M : zM) : Option (Int32) :=
  (f_X6_quarrelsIn x1 M).bind fun (v2 : Int32) =>
  if v2 = 0 then
    some ((1 : Int32))
  else
    some ((0 : Int32))
theorem cd_X6_isPeace : zCd yX6_isPeace cX6_isPeace 2 (some .boolean) 1 := ⟨w1086, w69, ⟨by decide, by decide⟩, by decide +kernel⟩
set_option maxHeartbeats 4000000 in
set_option maxRecDepth 20000 in
theorem ok_X6_isPeace {x1 : Int32} {M : zM} {y : Int32}  (h : f_X6_isPeace x1 M = some y) : zRuns yX6_isPeace cX6_isPeace 2 (some .boolean) 4 89 [.ref 47, .int x1] M (some (.int y)) M := by
  refine zRuns_of (by decide +kernel) (Nat.le_of_ble_eq_true rfl) (fun E Z hE => ?_)
  have h := zB_top h
  change VV E 2 0 [(0, Value.ref 47), (1, Value.int x1)] [] M
  refine V_aload_n 0 Z rfl rfl (show decode cX6_isPeace 0 = .ok (.aload_n 0, 1) by decide +kernel) ?_
  refine V_iload_n 1 Z rfl rfl (show decode cX6_isPeace 1 = .ok (.iload_n 1, 1) by decide +kernel) ?_
  obtain ⟨v2, e1, h⟩ := zB_bind h
  refine V_callV (rest := []) 1 Z (ok_X6_quarrelsIn  e1) cd_X6_quarrelsIn zc5 (by decide) rfl w963 w965 w34 rfl (show decode cX6_isPeace 2 = .ok (.invokevirtual 158, 3) by decide +kernel) rfl ?_
  refine V_if_ne 12 Z (by decide) (show decode cX6_isPeace 5 = .ok (.ifCond .ne 7, 3) by decide +kernel) (fun c3 => ?_) (fun c3 => ?_)
  · have h := zB_neg c3 h
    refine V_iconst 0 (by decide) Z (show decode cX6_isPeace 12 = .ok (.iconst 0, 1) by decide +kernel) ?_
    exact V_zretP Z hE h rfl (show decode cX6_isPeace 13 = .ok (.ireturn, 1) by decide +kernel)
  · have h := zB_pos c3 h
    refine V_iconst 1 (by decide) Z (show decode cX6_isPeace 8 = .ok (.iconst 1, 1) by decide +kernel) ?_
    refine V_goto 13 Z (by decide) (show decode cX6_isPeace 9 = .ok (.goto 4, 3) by decide +kernel) ?_
    exact V_zretP Z hE h rfl (show decode cX6_isPeace 13 = .ok (.ireturn, 1) by decide +kernel)
def f_X6_peace_j46 (y1 : Int32) (y2 : Int32) (y3 : Int32) (s0 : Int32) (M : zM) : Option ((Int32 × Int32) ⊕ (Int32)) :=
  if s0 = 0 then
    (some (y3 + 1)).bind fun (n4 : Int32) =>
    some (.inl ((y2, n4)))
  else
    (some (y3 + 1)).bind fun (n6 : Int32) =>
    some (.inl ((y3, n6)))
def f_X6_peace_j45 (y1 : Int32) (y2 : Int32) (y3 : Int32) (M : zM) : Option ((Int32 × Int32) ⊕ (Int32)) :=
  f_X6_peace_j46 y1 y2 y3 0 M
def f_X6_peace_l9 (y1 : Int32) (M : zM) : Int32 × Int32 → Option ((Int32 × Int32) ⊕ (Int32))
  | (y2, y3) =>
    if y1 < y3 then
      some (.inr (y2))
    else
      if (y3 &&& (y1 ^^^ (-1))) = 0 then
        (f_X6_bits y3 M).bind fun (v11 : Int32) =>
        (f_X6_bits y2 M).bind fun (v13 : Int32) =>
        if v11 ≤ v13 then
          f_X6_peace_j45 y1 y2 y3 M
        else
          (f_X6_isPeace y3 M).bind fun (v16 : Int32) =>
          if v16 = 0 then
            f_X6_peace_j45 y1 y2 y3 M
          else
            f_X6_peace_j46 y1 y2 y3 1 M
      else
        f_X6_peace_j45 y1 y2 y3 M
def f_X6_peace (M : zM) : Option (Int32) :=
  (f_X6_hungNow  M).bind fun (v2 : Int32) =>
  zIter (f_X6_peace_l9 v2 M) 1000 (0, 0)
theorem cd_X6_peace : zCd yX6_peace cX6_peace 5 (some .int) 0 := ⟨w1079, w69, ⟨by decide, by decide⟩, by decide +kernel⟩
set_option maxHeartbeats 4000000 in
set_option maxRecDepth 20000 in
theorem ok_X6_peace {M : zM} {y : Int32}  (h : f_X6_peace  M = some y) : zRuns yX6_peace cX6_peace 5 (some .int) 5 110 [.ref 47] M (some (.int y)) M := by
  refine zRuns_of (by decide +kernel) (Nat.le_of_ble_eq_true rfl) (fun E Z hE => ?_)
  have h := zB_top h
  change VV E 5 0 [(0, Value.ref 47)] [] M
  refine V_aload_n 0 Z rfl rfl (show decode cX6_peace 0 = .ok (.aload_n 0, 1) by decide +kernel) ?_
  obtain ⟨v2, e1, h⟩ := zB_bind h
  refine V_callV (rest := []) 0 Z (ok_X6_hungNow  e1) cd_X6_hungNow zc5 (by decide) rfl w975 w977 w36 rfl (show decode cX6_peace 1 = .ok (.invokevirtual 172, 3) by decide +kernel) rfl ?_
  refine V_istore_n [(1, Value.int v2), (0, Value.ref 47)] Z (by decide) rfl rfl (show decode cX6_peace 4 = .ok (.istore_n 1, 1) by decide +kernel) ?_
  refine V_iconst 0 (by decide) Z (show decode cX6_peace 5 = .ok (.iconst 0, 1) by decide +kernel) ?_
  refine V_istore_n [(2, Value.int 0), (1, Value.int v2), (0, Value.ref 47)] Z (by decide) rfl rfl (show decode cX6_peace 6 = .ok (.istore_n 2, 1) by decide +kernel) ?_
  refine V_iconst 0 (by decide) Z (show decode cX6_peace 7 = .ok (.iconst 0, 1) by decide +kernel) ?_
  refine V_istore_n [(3, Value.int 0), (2, Value.int 0), (1, Value.int v2), (0, Value.ref 47)] Z (by decide) rfl rfl (show decode cX6_peace 8 = .ok (.istore_n 3, 1) by decide +kernel) ?_
  refine V_sub [3, 2, 1, 0] rfl ?_
  refine zIter_loop' (K := some) (fun s : Int32 × Int32 => VV E 5 9 [(0, Value.ref 47), (1, Value.int v2), (2, Value.int s.1), (3, Value.int s.2)] [] M) (fun K1 s c1_i c1_r h => ?_) _ _ h
  obtain ⟨y2, y3⟩ := s
  change VV E 5 9 [(0, Value.ref 47), (1, Value.int v2), (2, Value.int y2), (3, Value.int y3)] [] M
  have J46 : ∀ (y2 : Int32) (y3 : Int32) (s0 : Int32), (f_X6_peace_j46 v2 y2 y3 s0 M).bind K1 = some y → VV E 5 46 [(0, Value.ref 47), (1, Value.int v2), (2, Value.int y2), (3, Value.int y3)] [Value.int s0] M := by
    intro y2 y3 s0 h
    refine V_istore [(4, Value.int s0), (0, Value.ref 47), (1, Value.int v2), (2, Value.int y2), (3, Value.int y3)] Z (by decide) rfl (show decode cX6_peace 46 = .ok (.istore 4, 2) by decide +kernel) ?_
    refine V_iload 0 Z rfl (show decode cX6_peace 48 = .ok (.iload 4, 2) by decide +kernel) ?_
    refine V_if_eq 57 Z (by decide) (show decode cX6_peace 50 = .ok (.ifCond .eq 7, 3) by decide +kernel) (fun c3 => ?_) (fun c3 => ?_)
    · have h := zB_pos c3 h
      refine V_iload_n 3 Z rfl rfl (show decode cX6_peace 57 = .ok (.iload_n 2, 1) by decide +kernel) ?_
      refine V_istore_n [(2, Value.int y2), (4, Value.int s0), (0, Value.ref 47), (1, Value.int v2), (3, Value.int y3)] Z (by decide) rfl rfl (show decode cX6_peace 58 = .ok (.istore_n 2, 1) by decide +kernel) ?_
      obtain ⟨n4, e5, h⟩ := zB_let h
      refine V_iinck 1 1 4 n4 [(3, Value.int n4), (2, Value.int y2), (4, Value.int s0), (0, Value.ref 47), (1, Value.int v2)] Z (by decide) (by decide) rfl e5 rfl (show decode cX6_peace 59 = .ok (.iinc 3 1, 3) by decide +kernel) ?_
      refine V_goto 9 Z (by decide) (show decode cX6_peace 62 = .ok (.goto (-53), 3) by decide +kernel) ?_
      refine V_sub [3, 4, 1, 0] rfl ?_
      exact c1_i _ h
    · have h := zB_neg c3 h
      refine V_iload_n 4 Z rfl rfl (show decode cX6_peace 53 = .ok (.iload_n 3, 1) by decide +kernel) ?_
      refine V_goto 58 Z (by decide) (show decode cX6_peace 54 = .ok (.goto 4, 3) by decide +kernel) ?_
      refine V_istore_n [(2, Value.int y3), (4, Value.int s0), (0, Value.ref 47), (1, Value.int v2), (3, Value.int y3)] Z (by decide) rfl rfl (show decode cX6_peace 58 = .ok (.istore_n 2, 1) by decide +kernel) ?_
      obtain ⟨n6, e7, h⟩ := zB_let h
      refine V_iinck 1 1 4 n6 [(3, Value.int n6), (2, Value.int y3), (4, Value.int s0), (0, Value.ref 47), (1, Value.int v2)] Z (by decide) (by decide) rfl e7 rfl (show decode cX6_peace 59 = .ok (.iinc 3 1, 3) by decide +kernel) ?_
      refine V_goto 9 Z (by decide) (show decode cX6_peace 62 = .ok (.goto (-53), 3) by decide +kernel) ?_
      refine V_sub [3, 4, 1, 0] rfl ?_
      exact c1_i _ h
  have J45 : ∀ (y2 : Int32) (y3 : Int32), (f_X6_peace_j45 v2 y2 y3 M).bind K1 = some y → VV E 5 45 [(0, Value.ref 47), (1, Value.int v2), (2, Value.int y2), (3, Value.int y3)] [] M := by
    intro y2 y3 h
    refine V_iconst 0 (by decide) Z (show decode cX6_peace 45 = .ok (.iconst 0, 1) by decide +kernel) ?_
    exact J46 _ _ _ h
  refine V_iload_n 3 Z rfl rfl (show decode cX6_peace 9 = .ok (.iload_n 3, 1) by decide +kernel) ?_
  refine V_iload_n 1 Z rfl rfl (show decode cX6_peace 10 = .ok (.iload_n 1, 1) by decide +kernel) ?_
  refine V_icmp_gt 65 Z (by decide) (show decode cX6_peace 11 = .ok (.if_icmp .gt 54, 3) by decide +kernel) (fun c8 => ?_) (fun c8 => ?_)
  · have h := zB_pos c8 h
    refine V_iload_n 2 Z rfl rfl (show decode cX6_peace 65 = .ok (.iload_n 2, 1) by decide +kernel) ?_
    have h := c1_r _ h
    exact V_iretP Z hE h (show decode cX6_peace 66 = .ok (.ireturn, 1) by decide +kernel)
  · have h := zB_neg c8 h
    refine V_iload_n 3 Z rfl rfl (show decode cX6_peace 14 = .ok (.iload_n 3, 1) by decide +kernel) ?_
    refine V_iload_n 1 Z rfl rfl (show decode cX6_peace 15 = .ok (.iload_n 1, 1) by decide +kernel) ?_
    refine V_iconst (-1) (by decide) Z (show decode cX6_peace 16 = .ok (.iconst (-1), 1) by decide +kernel) ?_
    refine V_ixor Z (show decode cX6_peace 17 = .ok (.ixor, 1) by decide +kernel) ?_
    refine V_iand Z (show decode cX6_peace 18 = .ok (.iand, 1) by decide +kernel) ?_
    refine V_if_ne 45 Z (by decide) (show decode cX6_peace 19 = .ok (.ifCond .ne 26, 3) by decide +kernel) (fun c9 => ?_) (fun c9 => ?_)
    · have h := zB_neg c9 h
      exact J45 _ _ h
    · have h := zB_pos c9 h
      refine V_iload_n 3 Z rfl rfl (show decode cX6_peace 22 = .ok (.iload_n 3, 1) by decide +kernel) ?_
      obtain ⟨v11, e10, h⟩ := zB_bind h
      refine V_callS (rest := []) 1 Z (ok_X6_bits  e10) cd_X6_bits w1080 w1081 rfl (show decode cX6_peace 23 = .ok (.invokestatic 207, 3) by decide +kernel) rfl ?_
      refine V_iload_n 2 Z rfl rfl (show decode cX6_peace 26 = .ok (.iload_n 2, 1) by decide +kernel) ?_
      obtain ⟨v13, e12, h⟩ := zB_bind h
      refine V_callS (rest := [_]) 1 Z (ok_X6_bits  e12) cd_X6_bits w1080 w1081 rfl (show decode cX6_peace 27 = .ok (.invokestatic 207, 3) by decide +kernel) rfl ?_
      refine V_icmp_le 45 Z (by decide) (show decode cX6_peace 30 = .ok (.if_icmp .le 15, 3) by decide +kernel) (fun c14 => ?_) (fun c14 => ?_)
      · have h := zB_pos c14 h
        exact J45 _ _ h
      · have h := zB_neg c14 h
        refine V_aload_n 0 Z rfl rfl (show decode cX6_peace 33 = .ok (.aload_n 0, 1) by decide +kernel) ?_
        refine V_iload_n 3 Z rfl rfl (show decode cX6_peace 34 = .ok (.iload_n 3, 1) by decide +kernel) ?_
        obtain ⟨v16, e15, h⟩ := zB_bind h
        refine V_callV (rest := []) 1 Z (ok_X6_isPeace  e15) cd_X6_isPeace zc5 (by decide) rfl w1083 w1085 w46 rfl (show decode cX6_peace 35 = .ok (.invokevirtual 210, 3) by decide +kernel) rfl ?_
        refine V_if_eq 45 Z (by decide) (show decode cX6_peace 38 = .ok (.ifCond .eq 7, 3) by decide +kernel) (fun c17 => ?_) (fun c17 => ?_)
        · have h := zB_pos c17 h
          exact J45 _ _ h
        · have h := zB_neg c17 h
          refine V_iconst 1 (by decide) Z (show decode cX6_peace 41 = .ok (.iconst 1, 1) by decide +kernel) ?_
          refine V_goto 46 Z (by decide) (show decode cX6_peace 42 = .ok (.goto 4, 3) by decide +kernel) ?_
          exact J46 _ _ _ h
def f_X6_peaceful_j65 (y1 : Int32) (y2 : Int32) (y4 : Int32) (s0 : Int32) (M : zM) : Option ((Int32 × Int32) ⊕ (Int32 × zM)) :=
  (some ((s0 + 0))).bind fun (n6 : Int32) =>
  (some (y4 + 1)).bind fun (n8 : Int32) =>
  some (.inl ((n6, n8)))
def f_X6_peaceful_l27 (y1 : Int32) (y2 : Int32) (M : zM) : Int32 × Int32 → Option ((Int32 × Int32) ⊕ (Int32 × zM))
  | (y3, y4) =>
    if y2 < y4 then
      some (.inr ((y3, M)))
    else
      if (y4 &&& (y2 ^^^ (-1))) = 0 then
        (f_X6_bits y4 M).bind fun (v13 : Int32) =>
        if v13 = y1 then
          (f_X6_isPeace y4 M).bind fun (v16 : Int32) =>
          if v16 = 0 then
            f_X6_peaceful_j65 y1 y2 y4 y3 M
          else
            (some ((y3 + 1))).bind fun (n18 : Int32) =>
            (some (y4 + 1)).bind fun (n20 : Int32) =>
            some (.inl ((n18, n20)))
        else
          f_X6_peaceful_j65 y1 y2 y4 y3 M
      else
        f_X6_peaceful_j65 y1 y2 y4 y3 M
def f_X6_peaceful (x1 : Int32) (M : zM) : Option (Int32 × zM) :=
  (f_X6_within x1 0 8 M).bind fun (v2 : Int32) =>
  if v2 = 0 then
    (f_X6_finding (-1000001) M).bind fun ((v23, M24) : Int32 × zM) =>
    some ((v23, M24))
  else
    (f_X6_hungNow  M).bind fun (v5 : Int32) =>
    zIter (f_X6_peaceful_l27 x1 v5 M) 1000 (0, 0)
theorem cd_X6_peaceful : zCd yX6_peaceful cX6_peaceful 5 (some .int) 1 := ⟨w1090, w69, ⟨by decide, by decide⟩, by decide +kernel⟩
set_option maxHeartbeats 4000000 in
set_option maxRecDepth 20000 in
theorem ok_X6_peaceful {x1 : Int32} {M : zM} {y : Int32 × zM}  (h : f_X6_peaceful x1 M = some y) : zRuns yX6_peaceful cX6_peaceful 5 (some .int) 5 110 [.ref 47, .int x1] M (some (.int y.1)) y.2 := by
  refine zRuns_of (by decide +kernel) (Nat.le_of_ble_eq_true rfl) (fun E Z hE => ?_)
  have h := zB_top h
  change VV E 5 0 [(0, Value.ref 47), (1, Value.int x1)] [] M
  refine V_iload_n 1 Z rfl rfl (show decode cX6_peaceful 0 = .ok (.iload_n 1, 1) by decide +kernel) ?_
  refine V_iconst 0 (by decide) Z (show decode cX6_peaceful 1 = .ok (.iconst 0, 1) by decide +kernel) ?_
  refine V_bipush 8 (by decide) Z (show decode cX6_peaceful 2 = .ok (.bipush 8, 2) by decide +kernel) ?_
  obtain ⟨v2, e1, h⟩ := zB_bind h
  refine V_callS (rest := []) 3 Z (ok_X6_within  e1) cd_X6_within w840 w841 rfl (show decode cX6_peaceful 4 = .ok (.invokestatic 76, 3) by decide +kernel) rfl ?_
  refine V_if_ne 17 Z (by decide) (show decode cX6_peaceful 7 = .ok (.ifCond .ne 10, 3) by decide +kernel) (fun c3 => ?_) (fun c3 => ?_)
  · have h := zB_neg c3 h
    refine V_aload_n 0 Z rfl rfl (show decode cX6_peaceful 17 = .ok (.aload_n 0, 1) by decide +kernel) ?_
    obtain ⟨v5, e4, h⟩ := zB_bind h
    refine V_callV (rest := []) 0 Z (ok_X6_hungNow  e4) cd_X6_hungNow zc5 (by decide) rfl w975 w977 w36 rfl (show decode cX6_peaceful 18 = .ok (.invokevirtual 172, 3) by decide +kernel) rfl ?_
    refine V_istore_n [(2, Value.int v5), (0, Value.ref 47), (1, Value.int x1)] Z (by decide) rfl rfl (show decode cX6_peaceful 21 = .ok (.istore_n 2, 1) by decide +kernel) ?_
    refine V_iconst 0 (by decide) Z (show decode cX6_peaceful 22 = .ok (.iconst 0, 1) by decide +kernel) ?_
    refine V_istore_n [(3, Value.int 0), (2, Value.int v5), (0, Value.ref 47), (1, Value.int x1)] Z (by decide) rfl rfl (show decode cX6_peaceful 23 = .ok (.istore_n 3, 1) by decide +kernel) ?_
    refine V_iconst 0 (by decide) Z (show decode cX6_peaceful 24 = .ok (.iconst 0, 1) by decide +kernel) ?_
    refine V_istore [(4, Value.int 0), (3, Value.int 0), (2, Value.int v5), (0, Value.ref 47), (1, Value.int x1)] Z (by decide) rfl (show decode cX6_peaceful 25 = .ok (.istore 4, 2) by decide +kernel) ?_
    refine V_sub [3, 4, 2, 1, 0] rfl ?_
    refine zIter_loop' (K := some) (fun s : Int32 × Int32 => VV E 5 27 [(0, Value.ref 47), (1, Value.int x1), (2, Value.int v5), (3, Value.int s.1), (4, Value.int s.2)] [] M) (fun K1 s c1_i c1_r h => ?_) _ _ h
    obtain ⟨y3, y4⟩ := s
    change VV E 5 27 [(0, Value.ref 47), (1, Value.int x1), (2, Value.int v5), (3, Value.int y3), (4, Value.int y4)] [] M
    have J65 : ∀ (y4 : Int32) (s0 : Int32), (f_X6_peaceful_j65 x1 v5 y4 s0 M).bind K1 = some y → VV E 5 65 [(0, Value.ref 47), (1, Value.int x1), (2, Value.int v5), (4, Value.int y4)] [Value.int s0] M := by
      intro y4 s0 h
      refine V_iconst 0 (by decide) Z (show decode cX6_peaceful 65 = .ok (.iconst 0, 1) by decide +kernel) ?_
      refine V_iadd Z (show decode cX6_peaceful 66 = .ok (.iadd, 1) by decide +kernel) ?_
      obtain ⟨n6, e7, h⟩ := zB_let h
      refine V_nm e7 ?_
      refine V_istore_n [(3, Value.int n6), (0, Value.ref 47), (1, Value.int x1), (2, Value.int v5), (4, Value.int y4)] Z (by decide) rfl rfl (show decode cX6_peaceful 67 = .ok (.istore_n 3, 1) by decide +kernel) ?_
      obtain ⟨n8, e9, h⟩ := zB_let h
      refine V_iinck 1 1 4 n8 [(4, Value.int n8), (3, Value.int n6), (0, Value.ref 47), (1, Value.int x1), (2, Value.int v5)] Z (by decide) (by decide) rfl e9 rfl (show decode cX6_peaceful 68 = .ok (.iinc 4 1, 3) by decide +kernel) ?_
      refine V_goto 27 Z (by decide) (show decode cX6_peaceful 71 = .ok (.goto (-44), 3) by decide +kernel) ?_
      refine V_sub [2, 3, 4, 1, 0] rfl ?_
      exact c1_i _ h
    refine V_iload 4 Z rfl (show decode cX6_peaceful 27 = .ok (.iload 4, 2) by decide +kernel) ?_
    refine V_iload_n 2 Z rfl rfl (show decode cX6_peaceful 29 = .ok (.iload_n 2, 1) by decide +kernel) ?_
    refine V_icmp_gt 74 Z (by decide) (show decode cX6_peaceful 30 = .ok (.if_icmp .gt 44, 3) by decide +kernel) (fun c10 => ?_) (fun c10 => ?_)
    · have h := zB_pos c10 h
      refine V_iload_n 3 Z rfl rfl (show decode cX6_peaceful 74 = .ok (.iload_n 3, 1) by decide +kernel) ?_
      have h := c1_r _ h
      exact V_iretM Z hE h (show decode cX6_peaceful 75 = .ok (.ireturn, 1) by decide +kernel)
    · have h := zB_neg c10 h
      refine V_iload_n 3 Z rfl rfl (show decode cX6_peaceful 33 = .ok (.iload_n 3, 1) by decide +kernel) ?_
      refine V_iload 4 Z rfl (show decode cX6_peaceful 34 = .ok (.iload 4, 2) by decide +kernel) ?_
      refine V_iload_n 2 Z rfl rfl (show decode cX6_peaceful 36 = .ok (.iload_n 2, 1) by decide +kernel) ?_
      refine V_iconst (-1) (by decide) Z (show decode cX6_peaceful 37 = .ok (.iconst (-1), 1) by decide +kernel) ?_
      refine V_ixor Z (show decode cX6_peaceful 38 = .ok (.ixor, 1) by decide +kernel) ?_
      refine V_iand Z (show decode cX6_peaceful 39 = .ok (.iand, 1) by decide +kernel) ?_
      refine V_if_ne 65 Z (by decide) (show decode cX6_peaceful 40 = .ok (.ifCond .ne 25, 3) by decide +kernel) (fun c11 => ?_) (fun c11 => ?_)
      · have h := zB_neg c11 h
        refine V_sub [0, 1, 2, 4] rfl ?_
        exact J65 _ _ h
      · have h := zB_pos c11 h
        refine V_iload 4 Z rfl (show decode cX6_peaceful 43 = .ok (.iload 4, 2) by decide +kernel) ?_
        obtain ⟨v13, e12, h⟩ := zB_bind h
        refine V_callS (rest := [_]) 1 Z (ok_X6_bits  e12) cd_X6_bits w1080 w1081 rfl (show decode cX6_peaceful 45 = .ok (.invokestatic 207, 3) by decide +kernel) rfl ?_
        refine V_iload_n 1 Z rfl rfl (show decode cX6_peaceful 48 = .ok (.iload_n 1, 1) by decide +kernel) ?_
        refine V_icmp_ne 65 Z (by decide) (show decode cX6_peaceful 49 = .ok (.if_icmp .ne 16, 3) by decide +kernel) (fun c14 => ?_) (fun c14 => ?_)
        · have h := zB_neg c14 h
          refine V_sub [0, 1, 2, 4] rfl ?_
          exact J65 _ _ h
        · have h := zB_pos c14 h
          refine V_aload_n 0 Z rfl rfl (show decode cX6_peaceful 52 = .ok (.aload_n 0, 1) by decide +kernel) ?_
          refine V_iload 4 Z rfl (show decode cX6_peaceful 53 = .ok (.iload 4, 2) by decide +kernel) ?_
          obtain ⟨v16, e15, h⟩ := zB_bind h
          refine V_callV (rest := [_]) 1 Z (ok_X6_isPeace  e15) cd_X6_isPeace zc5 (by decide) rfl w1083 w1085 w46 rfl (show decode cX6_peaceful 55 = .ok (.invokevirtual 210, 3) by decide +kernel) rfl ?_
          refine V_if_eq 65 Z (by decide) (show decode cX6_peaceful 58 = .ok (.ifCond .eq 7, 3) by decide +kernel) (fun c17 => ?_) (fun c17 => ?_)
          · have h := zB_pos c17 h
            refine V_sub [0, 1, 2, 4] rfl ?_
            exact J65 _ _ h
          · have h := zB_neg c17 h
            refine V_iconst 1 (by decide) Z (show decode cX6_peaceful 61 = .ok (.iconst 1, 1) by decide +kernel) ?_
            refine V_goto 66 Z (by decide) (show decode cX6_peaceful 62 = .ok (.goto 4, 3) by decide +kernel) ?_
            refine V_iadd Z (show decode cX6_peaceful 66 = .ok (.iadd, 1) by decide +kernel) ?_
            obtain ⟨n18, e19, h⟩ := zB_let h
            refine V_nm e19 ?_
            refine V_istore_n [(3, Value.int n18), (0, Value.ref 47), (1, Value.int x1), (2, Value.int v5), (4, Value.int y4)] Z (by decide) rfl rfl (show decode cX6_peaceful 67 = .ok (.istore_n 3, 1) by decide +kernel) ?_
            obtain ⟨n20, e21, h⟩ := zB_let h
            refine V_iinck 1 1 4 n20 [(4, Value.int n20), (3, Value.int n18), (0, Value.ref 47), (1, Value.int x1), (2, Value.int v5)] Z (by decide) (by decide) rfl e21 rfl (show decode cX6_peaceful 68 = .ok (.iinc 4 1, 3) by decide +kernel) ?_
            refine V_goto 27 Z (by decide) (show decode cX6_peaceful 71 = .ok (.goto (-44), 3) by decide +kernel) ?_
            refine V_sub [2, 3, 4, 1, 0] rfl ?_
            exact c1_i _ h
  · have h := zB_pos c3 h
    refine V_aload_n 0 Z rfl rfl (show decode cX6_peaceful 10 = .ok (.aload_n 0, 1) by decide +kernel) ?_
    refine V_ldc (-1000001) Z w843 (show decode cX6_peaceful 11 = .ok (.ldc 66, 2) by decide +kernel) ?_
    obtain ⟨⟨v23, M24⟩, e22, h⟩ := zB_bind h
    refine V_callV (rest := []) 1 Z (ok_X6_finding  e22) cd_X6_finding zc5 (by decide) rfl w844 w846 w17 rfl (show decode cX6_peaceful 13 = .ok (.invokevirtual 72, 3) by decide +kernel) rfl ?_
    exact V_iretM Z hE h (show decode cX6_peaceful 16 = .ok (.ireturn, 1) by decide +kernel)
