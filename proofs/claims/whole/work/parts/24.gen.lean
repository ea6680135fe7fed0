/-! Generated walks: X6_person X6_isOrder X6_standsAt X6_placeOf X6_personOf X6_order X6_at X6_leastLeft -/
def f_X6_person_j69 (M : zM) : Option (Int32 × zM) :=
  (f_X6_finding (-1000001) M).bind fun ((v2, M3) : Int32 × zM) =>
  some ((v2, M3))
def f_X6_person_j60 (y1 : Int32) (y3 : Int32) (s0 : Int32) (M : zM) : Option (Int32 × zM) :=
  (f_X6_become (s0 + y1) y3 M).bind fun ((v5, M6) : Int32 × zM) =>
  some ((v5, M6))
def f_X6_person_j34 (y1 : Int32) (y2 : Int32) (y3 : Int32) (s0 : Int32) (M : zM) : Option (Int32 × zM) :=
  (f_X6_isPerson y1 M).bind fun (v8 : Int32) =>
  if v8 = 0 then
    f_X6_person_j69  M
  else
    if s0 = 0 then
      f_X6_person_j69  M
    else
      if y2 = 0 then
        f_X6_person_j60 y1 y3 55 M
      else
        f_X6_person_j60 y1 y3 61 M
def f_X6_person_j33 (y1 : Int32) (y2 : Int32) (y3 : Int32) (M : zM) : Option (Int32 × zM) :=
  f_X6_person_j34 y1 y2 y3 0 M
def f_X6_person_j29 (y1 : Int32) (y2 : Int32) (y3 : Int32) (M : zM) : Option (Int32 × zM) :=
  f_X6_person_j34 y1 y2 y3 1 M
def f_X6_person (x1 : Int32) (x2 : Int32) (x3 : Int32) (M : zM) : Option (Int32 × zM) :=
  if x2 = 0 then
    (f_X6_isPurse x3 M).bind fun (v19 : Int32) =>
    f_X6_person_j34 x1 x2 x3 v19 M
  else
    if x2 = 1 then
      if x3 = (-1) then
        f_X6_person_j29 x1 x2 x3 M
      else
        (f_X6_isName x3 M).bind fun (v16 : Int32) =>
        if v16 = 0 then
          f_X6_person_j33 x1 x2 x3 M
        else
          f_X6_person_j29 x1 x2 x3 M
    else
      f_X6_person_j33 x1 x2 x3 M
theorem cd_X6_person : zCd yX6_person cX6_person 5 (some .int) 3 := ⟨w904, w69, ⟨by decide, by decide⟩, by decide +kernel⟩
set_option maxHeartbeats 4000000 in
set_option maxRecDepth 20000 in
theorem ok_X6_person {x1 : Int32} {x2 : Int32} {x3 : Int32} {M : zM} {y : Int32 × zM}  (h : f_X6_person x1 x2 x3 M = some y) : zRuns yX6_person cX6_person 5 (some .int) 2 43 [.ref 47, .int x1, .int x2, .int x3] M (some (.int y.1)) y.2 := by
  refine zRuns_of (by decide +kernel) (Nat.le_of_ble_eq_true rfl) (fun E Z hE => ?_)
  have h := zB_top h
  change VV E 5 0 [(0, Value.ref 47), (1, Value.int x1), (2, Value.int x2), (3, Value.int x3)] [] M
  have J69 : ∀ (M : zM), (f_X6_person_j69  M).bind some = some y → VV E 5 69 [(0, Value.ref 47)] [] M := by
    intro  M h
    refine V_aload_n 0 Z rfl rfl (show decode cX6_person 69 = .ok (.aload_n 0, 1) by decide +kernel) ?_
    refine V_ldc (-1000001) Z w843 (show decode cX6_person 70 = .ok (.ldc 66, 2) by decide +kernel) ?_
    obtain ⟨⟨v2, M3⟩, e1, h⟩ := zB_bind h
    refine V_callV (rest := []) 1 Z (ok_X6_finding  e1) cd_X6_finding zc5 (by decide) rfl w844 w846 w17 rfl (show decode cX6_person 72 = .ok (.invokevirtual 72, 3) by decide +kernel) rfl ?_
    exact V_iretM Z hE h (show decode cX6_person 75 = .ok (.ireturn, 1) by decide +kernel)
  have J60 : ∀ (y1 : Int32) (y3 : Int32) (s0 : Int32) (M : zM), (f_X6_person_j60 y1 y3 s0 M).bind some = some y → VV E 5 60 [(1, Value.int y1), (3, Value.int y3)] [Value.int s0, Value.ref 47] M := by
    intro y1 y3 s0 M h
    refine V_iload_n 0 Z rfl rfl (show decode cX6_person 60 = .ok (.iload_n 1, 1) by decide +kernel) ?_
    refine V_iadd Z (show decode cX6_person 61 = .ok (.iadd, 1) by decide +kernel) ?_
    refine V_iload_n 1 Z rfl rfl (show decode cX6_person 62 = .ok (.iload_n 3, 1) by decide +kernel) ?_
    obtain ⟨⟨v5, M6⟩, e4, h⟩ := zB_bind h
    refine V_callV (rest := []) 2 Z (ok_X6_become  e4) cd_X6_become zc5 (by decide) rfl w897 w899 w27 rfl (show decode cX6_person 63 = .ok (.invokevirtual 119, 3) by decide +kernel) rfl ?_
    refine V_goto 75 Z (by decide) (show decode cX6_person 66 = .ok (.goto 9, 3) by decide +kernel) ?_
    exact V_iretM Z hE h (show decode cX6_person 75 = .ok (.ireturn, 1) by decide +kernel)
  have J34 : ∀ (y1 : Int32) (y2 : Int32) (y3 : Int32) (s0 : Int32) (M : zM), (f_X6_person_j34 y1 y2 y3 s0 M).bind some = some y → VV E 5 34 [(0, Value.ref 47), (1, Value.int y1), (2, Value.int y2), (3, Value.int y3)] [Value.int s0] M := by
    intro y1 y2 y3 s0 M h
    refine V_istore [(4, Value.int s0), (0, Value.ref 47), (1, Value.int y1), (2, Value.int y2), (3, Value.int y3)] Z (by decide) rfl (show decode cX6_person 34 = .ok (.istore 4, 2) by decide +kernel) ?_
    refine V_iload_n 2 Z rfl rfl (show decode cX6_person 36 = .ok (.iload_n 1, 1) by decide +kernel) ?_
    obtain ⟨v8, e7, h⟩ := zB_bind h
    refine V_callS (rest := []) 1 Z (ok_X6_isPerson  e7) cd_X6_isPerson w908 w909 rfl (show decode cX6_person 37 = .ok (.invokestatic 125, 3) by decide +kernel) rfl ?_
    refine V_if_eq 69 Z (by decide) (show decode cX6_person 40 = .ok (.ifCond .eq 29, 3) by decide +kernel) (fun c9 => ?_) (fun c9 => ?_)
    · have h := zB_pos c9 h
      refine V_sub [1] rfl ?_
      exact J69 _ h
    · have h := zB_neg c9 h
      refine V_iload 0 Z rfl (show decode cX6_person 43 = .ok (.iload 4, 2) by decide +kernel) ?_
      refine V_if_eq 69 Z (by decide) (show decode cX6_person 45 = .ok (.ifCond .eq 24, 3) by decide +kernel) (fun c10 => ?_) (fun c10 => ?_)
      · have h := zB_pos c10 h
        refine V_sub [1] rfl ?_
        exact J69 _ h
      · have h := zB_neg c10 h
        refine V_aload_n 1 Z rfl rfl (show decode cX6_person 48 = .ok (.aload_n 0, 1) by decide +kernel) ?_
        refine V_iload_n 3 Z rfl rfl (show decode cX6_person 49 = .ok (.iload_n 2, 1) by decide +kernel) ?_
        refine V_if_ne 58 Z (by decide) (show decode cX6_person 50 = .ok (.ifCond .ne 8, 3) by decide +kernel) (fun c11 => ?_) (fun c11 => ?_)
        · have h := zB_neg c11 h
          refine V_bipush 61 (by decide) Z (show decode cX6_person 58 = .ok (.bipush 61, 2) by decide +kernel) ?_
          refine V_sub [2, 4] rfl ?_
          exact J60 _ _ _ _ h
        · have h := zB_pos c11 h
          refine V_bipush 55 (by decide) Z (show decode cX6_person 53 = .ok (.bipush 55, 2) by decide +kernel) ?_
          refine V_goto 60 Z (by decide) (show decode cX6_person 55 = .ok (.goto 5, 3) by decide +kernel) ?_
          refine V_sub [2, 4] rfl ?_
          exact J60 _ _ _ _ h
  have J33 : ∀ (y1 : Int32) (y2 : Int32) (y3 : Int32) (M : zM), (f_X6_person_j33 y1 y2 y3 M).bind some = some y → VV E 5 33 [(0, Value.ref 47), (1, Value.int y1), (2, Value.int y2), (3, Value.int y3)] [] M := by
    intro y1 y2 y3 M h
    refine V_iconst 0 (by decide) Z (show decode cX6_person 33 = .ok (.iconst 0, 1) by decide +kernel) ?_
    exact J34 _ _ _ _ _ h
  have J29 : ∀ (y1 : Int32) (y2 : Int32) (y3 : Int32) (M : zM), (f_X6_person_j29 y1 y2 y3 M).bind some = some y → VV E 5 29 [(0, Value.ref 47), (1, Value.int y1), (2, Value.int y2), (3, Value.int y3)] [] M := by
    intro y1 y2 y3 M h
    refine V_iconst 1 (by decide) Z (show decode cX6_person 29 = .ok (.iconst 1, 1) by decide +kernel) ?_
    refine V_goto 34 Z (by decide) (show decode cX6_person 30 = .ok (.goto 4, 3) by decide +kernel) ?_
    exact J34 _ _ _ _ _ h
  refine V_iload_n 2 Z rfl rfl (show decode cX6_person 0 = .ok (.iload_n 2, 1) by decide +kernel) ?_
  refine V_if_ne 11 Z (by decide) (show decode cX6_person 1 = .ok (.ifCond .ne 10, 3) by decide +kernel) (fun c12 => ?_) (fun c12 => ?_)
  · have h := zB_neg c12 h
    refine V_iload_n 2 Z rfl rfl (show decode cX6_person 11 = .ok (.iload_n 2, 1) by decide +kernel) ?_
    refine V_iconst 1 (by decide) Z (show decode cX6_person 12 = .ok (.iconst 1, 1) by decide +kernel) ?_
    refine V_icmp_ne 33 Z (by decide) (show decode cX6_person 13 = .ok (.if_icmp .ne 20, 3) by decide +kernel) (fun c13 => ?_) (fun c13 => ?_)
    · have h := zB_neg c13 h
      exact J33 _ _ _ _ h
    · have h := zB_pos c13 h
      refine V_iload_n 3 Z rfl rfl (show decode cX6_person 16 = .ok (.iload_n 3, 1) by decide +kernel) ?_
      refine V_iconst (-1) (by decide) Z (show decode cX6_person 17 = .ok (.iconst (-1), 1) by decide +kernel) ?_
      refine V_icmp_eq 29 Z (by decide) (show decode cX6_person 18 = .ok (.if_icmp .eq 11, 3) by decide +kernel) (fun c14 => ?_) (fun c14 => ?_)
      · have h := zB_pos c14 h
        exact J29 _ _ _ _ h
      · have h := zB_neg c14 h
        refine V_aload_n 0 Z rfl rfl (show decode cX6_person 21 = .ok (.aload_n 0, 1) by decide +kernel) ?_
        refine V_iload_n 3 Z rfl rfl (show decode cX6_person 22 = .ok (.iload_n 3, 1) by decide +kernel) ?_
        obtain ⟨v16, e15, h⟩ := zB_bind h
        refine V_callV (rest := []) 1 Z (ok_X6_isName  e15) cd_X6_isName zc5 (by decide) rfl w860 w862 w19 rfl (show decode cX6_person 23 = .ok (.invokevirtual 100, 3) by decide +kernel) rfl ?_
        refine V_if_eq 33 Z (by decide) (show decode cX6_person 26 = .ok (.ifCond .eq 7, 3) by decide +kernel) (fun c17 => ?_) (fun c17 => ?_)
        · have h := zB_pos c17 h
          exact J33 _ _ _ _ h
        · have h := zB_neg c17 h
          exact J29 _ _ _ _ h
  · have h := zB_pos c12 h
    refine V_iload_n 3 Z rfl rfl (show decode cX6_person 4 = .ok (.iload_n 3, 1) by decide +kernel) ?_
    obtain ⟨v19, e18, h⟩ := zB_bind h
    refine V_callS (rest := []) 1 Z (ok_X6_isPurse  e18) cd_X6_isPurse w905 w906 rfl (show decode cX6_person 5 = .ok (.invokestatic 122, 3) by decide +kernel) rfl ?_
    refine V_goto 34 Z (by decide) (show decode cX6_person 8 = .ok (.goto 26, 3) by decide +kernel) ?_
    exact J34 _ _ _ _ _ h
def f_X6_isOrder (x0 : Int32) (M : zM) : Option (Int32) :=
  (f_X6_within x0 0 719 M).bind fun (v2 : Int32) =>
  (zbo v2).bind fun (b3 : Int32) =>
  some (b3)
theorem cd_X6_isOrder : zCd yX6_isOrder cX6_isOrder 1 (some .boolean) 1 := ⟨w932, w69, ⟨by decide, by decide⟩, by decide +kernel⟩
set_option maxHeartbeats 4000000 in
set_option maxRecDepth 20000 in
theorem ok_X6_isOrder {x0 : Int32} {M : zM} {y : Int32}  (h : f_X6_isOrder x0 M = some y) : zRuns yX6_isOrder cX6_isOrder 1 (some .boolean) 1 22 [.int x0] M (some (.int y)) M := by
  refine zRuns_of (by decide +kernel) (Nat.le_of_ble_eq_true rfl) (fun E Z hE => ?_)
  have h := zB_top h
  change VV E 1 0 [(0, Value.int x0)] [] M
  refine V_iload_n 0 Z rfl rfl (show decode cX6_isOrder 0 = .ok (.iload_n 0, 1) by decide +kernel) ?_
  refine V_iconst 0 (by decide) Z (show decode cX6_isOrder 1 = .ok (.iconst 0, 1) by decide +kernel) ?_
  refine V_sipush 719 (by decide) Z (show decode cX6_isOrder 2 = .ok (.sipush 719, 3) by decide +kernel) ?_
  obtain ⟨v2, e1, h⟩ := zB_bind h
  refine V_callS (rest := []) 3 Z (ok_X6_within  e1) cd_X6_within w840 w841 rfl (show decode cX6_isOrder 5 = .ok (.invokestatic 76, 3) by decide +kernel) rfl ?_
  obtain ⟨b3, e4, h⟩ := zB_bind h
  refine V_nm (zbo_v e4).1 ?_
  exact V_zretP Z hE h (zbo_v e4).2 (show decode cX6_isOrder 8 = .ok (.ireturn, 1) by decide +kernel)
def f_X6_standsAt_j80 (y1 : Int32) (y2 : Int32) (y3 : Int32) (y4 : Int32) (y5 : Int32) (y6 : Int32) (M : zM) : Option ((Int32 × Int32 × Int32 × Int32 × Int32) ⊕ (Int32)) :=
  (some ((y2 ||| (1 <<< (y5 &&& 31))))).bind fun (n1 : Int32) =>
  (some (y6 + 1)).bind fun (n3 : Int32) =>
  some (.inl ((n1, y3, y4, y5, n3)))
def f_X6_standsAt_l59 (y1 : Int32) (y2 : Int32) (y3 : Int32) (y4 : Int32) (y6 : Int32) (y8 : Int32) (M : zM) : Int32 → Option ((Int32) ⊕ ((Int32 × Int32) ⊕ ((Int32 × Int32 × Int32 × Int32 × Int32) ⊕ (Int32))))
  | y5 =>
    (f_X6_has y2 y5 M).bind fun (v16 : Int32) =>
    if v16 = 0 then
      (some (y8 + (-1))).bind fun (n18 : Int32) =>
      some (.inr (.inl ((y5, n18))))
    else
      (some (y5 + 1)).bind fun (n20 : Int32) =>
      some (.inl (n20))
def f_X6_standsAt_l51 (y1 : Int32) (y2 : Int32) (y3 : Int32) (y4 : Int32) (y6 : Int32) (M : zM) : Int32 × Int32 → Option ((Int32 × Int32) ⊕ ((Int32 × Int32 × Int32 × Int32 × Int32) ⊕ (Int32)))
  | (y5, y8) =>
    if y8 < 0 then
      (f_X6_standsAt_j80 y1 y2 y3 y4 y5 y6 M).bind fun z => some (Sum.inr z)
    else
      (some (y5 + 1)).bind fun (n13 : Int32) =>
      zIter (f_X6_standsAt_l59 y1 y2 y3 y4 y6 y8 M) 1000 (n13)
def f_X6_standsAt_l14 (y1 : Int32) (M : zM) : Int32 × Int32 × Int32 × Int32 × Int32 → Option ((Int32 × Int32 × Int32 × Int32 × Int32) ⊕ (Int32))
  | (y2, y3, y4, y5, y6) =>
    if y1 < y6 then
      some (.inr (y5))
    else
      (zdv y3 y4).bind fun (v6 : Int32) =>
      (zrm y3 y4).bind fun (v8 : Int32) =>
      (zdv y4 (if 1 < (5 - y6) then (5 - y6) else 1)).bind fun (v10 : Int32) =>
      zIter (f_X6_standsAt_l51 y1 y2 v8 v10 y6 M) 1000 ((-1), v6)
def f_X6_standsAt (x0 : Int32) (x1 : Int32) (M : zM) : Option (Int32) :=
  zIter (f_X6_standsAt_l14 x1 M) 1000 (0, x0, 120, (-1), 0)
theorem cd_X6_standsAt : zCd yX6_standsAt cX6_standsAt 9 (some .int) 2 := ⟨w921, w69, ⟨by decide, by decide⟩, by decide +kernel⟩
set_option maxHeartbeats 4000000 in
set_option maxRecDepth 20000 in
theorem ok_X6_standsAt {x0 : Int32} {x1 : Int32} {M : zM} {y : Int32}  (h : f_X6_standsAt x0 x1 M = some y) : zRuns yX6_standsAt cX6_standsAt 9 (some .int) 1 21 [.int x0, .int x1] M (some (.int y)) M := by
  refine zRuns_of (by decide +kernel) (Nat.le_of_ble_eq_true rfl) (fun E Z hE => ?_)
  have h := zB_top h
  change VV E 9 0 [(0, Value.int x0), (1, Value.int x1)] [] M
  refine V_iconst 0 (by decide) Z (show decode cX6_standsAt 0 = .ok (.iconst 0, 1) by decide +kernel) ?_
  refine V_istore_n [(2, Value.int 0), (0, Value.int x0), (1, Value.int x1)] Z (by decide) rfl rfl (show decode cX6_standsAt 1 = .ok (.istore_n 2, 1) by decide +kernel) ?_
  refine V_iload_n 1 Z rfl rfl (show decode cX6_standsAt 2 = .ok (.iload_n 0, 1) by decide +kernel) ?_
  refine V_istore_n [(3, Value.int x0), (2, Value.int 0), (0, Value.int x0), (1, Value.int x1)] Z (by decide) rfl rfl (show decode cX6_standsAt 3 = .ok (.istore_n 3, 1) by decide +kernel) ?_
  refine V_bipush 120 (by decide) Z (show decode cX6_standsAt 4 = .ok (.bipush 120, 2) by decide +kernel) ?_
  refine V_istore [(4, Value.int 120), (3, Value.int x0), (2, Value.int 0), (0, Value.int x0), (1, Value.int x1)] Z (by decide) rfl (show decode cX6_standsAt 6 = .ok (.istore 4, 2) by decide +kernel) ?_
  refine V_iconst (-1) (by decide) Z (show decode cX6_standsAt 8 = .ok (.iconst (-1), 1) by decide +kernel) ?_
  refine V_istore [(5, Value.int (-1)), (4, Value.int 120), (3, Value.int x0), (2, Value.int 0), (0, Value.int x0), (1, Value.int x1)] Z (by decide) rfl (show decode cX6_standsAt 9 = .ok (.istore 5, 2) by decide +kernel) ?_
  refine V_iconst 0 (by decide) Z (show decode cX6_standsAt 11 = .ok (.iconst 0, 1) by decide +kernel) ?_
  refine V_istore [(6, Value.int 0), (5, Value.int (-1)), (4, Value.int 120), (3, Value.int x0), (2, Value.int 0), (0, Value.int x0), (1, Value.int x1)] Z (by decide) rfl (show decode cX6_standsAt 12 = .ok (.istore 6, 2) by decide +kernel) ?_
  refine V_sub [6, 4, 3, 2, 1, 0] rfl ?_
  refine zIter_loop' (K := some) (fun s : Int32 × Int32 × Int32 × Int32 × Int32 => VV E 9 14 [(1, Value.int x1), (2, Value.int s.1), (3, Value.int s.2.1), (4, Value.int s.2.2.1), (5, Value.int s.2.2.2.1), (6, Value.int s.2.2.2.2)] [] M) (fun K1 s c1_i c1_r h => ?_) _ _ h
  obtain ⟨y2, y3, y4, y5, y6⟩ := s
  change VV E 9 14 [(1, Value.int x1), (2, Value.int y2), (3, Value.int y3), (4, Value.int y4), (5, Value.int y5), (6, Value.int y6)] [] M
  have J80 : ∀ (y2 : Int32) (y3 : Int32) (y4 : Int32) (y5 : Int32) (y6 : Int32), (f_X6_standsAt_j80 x1 y2 y3 y4 y5 y6 M).bind K1 = some y → VV E 9 80 [(1, Value.int x1), (2, Value.int y2), (3, Value.int y3), (4, Value.int y4), (5, Value.int y5), (6, Value.int y6)] [] M := by
    intro y2 y3 y4 y5 y6 h
    refine V_iload_n 1 Z rfl rfl (show decode cX6_standsAt 80 = .ok (.iload_n 2, 1) by decide +kernel) ?_
    refine V_iconst 1 (by decide) Z (show decode cX6_standsAt 81 = .ok (.iconst 1, 1) by decide +kernel) ?_
    refine V_iload 4 Z rfl (show decode cX6_standsAt 82 = .ok (.iload 5, 2) by decide +kernel) ?_
    refine V_ishl Z (show decode cX6_standsAt 84 = .ok (.ishl, 1) by decide +kernel) ?_
    refine V_ior Z (show decode cX6_standsAt 85 = .ok (.ior, 1) by decide +kernel) ?_
    obtain ⟨n1, e2, h⟩ := zB_let h
    refine V_nm e2 ?_
    refine V_istore_n [(2, Value.int n1), (1, Value.int x1), (3, Value.int y3), (4, Value.int y4), (5, Value.int y5), (6, Value.int y6)] Z (by decide) rfl rfl (show decode cX6_standsAt 86 = .ok (.istore_n 2, 1) by decide +kernel) ?_
    obtain ⟨n3, e4, h⟩ := zB_let h
    refine V_iinck 1 1 5 n3 [(6, Value.int n3), (2, Value.int n1), (1, Value.int x1), (3, Value.int y3), (4, Value.int y4), (5, Value.int y5)] Z (by decide) (by decide) rfl e4 rfl (show decode cX6_standsAt 87 = .ok (.iinc 6 1, 3) by decide +kernel) ?_
    refine V_goto 14 Z (by decide) (show decode cX6_standsAt 90 = .ok (.goto (-76), 3) by decide +kernel) ?_
    refine V_sub [2, 1, 3, 4, 5, 0] rfl ?_
    exact c1_i _ h
  refine V_iload 5 Z rfl (show decode cX6_standsAt 14 = .ok (.iload 6, 2) by decide +kernel) ?_
  refine V_iload_n 0 Z rfl rfl (show decode cX6_standsAt 16 = .ok (.iload_n 1, 1) by decide +kernel) ?_
  refine V_icmp_gt 93 Z (by decide) (show decode cX6_standsAt 17 = .ok (.if_icmp .gt 76, 3) by decide +kernel) (fun c5 => ?_) (fun c5 => ?_)
  · have h := zB_pos c5 h
    refine V_iload 4 Z rfl (show decode cX6_standsAt 93 = .ok (.iload 5, 2) by decide +kernel) ?_
    have h := c1_r _ h
    exact V_iretP Z hE h (show decode cX6_standsAt 95 = .ok (.ireturn, 1) by decide +kernel)
  · have h := zB_neg c5 h
    refine V_iload_n 2 Z rfl rfl (show decode cX6_standsAt 20 = .ok (.iload_n 3, 1) by decide +kernel) ?_
    refine V_iload 3 Z rfl (show decode cX6_standsAt 21 = .ok (.iload 4, 2) by decide +kernel) ?_
    obtain ⟨v6, e7, h⟩ := zB_bind h
    refine V_idiv Z e7 (show decode cX6_standsAt 23 = .ok (.idiv, 1) by decide +kernel) ?_
    refine V_istore [(7, Value.int v6), (1, Value.int x1), (2, Value.int y2), (3, Value.int y3), (4, Value.int y4), (5, Value.int y5), (6, Value.int y6)] Z (by decide) rfl (show decode cX6_standsAt 24 = .ok (.istore 7, 2) by decide +kernel) ?_
    refine V_iload_n 3 Z rfl rfl (show decode cX6_standsAt 26 = .ok (.iload_n 3, 1) by decide +kernel) ?_
    refine V_iload 4 Z rfl (show decode cX6_standsAt 27 = .ok (.iload 4, 2) by decide +kernel) ?_
    obtain ⟨v8, e9, h⟩ := zB_bind h
    refine V_irem Z e9 (show decode cX6_standsAt 29 = .ok (.irem, 1) by decide +kernel) ?_
    refine V_istore_n [(3, Value.int v8), (7, Value.int v6), (1, Value.int x1), (2, Value.int y2), (4, Value.int y4), (5, Value.int y5), (6, Value.int y6)] Z (by decide) rfl rfl (show decode cX6_standsAt 30 = .ok (.istore_n 3, 1) by decide +kernel) ?_
    refine V_iload 4 Z rfl (show decode cX6_standsAt 31 = .ok (.iload 4, 2) by decide +kernel) ?_
    refine V_iconst 1 (by decide) Z (show decode cX6_standsAt 33 = .ok (.iconst 1, 1) by decide +kernel) ?_
    refine V_iconst 5 (by decide) Z (show decode cX6_standsAt 34 = .ok (.iconst 5, 1) by decide +kernel) ?_
    refine V_iload 6 Z rfl (show decode cX6_standsAt 35 = .ok (.iload 6, 2) by decide +kernel) ?_
    refine V_isub Z (show decode cX6_standsAt 37 = .ok (.isub, 1) by decide +kernel) ?_
    refine V_max Z w922 w401 w71 w402 (show decode cX6_standsAt 38 = .ok (.invokestatic 128, 3) by decide +kernel) rfl ?_
    obtain ⟨v10, e11, h⟩ := zB_bind h
    refine V_idiv Z e11 (show decode cX6_standsAt 41 = .ok (.idiv, 1) by decide +kernel) ?_
    refine V_istore [(4, Value.int v10), (3, Value.int v8), (7, Value.int v6), (1, Value.int x1), (2, Value.int y2), (5, Value.int y5), (6, Value.int y6)] Z (by decide) rfl (show decode cX6_standsAt 42 = .ok (.istore 4, 2) by decide +kernel) ?_
    refine V_iconst (-1) (by decide) Z (show decode cX6_standsAt 44 = .ok (.iconst (-1), 1) by decide +kernel) ?_
    refine V_istore [(5, Value.int (-1)), (4, Value.int v10), (3, Value.int v8), (7, Value.int v6), (1, Value.int x1), (2, Value.int y2), (6, Value.int y6)] Z (by decide) rfl (show decode cX6_standsAt 45 = .ok (.istore 5, 2) by decide +kernel) ?_
    refine V_iload 3 Z rfl (show decode cX6_standsAt 47 = .ok (.iload 7, 2) by decide +kernel) ?_
    refine V_istore [(8, Value.int v6), (5, Value.int (-1)), (4, Value.int v10), (3, Value.int v8), (7, Value.int v6), (1, Value.int x1), (2, Value.int y2), (6, Value.int y6)] Z (by decide) rfl (show decode cX6_standsAt 49 = .ok (.istore 8, 2) by decide +kernel) ?_
    refine V_sub [5, 6, 3, 2, 1, 7, 0] rfl ?_
    refine zIter_loop' (K := K1) (fun s : Int32 × Int32 => VV E 9 51 [(1, Value.int x1), (2, Value.int y2), (3, Value.int v8), (4, Value.int v10), (5, Value.int s.1), (6, Value.int y6), (8, Value.int s.2)] [] M) (fun K2 s c2_i c2_r h => ?_) _ _ h
    obtain ⟨y5, y8⟩ := s
    change VV E 9 51 [(1, Value.int x1), (2, Value.int y2), (3, Value.int v8), (4, Value.int v10), (5, Value.int y5), (6, Value.int y6), (8, Value.int y8)] [] M
    refine V_iload 6 Z rfl (show decode cX6_standsAt 51 = .ok (.iload 8, 2) by decide +kernel) ?_
    refine V_if_lt 80 Z (by decide) (show decode cX6_standsAt 53 = .ok (.ifCond .lt 27, 3) by decide +kernel) (fun c12 => ?_) (fun c12 => ?_)
    · have h := zB_pos c12 h
      refine V_sub [0, 1, 2, 3, 4, 5] rfl ?_
      have h := zB_lift c2_r h
      exact J80 _ _ _ _ _ h
    · have h := zB_neg c12 h
      obtain ⟨n13, e14, h⟩ := zB_let h
      refine V_iinck 1 1 4 n13 [(5, Value.int n13), (1, Value.int x1), (2, Value.int y2), (3, Value.int v8), (4, Value.int v10), (6, Value.int y6), (8, Value.int y8)] Z (by decide) (by decide) rfl e14 rfl (show decode cX6_standsAt 56 = .ok (.iinc 5 1, 3) by decide +kernel) ?_
      refine V_sub [1, 2, 3, 4, 0, 5, 6] rfl ?_
      refine zIter_loop' (K := K2) (fun s : Int32 => VV E 9 59 [(1, Value.int x1), (2, Value.int y2), (3, Value.int v8), (4, Value.int v10), (5, Value.int s), (6, Value.int y6), (8, Value.int y8)] [] M) (fun K3 y5 c3_i c3_r h => ?_) _ _ h
      rw [f_X6_standsAt_l59] at h
      refine V_iload_n 1 Z rfl rfl (show decode cX6_standsAt 59 = .ok (.iload_n 2, 1) by decide +kernel) ?_
      refine V_iload 4 Z rfl (show decode cX6_standsAt 60 = .ok (.iload 5, 2) by decide +kernel) ?_
      obtain ⟨v16, e15, h⟩ := zB_bind h
      refine V_callS (rest := []) 2 Z (ok_X6_has  e15) cd_X6_has w923 w924 rfl (show decode cX6_standsAt 62 = .ok (.invokestatic 133, 3) by decide +kernel) rfl ?_
      refine V_if_eq 74 Z (by decide) (show decode cX6_standsAt 65 = .ok (.ifCond .eq 9, 3) by decide +kernel) (fun c17 => ?_) (fun c17 => ?_)
      · have h := zB_pos c17 h
        obtain ⟨n18, e19, h⟩ := zB_let h
        refine V_iinck (-1) (-1) 6 n18 [(8, Value.int n18), (1, Value.int x1), (2, Value.int y2), (3, Value.int v8), (4, Value.int v10), (5, Value.int y5), (6, Value.int y6)] Z (by decide) (by decide) rfl e19 rfl (show decode cX6_standsAt 74 = .ok (.iinc 8 (-1), 3) by decide +kernel) ?_
        refine V_goto 51 Z (by decide) (show decode cX6_standsAt 77 = .ok (.goto (-26), 3) by decide +kernel) ?_
        refine V_sub [1, 2, 3, 4, 5, 6, 0] rfl ?_
        have h := c3_r _ h
        exact c2_i _ h
      · have h := zB_neg c17 h
        obtain ⟨n20, e21, h⟩ := zB_let h
        refine V_iinck 1 1 4 n20 [(5, Value.int n20), (1, Value.int x1), (2, Value.int y2), (3, Value.int v8), (4, Value.int v10), (6, Value.int y6), (8, Value.int y8)] Z (by decide) (by decide) rfl e21 rfl (show decode cX6_standsAt 68 = .ok (.iinc 5 1, 3) by decide +kernel) ?_
        refine V_goto 59 Z (by decide) (show decode cX6_standsAt 71 = .ok (.goto (-12), 3) by decide +kernel) ?_
        refine V_sub [1, 2, 3, 4, 0, 5, 6] rfl ?_
        exact c3_i _ h
def f_X6_placeOf_l2 (y1 : Int32) (M : zM) : Int32 → Option ((Int32) ⊕ (Int32))
  | y2 =>
    (zrd M 48 3).bind fun (v1 : Int32) =>
    (f_X6_standsAt v1 y2 M).bind fun (v4 : Int32) =>
    if v4 = y1 then
      some (.inr (y2))
    else
      (some (y2 + 1)).bind fun (n6 : Int32) =>
      some (.inl (n6))
def f_X6_placeOf (x1 : Int32) (M : zM) : Option (Int32) :=
  zIter (f_X6_placeOf_l2 x1 M) 1000 (0 : Int32)
theorem cd_X6_placeOf : zCd yX6_placeOf cX6_placeOf 3 (some .int) 1 := ⟨w918, w69, ⟨by decide, by decide⟩, by decide +kernel⟩
set_option maxHeartbeats 4000000 in
set_option maxRecDepth 20000 in
theorem ok_X6_placeOf {x1 : Int32} {M : zM} {y : Int32}  (h : f_X6_placeOf x1 M = some y) : zRuns yX6_placeOf cX6_placeOf 3 (some .int) 2 49 [.ref 47, .int x1] M (some (.int y)) M := by
  refine zRuns_of (by decide +kernel) (Nat.le_of_ble_eq_true rfl) (fun E Z hE => ?_)
  have h := zB_top h
  change VV E 3 0 [(0, Value.ref 47), (1, Value.int x1)] [] M
  refine V_iconst 0 (by decide) Z (show decode cX6_placeOf 0 = .ok (.iconst 0, 1) by decide +kernel) ?_
  refine V_istore_n [(2, Value.int 0), (0, Value.ref 47), (1, Value.int x1)] Z (by decide) rfl rfl (show decode cX6_placeOf 1 = .ok (.istore_n 2, 1) by decide +kernel) ?_
  refine V_sub [1, 2, 0] rfl ?_
  refine zIter_loop' (K := some) (fun s : Int32 => VV E 3 2 [(0, Value.ref 47), (1, Value.int x1), (2, Value.int s)] [] M) (fun K1 y2 c1_i c1_r h => ?_) _ _ h
  rw [f_X6_placeOf_l2] at h
  refine V_aload_n 0 Z rfl rfl (show decode cX6_placeOf 2 = .ok (.aload_n 0, 1) by decide +kernel) ?_
  refine V_getR 0 48 Z zc5 (by decide) rfl (by decide) rfl (by decide) ⟨rfl, rfl, rfl⟩ w766 (show decode cX6_placeOf 3 = .ok (.getfield 9, 3) by decide +kernel) ?_
  refine V_iconst 3 (by decide) Z (show decode cX6_placeOf 6 = .ok (.iconst 3, 1) by decide +kernel) ?_
  obtain ⟨v1, e2, h⟩ := zB_bind h
  refine V_iald Z e2 (show decode cX6_placeOf 7 = .ok (.iaload, 1) by decide +kernel) ?_
  refine V_iload_n 2 Z rfl rfl (show decode cX6_placeOf 8 = .ok (.iload_n 2, 1) by decide +kernel) ?_
  obtain ⟨v4, e3, h⟩ := zB_bind h
  refine V_callS (rest := []) 2 Z (ok_X6_standsAt  e3) cd_X6_standsAt w919 w920 rfl (show decode cX6_placeOf 9 = .ok (.invokestatic 136, 3) by decide +kernel) rfl ?_
  refine V_iload_n 1 Z rfl rfl (show decode cX6_placeOf 12 = .ok (.iload_n 1, 1) by decide +kernel) ?_
  refine V_icmp_eq 22 Z (by decide) (show decode cX6_placeOf 13 = .ok (.if_icmp .eq 9, 3) by decide +kernel) (fun c5 => ?_) (fun c5 => ?_)
  · have h := zB_pos c5 h
    refine V_iload_n 2 Z rfl rfl (show decode cX6_placeOf 22 = .ok (.iload_n 2, 1) by decide +kernel) ?_
    have h := c1_r _ h
    exact V_iretP Z hE h (show decode cX6_placeOf 23 = .ok (.ireturn, 1) by decide +kernel)
  · have h := zB_neg c5 h
    obtain ⟨n6, e7, h⟩ := zB_let h
    refine V_iinck 1 1 2 n6 [(2, Value.int n6), (0, Value.ref 47), (1, Value.int x1)] Z (by decide) (by decide) rfl e7 rfl (show decode cX6_placeOf 16 = .ok (.iinc 2 1, 3) by decide +kernel) ?_
    refine V_goto 2 Z (by decide) (show decode cX6_placeOf 19 = .ok (.goto (-17), 3) by decide +kernel) ?_
    refine V_sub [1, 2, 0] rfl ?_
    exact c1_i _ h
def f_X6_personOf_j16 (M : zM) : Option (Int32 × zM) :=
  (f_X6_finding (-1000001) M).bind fun ((v2, M3) : Int32 × zM) =>
  some ((v2, M3))
def f_X6_personOf (x1 : Int32) (x2 : Int32) (M : zM) : Option (Int32 × zM) :=
  (f_X6_isPerson x1 M).bind fun (v5 : Int32) =>
  if v5 = 0 then
    f_X6_personOf_j16  M
  else
    (f_X6_within x2 0 2 M).bind fun (v8 : Int32) =>
    if v8 = 0 then
      f_X6_personOf_j16  M
    else
      if x2 = 0 then
        (zrd M 48 (55 + x1)).bind fun (v16 : Int32) =>
        some ((v16, M))
      else
        if x2 = 1 then
          (zrd M 48 (61 + x1)).bind fun (v14 : Int32) =>
          some ((v14, M))
        else
          (f_X6_placeOf x1 M).bind fun (v13 : Int32) =>
          some ((v13, M))
theorem cd_X6_personOf : zCd yX6_personOf cX6_personOf 3 (some .int) 2 := ⟨w914, w69, ⟨by decide, by decide⟩, by decide +kernel⟩
set_option maxHeartbeats 4000000 in
set_option maxRecDepth 20000 in
theorem ok_X6_personOf {x1 : Int32} {x2 : Int32} {M : zM} {y : Int32 × zM}  (h : f_X6_personOf x1 x2 M = some y) : zRuns yX6_personOf cX6_personOf 3 (some .int) 3 71 [.ref 47, .int x1, .int x2] M (some (.int y.1)) y.2 := by
  refine zRuns_of (by decide +kernel) (Nat.le_of_ble_eq_true rfl) (fun E Z hE => ?_)
  have h := zB_top h
  change VV E 3 0 [(0, Value.ref 47), (1, Value.int x1), (2, Value.int x2)] [] M
  have J16 : ∀ (M : zM), (f_X6_personOf_j16  M).bind some = some y → VV E 3 16 [(0, Value.ref 47)] [] M := by
    intro  M h
    refine V_aload_n 0 Z rfl rfl (show decode cX6_personOf 16 = .ok (.aload_n 0, 1) by decide +kernel) ?_
    refine V_ldc (-1000001) Z w843 (show decode cX6_personOf 17 = .ok (.ldc 66, 2) by decide +kernel) ?_
    obtain ⟨⟨v2, M3⟩, e1, h⟩ := zB_bind h
    refine V_callV (rest := []) 1 Z (ok_X6_finding  e1) cd_X6_finding zc5 (by decide) rfl w844 w846 w17 rfl (show decode cX6_personOf 19 = .ok (.invokevirtual 72, 3) by decide +kernel) rfl ?_
    exact V_iretM Z hE h (show decode cX6_personOf 22 = .ok (.ireturn, 1) by decide +kernel)
  refine V_iload_n 1 Z rfl rfl (show decode cX6_personOf 0 = .ok (.iload_n 1, 1) by decide +kernel) ?_
  obtain ⟨v5, e4, h⟩ := zB_bind h
  refine V_callS (rest := []) 1 Z (ok_X6_isPerson  e4) cd_X6_isPerson w908 w909 rfl (show decode cX6_personOf 1 = .ok (.invokestatic 125, 3) by decide +kernel) rfl ?_
  refine V_if_eq 16 Z (by decide) (show decode cX6_personOf 4 = .ok (.ifCond .eq 12, 3) by decide +kernel) (fun c6 => ?_) (fun c6 => ?_)
  · have h := zB_pos c6 h
    refine V_sub [0] rfl ?_
    exact J16 _ h
  · have h := zB_neg c6 h
    refine V_iload_n 2 Z rfl rfl (show decode cX6_personOf 7 = .ok (.iload_n 2, 1) by decide +kernel) ?_
    refine V_iconst 0 (by decide) Z (show decode cX6_personOf 8 = .ok (.iconst 0, 1) by decide +kernel) ?_
    refine V_iconst 2 (by decide) Z (show decode cX6_personOf 9 = .ok (.iconst 2, 1) by decide +kernel) ?_
    obtain ⟨v8, e7, h⟩ := zB_bind h
    refine V_callS (rest := []) 3 Z (ok_X6_within  e7) cd_X6_within w840 w841 rfl (show decode cX6_personOf 10 = .ok (.invokestatic 76, 3) by decide +kernel) rfl ?_
    refine V_if_ne 23 Z (by decide) (show decode cX6_personOf 13 = .ok (.ifCond .ne 10, 3) by decide +kernel) (fun c9 => ?_) (fun c9 => ?_)
    · have h := zB_neg c9 h
      refine V_iload_n 2 Z rfl rfl (show decode cX6_personOf 23 = .ok (.iload_n 2, 1) by decide +kernel) ?_
      refine V_if_ne 39 Z (by decide) (show decode cX6_personOf 24 = .ok (.ifCond .ne 15, 3) by decide +kernel) (fun c10 => ?_) (fun c10 => ?_)
      · have h := zB_neg c10 h
        refine V_iload_n 2 Z rfl rfl (show decode cX6_personOf 39 = .ok (.iload_n 2, 1) by decide +kernel) ?_
        refine V_iconst 1 (by decide) Z (show decode cX6_personOf 40 = .ok (.iconst 1, 1) by decide +kernel) ?_
        refine V_icmp_ne 56 Z (by decide) (show decode cX6_personOf 41 = .ok (.if_icmp .ne 15, 3) by decide +kernel) (fun c11 => ?_) (fun c11 => ?_)
        · have h := zB_neg c11 h
          refine V_aload_n 0 Z rfl rfl (show decode cX6_personOf 56 = .ok (.aload_n 0, 1) by decide +kernel) ?_
          refine V_iload_n 1 Z rfl rfl (show decode cX6_personOf 57 = .ok (.iload_n 1, 1) by decide +kernel) ?_
          obtain ⟨v13, e12, h⟩ := zB_bind h
          refine V_callV (rest := []) 1 Z (ok_X6_placeOf  e12) cd_X6_placeOf zc5 (by decide) rfl w915 w917 w28 rfl (show decode cX6_personOf 58 = .ok (.invokevirtual 139, 3) by decide +kernel) rfl ?_
          exact V_iretM Z hE h (show decode cX6_personOf 61 = .ok (.ireturn, 1) by decide +kernel)
        · have h := zB_pos c11 h
          refine V_aload_n 0 Z rfl rfl (show decode cX6_personOf 44 = .ok (.aload_n 0, 1) by decide +kernel) ?_
          refine V_getR 0 48 Z zc5 (by decide) rfl (by decide) rfl (by decide) ⟨rfl, rfl, rfl⟩ w766 (show decode cX6_personOf 45 = .ok (.getfield 9, 3) by decide +kernel) ?_
          refine V_bipush 61 (by decide) Z (show decode cX6_personOf 48 = .ok (.bipush 61, 2) by decide +kernel) ?_
          refine V_iload_n 1 Z rfl rfl (show decode cX6_personOf 50 = .ok (.iload_n 1, 1) by decide +kernel) ?_
          refine V_iadd Z (show decode cX6_personOf 51 = .ok (.iadd, 1) by decide +kernel) ?_
          obtain ⟨v14, e15, h⟩ := zB_bind h
          refine V_iald Z e15 (show decode cX6_personOf 52 = .ok (.iaload, 1) by decide +kernel) ?_
          refine V_goto 61 Z (by decide) (show decode cX6_personOf 53 = .ok (.goto 8, 3) by decide +kernel) ?_
          exact V_iretM Z hE h (show decode cX6_personOf 61 = .ok (.ireturn, 1) by decide +kernel)
      · have h := zB_pos c10 h
        refine V_aload_n 0 Z rfl rfl (show decode cX6_personOf 27 = .ok (.aload_n 0, 1) by decide +kernel) ?_
        refine V_getR 0 48 Z zc5 (by decide) rfl (by decide) rfl (by decide) ⟨rfl, rfl, rfl⟩ w766 (show decode cX6_personOf 28 = .ok (.getfield 9, 3) by decide +kernel) ?_
        refine V_bipush 55 (by decide) Z (show decode cX6_personOf 31 = .ok (.bipush 55, 2) by decide +kernel) ?_
        refine V_iload_n 1 Z rfl rfl (show decode cX6_personOf 33 = .ok (.iload_n 1, 1) by decide +kernel) ?_
        refine V_iadd Z (show decode cX6_personOf 34 = .ok (.iadd, 1) by decide +kernel) ?_
        obtain ⟨v16, e17, h⟩ := zB_bind h
        refine V_iald Z e17 (show decode cX6_personOf 35 = .ok (.iaload, 1) by decide +kernel) ?_
        refine V_goto 61 Z (by decide) (show decode cX6_personOf 36 = .ok (.goto 25, 3) by decide +kernel) ?_
        exact V_iretM Z hE h (show decode cX6_personOf 61 = .ok (.ireturn, 1) by decide +kernel)
    · have h := zB_pos c9 h
      refine V_sub [0] rfl ?_
      exact J16 _ h
def f_X6_order (x1 : Int32) (M : zM) : Option (Int32 × zM) :=
  (f_X6_isOrder x1 M).bind fun (v2 : Int32) =>
  if v2 = 0 then
    (f_X6_finding (-1000001) M).bind fun ((v5, M6) : Int32 × zM) =>
    some ((v5, M6))
  else
    (f_X6_become 3 x1 M).bind fun ((v8, M9) : Int32 × zM) =>
    some ((v8, M9))
theorem cd_X6_order : zCd yX6_order cX6_order 2 (some .int) 1 := ⟨w929, w69, ⟨by decide, by decide⟩, by decide +kernel⟩
set_option maxHeartbeats 4000000 in
set_option maxRecDepth 20000 in
theorem ok_X6_order {x1 : Int32} {M : zM} {y : Int32 × zM}  (h : f_X6_order x1 M = some y) : zRuns yX6_order cX6_order 2 (some .int) 2 42 [.ref 47, .int x1] M (some (.int y.1)) y.2 := by
  refine zRuns_of (by decide +kernel) (Nat.le_of_ble_eq_true rfl) (fun E Z hE => ?_)
  have h := zB_top h
  change VV E 2 0 [(0, Value.ref 47), (1, Value.int x1)] [] M
  refine V_iload_n 1 Z rfl rfl (show decode cX6_order 0 = .ok (.iload_n 1, 1) by decide +kernel) ?_
  obtain ⟨v2, e1, h⟩ := zB_bind h
  refine V_callS (rest := []) 1 Z (ok_X6_isOrder  e1) cd_X6_isOrder w930 w931 rfl (show decode cX6_order 1 = .ok (.invokestatic 142, 3) by decide +kernel) rfl ?_
  refine V_if_eq 16 Z (by decide) (show decode cX6_order 4 = .ok (.ifCond .eq 12, 3) by decide +kernel) (fun c3 => ?_) (fun c3 => ?_)
  · have h := zB_pos c3 h
    refine V_aload_n 0 Z rfl rfl (show decode cX6_order 16 = .ok (.aload_n 0, 1) by decide +kernel) ?_
    refine V_ldc (-1000001) Z w843 (show decode cX6_order 17 = .ok (.ldc 66, 2) by decide +kernel) ?_
    obtain ⟨⟨v5, M6⟩, e4, h⟩ := zB_bind h
    refine V_callV (rest := []) 1 Z (ok_X6_finding  e4) cd_X6_finding zc5 (by decide) rfl w844 w846 w17 rfl (show decode cX6_order 19 = .ok (.invokevirtual 72, 3) by decide +kernel) rfl ?_
    exact V_iretM Z hE h (show decode cX6_order 22 = .ok (.ireturn, 1) by decide +kernel)
  · have h := zB_neg c3 h
    refine V_aload_n 0 Z rfl rfl (show decode cX6_order 7 = .ok (.aload_n 0, 1) by decide +kernel) ?_
    refine V_iconst 3 (by decide) Z (show decode cX6_order 8 = .ok (.iconst 3, 1) by decide +kernel) ?_
    refine V_iload_n 1 Z rfl rfl (show decode cX6_order 9 = .ok (.iload_n 1, 1) by decide +kernel) ?_
    obtain ⟨⟨v8, M9⟩, e7, h⟩ := zB_bind h
    refine V_callV (rest := []) 2 Z (ok_X6_become  e7) cd_X6_become zc5 (by decide) rfl w897 w899 w27 rfl (show decode cX6_order 10 = .ok (.invokevirtual 119, 3) by decide +kernel) rfl ?_
    refine V_goto 22 Z (by decide) (show decode cX6_order 13 = .ok (.goto 9, 3) by decide +kernel) ?_
    exact V_iretM Z hE h (show decode cX6_order 22 = .ok (.ireturn, 1) by decide +kernel)
def f_X6_at_j22 (M : zM) : Option (Int32 × zM) :=
  (f_X6_finding (-1000001) M).bind fun ((v2, M3) : Int32 × zM) =>
  some ((v2, M3))
def f_X6_at (x1 : Int32) (x2 : Int32) (M : zM) : Option (Int32 × zM) :=
  (f_X6_isOrder x1 M).bind fun (v5 : Int32) =>
  if v5 = 0 then
    f_X6_at_j22  M
  else
    (f_X6_isPerson x2 M).bind fun (v8 : Int32) =>
    if v8 = 0 then
      f_X6_at_j22  M
    else
      (f_X6_standsAt x1 x2 M).bind fun (v11 : Int32) =>
      some ((v11, M))
theorem cd_X6_at : zCd yX6_at cX6_at 3 (some .int) 2 := ⟨w936, w69, ⟨by decide, by decide⟩, by decide +kernel⟩
set_option maxHeartbeats 4000000 in
set_option maxRecDepth 20000 in
theorem ok_X6_at {x1 : Int32} {x2 : Int32} {M : zM} {y : Int32 × zM}  (h : f_X6_at x1 x2 M = some y) : zRuns yX6_at cX6_at 3 (some .int) 2 49 [.ref 47, .int x1, .int x2] M (some (.int y.1)) y.2 := by
  refine zRuns_of (by decide +kernel) (Nat.le_of_ble_eq_true rfl) (fun E Z hE => ?_)
  have h := zB_top h
  change VV E 3 0 [(0, Value.ref 47), (1, Value.int x1), (2, Value.int x2)] [] M
  have J22 : ∀ (M : zM), (f_X6_at_j22  M).bind some = some y → VV E 3 22 [(0, Value.ref 47)] [] M := by
    intro  M h
    refine V_aload_n 0 Z rfl rfl (show decode cX6_at 22 = .ok (.aload_n 0, 1) by decide +kernel) ?_
    refine V_ldc (-1000001) Z w843 (show decode cX6_at 23 = .ok (.ldc 66, 2) by decide +kernel) ?_
    obtain ⟨⟨v2, M3⟩, e1, h⟩ := zB_bind h
    refine V_callV (rest := []) 1 Z (ok_X6_finding  e1) cd_X6_finding zc5 (by decide) rfl w844 w846 w17 rfl (show decode cX6_at 25 = .ok (.invokevirtual 72, 3) by decide +kernel) rfl ?_
    exact V_iretM Z hE h (show decode cX6_at 28 = .ok (.ireturn, 1) by decide +kernel)
  refine V_iload_n 1 Z rfl rfl (show decode cX6_at 0 = .ok (.iload_n 1, 1) by decide +kernel) ?_
  obtain ⟨v5, e4, h⟩ := zB_bind h
  refine V_callS (rest := []) 1 Z (ok_X6_isOrder  e4) cd_X6_isOrder w930 w931 rfl (show decode cX6_at 1 = .ok (.invokestatic 142, 3) by decide +kernel) rfl ?_
  refine V_if_eq 22 Z (by decide) (show decode cX6_at 4 = .ok (.ifCond .eq 18, 3) by decide +kernel) (fun c6 => ?_) (fun c6 => ?_)
  · have h := zB_pos c6 h
    refine V_sub [0] rfl ?_
    exact J22 _ h
  · have h := zB_neg c6 h
    refine V_iload_n 2 Z rfl rfl (show decode cX6_at 7 = .ok (.iload_n 2, 1) by decide +kernel) ?_
    obtain ⟨v8, e7, h⟩ := zB_bind h
    refine V_callS (rest := []) 1 Z (ok_X6_isPerson  e7) cd_X6_isPerson w908 w909 rfl (show decode cX6_at 8 = .ok (.invokestatic 125, 3) by decide +kernel) rfl ?_
    refine V_if_eq 22 Z (by decide) (show decode cX6_at 11 = .ok (.ifCond .eq 11, 3) by decide +kernel) (fun c9 => ?_) (fun c9 => ?_)
    · have h := zB_pos c9 h
      refine V_sub [0] rfl ?_
      exact J22 _ h
    · have h := zB_neg c9 h
      refine V_iload_n 1 Z rfl rfl (show decode cX6_at 14 = .ok (.iload_n 1, 1) by decide +kernel) ?_
      refine V_iload_n 2 Z rfl rfl (show decode cX6_at 15 = .ok (.iload_n 2, 1) by decide +kernel) ?_
      obtain ⟨v11, e10, h⟩ := zB_bind h
      refine V_callS (rest := []) 2 Z (ok_X6_standsAt  e10) cd_X6_standsAt w919 w920 rfl (show decode cX6_at 16 = .ok (.invokestatic 136, 3) by decide +kernel) rfl ?_
      refine V_goto 28 Z (by decide) (show decode cX6_at 19 = .ok (.goto 9, 3) by decide +kernel) ?_
      exact V_iretM Z hE h (show decode cX6_at 28 = .ok (.ireturn, 1) by decide +kernel)
def f_X6_leastLeft_j34 (y2 : Int32) (M : zM) : Option (Int32) :=
  (zrd M 48 1).bind fun (v1 : Int32) =>
  if v1 ≤ y2 then
    some (((-1) : Int32))
  else
    some (y2)
def f_X6_leastLeft_l2 (y1 : Int32) (M : zM) : Int32 → Option ((Int32) ⊕ (Int32))
  | y2 =>
    (zrd M 48 1).bind fun (v4 : Int32) =>
    if v4 ≤ y2 then
      (f_X6_leastLeft_j34 y2 M).bind fun z => some (Sum.inr z)
    else
      (f_X6_hangs y2 M).bind fun (v8 : Int32) =>
      if v8 = 0 then
        (some (y2 + 1)).bind fun (n10 : Int32) =>
        some (.inl (n10))
      else
        (f_X6_has y1 y2 M).bind fun (v13 : Int32) =>
        if v13 = 0 then
          (f_X6_leastLeft_j34 y2 M).bind fun z => some (Sum.inr z)
        else
          (some (y2 + 1)).bind fun (n15 : Int32) =>
          some (.inl (n15))
def f_X6_leastLeft (x1 : Int32) (M : zM) : Option (Int32) :=
  zIter (f_X6_leastLeft_l2 x1 M) 1000 (0 : Int32)
theorem cd_X6_leastLeft : zCd yX6_leastLeft cX6_leastLeft 3 (some .int) 1 := ⟨w957, w69, ⟨by decide, by decide⟩, by decide +kernel⟩
set_option maxHeartbeats 4000000 in
set_option maxRecDepth 20000 in
theorem ok_X6_leastLeft {x1 : Int32} {M : zM} {y : Int32}  (h : f_X6_leastLeft x1 M = some y) : zRuns yX6_leastLeft cX6_leastLeft 3 (some .int) 3 64 [.ref 47, .int x1] M (some (.int y)) M := by
  refine zRuns_of (by decide +kernel) (Nat.le_of_ble_eq_true rfl) (fun E Z hE => ?_)
  have h := zB_top h
  change VV E 3 0 [(0, Value.ref 47), (1, Value.int x1)] [] M
  have J34 : ∀ (y2 : Int32), (f_X6_leastLeft_j34 y2 M).bind some = some y → VV E 3 34 [(0, Value.ref 47), (2, Value.int y2)] [] M := by
    intro y2 h
    refine V_iload_n 1 Z rfl rfl (show decode cX6_leastLeft 34 = .ok (.iload_n 2, 1) by decide +kernel) ?_
    refine V_aload_n 0 Z rfl rfl (show decode cX6_leastLeft 35 = .ok (.aload_n 0, 1) by decide +kernel) ?_
    refine V_getR 0 48 Z zc5 (by decide) rfl (by decide) rfl (by decide) ⟨rfl, rfl, rfl⟩ w766 (show decode cX6_leastLeft 36 = .ok (.getfield 9, 3) by decide +kernel) ?_
    refine V_iconst 1 (by decide) Z (show decode cX6_leastLeft 39 = .ok (.iconst 1, 1) by decide +kernel) ?_
    obtain ⟨v1, e2, h⟩ := zB_bind h
    refine V_iald Z e2 (show decode cX6_leastLeft 40 = .ok (.iaload, 1) by decide +kernel) ?_
    refine V_icmp_ge 48 Z (by decide) (show decode cX6_leastLeft 41 = .ok (.if_icmp .ge 7, 3) by decide +kernel) (fun c3 => ?_) (fun c3 => ?_)
    · have h := zB_pos c3 h
      refine V_iconst (-1) (by decide) Z (show decode cX6_leastLeft 48 = .ok (.iconst (-1), 1) by decide +kernel) ?_
      exact V_iretP Z hE h (show decode cX6_leastLeft 49 = .ok (.ireturn, 1) by decide +kernel)
    · have h := zB_neg c3 h
      refine V_iload_n 1 Z rfl rfl (show decode cX6_leastLeft 44 = .ok (.iload_n 2, 1) by decide +kernel) ?_
      refine V_goto 49 Z (by decide) (show decode cX6_leastLeft 45 = .ok (.goto 4, 3) by decide +kernel) ?_
      exact V_iretP Z hE h (show decode cX6_leastLeft 49 = .ok (.ireturn, 1) by decide +kernel)
  refine V_iconst 0 (by decide) Z (show decode cX6_leastLeft 0 = .ok (.iconst 0, 1) by decide +kernel) ?_
  refine V_istore_n [(2, Value.int 0), (0, Value.ref 47), (1, Value.int x1)] Z (by decide) rfl rfl (show decode cX6_leastLeft 1 = .ok (.istore_n 2, 1) by decide +kernel) ?_
  refine V_sub [1, 2, 0] rfl ?_
  refine zIter_loop' (K := some) (fun s : Int32 => VV E 3 2 [(0, Value.ref 47), (1, Value.int x1), (2, Value.int s)] [] M) (fun K1 y2 c1_i c1_r h => ?_) _ _ h
  rw [f_X6_leastLeft_l2] at h
  refine V_iload_n 2 Z rfl rfl (show decode cX6_leastLeft 2 = .ok (.iload_n 2, 1) by decide +kernel) ?_
  refine V_aload_n 0 Z rfl rfl (show decode cX6_leastLeft 3 = .ok (.aload_n 0, 1) by decide +kernel) ?_
  refine V_getR 0 48 Z zc5 (by decide) rfl (by decide) rfl (by decide) ⟨rfl, rfl, rfl⟩ w766 (show decode cX6_leastLeft 4 = .ok (.getfield 9, 3) by decide +kernel) ?_
  refine V_iconst 1 (by decide) Z (show decode cX6_leastLeft 7 = .ok (.iconst 1, 1) by decide +kernel) ?_
  obtain ⟨v4, e5, h⟩ := zB_bind h
  refine V_iald Z e5 (show decode cX6_leastLeft 8 = .ok (.iaload, 1) by decide +kernel) ?_
  refine V_icmp_ge 34 Z (by decide) (show decode cX6_leastLeft 9 = .ok (.if_icmp .ge 25, 3) by decide +kernel) (fun c6 => ?_) (fun c6 => ?_)
  · have h := zB_pos c6 h
    refine V_sub [0, 2] rfl ?_
    have h := zB_lift c1_r h
    exact J34 _ h
  · have h := zB_neg c6 h
    refine V_aload_n 0 Z rfl rfl (show decode cX6_leastLeft 12 = .ok (.aload_n 0, 1) by decide +kernel) ?_
    refine V_iload_n 2 Z rfl rfl (show decode cX6_leastLeft 13 = .ok (.iload_n 2, 1) by decide +kernel) ?_
    obtain ⟨v8, e7, h⟩ := zB_bind h
    refine V_callV (rest := []) 1 Z (ok_X6_hangs  e7) cd_X6_hangs zc5 (by decide) rfl w876 w878 w23 rfl (show decode cX6_leastLeft 14 = .ok (.invokevirtual 109, 3) by decide +kernel) rfl ?_
    refine V_if_eq 28 Z (by decide) (show decode cX6_leastLeft 17 = .ok (.ifCond .eq 11, 3) by decide +kernel) (fun c9 => ?_) (fun c9 => ?_)
    · have h := zB_pos c9 h
      obtain ⟨n10, e11, h⟩ := zB_let h
      refine V_iinck 1 1 2 n10 [(2, Value.int n10), (0, Value.ref 47), (1, Value.int x1)] Z (by decide) (by decide) rfl e11 rfl (show decode cX6_leastLeft 28 = .ok (.iinc 2 1, 3) by decide +kernel) ?_
      refine V_goto 2 Z (by decide) (show decode cX6_leastLeft 31 = .ok (.goto (-29), 3) by decide +kernel) ?_
      refine V_sub [1, 2, 0] rfl ?_
      exact c1_i _ h
    · have h := zB_neg c9 h
      refine V_iload_n 1 Z rfl rfl (show decode cX6_leastLeft 20 = .ok (.iload_n 1, 1) by decide +kernel) ?_
      refine V_iload_n 2 Z rfl rfl (show decode cX6_leastLeft 21 = .ok (.iload_n 2, 1) by decide +kernel) ?_
      obtain ⟨v13, e12, h⟩ := zB_bind h
      refine V_callS (rest := []) 2 Z (ok_X6_has  e12) cd_X6_has w923 w924 rfl (show decode cX6_leastLeft 22 = .ok (.invokestatic 133, 3) by decide +kernel) rfl ?_
      refine V_if_eq 34 Z (by decide) (show decode cX6_leastLeft 25 = .ok (.ifCond .eq 9, 3) by decide +kernel) (fun c14 => ?_) (fun c14 => ?_)
      · have h := zB_pos c14 h
        refine V_sub [0, 2] rfl ?_
        have h := zB_lift c1_r h
        exact J34 _ h
      · have h := zB_neg c14 h
        obtain ⟨n15, e16, h⟩ := zB_let h
        refine V_iinck 1 1 2 n15 [(2, Value.int n15), (0, Value.ref 47), (1, Value.int x1)] Z (by decide) (by decide) rfl e16 rfl (show decode cX6_leastLeft 28 = .ok (.iinc 2 1, 3) by decide +kernel) ?_
        refine V_goto 2 Z (by decide) (show decode cX6_leastLeft 31 = .ok (.goto (-29), 3) by decide +kernel) ?_
        refine V_sub [1, 2, 0] rfl ?_
        exact c1_i _ h
