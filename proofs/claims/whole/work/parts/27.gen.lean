/-! Generated walks: X6_lasts X6_broke X6_often X6_kindFor X6_doesDraw X6_orderFor X6_orders -/
def f_X6_lasts (x1 : Int32) (M : zM) : Option (Int32 × zM) :=
  (f_X6_isName x1 M).bind fun (v2 : Int32) =>
  if v2 = 0 then
    (f_X6_finding (-1000001) M).bind fun ((v12, M13) : Int32 × zM) =>
    some ((v12, M13))
  else
    (f_X6_hungFor x1 M).bind fun ((v5, M6) : Int32 × zM) =>
    if v5 ≤ 100 then
      some ((v5, M6))
    else
      (f_X6_finding (-1000004) M6).bind fun ((v9, M10) : Int32 × zM) =>
      some ((v9, M10))
theorem cd_X6_lasts : zCd yX6_lasts cX6_lasts 3 (some .int) 1 := ⟨w1013, w69, ⟨by decide, by decide⟩, by decide +kernel⟩
set_option maxHeartbeats 4000000 in
set_option maxRecDepth 20000 in
theorem ok_X6_lasts {x1 : Int32} {M : zM} {y : Int32 × zM}  (h : f_X6_lasts x1 M = some y) : zRuns yX6_lasts cX6_lasts 3 (some .int) 7 156 [.ref 47, .int x1] M (some (.int y.1)) y.2 := by
  refine zRuns_of (by decide +kernel) (Nat.le_of_ble_eq_true rfl) (fun E Z hE => ?_)
  have h := zB_top h
  change VV E 3 0 [(0, Value.ref 47), (1, Value.int x1)] [] M
  refine V_aload_n 0 Z rfl rfl (show decode cX6_lasts 0 = .ok (.aload_n 0, 1) by decide +kernel) ?_
  refine V_iload_n 1 Z rfl rfl (show decode cX6_lasts 1 = .ok (.iload_n 1, 1) by decide +kernel) ?_
  obtain ⟨v2, e1, h⟩ := zB_bind h
  refine V_callV (rest := []) 1 Z (ok_X6_isName  e1) cd_X6_isName zc5 (by decide) rfl w860 w862 w19 rfl (show decode cX6_lasts 2 = .ok (.invokevirtual 100, 3) by decide +kernel) rfl ?_
  refine V_if_ne 15 Z (by decide) (show decode cX6_lasts 5 = .ok (.ifCond .ne 10, 3) by decide +kernel) (fun c3 => ?_) (fun c3 => ?_)
  · have h := zB_neg c3 h
    refine V_aload_n 0 Z rfl rfl (show decode cX6_lasts 15 = .ok (.aload_n 0, 1) by decide +kernel) ?_
    refine V_iload_n 1 Z rfl rfl (show decode cX6_lasts 16 = .ok (.iload_n 1, 1) by decide +kernel) ?_
    obtain ⟨⟨v5, M6⟩, e4, h⟩ := zB_bind h
    refine V_callV (rest := []) 1 Z (ok_X6_hungFor  e4) cd_X6_hungFor zc5 (by decide) rfl w1014 w1016 w40 rfl (show decode cX6_lasts 17 = .ok (.invokevirtual 184, 3) by decide +kernel) rfl ?_
    refine V_istore_n [(2, Value.int v5), (0, Value.ref 47), (1, Value.int x1)] Z (by decide) rfl rfl (show decode cX6_lasts 20 = .ok (.istore_n 2, 1) by decide +kernel) ?_
    refine V_iload_n 0 Z rfl rfl (show decode cX6_lasts 21 = .ok (.iload_n 2, 1) by decide +kernel) ?_
    refine V_bipush 100 (by decide) Z (show decode cX6_lasts 22 = .ok (.bipush 100, 2) by decide +kernel) ?_
    refine V_icmp_le 36 Z (by decide) (show decode cX6_lasts 24 = .ok (.if_icmp .le 12, 3) by decide +kernel) (fun c7 => ?_) (fun c7 => ?_)
    · have h := zB_pos c7 h
      refine V_iload_n 0 Z rfl rfl (show decode cX6_lasts 36 = .ok (.iload_n 2, 1) by decide +kernel) ?_
      exact V_iretM Z hE h (show decode cX6_lasts 37 = .ok (.ireturn, 1) by decide +kernel)
    · have h := zB_neg c7 h
      refine V_aload_n 1 Z rfl rfl (show decode cX6_lasts 27 = .ok (.aload_n 0, 1) by decide +kernel) ?_
      refine V_ldc (-1000004) Z w1018 (show decode cX6_lasts 28 = .ok (.ldc 71, 2) by decide +kernel) ?_
      obtain ⟨⟨v9, M10⟩, e8, h⟩ := zB_bind h
      refine V_callV (rest := []) 1 Z (ok_X6_finding  e8) cd_X6_finding zc5 (by decide) rfl w844 w846 w17 rfl (show decode cX6_lasts 30 = .ok (.invokevirtual 72, 3) by decide +kernel) rfl ?_
      refine V_goto 37 Z (by decide) (show decode cX6_lasts 33 = .ok (.goto 4, 3) by decide +kernel) ?_
      exact V_iretM Z hE h (show decode cX6_lasts 37 = .ok (.ireturn, 1) by decide +kernel)
  · have h := zB_pos c3 h
    refine V_aload_n 0 Z rfl rfl (show decode cX6_lasts 8 = .ok (.aload_n 0, 1) by decide +kernel) ?_
    refine V_ldc (-1000001) Z w843 (show decode cX6_lasts 9 = .ok (.ldc 66, 2) by decide +kernel) ?_
    obtain ⟨⟨v12, M13⟩, e11, h⟩ := zB_bind h
    refine V_callV (rest := []) 1 Z (ok_X6_finding  e11) cd_X6_finding zc5 (by decide) rfl w844 w846 w17 rfl (show decode cX6_lasts 11 = .ok (.invokevirtual 72, 3) by decide +kernel) rfl ?_
    exact V_iretM Z hE h (show decode cX6_lasts 14 = .ok (.ireturn, 1) by decide +kernel)
def f_X6_broke_j74 (s0 : Int32) (M : zM) : Option (Int32 × zM) :=
  (f_X6_putBack s0 M).bind fun ((v2, M3) : Int32 × zM) =>
  (f_X6_orNone v2 M3).bind fun ((v5, M6) : Int32 × zM) =>
  some ((v5, M6))
def f_X6_broke_j55 (y1 : Int32) (y2 : Int32) (M : zM) : Option (Int32 × zM) :=
  (zrd M 48 (55 + y1)).bind fun (v7 : Int32) =>
  if v7 = 0 then
    f_X6_broke_j74 y2 M
  else
    f_X6_broke_j74 (-1) M
def f_X6_broke_l27 (y1 : Int32) : Int32 × zM → Option ((Int32 × zM) ⊕ (Int32 × zM))
  | (y2, M) =>
    if 100 ≤ y2 then
      (f_X6_broke_j55 y1 y2 M).bind fun z => some (Sum.inr z)
    else
      (zrd M 48 (55 + y1)).bind fun (v16 : Int32) =>
      if v16 ≤ 0 then
        (f_X6_broke_j55 y1 y2 M).bind fun z => some (Sum.inr z)
      else
        (f_X6_day  M).bind fun (M20 : zM) =>
        (some (y2 + 1)).bind fun (n21 : Int32) =>
        some (.inl ((n21, M20)))
def f_X6_broke (x1 : Int32) (M : zM) : Option (Int32 × zM) :=
  (f_X6_isPerson x1 M).bind fun (v11 : Int32) =>
  if v11 = 0 then
    (f_X6_finding (-1000001) M).bind fun ((v24, M25) : Int32 × zM) =>
    some ((v24, M25))
  else
    (f_X6_copyRow 48 50 M).bind fun (M14 : zM) =>
    zIter (f_X6_broke_l27 x1) 1000 (0, M14)
theorem cd_X6_broke : zCd yX6_broke cX6_broke 3 (some .int) 1 := ⟨w1022, w69, ⟨by decide, by decide⟩, by decide +kernel⟩
set_option maxHeartbeats 4000000 in
set_option maxRecDepth 20000 in
theorem ok_X6_broke {x1 : Int32} {M : zM} {y : Int32 × zM}  (h : f_X6_broke x1 M = some y) : zRuns yX6_broke cX6_broke 3 (some .int) 6 134 [.ref 47, .int x1] M (some (.int y.1)) y.2 := by
  refine zRuns_of (by decide +kernel) (Nat.le_of_ble_eq_true rfl) (fun E Z hE => ?_)
  have h := zB_top h
  change VV E 3 0 [(0, Value.ref 47), (1, Value.int x1)] [] M
  have J74 : ∀ (s0 : Int32) (M : zM), (f_X6_broke_j74 s0 M).bind some = some y → VV E 3 74 [] [Value.int s0, Value.ref 47, Value.ref 47] M := by
    intro s0 M h
    obtain ⟨⟨v2, M3⟩, e1, h⟩ := zB_bind h
    refine V_callV (rest := [_]) 1 Z (ok_X6_putBack  e1) cd_X6_putBack zc5 (by decide) rfl w1002 w1004 w39 rfl (show decode cX6_broke 74 = .ok (.invokevirtual 178, 3) by decide +kernel) rfl ?_
    obtain ⟨⟨v5, M6⟩, e4, h⟩ := zB_bind h
    refine V_callV (rest := []) 1 Z (ok_X6_orNone  e4) cd_X6_orNone zc5 (by decide) rfl w1023 w1025 w41 rfl (show decode cX6_broke 77 = .ok (.invokevirtual 187, 3) by decide +kernel) rfl ?_
    exact V_iretM Z hE h (show decode cX6_broke 80 = .ok (.ireturn, 1) by decide +kernel)
  have J55 : ∀ (y1 : Int32) (y2 : Int32) (M : zM), (f_X6_broke_j55 y1 y2 M).bind some = some y → VV E 3 55 [(0, Value.ref 47), (1, Value.int y1), (2, Value.int y2)] [] M := by
    intro y1 y2 M h
    refine V_aload_n 0 Z rfl rfl (show decode cX6_broke 55 = .ok (.aload_n 0, 1) by decide +kernel) ?_
    refine V_aload_n 0 Z rfl rfl (show decode cX6_broke 56 = .ok (.aload_n 0, 1) by decide +kernel) ?_
    refine V_aload_n 0 Z rfl rfl (show decode cX6_broke 57 = .ok (.aload_n 0, 1) by decide +kernel) ?_
    refine V_getR 0 48 Z zc5 (by decide) rfl (by decide) rfl (by decide) ⟨rfl, rfl, rfl⟩ w766 (show decode cX6_broke 58 = .ok (.getfield 9, 3) by decide +kernel) ?_
    refine V_bipush 55 (by decide) Z (show decode cX6_broke 61 = .ok (.bipush 55, 2) by decide +kernel) ?_
    refine V_iload_n 1 Z rfl rfl (show decode cX6_broke 63 = .ok (.iload_n 1, 1) by decide +kernel) ?_
    refine V_iadd Z (show decode cX6_broke 64 = .ok (.iadd, 1) by decide +kernel) ?_
    obtain ⟨v7, e8, h⟩ := zB_bind h
    refine V_iald Z e8 (show decode cX6_broke 65 = .ok (.iaload, 1) by decide +kernel) ?_
    refine V_if_ne 73 Z (by decide) (show decode cX6_broke 66 = .ok (.ifCond .ne 7, 3) by decide +kernel) (fun c9 => ?_) (fun c9 => ?_)
    · have h := zB_neg c9 h
      refine V_iconst (-1) (by decide) Z (show decode cX6_broke 73 = .ok (.iconst (-1), 1) by decide +kernel) ?_
      refine V_sub [] rfl ?_
      exact J74 _ _ h
    · have h := zB_pos c9 h
      refine V_iload_n 2 Z rfl rfl (show decode cX6_broke 69 = .ok (.iload_n 2, 1) by decide +kernel) ?_
      refine V_goto 74 Z (by decide) (show decode cX6_broke 70 = .ok (.goto 4, 3) by decide +kernel) ?_
      refine V_sub [] rfl ?_
      exact J74 _ _ h
  refine V_iload_n 1 Z rfl rfl (show decode cX6_broke 0 = .ok (.iload_n 1, 1) by decide +kernel) ?_
  obtain ⟨v11, e10, h⟩ := zB_bind h
  refine V_callS (rest := []) 1 Z (ok_X6_isPerson  e10) cd_X6_isPerson w908 w909 rfl (show decode cX6_broke 1 = .ok (.invokestatic 125, 3) by decide +kernel) rfl ?_
  refine V_if_ne 14 Z (by decide) (show decode cX6_broke 4 = .ok (.ifCond .ne 10, 3) by decide +kernel) (fun c12 => ?_) (fun c12 => ?_)
  · have h := zB_neg c12 h
    refine V_aload_n 0 Z rfl rfl (show decode cX6_broke 14 = .ok (.aload_n 0, 1) by decide +kernel) ?_
    refine V_getR 0 48 Z zc5 (by decide) rfl (by decide) rfl (by decide) ⟨rfl, rfl, rfl⟩ w766 (show decode cX6_broke 15 = .ok (.getfield 9, 3) by decide +kernel) ?_
    refine V_aload_n 0 Z rfl rfl (show decode cX6_broke 18 = .ok (.aload_n 0, 1) by decide +kernel) ?_
    refine V_getR 2 50 Z zc5 (by decide) rfl (by decide) rfl (by decide) ⟨rfl, rfl, rfl⟩ w768 (show decode cX6_broke 19 = .ok (.getfield 16, 3) by decide +kernel) ?_
    obtain ⟨M14, e13, h⟩ := zB_bind h
    refine V_callS (rest := []) 2 Z (ok_X6_copyRow  e13) cd_X6_copyRow w999 w1000 rfl (show decode cX6_broke 22 = .ok (.invokestatic 67, 3) by decide +kernel) rfl ?_
    refine V_iconst 0 (by decide) Z (show decode cX6_broke 25 = .ok (.iconst 0, 1) by decide +kernel) ?_
    refine V_istore_n [(2, Value.int 0), (0, Value.ref 47), (1, Value.int x1)] Z (by decide) rfl rfl (show decode cX6_broke 26 = .ok (.istore_n 2, 1) by decide +kernel) ?_
    refine V_sub [1, 2, 0] rfl ?_
    refine zIter_loop' (K := some) (fun s : Int32 × zM => VV E 3 27 [(0, Value.ref 47), (1, Value.int x1), (2, Value.int s.1)] [] s.2) (fun K1 s c1_i c1_r h => ?_) _ _ h
    obtain ⟨y2, M⟩ := s
    change VV E 3 27 [(0, Value.ref 47), (1, Value.int x1), (2, Value.int y2)] [] M
    refine V_iload_n 2 Z rfl rfl (show decode cX6_broke 27 = .ok (.iload_n 2, 1) by decide +kernel) ?_
    refine V_bipush 100 (by decide) Z (show decode cX6_broke 28 = .ok (.bipush 100, 2) by decide +kernel) ?_
    refine V_icmp_ge 55 Z (by decide) (show decode cX6_broke 30 = .ok (.if_icmp .ge 25, 3) by decide +kernel) (fun c15 => ?_) (fun c15 => ?_)
    · have h := zB_pos c15 h
      have h := zB_lift c1_r h
      exact J55 _ _ _ h
    · have h := zB_neg c15 h
      refine V_aload_n 0 Z rfl rfl (show decode cX6_broke 33 = .ok (.aload_n 0, 1) by decide +kernel) ?_
      refine V_getR 0 48 Z zc5 (by decide) rfl (by decide) rfl (by decide) ⟨rfl, rfl, rfl⟩ w766 (show decode cX6_broke 34 = .ok (.getfield 9, 3) by decide +kernel) ?_
      refine V_bipush 55 (by decide) Z (show decode cX6_broke 37 = .ok (.bipush 55, 2) by decide +kernel) ?_
      refine V_iload_n 1 Z rfl rfl (show decode cX6_broke 39 = .ok (.iload_n 1, 1) by decide +kernel) ?_
      refine V_iadd Z (show decode cX6_broke 40 = .ok (.iadd, 1) by decide +kernel) ?_
      obtain ⟨v16, e17, h⟩ := zB_bind h
      refine V_iald Z e17 (show decode cX6_broke 41 = .ok (.iaload, 1) by decide +kernel) ?_
      refine V_if_le 55 Z (by decide) (show decode cX6_broke 42 = .ok (.ifCond .le 13, 3) by decide +kernel) (fun c18 => ?_) (fun c18 => ?_)
      · have h := zB_pos c18 h
        have h := zB_lift c1_r h
        exact J55 _ _ _ h
      · have h := zB_neg c18 h
        refine V_aload_n 0 Z rfl rfl (show decode cX6_broke 45 = .ok (.aload_n 0, 1) by decide +kernel) ?_
        obtain ⟨M20, e19, h⟩ := zB_bind h
        refine V_callV (rest := []) 0 Z (ok_X6_day  e19) cd_X6_day zc5 (by decide) rfl w946 w948 w30 rfl (show decode cX6_broke 46 = .ok (.invokevirtual 161, 3) by decide +kernel) rfl ?_
        obtain ⟨n21, e22, h⟩ := zB_let h
        refine V_iinck 1 1 2 n21 [(2, Value.int n21), (0, Value.ref 47), (1, Value.int x1)] Z (by decide) (by decide) rfl e22 rfl (show decode cX6_broke 49 = .ok (.iinc 2 1, 3) by decide +kernel) ?_
        refine V_goto 27 Z (by decide) (show decode cX6_broke 52 = .ok (.goto (-25), 3) by decide +kernel) ?_
        refine V_sub [1, 2, 0] rfl ?_
        exact c1_i _ h
  · have h := zB_pos c12 h
    refine V_aload_n 0 Z rfl rfl (show decode cX6_broke 7 = .ok (.aload_n 0, 1) by decide +kernel) ?_
    refine V_ldc (-1000001) Z w843 (show decode cX6_broke 8 = .ok (.ldc 66, 2) by decide +kernel) ?_
    obtain ⟨⟨v24, M25⟩, e23, h⟩ := zB_bind h
    refine V_callV (rest := []) 1 Z (ok_X6_finding  e23) cd_X6_finding zc5 (by decide) rfl w844 w846 w17 rfl (show decode cX6_broke 10 = .ok (.invokevirtual 72, 3) by decide +kernel) rfl ?_
    exact V_iretM Z hE h (show decode cX6_broke 13 = .ok (.ireturn, 1) by decide +kernel)
def f_X6_often_j85 (y4 : Int32) (M : zM) : Option (Int32 × zM) :=
  (f_X6_putBack y4 M).bind fun ((v2, M3) : Int32 × zM) =>
  some ((v2, M3))
def f_X6_often_j25 (M : zM) : Option (Int32 × zM) :=
  (f_X6_finding (-1000001) M).bind fun ((v5, M6) : Int32 × zM) =>
  some ((v5, M6))
def f_X6_often_l49 (y1 : Int32) (y2 : Int32) (y3 : Int32) : Int32 × Int32 × zM → Option ((Int32 × Int32 × zM) ⊕ (Int32 × zM))
  | (y4, y5, M) =>
    if y3 ≤ y5 then
      (f_X6_often_j85 y4 M).bind fun z => some (Sum.inr z)
    else
      (f_X6_day  M).bind fun (M20 : zM) =>
      (zrd M20 52 y1).bind fun (v21 : Int32) =>
      if v21 = y2 then
        (some ((y4 + 1))).bind fun (n28 : Int32) =>
        (some (y5 + 1)).bind fun (n30 : Int32) =>
        some (.inl ((n28, n30, M20)))
      else
        (some ((y4 + 0))).bind fun (n24 : Int32) =>
        (some (y5 + 1)).bind fun (n26 : Int32) =>
        some (.inl ((n24, n26, M20)))
def f_X6_often (x1 : Int32) (x2 : Int32) (x3 : Int32) (M : zM) : Option (Int32 × zM) :=
  (f_X6_isPerson x1 M).bind fun (v8 : Int32) =>
  if v8 = 0 then
    f_X6_often_j25  M
  else
    (f_X6_isName x2 M).bind fun (v11 : Int32) =>
    if v11 = 0 then
      f_X6_often_j25  M
    else
      (f_X6_within x3 0 100 M).bind fun (v14 : Int32) =>
      if v14 = 0 then
        f_X6_often_j25  M
      else
        (f_X6_copyRow 48 50 M).bind fun (M17 : zM) =>
        zIter (f_X6_often_l49 x1 x2 x3) 1000 (0, 0, M17)
theorem cd_X6_often : zCd yX6_often cX6_often 6 (some .int) 3 := ⟨w1030, w69, ⟨by decide, by decide⟩, by decide +kernel⟩
set_option maxHeartbeats 4000000 in
set_option maxRecDepth 20000 in
theorem ok_X6_often {x1 : Int32} {x2 : Int32} {x3 : Int32} {M : zM} {y : Int32 × zM}  (h : f_X6_often x1 x2 x3 M = some y) : zRuns yX6_often cX6_often 6 (some .int) 6 134 [.ref 47, .int x1, .int x2, .int x3] M (some (.int y.1)) y.2 := by
  refine zRuns_of (by decide +kernel) (Nat.le_of_ble_eq_true rfl) (fun E Z hE => ?_)
  have h := zB_top h
  change VV E 6 0 [(0, Value.ref 47), (1, Value.int x1), (2, Value.int x2), (3, Value.int x3)] [] M
  have J85 : ∀ (y4 : Int32) (M : zM), (f_X6_often_j85 y4 M).bind some = some y → VV E 6 85 [(0, Value.ref 47), (4, Value.int y4)] [] M := by
    intro y4 M h
    refine V_aload_n 0 Z rfl rfl (show decode cX6_often 85 = .ok (.aload_n 0, 1) by decide +kernel) ?_
    refine V_iload 1 Z rfl (show decode cX6_often 86 = .ok (.iload 4, 2) by decide +kernel) ?_
    obtain ⟨⟨v2, M3⟩, e1, h⟩ := zB_bind h
    refine V_callV (rest := []) 1 Z (ok_X6_putBack  e1) cd_X6_putBack zc5 (by decide) rfl w1002 w1004 w39 rfl (show decode cX6_often 88 = .ok (.invokevirtual 178, 3) by decide +kernel) rfl ?_
    exact V_iretM Z hE h (show decode cX6_often 91 = .ok (.ireturn, 1) by decide +kernel)
  have J25 : ∀ (M : zM), (f_X6_often_j25  M).bind some = some y → VV E 6 25 [(0, Value.ref 47)] [] M := by
    intro  M h
    refine V_aload_n 0 Z rfl rfl (show decode cX6_often 25 = .ok (.aload_n 0, 1) by decide +kernel) ?_
    refine V_ldc (-1000001) Z w843 (show decode cX6_often 26 = .ok (.ldc 66, 2) by decide +kernel) ?_
    obtain ⟨⟨v5, M6⟩, e4, h⟩ := zB_bind h
    refine V_callV (rest := []) 1 Z (ok_X6_finding  e4) cd_X6_finding zc5 (by decide) rfl w844 w846 w17 rfl (show decode cX6_often 28 = .ok (.invokevirtual 72, 3) by decide +kernel) rfl ?_
    exact V_iretM Z hE h (show decode cX6_often 31 = .ok (.ireturn, 1) by decide +kernel)
  refine V_iload_n 1 Z rfl rfl (show decode cX6_often 0 = .ok (.iload_n 1, 1) by decide +kernel) ?_
  obtain ⟨v8, e7, h⟩ := zB_bind h
  refine V_callS (rest := []) 1 Z (ok_X6_isPerson  e7) cd_X6_isPerson w908 w909 rfl (show decode cX6_often 1 = .ok (.invokestatic 125, 3) by decide +kernel) rfl ?_
  refine V_if_eq 25 Z (by decide) (show decode cX6_often 4 = .ok (.ifCond .eq 21, 3) by decide +kernel) (fun c9 => ?_) (fun c9 => ?_)
  · have h := zB_pos c9 h
    refine V_sub [0] rfl ?_
    exact J25 _ h
  · have h := zB_neg c9 h
    refine V_aload_n 0 Z rfl rfl (show decode cX6_often 7 = .ok (.aload_n 0, 1) by decide +kernel) ?_
    refine V_iload_n 2 Z rfl rfl (show decode cX6_often 8 = .ok (.iload_n 2, 1) by decide +kernel) ?_
    obtain ⟨v11, e10, h⟩ := zB_bind h
    refine V_callV (rest := []) 1 Z (ok_X6_isName  e10) cd_X6_isName zc5 (by decide) rfl w860 w862 w19 rfl (show decode cX6_often 9 = .ok (.invokevirtual 100, 3) by decide +kernel) rfl ?_
    refine V_if_eq 25 Z (by decide) (show decode cX6_often 12 = .ok (.ifCond .eq 13, 3) by decide +kernel) (fun c12 => ?_) (fun c12 => ?_)
    · have h := zB_pos c12 h
      refine V_sub [0] rfl ?_
      exact J25 _ h
    · have h := zB_neg c12 h
      refine V_iload_n 3 Z rfl rfl (show decode cX6_often 15 = .ok (.iload_n 3, 1) by decide +kernel) ?_
      refine V_iconst 0 (by decide) Z (show decode cX6_often 16 = .ok (.iconst 0, 1) by decide +kernel) ?_
      refine V_bipush 100 (by decide) Z (show decode cX6_often 17 = .ok (.bipush 100, 2) by decide +kernel) ?_
      obtain ⟨v14, e13, h⟩ := zB_bind h
      refine V_callS (rest := []) 3 Z (ok_X6_within  e13) cd_X6_within w840 w841 rfl (show decode cX6_often 19 = .ok (.invokestatic 76, 3) by decide +kernel) rfl ?_
      refine V_if_ne 32 Z (by decide) (show decode cX6_often 22 = .ok (.ifCond .ne 10, 3) by decide +kernel) (fun c15 => ?_) (fun c15 => ?_)
      · have h := zB_neg c15 h
        refine V_aload_n 0 Z rfl rfl (show decode cX6_often 32 = .ok (.aload_n 0, 1) by decide +kernel) ?_
        refine V_getR 0 48 Z zc5 (by decide) rfl (by decide) rfl (by decide) ⟨rfl, rfl, rfl⟩ w766 (show decode cX6_often 33 = .ok (.getfield 9, 3) by decide +kernel) ?_
        refine V_aload_n 0 Z rfl rfl (show decode cX6_often 36 = .ok (.aload_n 0, 1) by decide +kernel) ?_
        refine V_getR 2 50 Z zc5 (by decide) rfl (by decide) rfl (by decide) ⟨rfl, rfl, rfl⟩ w768 (show decode cX6_often 37 = .ok (.getfield 16, 3) by decide +kernel) ?_
        obtain ⟨M17, e16, h⟩ := zB_bind h
        refine V_callS (rest := []) 2 Z (ok_X6_copyRow  e16) cd_X6_copyRow w999 w1000 rfl (show decode cX6_often 40 = .ok (.invokestatic 67, 3) by decide +kernel) rfl ?_
        refine V_iconst 0 (by decide) Z (show decode cX6_often 43 = .ok (.iconst 0, 1) by decide +kernel) ?_
        refine V_istore [(4, Value.int 0), (0, Value.ref 47), (1, Value.int x1), (2, Value.int x2), (3, Value.int x3)] Z (by decide) rfl (show decode cX6_often 44 = .ok (.istore 4, 2) by decide +kernel) ?_
        refine V_iconst 0 (by decide) Z (show decode cX6_often 46 = .ok (.iconst 0, 1) by decide +kernel) ?_
        refine V_istore [(5, Value.int 0), (4, Value.int 0), (0, Value.ref 47), (1, Value.int x1), (2, Value.int x2), (3, Value.int x3)] Z (by decide) rfl (show decode cX6_often 47 = .ok (.istore 5, 2) by decide +kernel) ?_
        refine V_sub [2, 3, 4, 5, 1, 0] rfl ?_
        refine zIter_loop' (K := some) (fun s : Int32 × Int32 × zM => VV E 6 49 [(0, Value.ref 47), (1, Value.int x1), (2, Value.int x2), (3, Value.int x3), (4, Value.int s.1), (5, Value.int s.2.1)] [] s.2.2) (fun K1 s c1_i c1_r h => ?_) _ _ h
        obtain ⟨y4, y5, M⟩ := s
        change VV E 6 49 [(0, Value.ref 47), (1, Value.int x1), (2, Value.int x2), (3, Value.int x3), (4, Value.int y4), (5, Value.int y5)] [] M
        refine V_iload 5 Z rfl (show decode cX6_often 49 = .ok (.iload 5, 2) by decide +kernel) ?_
        refine V_iload_n 3 Z rfl rfl (show decode cX6_often 51 = .ok (.iload_n 3, 1) by decide +kernel) ?_
        refine V_icmp_ge 85 Z (by decide) (show decode cX6_often 52 = .ok (.if_icmp .ge 33, 3) by decide +kernel) (fun c18 => ?_) (fun c18 => ?_)
        · have h := zB_pos c18 h
          refine V_sub [0, 4] rfl ?_
          have h := zB_lift c1_r h
          exact J85 _ _ h
        · have h := zB_neg c18 h
          refine V_aload_n 0 Z rfl rfl (show decode cX6_often 55 = .ok (.aload_n 0, 1) by decide +kernel) ?_
          obtain ⟨M20, e19, h⟩ := zB_bind h
          refine V_callV (rest := []) 0 Z (ok_X6_day  e19) cd_X6_day zc5 (by decide) rfl w946 w948 w30 rfl (show decode cX6_often 56 = .ok (.invokevirtual 161, 3) by decide +kernel) rfl ?_
          refine V_iload 4 Z rfl (show decode cX6_often 59 = .ok (.iload 4, 2) by decide +kernel) ?_
          refine V_aload_n 0 Z rfl rfl (show decode cX6_often 61 = .ok (.aload_n 0, 1) by decide +kernel) ?_
          refine V_getR 5 52 Z zc5 (by decide) rfl (by decide) rfl (by decide) ⟨rfl, rfl, rfl⟩ w771 (show decode cX6_often 62 = .ok (.getfield 22, 3) by decide +kernel) ?_
          refine V_iload_n 1 Z rfl rfl (show decode cX6_often 65 = .ok (.iload_n 1, 1) by decide +kernel) ?_
          obtain ⟨v21, e22, h⟩ := zB_bind h
          refine V_iald Z e22 (show decode cX6_often 66 = .ok (.iaload, 1) by decide +kernel) ?_
          refine V_iload_n 2 Z rfl rfl (show decode cX6_often 67 = .ok (.iload_n 2, 1) by decide +kernel) ?_
          refine V_icmp_ne 75 Z (by decide) (show decode cX6_often 68 = .ok (.if_icmp .ne 7, 3) by decide +kernel) (fun c23 => ?_) (fun c23 => ?_)
          · have h := zB_neg c23 h
            refine V_iconst 0 (by decide) Z (show decode cX6_often 75 = .ok (.iconst 0, 1) by decide +kernel) ?_
            refine V_iadd Z (show decode cX6_often 76 = .ok (.iadd, 1) by decide +kernel) ?_
            obtain ⟨n24, e25, h⟩ := zB_let h
            refine V_nm e25 ?_
            refine V_istore [(4, Value.int n24), (0, Value.ref 47), (1, Value.int x1), (2, Value.int x2), (3, Value.int x3), (5, Value.int y5)] Z (by decide) rfl (show decode cX6_often 77 = .ok (.istore 4, 2) by decide +kernel) ?_
            obtain ⟨n26, e27, h⟩ := zB_let h
            refine V_iinck 1 1 5 n26 [(5, Value.int n26), (4, Value.int n24), (0, Value.ref 47), (1, Value.int x1), (2, Value.int x2), (3, Value.int x3)] Z (by decide) (by decide) rfl e27 rfl (show decode cX6_often 79 = .ok (.iinc 5 1, 3) by decide +kernel) ?_
            refine V_goto 49 Z (by decide) (show decode cX6_often 82 = .ok (.goto (-33), 3) by decide +kernel) ?_
            refine V_sub [2, 3, 4, 5, 1, 0] rfl ?_
            exact c1_i _ h
          · have h := zB_pos c23 h
            refine V_iconst 1 (by decide) Z (show decode cX6_often 71 = .ok (.iconst 1, 1) by decide +kernel) ?_
            refine V_goto 76 Z (by decide) (show decode cX6_often 72 = .ok (.goto 4, 3) by decide +kernel) ?_
            refine V_iadd Z (show decode cX6_often 76 = .ok (.iadd, 1) by decide +kernel) ?_
            obtain ⟨n28, e29, h⟩ := zB_let h
            refine V_nm e29 ?_
            refine V_istore [(4, Value.int n28), (0, Value.ref 47), (1, Value.int x1), (2, Value.int x2), (3, Value.int x3), (5, Value.int y5)] Z (by decide) rfl (show decode cX6_often 77 = .ok (.istore 4, 2) by decide +kernel) ?_
            obtain ⟨n30, e31, h⟩ := zB_let h
            refine V_iinck 1 1 5 n30 [(5, Value.int n30), (4, Value.int n28), (0, Value.ref 47), (1, Value.int x1), (2, Value.int x2), (3, Value.int x3)] Z (by decide) (by decide) rfl e31 rfl (show decode cX6_often 79 = .ok (.iinc 5 1, 3) by decide +kernel) ?_
            refine V_goto 49 Z (by decide) (show decode cX6_often 82 = .ok (.goto (-33), 3) by decide +kernel) ?_
            refine V_sub [2, 3, 4, 5, 1, 0] rfl ?_
            exact c1_i _ h
      · have h := zB_pos c15 h
        refine V_sub [0] rfl ?_
        exact J25 _ h
def f_X6_kindFor_j90 (y1 : Int32) (y2 : Int32) (y3 : Int32) (M : zM) : Option (Int32 × zM) :=
  (f_X6_place y1 0 M).bind fun (v2 : Int32) =>
  (zwr M 48 v2 y2).bind fun (M3 : zM) =>
  some ((y3, M3))
def f_X6_kindFor_j74 (y1 : Int32) (y2 : Int32) (y4 : Int32) (y5 : Int32) (y6 : Int32) (s0 : Int32) (M : zM) : Option ((Int32 × Int32 × Int32 × zM) ⊕ (Int32 × zM)) :=
  (some ((if y4 < y6 then y6 else y4))).bind fun (n10 : Int32) =>
  (some (y5 + 1)).bind fun (n12 : Int32) =>
  some (.inl ((s0, n10, n12, M)))
def f_X6_kindFor_l30 (y1 : Int32) (y2 : Int32) : Int32 × Int32 × Int32 × zM → Option ((Int32 × Int32 × Int32 × zM) ⊕ (Int32 × zM))
  | (y3, y4, y5, M) =>
    if 6 < y5 then
      (f_X6_kindFor_j90 y1 y2 y3 M).bind fun z => some (Sum.inr z)
    else
      (f_X6_place y1 0 M).bind fun (v16 : Int32) =>
      (zwr M 48 v16 y5).bind fun (M17 : zM) =>
      (f_X6_hungFor y1 M17).bind fun ((v20, M21) : Int32 × zM) =>
      (some ((if v20 < 100 then v20 else 100))).bind fun (n22 : Int32) =>
      if n22 ≤ y4 then
        f_X6_kindFor_j74 y1 y2 y4 y5 n22 y3 M21
      else
        f_X6_kindFor_j74 y1 y2 y4 y5 n22 y5 M21
def f_X6_kindFor (x1 : Int32) (M : zM) : Option (Int32 × zM) :=
  (f_X6_isName x1 M).bind fun (v6 : Int32) =>
  if v6 = 0 then
    (f_X6_finding (-1000001) M).bind fun ((v26, M27) : Int32 × zM) =>
    some ((v26, M27))
  else
    (f_X6_nameIs x1 0 M).bind fun (v9 : Int32) =>
    zIter (f_X6_kindFor_l30 x1 v9) 1000 (0, (-1), 0, M)
theorem cd_X6_kindFor : zCd yX6_kindFor cX6_kindFor 7 (some .int) 1 := ⟨w1034, w69, ⟨by decide, by decide⟩, by decide +kernel⟩
set_option maxHeartbeats 4000000 in
set_option maxRecDepth 20000 in
theorem ok_X6_kindFor {x1 : Int32} {M : zM} {y : Int32 × zM}  (h : f_X6_kindFor x1 M = some y) : zRuns yX6_kindFor cX6_kindFor 7 (some .int) 7 156 [.ref 47, .int x1] M (some (.int y.1)) y.2 := by
  refine zRuns_of (by decide +kernel) (Nat.le_of_ble_eq_true rfl) (fun E Z hE => ?_)
  have h := zB_top h
  change VV E 7 0 [(0, Value.ref 47), (1, Value.int x1)] [] M
  have J90 : ∀ (y1 : Int32) (y2 : Int32) (y3 : Int32) (M : zM), (f_X6_kindFor_j90 y1 y2 y3 M).bind some = some y → VV E 7 90 [(0, Value.ref 47), (1, Value.int y1), (2, Value.int y2), (3, Value.int y3)] [] M := by
    intro y1 y2 y3 M h
    refine V_aload_n 0 Z rfl rfl (show decode cX6_kindFor 90 = .ok (.aload_n 0, 1) by decide +kernel) ?_
    refine V_getR 0 48 Z zc5 (by decide) rfl (by decide) rfl (by decide) ⟨rfl, rfl, rfl⟩ w766 (show decode cX6_kindFor 91 = .ok (.getfield 9, 3) by decide +kernel) ?_
    refine V_iload_n 1 Z rfl rfl (show decode cX6_kindFor 94 = .ok (.iload_n 1, 1) by decide +kernel) ?_
    refine V_iconst 0 (by decide) Z (show decode cX6_kindFor 95 = .ok (.iconst 0, 1) by decide +kernel) ?_
    obtain ⟨v2, e1, h⟩ := zB_bind h
    refine V_callS (rest := [_]) 2 Z (ok_X6_place  e1) cd_X6_place w853 w854 rfl (show decode cX6_kindFor 96 = .ok (.invokestatic 80, 3) by decide +kernel) rfl ?_
    refine V_iload_n 2 Z rfl rfl (show decode cX6_kindFor 99 = .ok (.iload_n 2, 1) by decide +kernel) ?_
    obtain ⟨M3, e4, h⟩ := zB_bind h
    refine V_iast Z e4 (show decode cX6_kindFor 100 = .ok (.iastore, 1) by decide +kernel) ?_
    refine V_iload_n 3 Z rfl rfl (show decode cX6_kindFor 101 = .ok (.iload_n 3, 1) by decide +kernel) ?_
    exact V_iretM Z hE h (show decode cX6_kindFor 102 = .ok (.ireturn, 1) by decide +kernel)
  refine V_aload_n 0 Z rfl rfl (show decode cX6_kindFor 0 = .ok (.aload_n 0, 1) by decide +kernel) ?_
  refine V_iload_n 1 Z rfl rfl (show decode cX6_kindFor 1 = .ok (.iload_n 1, 1) by decide +kernel) ?_
  obtain ⟨v6, e5, h⟩ := zB_bind h
  refine V_callV (rest := []) 1 Z (ok_X6_isName  e5) cd_X6_isName zc5 (by decide) rfl w860 w862 w19 rfl (show decode cX6_kindFor 2 = .ok (.invokevirtual 100, 3) by decide +kernel) rfl ?_
  refine V_if_ne 15 Z (by decide) (show decode cX6_kindFor 5 = .ok (.ifCond .ne 10, 3) by decide +kernel) (fun c7 => ?_) (fun c7 => ?_)
  · have h := zB_neg c7 h
    refine V_aload_n 0 Z rfl rfl (show decode cX6_kindFor 15 = .ok (.aload_n 0, 1) by decide +kernel) ?_
    refine V_iload_n 1 Z rfl rfl (show decode cX6_kindFor 16 = .ok (.iload_n 1, 1) by decide +kernel) ?_
    refine V_iconst 0 (by decide) Z (show decode cX6_kindFor 17 = .ok (.iconst 0, 1) by decide +kernel) ?_
    obtain ⟨v9, e8, h⟩ := zB_bind h
    refine V_callV (rest := []) 2 Z (ok_X6_nameIs  e8) cd_X6_nameIs zc5 (by decide) rfl w868 w870 w21 rfl (show decode cX6_kindFor 18 = .ok (.invokevirtual 93, 3) by decide +kernel) rfl ?_
    refine V_istore_n [(2, Value.int v9), (0, Value.ref 47), (1, Value.int x1)] Z (by decide) rfl rfl (show decode cX6_kindFor 21 = .ok (.istore_n 2, 1) by decide +kernel) ?_
    refine V_iconst 0 (by decide) Z (show decode cX6_kindFor 22 = .ok (.iconst 0, 1) by decide +kernel) ?_
    refine V_istore_n [(3, Value.int 0), (2, Value.int v9), (0, Value.ref 47), (1, Value.int x1)] Z (by decide) rfl rfl (show decode cX6_kindFor 23 = .ok (.istore_n 3, 1) by decide +kernel) ?_
    refine V_iconst (-1) (by decide) Z (show decode cX6_kindFor 24 = .ok (.iconst (-1), 1) by decide +kernel) ?_
    refine V_istore [(4, Value.int (-1)), (3, Value.int 0), (2, Value.int v9), (0, Value.ref 47), (1, Value.int x1)] Z (by decide) rfl (show decode cX6_kindFor 25 = .ok (.istore 4, 2) by decide +kernel) ?_
    refine V_iconst 0 (by decide) Z (show decode cX6_kindFor 27 = .ok (.iconst 0, 1) by decide +kernel) ?_
    refine V_istore [(5, Value.int 0), (4, Value.int (-1)), (3, Value.int 0), (2, Value.int v9), (0, Value.ref 47), (1, Value.int x1)] Z (by decide) rfl (show decode cX6_kindFor 28 = .ok (.istore 5, 2) by decide +kernel) ?_
    refine V_sub [4, 5, 3, 2, 1, 0] rfl ?_
    refine zIter_loop' (K := some) (fun s : Int32 × Int32 × Int32 × zM => VV E 7 30 [(0, Value.ref 47), (1, Value.int x1), (2, Value.int v9), (3, Value.int s.1), (4, Value.int s.2.1), (5, Value.int s.2.2.1)] [] s.2.2.2) (fun K1 s c1_i c1_r h => ?_) _ _ h
    obtain ⟨y3, y4, y5, M⟩ := s
    change VV E 7 30 [(0, Value.ref 47), (1, Value.int x1), (2, Value.int v9), (3, Value.int y3), (4, Value.int y4), (5, Value.int y5)] [] M
    have J74 : ∀ (y4 : Int32) (y5 : Int32) (y6 : Int32) (s0 : Int32) (M : zM), (f_X6_kindFor_j74 x1 v9 y4 y5 y6 s0 M).bind K1 = some y → VV E 7 74 [(0, Value.ref 47), (1, Value.int x1), (2, Value.int v9), (4, Value.int y4), (5, Value.int y5), (6, Value.int y6)] [Value.int s0] M := by
      intro y4 y5 y6 s0 M h
      refine V_istore_n [(3, Value.int s0), (0, Value.ref 47), (1, Value.int x1), (2, Value.int v9), (4, Value.int y4), (5, Value.int y5), (6, Value.int y6)] Z (by decide) rfl rfl (show decode cX6_kindFor 74 = .ok (.istore_n 3, 1) by decide +kernel) ?_
      refine V_iload 4 Z rfl (show decode cX6_kindFor 75 = .ok (.iload 4, 2) by decide +kernel) ?_
      refine V_iload 6 Z rfl (show decode cX6_kindFor 77 = .ok (.iload 6, 2) by decide +kernel) ?_
      refine V_max Z w922 w401 w71 w402 (show decode cX6_kindFor 79 = .ok (.invokestatic 128, 3) by decide +kernel) rfl ?_
      obtain ⟨n10, e11, h⟩ := zB_let h
      refine V_nm e11 ?_
      refine V_istore [(4, Value.int n10), (3, Value.int s0), (0, Value.ref 47), (1, Value.int x1), (2, Value.int v9), (5, Value.int y5), (6, Value.int y6)] Z (by decide) rfl (show decode cX6_kindFor 82 = .ok (.istore 4, 2) by decide +kernel) ?_
      obtain ⟨n12, e13, h⟩ := zB_let h
      refine V_iinck 1 1 5 n12 [(5, Value.int n12), (4, Value.int n10), (3, Value.int s0), (0, Value.ref 47), (1, Value.int x1), (2, Value.int v9), (6, Value.int y6)] Z (by decide) (by decide) rfl e13 rfl (show decode cX6_kindFor 84 = .ok (.iinc 5 1, 3) by decide +kernel) ?_
      refine V_goto 30 Z (by decide) (show decode cX6_kindFor 87 = .ok (.goto (-57), 3) by decide +kernel) ?_
      refine V_sub [3, 4, 5, 2, 1, 0] rfl ?_
      exact c1_i _ h
    refine V_iload 5 Z rfl (show decode cX6_kindFor 30 = .ok (.iload 5, 2) by decide +kernel) ?_
    refine V_bipush 6 (by decide) Z (show decode cX6_kindFor 32 = .ok (.bipush 6, 2) by decide +kernel) ?_
    refine V_icmp_gt 90 Z (by decide) (show decode cX6_kindFor 34 = .ok (.if_icmp .gt 56, 3) by decide +kernel) (fun c14 => ?_) (fun c14 => ?_)
    · have h := zB_pos c14 h
      refine V_sub [0, 1, 2, 3] rfl ?_
      have h := zB_lift c1_r h
      exact J90 _ _ _ _ h
    · have h := zB_neg c14 h
      refine V_aload_n 0 Z rfl rfl (show decode cX6_kindFor 37 = .ok (.aload_n 0, 1) by decide +kernel) ?_
      refine V_getR 0 48 Z zc5 (by decide) rfl (by decide) rfl (by decide) ⟨rfl, rfl, rfl⟩ w766 (show decode cX6_kindFor 38 = .ok (.getfield 9, 3) by decide +kernel) ?_
      refine V_iload_n 1 Z rfl rfl (show decode cX6_kindFor 41 = .ok (.iload_n 1, 1) by decide +kernel) ?_
      refine V_iconst 0 (by decide) Z (show decode cX6_kindFor 42 = .ok (.iconst 0, 1) by decide +kernel) ?_
      obtain ⟨v16, e15, h⟩ := zB_bind h
      refine V_callS (rest := [_]) 2 Z (ok_X6_place  e15) cd_X6_place w853 w854 rfl (show decode cX6_kindFor 43 = .ok (.invokestatic 80, 3) by decide +kernel) rfl ?_
      refine V_iload 5 Z rfl (show decode cX6_kindFor 46 = .ok (.iload 5, 2) by decide +kernel) ?_
      obtain ⟨M17, e18, h⟩ := zB_bind h
      refine V_iast Z e18 (show decode cX6_kindFor 48 = .ok (.iastore, 1) by decide +kernel) ?_
      refine V_bipush 100 (by decide) Z (show decode cX6_kindFor 49 = .ok (.bipush 100, 2) by decide +kernel) ?_
      refine V_aload_n 0 Z rfl rfl (show decode cX6_kindFor 51 = .ok (.aload_n 0, 1) by decide +kernel) ?_
      refine V_iload_n 1 Z rfl rfl (show decode cX6_kindFor 52 = .ok (.iload_n 1, 1) by decide +kernel) ?_
      obtain ⟨⟨v20, M21⟩, e19, h⟩ := zB_bind h
      refine V_callV (rest := [_]) 1 Z (ok_X6_hungFor  e19) cd_X6_hungFor zc5 (by decide) rfl w1014 w1016 w40 rfl (show decode cX6_kindFor 53 = .ok (.invokevirtual 184, 3) by decide +kernel) rfl ?_
      refine V_min Z w962 w367 w71 w368 (show decode cX6_kindFor 56 = .ok (.invokestatic 148, 3) by decide +kernel) rfl ?_
      obtain ⟨n22, e23, h⟩ := zB_let h
      refine V_nm e23 ?_
      refine V_istore [(6, Value.int n22), (0, Value.ref 47), (1, Value.int x1), (2, Value.int v9), (3, Value.int y3), (4, Value.int y4), (5, Value.int y5)] Z (by decide) rfl (show decode cX6_kindFor 59 = .ok (.istore 6, 2) by decide +kernel) ?_
      refine V_iload 0 Z rfl (show decode cX6_kindFor 61 = .ok (.iload 6, 2) by decide +kernel) ?_
      refine V_iload 5 Z rfl (show decode cX6_kindFor 63 = .ok (.iload 4, 2) by decide +kernel) ?_
      refine V_icmp_le 73 Z (by decide) (show decode cX6_kindFor 65 = .ok (.if_icmp .le 8, 3) by decide +kernel) (fun c24 => ?_) (fun c24 => ?_)
      · have h := zB_pos c24 h
        refine V_iload_n 4 Z rfl rfl (show decode cX6_kindFor 73 = .ok (.iload_n 3, 1) by decide +kernel) ?_
        refine V_sub [1, 2, 3, 5, 6, 0] rfl ?_
        exact J74 _ _ _ _ _ h
      · have h := zB_neg c24 h
        refine V_iload 6 Z rfl (show decode cX6_kindFor 68 = .ok (.iload 5, 2) by decide +kernel) ?_
        refine V_goto 74 Z (by decide) (show decode cX6_kindFor 70 = .ok (.goto 4, 3) by decide +kernel) ?_
        refine V_sub [1, 2, 3, 5, 6, 0] rfl ?_
        exact J74 _ _ _ _ _ h
  · have h := zB_pos c7 h
    refine V_aload_n 0 Z rfl rfl (show decode cX6_kindFor 8 = .ok (.aload_n 0, 1) by decide +kernel) ?_
    refine V_ldc (-1000001) Z w843 (show decode cX6_kindFor 9 = .ok (.ldc 66, 2) by decide +kernel) ?_
    obtain ⟨⟨v26, M27⟩, e25, h⟩ := zB_bind h
    refine V_callV (rest := []) 1 Z (ok_X6_finding  e25) cd_X6_finding zc5 (by decide) rfl w844 w846 w17 rfl (show decode cX6_kindFor 11 = .ok (.invokevirtual 72, 3) by decide +kernel) rfl ?_
    exact V_iretM Z hE h (show decode cX6_kindFor 14 = .ok (.ireturn, 1) by decide +kernel)
def f_X6_doesDraw (x1 : Int32) (x2 : Int32) (x3 : Int32) (M : zM) : Option (Int32 × zM) :=
  (f_X6_drawBy x1 M).bind fun ((v2, M3) : Int32 × zM) =>
  if v2 < 0 then
    some ((0, M3))
  else
    (zrd M3 52 x2).bind fun (v5 : Int32) =>
    if v5 = x3 then
      some ((1, M3))
    else
      some ((0, M3))
theorem cd_X6_doesDraw : zCd yX6_doesDraw cX6_doesDraw 4 (some .boolean) 3 := ⟨w1042, w69, ⟨by decide, by decide⟩, by decide +kernel⟩
set_option maxHeartbeats 4000000 in
set_option maxRecDepth 20000 in
theorem ok_X6_doesDraw {x1 : Int32} {x2 : Int32} {x3 : Int32} {M : zM} {y : Int32 × zM}  (h : f_X6_doesDraw x1 x2 x3 M = some y) : zRuns yX6_doesDraw cX6_doesDraw 4 (some .boolean) 5 112 [.ref 47, .int x1, .int x2, .int x3] M (some (.int y.1)) y.2 := by
  refine zRuns_of (by decide +kernel) (Nat.le_of_ble_eq_true rfl) (fun E Z hE => ?_)
  have h := zB_top h
  change VV E 4 0 [(0, Value.ref 47), (1, Value.int x1), (2, Value.int x2), (3, Value.int x3)] [] M
  refine V_aload_n 0 Z rfl rfl (show decode cX6_doesDraw 0 = .ok (.aload_n 0, 1) by decide +kernel) ?_
  refine V_iload_n 1 Z rfl rfl (show decode cX6_doesDraw 1 = .ok (.iload_n 1, 1) by decide +kernel) ?_
  obtain ⟨⟨v2, M3⟩, e1, h⟩ := zB_bind h
  refine V_callV (rest := []) 1 Z (ok_X6_drawBy  e1) cd_X6_drawBy zc5 (by decide) rfl w950 w952 w31 rfl (show decode cX6_doesDraw 2 = .ok (.invokevirtual 151, 3) by decide +kernel) rfl ?_
  refine V_if_lt 22 Z (by decide) (show decode cX6_doesDraw 5 = .ok (.ifCond .lt 17, 3) by decide +kernel) (fun c4 => ?_) (fun c4 => ?_)
  · have h := zB_pos c4 h
    refine V_iconst 0 (by decide) Z (show decode cX6_doesDraw 22 = .ok (.iconst 0, 1) by decide +kernel) ?_
    exact V_zretM Z hE h rfl (show decode cX6_doesDraw 23 = .ok (.ireturn, 1) by decide +kernel)
  · have h := zB_neg c4 h
    refine V_aload_n 0 Z rfl rfl (show decode cX6_doesDraw 8 = .ok (.aload_n 0, 1) by decide +kernel) ?_
    refine V_getR 5 52 Z zc5 (by decide) rfl (by decide) rfl (by decide) ⟨rfl, rfl, rfl⟩ w771 (show decode cX6_doesDraw 9 = .ok (.getfield 22, 3) by decide +kernel) ?_
    refine V_iload_n 2 Z rfl rfl (show decode cX6_doesDraw 12 = .ok (.iload_n 2, 1) by decide +kernel) ?_
    obtain ⟨v5, e6, h⟩ := zB_bind h
    refine V_iald Z e6 (show decode cX6_doesDraw 13 = .ok (.iaload, 1) by decide +kernel) ?_
    refine V_iload_n 3 Z rfl rfl (show decode cX6_doesDraw 14 = .ok (.iload_n 3, 1) by decide +kernel) ?_
    refine V_icmp_ne 22 Z (by decide) (show decode cX6_doesDraw 15 = .ok (.if_icmp .ne 7, 3) by decide +kernel) (fun c7 => ?_) (fun c7 => ?_)
    · have h := zB_neg c7 h
      refine V_iconst 0 (by decide) Z (show decode cX6_doesDraw 22 = .ok (.iconst 0, 1) by decide +kernel) ?_
      exact V_zretM Z hE h rfl (show decode cX6_doesDraw 23 = .ok (.ireturn, 1) by decide +kernel)
    · have h := zB_pos c7 h
      refine V_iconst 1 (by decide) Z (show decode cX6_doesDraw 18 = .ok (.iconst 1, 1) by decide +kernel) ?_
      refine V_goto 23 Z (by decide) (show decode cX6_doesDraw 19 = .ok (.goto 4, 3) by decide +kernel) ?_
      exact V_zretM Z hE h rfl (show decode cX6_doesDraw 23 = .ok (.ireturn, 1) by decide +kernel)
def f_X6_orderFor_j47 (y3 : Int32) (M : zM) : Option (Int32 × zM) :=
  if 720 ≤ y3 then
    (f_X6_finding (-1000004) M).bind fun ((v3, M4) : Int32 × zM) =>
    some ((v3, M4))
  else
    some ((y3, M))
def f_X6_orderFor_j15 (M : zM) : Option (Int32 × zM) :=
  (f_X6_finding (-1000001) M).bind fun ((v6, M7) : Int32 × zM) =>
  some ((v6, M7))
def f_X6_orderFor_l24 (y1 : Int32) (y2 : Int32) : Int32 × zM → Option ((Int32 × zM) ⊕ (Int32 × zM))
  | (y3, M) =>
    if 720 ≤ y3 then
      (f_X6_orderFor_j47 y3 M).bind fun z => some (Sum.inr z)
    else
      (f_X6_doesDraw y3 y1 y2 M).bind fun ((v16, M17) : Int32 × zM) =>
      if v16 = 0 then
        (some (y3 + 1)).bind fun (n19 : Int32) =>
        some (.inl ((n19, M17)))
      else
        (f_X6_orderFor_j47 y3 M17).bind fun z => some (Sum.inr z)
def f_X6_orderFor (x1 : Int32) (x2 : Int32) (M : zM) : Option (Int32 × zM) :=
  (f_X6_isPerson x1 M).bind fun (v9 : Int32) =>
  if v9 = 0 then
    f_X6_orderFor_j15  M
  else
    (f_X6_isName x2 M).bind fun (v12 : Int32) =>
    if v12 = 0 then
      f_X6_orderFor_j15  M
    else
      zIter (f_X6_orderFor_l24 x1 x2) 1000 (0, M)
theorem cd_X6_orderFor : zCd yX6_orderFor cX6_orderFor 4 (some .int) 2 := ⟨w1038, w69, ⟨by decide, by decide⟩, by decide +kernel⟩
set_option maxHeartbeats 4000000 in
set_option maxRecDepth 20000 in
theorem ok_X6_orderFor {x1 : Int32} {x2 : Int32} {M : zM} {y : Int32 × zM}  (h : f_X6_orderFor x1 x2 M = some y) : zRuns yX6_orderFor cX6_orderFor 4 (some .int) 6 135 [.ref 47, .int x1, .int x2] M (some (.int y.1)) y.2 := by
  refine zRuns_of (by decide +kernel) (Nat.le_of_ble_eq_true rfl) (fun E Z hE => ?_)
  have h := zB_top h
  change VV E 4 0 [(0, Value.ref 47), (1, Value.int x1), (2, Value.int x2)] [] M
  have J47 : ∀ (y3 : Int32) (M : zM), (f_X6_orderFor_j47 y3 M).bind some = some y → VV E 4 47 [(0, Value.ref 47), (3, Value.int y3)] [] M := by
    intro y3 M h
    refine V_iload_n 1 Z rfl rfl (show decode cX6_orderFor 47 = .ok (.iload_n 3, 1) by decide +kernel) ?_
    refine V_sipush 720 (by decide) Z (show decode cX6_orderFor 48 = .ok (.sipush 720, 3) by decide +kernel) ?_
    refine V_icmp_ge 58 Z (by decide) (show decode cX6_orderFor 51 = .ok (.if_icmp .ge 7, 3) by decide +kernel) (fun c1 => ?_) (fun c1 => ?_)
    · have h := zB_pos c1 h
      refine V_aload_n 0 Z rfl rfl (show decode cX6_orderFor 58 = .ok (.aload_n 0, 1) by decide +kernel) ?_
      refine V_ldc (-1000004) Z w1018 (show decode cX6_orderFor 59 = .ok (.ldc 71, 2) by decide +kernel) ?_
      obtain ⟨⟨v3, M4⟩, e2, h⟩ := zB_bind h
      refine V_callV (rest := []) 1 Z (ok_X6_finding  e2) cd_X6_finding zc5 (by decide) rfl w844 w846 w17 rfl (show decode cX6_orderFor 61 = .ok (.invokevirtual 72, 3) by decide +kernel) rfl ?_
      exact V_iretM Z hE h (show decode cX6_orderFor 64 = .ok (.ireturn, 1) by decide +kernel)
    · have h := zB_neg c1 h
      refine V_iload_n 1 Z rfl rfl (show decode cX6_orderFor 54 = .ok (.iload_n 3, 1) by decide +kernel) ?_
      refine V_goto 64 Z (by decide) (show decode cX6_orderFor 55 = .ok (.goto 9, 3) by decide +kernel) ?_
      exact V_iretM Z hE h (show decode cX6_orderFor 64 = .ok (.ireturn, 1) by decide +kernel)
  have J15 : ∀ (M : zM), (f_X6_orderFor_j15  M).bind some = some y → VV E 4 15 [(0, Value.ref 47)] [] M := by
    intro  M h
    refine V_aload_n 0 Z rfl rfl (show decode cX6_orderFor 15 = .ok (.aload_n 0, 1) by decide +kernel) ?_
    refine V_ldc (-1000001) Z w843 (show decode cX6_orderFor 16 = .ok (.ldc 66, 2) by decide +kernel) ?_
    obtain ⟨⟨v6, M7⟩, e5, h⟩ := zB_bind h
    refine V_callV (rest := []) 1 Z (ok_X6_finding  e5) cd_X6_finding zc5 (by decide) rfl w844 w846 w17 rfl (show decode cX6_orderFor 18 = .ok (.invokevirtual 72, 3) by decide +kernel) rfl ?_
    exact V_iretM Z hE h (show decode cX6_orderFor 21 = .ok (.ireturn, 1) by decide +kernel)
  refine V_iload_n 1 Z rfl rfl (show decode cX6_orderFor 0 = .ok (.iload_n 1, 1) by decide +kernel) ?_
  obtain ⟨v9, e8, h⟩ := zB_bind h
  refine V_callS (rest := []) 1 Z (ok_X6_isPerson  e8) cd_X6_isPerson w908 w909 rfl (show decode cX6_orderFor 1 = .ok (.invokestatic 125, 3) by decide +kernel) rfl ?_
  refine V_if_eq 15 Z (by decide) (show decode cX6_orderFor 4 = .ok (.ifCond .eq 11, 3) by decide +kernel) (fun c10 => ?_) (fun c10 => ?_)
  · have h := zB_pos c10 h
    refine V_sub [0] rfl ?_
    exact J15 _ h
  · have h := zB_neg c10 h
    refine V_aload_n 0 Z rfl rfl (show decode cX6_orderFor 7 = .ok (.aload_n 0, 1) by decide +kernel) ?_
    refine V_iload_n 2 Z rfl rfl (show decode cX6_orderFor 8 = .ok (.iload_n 2, 1) by decide +kernel) ?_
    obtain ⟨v12, e11, h⟩ := zB_bind h
    refine V_callV (rest := []) 1 Z (ok_X6_isName  e11) cd_X6_isName zc5 (by decide) rfl w860 w862 w19 rfl (show decode cX6_orderFor 9 = .ok (.invokevirtual 100, 3) by decide +kernel) rfl ?_
    refine V_if_ne 22 Z (by decide) (show decode cX6_orderFor 12 = .ok (.ifCond .ne 10, 3) by decide +kernel) (fun c13 => ?_) (fun c13 => ?_)
    · have h := zB_neg c13 h
      refine V_iconst 0 (by decide) Z (show decode cX6_orderFor 22 = .ok (.iconst 0, 1) by decide +kernel) ?_
      refine V_istore_n [(3, Value.int 0), (0, Value.ref 47), (1, Value.int x1), (2, Value.int x2)] Z (by decide) rfl rfl (show decode cX6_orderFor 23 = .ok (.istore_n 3, 1) by decide +kernel) ?_
      refine V_sub [1, 2, 3, 0] rfl ?_
      refine zIter_loop' (K := some) (fun s : Int32 × zM => VV E 4 24 [(0, Value.ref 47), (1, Value.int x1), (2, Value.int x2), (3, Value.int s.1)] [] s.2) (fun K1 s c1_i c1_r h => ?_) _ _ h
      obtain ⟨y3, M⟩ := s
      change VV E 4 24 [(0, Value.ref 47), (1, Value.int x1), (2, Value.int x2), (3, Value.int y3)] [] M
      refine V_iload_n 3 Z rfl rfl (show decode cX6_orderFor 24 = .ok (.iload_n 3, 1) by decide +kernel) ?_
      refine V_sipush 720 (by decide) Z (show decode cX6_orderFor 25 = .ok (.sipush 720, 3) by decide +kernel) ?_
      refine V_icmp_ge 47 Z (by decide) (show decode cX6_orderFor 28 = .ok (.if_icmp .ge 19, 3) by decide +kernel) (fun c14 => ?_) (fun c14 => ?_)
      · have h := zB_pos c14 h
        refine V_sub [0, 3] rfl ?_
        have h := zB_lift c1_r h
        exact J47 _ _ h
      · have h := zB_neg c14 h
        refine V_aload_n 0 Z rfl rfl (show decode cX6_orderFor 31 = .ok (.aload_n 0, 1) by decide +kernel) ?_
        refine V_iload_n 3 Z rfl rfl (show decode cX6_orderFor 32 = .ok (.iload_n 3, 1) by decide +kernel) ?_
        refine V_iload_n 1 Z rfl rfl (show decode cX6_orderFor 33 = .ok (.iload_n 1, 1) by decide +kernel) ?_
        refine V_iload_n 2 Z rfl rfl (show decode cX6_orderFor 34 = .ok (.iload_n 2, 1) by decide +kernel) ?_
        obtain ⟨⟨v16, M17⟩, e15, h⟩ := zB_bind h
        refine V_callV (rest := []) 3 Z (ok_X6_doesDraw  e15) cd_X6_doesDraw zc5 (by decide) rfl w1039 w1041 w42 rfl (show decode cX6_orderFor 35 = .ok (.invokevirtual 190, 3) by decide +kernel) rfl ?_
        refine V_if_ne 47 Z (by decide) (show decode cX6_orderFor 38 = .ok (.ifCond .ne 9, 3) by decide +kernel) (fun c18 => ?_) (fun c18 => ?_)
        · have h := zB_neg c18 h
          refine V_sub [0, 3] rfl ?_
          have h := zB_lift c1_r h
          exact J47 _ _ h
        · have h := zB_pos c18 h
          obtain ⟨n19, e20, h⟩ := zB_let h
          refine V_iinck 1 1 3 n19 [(3, Value.int n19), (0, Value.ref 47), (1, Value.int x1), (2, Value.int x2)] Z (by decide) (by decide) rfl e20 rfl (show decode cX6_orderFor 41 = .ok (.iinc 3 1, 3) by decide +kernel) ?_
          refine V_goto 24 Z (by decide) (show decode cX6_orderFor 44 = .ok (.goto (-20), 3) by decide +kernel) ?_
          refine V_sub [1, 2, 3, 0] rfl ?_
          exact c1_i _ h
    · have h := zB_pos c13 h
      refine V_sub [0] rfl ?_
      exact J15 _ h
def f_X6_orders_j15 (M : zM) : Option (Int32 × zM) :=
  (f_X6_finding (-1000001) M).bind fun ((v2, M3) : Int32 × zM) =>
  some ((v2, M3))
def f_X6_orders_l27 (y1 : Int32) (y2 : Int32) : Int32 × Int32 × zM → Option ((Int32 × Int32 × zM) ⊕ (Int32 × zM))
  | (y3, y4, M) =>
    if 720 ≤ y4 then
      some (.inr ((y3, M)))
    else
      (f_X6_doesDraw y4 y1 y2 M).bind fun ((v12, M13) : Int32 × zM) =>
      if v12 = 0 then
        (some ((y3 + 0))).bind fun (n15 : Int32) =>
        (some (y4 + 1)).bind fun (n17 : Int32) =>
        some (.inl ((n15, n17, M13)))
      else
        (some ((y3 + 1))).bind fun (n19 : Int32) =>
        (some (y4 + 1)).bind fun (n21 : Int32) =>
        some (.inl ((n19, n21, M13)))
def f_X6_orders (x1 : Int32) (x2 : Int32) (M : zM) : Option (Int32 × zM) :=
  (f_X6_isPerson x1 M).bind fun (v5 : Int32) =>
  if v5 = 0 then
    f_X6_orders_j15  M
  else
    (f_X6_isName x2 M).bind fun (v8 : Int32) =>
    if v8 = 0 then
      f_X6_orders_j15  M
    else
      zIter (f_X6_orders_l27 x1 x2) 1000 (0, 0, M)
theorem cd_X6_orders : zCd yX6_orders cX6_orders 5 (some .int) 2 := ⟨w1046, w69, ⟨by decide, by decide⟩, by decide +kernel⟩
set_option maxHeartbeats 4000000 in
set_option maxRecDepth 20000 in
theorem ok_X6_orders {x1 : Int32} {x2 : Int32} {M : zM} {y : Int32 × zM}  (h : f_X6_orders x1 x2 M = some y) : zRuns yX6_orders cX6_orders 5 (some .int) 6 135 [.ref 47, .int x1, .int x2] M (some (.int y.1)) y.2 := by
  refine zRuns_of (by decide +kernel) (Nat.le_of_ble_eq_true rfl) (fun E Z hE => ?_)
  have h := zB_top h
  change VV E 5 0 [(0, Value.ref 47), (1, Value.int x1), (2, Value.int x2)] [] M
  have J15 : ∀ (M : zM), (f_X6_orders_j15  M).bind some = some y → VV E 5 15 [(0, Value.ref 47)] [] M := by
    intro  M h
    refine V_aload_n 0 Z rfl rfl (show decode cX6_orders 15 = .ok (.aload_n 0, 1) by decide +kernel) ?_
    refine V_ldc (-1000001) Z w843 (show decode cX6_orders 16 = .ok (.ldc 66, 2) by decide +kernel) ?_
    obtain ⟨⟨v2, M3⟩, e1, h⟩ := zB_bind h
    refine V_callV (rest := []) 1 Z (ok_X6_finding  e1) cd_X6_finding zc5 (by decide) rfl w844 w846 w17 rfl (show decode cX6_orders 18 = .ok (.invokevirtual 72, 3) by decide +kernel) rfl ?_
    exact V_iretM Z hE h (show decode cX6_orders 21 = .ok (.ireturn, 1) by decide +kernel)
  refine V_iload_n 1 Z rfl rfl (show decode cX6_orders 0 = .ok (.iload_n 1, 1) by decide +kernel) ?_
  obtain ⟨v5, e4, h⟩ := zB_bind h
  refine V_callS (rest := []) 1 Z (ok_X6_isPerson  e4) cd_X6_isPerson w908 w909 rfl (show decode cX6_orders 1 = .ok (.invokestatic 125, 3) by decide +kernel) rfl ?_
  refine V_if_eq 15 Z (by decide) (show decode cX6_orders 4 = .ok (.ifCond .eq 11, 3) by decide +kernel) (fun c6 => ?_) (fun c6 => ?_)
  · have h := zB_pos c6 h
    refine V_sub [0] rfl ?_
    exact J15 _ h
  · have h := zB_neg c6 h
    refine V_aload_n 0 Z rfl rfl (show decode cX6_orders 7 = .ok (.aload_n 0, 1) by decide +kernel) ?_
    refine V_iload_n 2 Z rfl rfl (show decode cX6_orders 8 = .ok (.iload_n 2, 1) by decide +kernel) ?_
    obtain ⟨v8, e7, h⟩ := zB_bind h
    refine V_callV (rest := []) 1 Z (ok_X6_isName  e7) cd_X6_isName zc5 (by decide) rfl w860 w862 w19 rfl (show decode cX6_orders 9 = .ok (.invokevirtual 100, 3) by decide +kernel) rfl ?_
    refine V_if_ne 22 Z (by decide) (show decode cX6_orders 12 = .ok (.ifCond .ne 10, 3) by decide +kernel) (fun c9 => ?_) (fun c9 => ?_)
    · have h := zB_neg c9 h
      refine V_iconst 0 (by decide) Z (show decode cX6_orders 22 = .ok (.iconst 0, 1) by decide +kernel) ?_
      refine V_istore_n [(3, Value.int 0), (0, Value.ref 47), (1, Value.int x1), (2, Value.int x2)] Z (by decide) rfl rfl (show decode cX6_orders 23 = .ok (.istore_n 3, 1) by decide +kernel) ?_
      refine V_iconst 0 (by decide) Z (show decode cX6_orders 24 = .ok (.iconst 0, 1) by decide +kernel) ?_
      refine V_istore [(4, Value.int 0), (3, Value.int 0), (0, Value.ref 47), (1, Value.int x1), (2, Value.int x2)] Z (by decide) rfl (show decode cX6_orders 25 = .ok (.istore 4, 2) by decide +kernel) ?_
      refine V_sub [2, 3, 4, 1, 0] rfl ?_
      refine zIter_loop' (K := some) (fun s : Int32 × Int32 × zM => VV E 5 27 [(0, Value.ref 47), (1, Value.int x1), (2, Value.int x2), (3, Value.int s.1), (4, Value.int s.2.1)] [] s.2.2) (fun K1 s c1_i c1_r h => ?_) _ _ h
      obtain ⟨y3, y4, M⟩ := s
      change VV E 5 27 [(0, Value.ref 47), (1, Value.int x1), (2, Value.int x2), (3, Value.int y3), (4, Value.int y4)] [] M
      refine V_iload 4 Z rfl (show decode cX6_orders 27 = .ok (.iload 4, 2) by decide +kernel) ?_
      refine V_sipush 720 (by decide) Z (show decode cX6_orders 29 = .ok (.sipush 720, 3) by decide +kernel) ?_
      refine V_icmp_ge 60 Z (by decide) (show decode cX6_orders 32 = .ok (.if_icmp .ge 28, 3) by decide +kernel) (fun c10 => ?_) (fun c10 => ?_)
      · have h := zB_pos c10 h
        refine V_iload_n 3 Z rfl rfl (show decode cX6_orders 60 = .ok (.iload_n 3, 1) by decide +kernel) ?_
        have h := c1_r _ h
        exact V_iretM Z hE h (show decode cX6_orders 61 = .ok (.ireturn, 1) by decide +kernel)
      · have h := zB_neg c10 h
        refine V_iload_n 3 Z rfl rfl (show decode cX6_orders 35 = .ok (.iload_n 3, 1) by decide +kernel) ?_
        refine V_aload_n 0 Z rfl rfl (show decode cX6_orders 36 = .ok (.aload_n 0, 1) by decide +kernel) ?_
        refine V_iload 4 Z rfl (show decode cX6_orders 37 = .ok (.iload 4, 2) by decide +kernel) ?_
        refine V_iload_n 1 Z rfl rfl (show decode cX6_orders 39 = .ok (.iload_n 1, 1) by decide +kernel) ?_
        refine V_iload_n 2 Z rfl rfl (show decode cX6_orders 40 = .ok (.iload_n 2, 1) by decide +kernel) ?_
        obtain ⟨⟨v12, M13⟩, e11, h⟩ := zB_bind h
        refine V_callV (rest := [_]) 3 Z (ok_X6_doesDraw  e11) cd_X6_doesDraw zc5 (by decide) rfl w1039 w1041 w42 rfl (show decode cX6_orders 41 = .ok (.invokevirtual 190, 3) by decide +kernel) rfl ?_
        refine V_if_eq 51 Z (by decide) (show decode cX6_orders 44 = .ok (.ifCond .eq 7, 3) by decide +kernel) (fun c14 => ?_) (fun c14 => ?_)
        · have h := zB_pos c14 h
          refine V_iconst 0 (by decide) Z (show decode cX6_orders 51 = .ok (.iconst 0, 1) by decide +kernel) ?_
          refine V_iadd Z (show decode cX6_orders 52 = .ok (.iadd, 1) by decide +kernel) ?_
          obtain ⟨n15, e16, h⟩ := zB_let h
          refine V_nm e16 ?_
          refine V_istore_n [(3, Value.int n15), (0, Value.ref 47), (1, Value.int x1), (2, Value.int x2), (4, Value.int y4)] Z (by decide) rfl rfl (show decode cX6_orders 53 = .ok (.istore_n 3, 1) by decide +kernel) ?_
          obtain ⟨n17, e18, h⟩ := zB_let h
          refine V_iinck 1 1 4 n17 [(4, Value.int n17), (3, Value.int n15), (0, Value.ref 47), (1, Value.int x1), (2, Value.int x2)] Z (by decide) (by decide) rfl e18 rfl (show decode cX6_orders 54 = .ok (.iinc 4 1, 3) by decide +kernel) ?_
          refine V_goto 27 Z (by decide) (show decode cX6_orders 57 = .ok (.goto (-30), 3) by decide +kernel) ?_
          refine V_sub [2, 3, 4, 1, 0] rfl ?_
          exact c1_i _ h
        · have h := zB_neg c14 h
          refine V_iconst 1 (by decide) Z (show decode cX6_orders 47 = .ok (.iconst 1, 1) by decide +kernel) ?_
          refine V_goto 52 Z (by decide) (show decode cX6_orders 48 = .ok (.goto 4, 3) by decide +kernel) ?_
          refine V_iadd Z (show decode cX6_orders 52 = .ok (.iadd, 1) by decide +kernel) ?_
          obtain ⟨n19, e20, h⟩ := zB_let h
          refine V_nm e20 ?_
          refine V_istore_n [(3, Value.int n19), (0, Value.ref 47), (1, Value.int x1), (2, Value.int x2), (4, Value.int y4)] Z (by decide) rfl rfl (show decode cX6_orders 53 = .ok (.istore_n 3, 1) by decide +kernel) ?_
          obtain ⟨n21, e22, h⟩ := zB_let h
          refine V_iinck 1 1 4 n21 [(4, Value.int n21), (3, Value.int n19), (0, Value.ref 47), (1, Value.int x1), (2, Value.int x2)] Z (by decide) (by decide) rfl e22 rfl (show decode cX6_orders 54 = .ok (.iinc 4 1, 3) by decide +kernel) ?_
          refine V_goto 27 Z (by decide) (show decode cX6_orders 57 = .ok (.goto (-30), 3) by decide +kernel) ?_
          refine V_sub [2, 3, 4, 1, 0] rfl ?_
          exact c1_i _ h
    · have h := zB_pos c9 h
      refine V_sub [0] rfl ?_
      exact J15 _ h
