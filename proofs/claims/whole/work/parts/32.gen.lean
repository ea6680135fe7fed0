/-! Generated walks: X6_number X6_item X6_kindTold X6_afterWord X6_readItem X6_isToldSo -/
def f_X6_number_j28 (y3 : Int32) (s0 : Int32) (M : zM) : Option (Int32 × zM) :=
  (f_X6_must s0 M).bind fun (M2 : zM) =>
  some ((y3, M2))
def f_X6_number_j27 (y3 : Int32) (M : zM) : Option (Int32 × zM) :=
  f_X6_number_j28 y3 0 M
def f_X6_number (x1 : Int32) (x2 : Int32) (M : zM) : Option (Int32 × zM) :=
  (some ((M 47 12))).bind fun (x3 : Int32) =>
  if (M 47 11) = 2 then
    (f_X6_within x3 x1 x2 M).bind fun (v7 : Int32) =>
    if v7 = 0 then
      f_X6_number_j27 x3 M
    else
      f_X6_number_j28 x3 1 M
  else
    f_X6_number_j27 x3 M
theorem cd_X6_number : zCd yX6_number cX6_number 4 (some .int) 2 := ⟨w1193, w69, ⟨by decide, by decide⟩, by decide +kernel⟩
set_option maxHeartbeats 4000000 in
set_option maxRecDepth 20000 in
theorem ok_X6_number {x1 : Int32} {x2 : Int32} {M : zM} {y : Int32 × zM}  (h : f_X6_number x1 x2 M = some y) : zRuns yX6_number cX6_number 4 (some .int) 3 64 [.ref 47, .int x1, .int x2] M (some (.int y.1)) y.2 := by
  refine zRuns_of (by decide +kernel) (Nat.le_of_ble_eq_true rfl) (fun E Z hE => ?_)
  have h := zB_top h
  change VV E 4 0 [(0, Value.ref 47), (1, Value.int x1), (2, Value.int x2)] [] M
  have J28 : ∀ (y3 : Int32) (s0 : Int32) (M : zM), (f_X6_number_j28 y3 s0 M).bind some = some y → VV E 4 28 [(3, Value.int y3)] [Value.int s0, Value.ref 47] M := by
    intro y3 s0 M h
    obtain ⟨M2, e1, h⟩ := zB_bind h
    refine V_callV (rest := []) 1 Z (ok_X6_must  e1) cd_X6_must zc5 (by decide) rfl w1186 w1188 w58 rfl (show decode cX6_number 28 = .ok (.invokevirtual 269, 3) by decide +kernel) rfl ?_
    refine V_iload_n 0 Z rfl rfl (show decode cX6_number 31 = .ok (.iload_n 3, 1) by decide +kernel) ?_
    exact V_iretM Z hE h (show decode cX6_number 32 = .ok (.ireturn, 1) by decide +kernel)
  have J27 : ∀ (y3 : Int32) (M : zM), (f_X6_number_j27 y3 M).bind some = some y → VV E 4 27 [(3, Value.int y3)] [Value.ref 47] M := by
    intro y3 M h
    refine V_iconst 0 (by decide) Z (show decode cX6_number 27 = .ok (.iconst 0, 1) by decide +kernel) ?_
    exact J28 _ _ _ h
  refine V_aload_n 0 Z rfl rfl (show decode cX6_number 0 = .ok (.aload_n 0, 1) by decide +kernel) ?_
  refine V_getI 12 Z zc5 (by decide) rfl (by decide) rfl ⟨rfl, rfl, rfl⟩ w778 (show decode cX6_number 1 = .ok (.getfield 249, 3) by decide +kernel) ?_
  obtain ⟨x3, e4, h⟩ := zB_let h
  refine V_nm e4 ?_
  refine V_istore_n [(3, Value.int x3), (0, Value.ref 47), (1, Value.int x1), (2, Value.int x2)] Z (by decide) rfl rfl (show decode cX6_number 4 = .ok (.istore_n 3, 1) by decide +kernel) ?_
  refine V_aload_n 1 Z rfl rfl (show decode cX6_number 5 = .ok (.aload_n 0, 1) by decide +kernel) ?_
  refine V_aload_n 1 Z rfl rfl (show decode cX6_number 6 = .ok (.aload_n 0, 1) by decide +kernel) ?_
  refine V_getI 11 Z zc5 (by decide) rfl (by decide) rfl ⟨rfl, rfl, rfl⟩ w777 (show decode cX6_number 7 = .ok (.getfield 252, 3) by decide +kernel) ?_
  refine V_iconst 2 (by decide) Z (show decode cX6_number 10 = .ok (.iconst 2, 1) by decide +kernel) ?_
  refine V_icmp_ne 27 Z (by decide) (show decode cX6_number 11 = .ok (.if_icmp .ne 16, 3) by decide +kernel) (fun c5 => ?_) (fun c5 => ?_)
  · have h := zB_neg c5 h
    refine V_sub [0] rfl ?_
    exact J27 _ _ h
  · have h := zB_pos c5 h
    refine V_iload_n 0 Z rfl rfl (show decode cX6_number 14 = .ok (.iload_n 3, 1) by decide +kernel) ?_
    refine V_iload_n 2 Z rfl rfl (show decode cX6_number 15 = .ok (.iload_n 1, 1) by decide +kernel) ?_
    refine V_iload_n 3 Z rfl rfl (show decode cX6_number 16 = .ok (.iload_n 2, 1) by decide +kernel) ?_
    obtain ⟨v7, e6, h⟩ := zB_bind h
    refine V_callS (rest := [_]) 3 Z (ok_X6_within  e6) cd_X6_within w840 w841 rfl (show decode cX6_number 17 = .ok (.invokestatic 76, 3) by decide +kernel) rfl ?_
    refine V_if_eq 27 Z (by decide) (show decode cX6_number 20 = .ok (.ifCond .eq 7, 3) by decide +kernel) (fun c8 => ?_) (fun c8 => ?_)
    · have h := zB_pos c8 h
      refine V_sub [0] rfl ?_
      exact J27 _ _ h
    · have h := zB_neg c8 h
      refine V_iconst 1 (by decide) Z (show decode cX6_number 23 = .ok (.iconst 1, 1) by decide +kernel) ?_
      refine V_goto 28 Z (by decide) (show decode cX6_number 24 = .ok (.goto 4, 3) by decide +kernel) ?_
      refine V_sub [0] rfl ?_
      exact J28 _ _ _ h
def f_X6_item (x1 : Int32) (x2 : Int32) (x3 : Int32) (x4 : Int32) (M : zM) : Option (zM) :=
  (some ((4 * (M 47 16)))).bind fun (x1 : Int32) =>
  (zwr M 56 x1 x1).bind fun (M3 : zM) =>
  (zwr M3 56 (x1 + 1) x2).bind fun (M5 : zM) =>
  (zwr M5 56 (x1 + 2) x3).bind fun (M7 : zM) =>
  (zwr M7 56 (x1 + 3) x4).bind fun (M9 : zM) =>
  (some (zU M9 47 16 (((M9 47 16) + 1)))).bind fun (M11 : zM) =>
  some (M11)
theorem cd_X6_item : zCd yX6_item cX6_item 6 none 4 := ⟨w1203, w69, ⟨by decide, by decide⟩, by decide +kernel⟩
set_option maxHeartbeats 4000000 in
set_option maxRecDepth 20000 in
theorem ok_X6_item {x1 : Int32} {x2 : Int32} {x3 : Int32} {x4 : Int32} {M : zM} {y : zM}  (h : f_X6_item x1 x2 x3 x4 M = some y) : zRuns yX6_item cX6_item 6 none 0 0 [.ref 47, .int x1, .int x2, .int x3, .int x4] M none y := by
  refine zRuns_of (by decide +kernel) (Nat.le_of_ble_eq_true rfl) (fun E Z hE => ?_)
  have h := zB_top h
  change VV E 6 0 [(0, Value.ref 47), (1, Value.int x1), (2, Value.int x2), (3, Value.int x3), (4, Value.int x4)] [] M
  refine V_iconst 4 (by decide) Z (show decode cX6_item 0 = .ok (.iconst 4, 1) by decide +kernel) ?_
  refine V_aload_n 0 Z rfl rfl (show decode cX6_item 1 = .ok (.aload_n 0, 1) by decide +kernel) ?_
  refine V_getI 16 Z zc5 (by decide) rfl (by decide) rfl ⟨rfl, rfl, rfl⟩ w782 (show decode cX6_item 2 = .ok (.getfield 273, 3) by decide +kernel) ?_
  refine V_imul Z (show decode cX6_item 5 = .ok (.imul, 1) by decide +kernel) ?_
  obtain ⟨x1, e2, h⟩ := zB_let h
  refine V_nm e2 ?_
  refine V_istore [(5, Value.int x1), (0, Value.ref 47), (1, Value.int x1), (2, Value.int x2), (3, Value.int x3), (4, Value.int x4)] Z (by decide) rfl (show decode cX6_item 6 = .ok (.istore 5, 2) by decide +kernel) ?_
  refine V_aload_n 1 Z rfl rfl (show decode cX6_item 8 = .ok (.aload_n 0, 1) by decide +kernel) ?_
  refine V_getR 15 56 Z zc5 (by decide) rfl (by decide) rfl (by decide) ⟨rfl, rfl, rfl⟩ w781 (show decode cX6_item 9 = .ok (.getfield 51, 3) by decide +kernel) ?_
  refine V_iload 0 Z rfl (show decode cX6_item 12 = .ok (.iload 5, 2) by decide +kernel) ?_
  refine V_iload_n 2 Z rfl rfl (show decode cX6_item 14 = .ok (.iload_n 1, 1) by decide +kernel) ?_
  obtain ⟨M3, e4, h⟩ := zB_bind h
  refine V_iast Z e4 (show decode cX6_item 15 = .ok (.iastore, 1) by decide +kernel) ?_
  refine V_aload_n 1 Z rfl rfl (show decode cX6_item 16 = .ok (.aload_n 0, 1) by decide +kernel) ?_
  refine V_getR 15 56 Z zc5 (by decide) rfl (by decide) rfl (by decide) ⟨rfl, rfl, rfl⟩ w781 (show decode cX6_item 17 = .ok (.getfield 51, 3) by decide +kernel) ?_
  refine V_iload 0 Z rfl (show decode cX6_item 20 = .ok (.iload 5, 2) by decide +kernel) ?_
  refine V_iconst 1 (by decide) Z (show decode cX6_item 22 = .ok (.iconst 1, 1) by decide +kernel) ?_
  refine V_iadd Z (show decode cX6_item 23 = .ok (.iadd, 1) by decide +kernel) ?_
  refine V_iload_n 3 Z rfl rfl (show decode cX6_item 24 = .ok (.iload_n 2, 1) by decide +kernel) ?_
  obtain ⟨M5, e6, h⟩ := zB_bind h
  refine V_iast Z e6 (show decode cX6_item 25 = .ok (.iastore, 1) by decide +kernel) ?_
  refine V_aload_n 1 Z rfl rfl (show decode cX6_item 26 = .ok (.aload_n 0, 1) by decide +kernel) ?_
  refine V_getR 15 56 Z zc5 (by decide) rfl (by decide) rfl (by decide) ⟨rfl, rfl, rfl⟩ w781 (show decode cX6_item 27 = .ok (.getfield 51, 3) by decide +kernel) ?_
  refine V_iload 0 Z rfl (show decode cX6_item 30 = .ok (.iload 5, 2) by decide +kernel) ?_
  refine V_iconst 2 (by decide) Z (show decode cX6_item 32 = .ok (.iconst 2, 1) by decide +kernel) ?_
  refine V_iadd Z (show decode cX6_item 33 = .ok (.iadd, 1) by decide +kernel) ?_
  refine V_iload_n 4 Z rfl rfl (show decode cX6_item 34 = .ok (.iload_n 3, 1) by decide +kernel) ?_
  obtain ⟨M7, e8, h⟩ := zB_bind h
  refine V_iast Z e8 (show decode cX6_item 35 = .ok (.iastore, 1) by decide +kernel) ?_
  refine V_aload_n 1 Z rfl rfl (show decode cX6_item 36 = .ok (.aload_n 0, 1) by decide +kernel) ?_
  refine V_getR 15 56 Z zc5 (by decide) rfl (by decide) rfl (by decide) ⟨rfl, rfl, rfl⟩ w781 (show decode cX6_item 37 = .ok (.getfield 51, 3) by decide +kernel) ?_
  refine V_iload 0 Z rfl (show decode cX6_item 40 = .ok (.iload 5, 2) by decide +kernel) ?_
  refine V_iconst 3 (by decide) Z (show decode cX6_item 42 = .ok (.iconst 3, 1) by decide +kernel) ?_
  refine V_iadd Z (show decode cX6_item 43 = .ok (.iadd, 1) by decide +kernel) ?_
  refine V_iload 5 Z rfl (show decode cX6_item 44 = .ok (.iload 4, 2) by decide +kernel) ?_
  obtain ⟨M9, e10, h⟩ := zB_bind h
  refine V_iast Z e10 (show decode cX6_item 46 = .ok (.iastore, 1) by decide +kernel) ?_
  refine V_aload_n 1 Z rfl rfl (show decode cX6_item 47 = .ok (.aload_n 0, 1) by decide +kernel) ?_
  refine V_dup rfl Z (show decode cX6_item 48 = .ok (.dup, 1) by decide +kernel) ?_
  refine V_getI 16 Z zc5 (by decide) rfl (by decide) rfl ⟨rfl, rfl, rfl⟩ w782 (show decode cX6_item 49 = .ok (.getfield 273, 3) by decide +kernel) ?_
  refine V_iconst 1 (by decide) Z (show decode cX6_item 52 = .ok (.iconst 1, 1) by decide +kernel) ?_
  refine V_iadd Z (show decode cX6_item 53 = .ok (.iadd, 1) by decide +kernel) ?_
  obtain ⟨M11, e12, h⟩ := zB_let h
  refine V_putI 16 Z zc5 (by decide) rfl (by decide) rfl ⟨rfl, rfl, rfl⟩ rfl rfl w782 (show decode cX6_item 54 = .ok (.putfield 273, 3) by decide +kernel) ?_
  refine V_nmM e12 ?_
  exact V_vretM Z hE h (show decode cX6_item 57 = .ok (.return_, 1) by decide +kernel)
def f_X6_kindTold_l4 (M : zM) : Int32 × Int32 → Option ((Int32 × Int32) ⊕ (Int32))
  | (y1, y2) =>
    if 7 ≤ y2 then
      some (.inr (y1))
    else
      (zrr 55 y2).bind fun (q2 : Nat) =>
      (f_X6_isWord (q2 - 1000) M).bind fun (v6 : Int32) =>
      if v6 = 0 then
        (some (y2 + 1)).bind fun (x8 : Int32) =>
        some (.inl ((y1, x8)))
      else
        (some (y2 + 1)).bind fun (x10 : Int32) =>
        some (.inl ((y2, x10)))
def f_X6_kindTold (M : zM) : Option (Int32) :=
  zIter (f_X6_kindTold_l4 M) 1000 ((-1), 0)
theorem cd_X6_kindTold : zCd yX6_kindTold cX6_kindTold 3 (some .int) 0 := ⟨w1179, w69, ⟨by decide, by decide⟩, by decide +kernel⟩
set_option maxHeartbeats 4000000 in
set_option maxRecDepth 20000 in
theorem ok_X6_kindTold {M : zM} {y : Int32}  (h : f_X6_kindTold  M = some y) : zRuns yX6_kindTold cX6_kindTold 3 (some .int) 7 184 [.ref 47] M (some (.int y)) M := by
  refine zRuns_of (by decide +kernel) (Nat.le_of_ble_eq_true rfl) (fun E Z hE => ?_)
  have h := zB_top h
  change VV E 3 0 [(0, Value.ref 47)] [] M
  refine V_iconst (-1) (by decide) Z (show decode cX6_kindTold 0 = .ok (.iconst (-1), 1) by decide +kernel) ?_
  refine V_istore_n [(1, Value.int (-1)), (0, Value.ref 47)] Z (by decide) rfl rfl (show decode cX6_kindTold 1 = .ok (.istore_n 1, 1) by decide +kernel) ?_
  refine V_iconst 0 (by decide) Z (show decode cX6_kindTold 2 = .ok (.iconst 0, 1) by decide +kernel) ?_
  refine V_istore_n [(2, Value.int 0), (1, Value.int (-1)), (0, Value.ref 47)] Z (by decide) rfl rfl (show decode cX6_kindTold 3 = .ok (.istore_n 2, 1) by decide +kernel) ?_
  refine V_sub [2, 1, 0] rfl ?_
  refine zIter_loop' (K := some) (fun s : Int32 × Int32 => VV E 3 4 [(0, Value.ref 47), (1, Value.int s.1), (2, Value.int s.2)] [] M) (fun K1 s c1_i c1_r h => ?_) _ _ h
  obtain ⟨y1, y2⟩ := s
  change VV E 3 4 [(0, Value.ref 47), (1, Value.int y1), (2, Value.int y2)] [] M
  refine V_iload_n 2 Z rfl rfl (show decode cX6_kindTold 4 = .ok (.iload_n 2, 1) by decide +kernel) ?_
  refine V_aload_n 0 Z rfl rfl (show decode cX6_kindTold 5 = .ok (.aload_n 0, 1) by decide +kernel) ?_
  refine V_getR 14 55 Z zc5 (by decide) rfl (by decide) rfl (by decide) ⟨rfl, rfl, rfl⟩ w780 (show decode cX6_kindTold 6 = .ok (.getfield 47, 3) by decide +kernel) ?_
  refine V_alenR 2 7 Z (by decide) rfl (fun _ => rfl) rfl (by decide) (show decode cX6_kindTold 9 = .ok (.arraylength, 1) by decide +kernel) ?_
  refine V_icmp_ge 38 Z (by decide) (show decode cX6_kindTold 10 = .ok (.if_icmp .ge 28, 3) by decide +kernel) (fun c1 => ?_) (fun c1 => ?_)
  · have h := zB_pos c1 h
    refine V_iload_n 1 Z rfl rfl (show decode cX6_kindTold 38 = .ok (.iload_n 1, 1) by decide +kernel) ?_
    have h := c1_r _ h
    exact V_iretP Z hE h (show decode cX6_kindTold 39 = .ok (.ireturn, 1) by decide +kernel)
  · have h := zB_neg c1 h
    refine V_aload_n 0 Z rfl rfl (show decode cX6_kindTold 13 = .ok (.aload_n 0, 1) by decide +kernel) ?_
    refine V_aload_n 0 Z rfl rfl (show decode cX6_kindTold 14 = .ok (.aload_n 0, 1) by decide +kernel) ?_
    refine V_getR 14 55 Z zc5 (by decide) rfl (by decide) rfl (by decide) ⟨rfl, rfl, rfl⟩ w780 (show decode cX6_kindTold 15 = .ok (.getfield 47, 3) by decide +kernel) ?_
    refine V_iload_n 2 Z rfl rfl (show decode cX6_kindTold 18 = .ok (.iload_n 2, 1) by decide +kernel) ?_
    obtain ⟨q2, e3, h⟩ := zB_bind h
    refine V_aald 2 Z e3 (by decide) (fun _ => rfl) (by intro rs h; cases h; rfl) (show decode cX6_kindTold 19 = .ok (.aaload, 1) by decide +kernel) ?_
    obtain ⟨w4, hw4, rfl⟩ := zrr_W e3
    rw [Nat.add_sub_cancel_left] at h
    obtain ⟨v6, e5, h⟩ := zB_bind h
    refine V_callV (rest := []) 1 Z (ok_X6_isWord hw4 e5) cd_X6_isWord zc5 (by decide) rfl w1180 w1182 w57 rfl (show decode cX6_kindTold 20 = .ok (.invokevirtual 276, 3) by decide +kernel) rfl ?_
    refine V_if_eq 30 Z (by decide) (show decode cX6_kindTold 23 = .ok (.ifCond .eq 7, 3) by decide +kernel) (fun c7 => ?_) (fun c7 => ?_)
    · have h := zB_pos c7 h
      refine V_iload_n 1 Z rfl rfl (show decode cX6_kindTold 30 = .ok (.iload_n 1, 1) by decide +kernel) ?_
      refine V_istore_n [(1, Value.int y1), (0, Value.ref 47), (2, Value.int y2)] Z (by decide) rfl rfl (show decode cX6_kindTold 31 = .ok (.istore_n 1, 1) by decide +kernel) ?_
      obtain ⟨x8, e9, h⟩ := zB_let h
      refine V_iinc (n := 1) 2 x8 [(2, Value.int x8), (1, Value.int y1), (0, Value.ref 47)] Z (by decide) rfl e9 rfl (show decode cX6_kindTold 32 = .ok (.iinc 2 1, 3) by decide +kernel) ?_
      refine V_goto 4 Z (by decide) (show decode cX6_kindTold 35 = .ok (.goto (-31), 3) by decide +kernel) ?_
      refine V_sub [2, 1, 0] rfl ?_
      exact c1_i _ h
    · have h := zB_neg c7 h
      refine V_iload_n 2 Z rfl rfl (show decode cX6_kindTold 26 = .ok (.iload_n 2, 1) by decide +kernel) ?_
      refine V_goto 31 Z (by decide) (show decode cX6_kindTold 27 = .ok (.goto 4, 3) by decide +kernel) ?_
      refine V_istore_n [(1, Value.int y2), (0, Value.ref 47), (2, Value.int y2)] Z (by decide) rfl rfl (show decode cX6_kindTold 31 = .ok (.istore_n 1, 1) by decide +kernel) ?_
      obtain ⟨x10, e11, h⟩ := zB_let h
      refine V_iinc (n := 1) 2 x10 [(2, Value.int x10), (1, Value.int y2), (0, Value.ref 47)] Z (by decide) rfl e11 rfl (show decode cX6_kindTold 32 = .ok (.iinc 2 1, 3) by decide +kernel) ?_
      refine V_goto 4 Z (by decide) (show decode cX6_kindTold 35 = .ok (.goto (-31), 3) by decide +kernel) ?_
      refine V_sub [2, 1, 0] rfl ?_
      exact c1_i _ h
def f_X6_afterWord (w : Nat) (x2 : Int32) (x3 : Int32) (M : zM) : Option (Int32 × zM) :=
  if (M 47 13) = 0 then
    (f_X6_isWord w M).bind fun (v3 : Int32) =>
    if v3 = 0 then
      some ((x2, M))
    else
      (f_X6_must 1 M).bind fun (M6 : zM) =>
      (f_X6_number 0 x3 M6).bind fun ((v8, M9) : Int32 × zM) =>
      some ((v8, M9))
  else
    some ((x2, M))
theorem cd_X6_afterWord : zCd yX6_afterWord cX6_afterWord 4 (some .int) 3 := ⟨w1198, w69, ⟨by decide, by decide⟩, by decide +kernel⟩
set_option maxHeartbeats 4000000 in
set_option maxRecDepth 20000 in
theorem ok_X6_afterWord {w : Nat} {x2 : Int32} {x3 : Int32} {M : zM} {y : Int32 × zM} (hw : w < 13) (h : f_X6_afterWord w x2 x3 M = some y) : zRuns yX6_afterWord cX6_afterWord 4 (some .int) 7 184 [.ref 47, .ref (1000 + w), .int x2, .int x3] M (some (.int y.1)) y.2 := by
  refine zRuns_of (by decide +kernel) (Nat.le_of_ble_eq_true rfl) (fun E Z hE => ?_)
  have h := zB_top h
  change VV E 4 0 [(0, Value.ref 47), (1, Value.ref (1000 + w)), (2, Value.int x2), (3, Value.int x3)] [] M
  refine V_aload_n 0 Z rfl rfl (show decode cX6_afterWord 0 = .ok (.aload_n 0, 1) by decide +kernel) ?_
  refine V_getI 13 Z zc5 (by decide) rfl (by decide) rfl ⟨rfl, rfl, rfl⟩ w779 (show decode cX6_afterWord 1 = .ok (.getfield 262, 3) by decide +kernel) ?_
  refine V_if_ne 15 Z (by decide) (show decode cX6_afterWord 4 = .ok (.ifCond .ne 11, 3) by decide +kernel) (fun c1 => ?_) (fun c1 => ?_)
  · have h := zB_neg c1 h
    refine V_iload_n 2 Z rfl rfl (show decode cX6_afterWord 15 = .ok (.iload_n 2, 1) by decide +kernel) ?_
    exact V_iretM Z hE h (show decode cX6_afterWord 16 = .ok (.ireturn, 1) by decide +kernel)
  · have h := zB_pos c1 h
    refine V_aload_n 0 Z rfl rfl (show decode cX6_afterWord 7 = .ok (.aload_n 0, 1) by decide +kernel) ?_
    refine V_aload_n 1 Z rfl rfl (show decode cX6_afterWord 8 = .ok (.aload_n 1, 1) by decide +kernel) ?_
    obtain ⟨v3, e2, h⟩ := zB_bind h
    refine V_callV (rest := []) 1 Z (ok_X6_isWord hw e2) cd_X6_isWord zc5 (by decide) rfl w1180 w1182 w57 rfl (show decode cX6_afterWord 9 = .ok (.invokevirtual 276, 3) by decide +kernel) rfl ?_
    refine V_if_ne 17 Z (by decide) (show decode cX6_afterWord 12 = .ok (.ifCond .ne 5, 3) by decide +kernel) (fun c4 => ?_) (fun c4 => ?_)
    · have h := zB_neg c4 h
      refine V_aload_n 0 Z rfl rfl (show decode cX6_afterWord 17 = .ok (.aload_n 0, 1) by decide +kernel) ?_
      refine V_iconst 1 (by decide) Z (show decode cX6_afterWord 18 = .ok (.iconst 1, 1) by decide +kernel) ?_
      obtain ⟨M6, e5, h⟩ := zB_bind h
      refine V_callV (rest := []) 1 Z (ok_X6_must  e5) cd_X6_must zc5 (by decide) rfl w1186 w1188 w58 rfl (show decode cX6_afterWord 19 = .ok (.invokevirtual 269, 3) by decide +kernel) rfl ?_
      refine V_aload_n 0 Z rfl rfl (show decode cX6_afterWord 22 = .ok (.aload_n 0, 1) by decide +kernel) ?_
      refine V_iconst 0 (by decide) Z (show decode cX6_afterWord 23 = .ok (.iconst 0, 1) by decide +kernel) ?_
      refine V_iload_n 3 Z rfl rfl (show decode cX6_afterWord 24 = .ok (.iload_n 3, 1) by decide +kernel) ?_
      obtain ⟨⟨v8, M9⟩, e7, h⟩ := zB_bind h
      refine V_callV (rest := []) 2 Z (ok_X6_number  e7) cd_X6_number zc5 (by decide) rfl w1190 w1192 w59 rfl (show decode cX6_afterWord 25 = .ok (.invokevirtual 280, 3) by decide +kernel) rfl ?_
      exact V_iretM Z hE h (show decode cX6_afterWord 28 = .ok (.ireturn, 1) by decide +kernel)
    · have h := zB_pos c4 h
      refine V_iload_n 2 Z rfl rfl (show decode cX6_afterWord 15 = .ok (.iload_n 2, 1) by decide +kernel) ?_
      exact V_iretM Z hE h (show decode cX6_afterWord 16 = .ok (.ireturn, 1) by decide +kernel)
def f_X6_readItem_j24 (y1 : Int32) (s0 : Int32) (M : zM) : Option (zM) :=
  (f_X6_must s0 M).bind fun (M2 : zM) =>
  (f_X6_number 0 99 M2).bind fun ((v4, M5) : Int32 × zM) =>
  (f_X6_afterWord 9 0 99 M5).bind fun ((v7, M8) : Int32 × zM) =>
  (f_X6_afterWord 10 (-1) ((M8 47 17) - 1) M8).bind fun ((v10, M11) : Int32 × zM) =>
  (f_X6_item y1 v4 v7 v10 M11).bind fun (M13 : zM) =>
  (some (zU M13 47 17 (((M13 47 17) + 1)))).bind fun (M14 : zM) =>
  some (M14)
def f_X6_readItem (M : zM) : Option (zM) :=
  (f_X6_kindTold  M).bind fun (v17 : Int32) =>
  if v17 < 0 then
    (f_X6_isWord 8 M).bind fun (v20 : Int32) =>
    if v20 = 0 then
      (f_X6_isWord 7 M).bind fun (v23 : Int32) =>
      (f_X6_must v23 M).bind fun (M25 : zM) =>
      (f_X6_number 0 5 M25).bind fun ((v27, M28) : Int32 × zM) =>
      (f_X6_afterWord 11 (-1) 9999 M28).bind fun ((v30, M31) : Int32 × zM) =>
      (f_X6_afterWord 12 (-1) ((M31 47 17) - 1) M31).bind fun ((v33, M34) : Int32 × zM) =>
      (f_X6_item 10 v27 v30 v33 M34).bind fun (M36 : zM) =>
      some (M36)
    else
      (f_X6_must 1 M).bind fun (M38 : zM) =>
      (f_X6_number 0 719 M38).bind fun ((v40, M41) : Int32 × zM) =>
      (f_X6_item 11 v40 0 0 M41).bind fun (M43 : zM) =>
      some (M43)
  else
    if 8 ≤ (M 47 17) then
      f_X6_readItem_j24 v17 0 M
    else
      f_X6_readItem_j24 v17 1 M
theorem cd_X6_readItem : zCd yX6_readItem cX6_readItem 4 none 0 := ⟨w1175, w69, ⟨by decide, by decide⟩, by decide +kernel⟩
set_option maxHeartbeats 4000000 in
set_option maxRecDepth 20000 in
theorem ok_X6_readItem {M : zM} {y : zM}  (h : f_X6_readItem  M = some y) : zRuns yX6_readItem cX6_readItem 4 none 8 207 [.ref 47] M none y := by
  refine zRuns_of (by decide +kernel) (Nat.le_of_ble_eq_true rfl) (fun E Z hE => ?_)
  have h := zB_top h
  change VV E 4 0 [(0, Value.ref 47)] [] M
  have J24 : ∀ (y1 : Int32) (s0 : Int32) (M : zM), (f_X6_readItem_j24 y1 s0 M).bind some = some y → VV E 4 24 [(0, Value.ref 47), (1, Value.int y1)] [Value.int s0, Value.ref 47] M := by
    intro y1 s0 M h
    obtain ⟨M2, e1, h⟩ := zB_bind h
    refine V_callV (rest := []) 1 Z (ok_X6_must  e1) cd_X6_must zc5 (by decide) rfl w1186 w1188 w58 rfl (show decode cX6_readItem 24 = .ok (.invokevirtual 269, 3) by decide +kernel) rfl ?_
    refine V_aload_n 0 Z rfl rfl (show decode cX6_readItem 27 = .ok (.aload_n 0, 1) by decide +kernel) ?_
    refine V_iconst 0 (by decide) Z (show decode cX6_readItem 28 = .ok (.iconst 0, 1) by decide +kernel) ?_
    refine V_bipush 99 (by decide) Z (show decode cX6_readItem 29 = .ok (.bipush 99, 2) by decide +kernel) ?_
    obtain ⟨⟨v4, M5⟩, e3, h⟩ := zB_bind h
    refine V_callV (rest := []) 2 Z (ok_X6_number  e3) cd_X6_number zc5 (by decide) rfl w1190 w1192 w59 rfl (show decode cX6_readItem 31 = .ok (.invokevirtual 280, 3) by decide +kernel) rfl ?_
    refine V_istore_n [(2, Value.int v4), (0, Value.ref 47), (1, Value.int y1)] Z (by decide) rfl rfl (show decode cX6_readItem 34 = .ok (.istore_n 2, 1) by decide +kernel) ?_
    refine V_aload_n 1 Z rfl rfl (show decode cX6_readItem 35 = .ok (.aload_n 0, 1) by decide +kernel) ?_
    refine V_ldcS "worn" 9 Z (by decide +kernel) (show decode cX6_readItem 36 = .ok (.ldc_w 289, 3) by decide +kernel) ?_
    refine V_iconst 0 (by decide) Z (show decode cX6_readItem 39 = .ok (.iconst 0, 1) by decide +kernel) ?_
    refine V_bipush 99 (by decide) Z (show decode cX6_readItem 40 = .ok (.bipush 99, 2) by decide +kernel) ?_
    obtain ⟨⟨v7, M8⟩, e6, h⟩ := zB_bind h
    refine V_callV (rest := []) 3 Z (ok_X6_afterWord (by decide) e6) cd_X6_afterWord zc5 (by decide) rfl w1195 w1197 w60 rfl (show decode cX6_readItem 42 = .ok (.invokevirtual 291, 3) by decide +kernel) rfl ?_
    refine V_istore_n [(3, Value.int v7), (2, Value.int v4), (0, Value.ref 47), (1, Value.int y1)] Z (by decide) rfl rfl (show decode cX6_readItem 45 = .ok (.istore_n 3, 1) by decide +kernel) ?_
    refine V_aload_n 2 Z rfl rfl (show decode cX6_readItem 46 = .ok (.aload_n 0, 1) by decide +kernel) ?_
    refine V_iload_n 3 Z rfl rfl (show decode cX6_readItem 47 = .ok (.iload_n 1, 1) by decide +kernel) ?_
    refine V_iload_n 1 Z rfl rfl (show decode cX6_readItem 48 = .ok (.iload_n 2, 1) by decide +kernel) ?_
    refine V_iload_n 0 Z rfl rfl (show decode cX6_readItem 49 = .ok (.iload_n 3, 1) by decide +kernel) ?_
    refine V_aload_n 2 Z rfl rfl (show decode cX6_readItem 50 = .ok (.aload_n 0, 1) by decide +kernel) ?_
    refine V_ldcS "against" 10 Z (by decide +kernel) (show decode cX6_readItem 51 = .ok (.ldc_w 295, 3) by decide +kernel) ?_
    refine V_iconst (-1) (by decide) Z (show decode cX6_readItem 54 = .ok (.iconst (-1), 1) by decide +kernel) ?_
    refine V_aload_n 2 Z rfl rfl (show decode cX6_readItem 55 = .ok (.aload_n 0, 1) by decide +kernel) ?_
    refine V_getI 17 Z zc5 (by decide) rfl (by decide) rfl ⟨rfl, rfl, rfl⟩ w783 (show decode cX6_readItem 56 = .ok (.getfield 286, 3) by decide +kernel) ?_
    refine V_iconst 1 (by decide) Z (show decode cX6_readItem 59 = .ok (.iconst 1, 1) by decide +kernel) ?_
    refine V_isub Z (show decode cX6_readItem 60 = .ok (.isub, 1) by decide +kernel) ?_
    obtain ⟨⟨v10, M11⟩, e9, h⟩ := zB_bind h
    refine V_callV (rest := [_, _, _, _]) 3 Z (ok_X6_afterWord (by decide) e9) cd_X6_afterWord zc5 (by decide) rfl w1195 w1197 w60 rfl (show decode cX6_readItem 61 = .ok (.invokevirtual 291, 3) by decide +kernel) rfl ?_
    obtain ⟨M13, e12, h⟩ := zB_bind h
    refine V_callV (rest := []) 4 Z (ok_X6_item  e12) cd_X6_item zc5 (by decide) rfl w1200 w1202 w61 rfl (show decode cX6_readItem 64 = .ok (.invokevirtual 297, 3) by decide +kernel) rfl ?_
    refine V_aload_n 2 Z rfl rfl (show decode cX6_readItem 67 = .ok (.aload_n 0, 1) by decide +kernel) ?_
    refine V_dup rfl Z (show decode cX6_readItem 68 = .ok (.dup, 1) by decide +kernel) ?_
    refine V_getI 17 Z zc5 (by decide) rfl (by decide) rfl ⟨rfl, rfl, rfl⟩ w783 (show decode cX6_readItem 69 = .ok (.getfield 286, 3) by decide +kernel) ?_
    refine V_iconst 1 (by decide) Z (show decode cX6_readItem 72 = .ok (.iconst 1, 1) by decide +kernel) ?_
    refine V_iadd Z (show decode cX6_readItem 73 = .ok (.iadd, 1) by decide +kernel) ?_
    obtain ⟨M14, e15, h⟩ := zB_let h
    refine V_putI 17 Z zc5 (by decide) rfl (by decide) rfl ⟨rfl, rfl, rfl⟩ rfl rfl w783 (show decode cX6_readItem 74 = .ok (.putfield 286, 3) by decide +kernel) ?_
    refine V_nmM e15 ?_
    refine V_goto 166 Z (by decide) (show decode cX6_readItem 77 = .ok (.goto 89, 3) by decide +kernel) ?_
    exact V_vretM Z hE h (show decode cX6_readItem 166 = .ok (.return_, 1) by decide +kernel)
  refine V_aload_n 0 Z rfl rfl (show decode cX6_readItem 0 = .ok (.aload_n 0, 1) by decide +kernel) ?_
  obtain ⟨v17, e16, h⟩ := zB_bind h
  refine V_callV (rest := []) 0 Z (ok_X6_kindTold  e16) cd_X6_kindTold zc5 (by decide) rfl w1176 w1178 w56 rfl (show decode cX6_readItem 1 = .ok (.invokevirtual 283, 3) by decide +kernel) rfl ?_
  refine V_istore_n [(1, Value.int v17), (0, Value.ref 47)] Z (by decide) rfl rfl (show decode cX6_readItem 4 = .ok (.istore_n 1, 1) by decide +kernel) ?_
  refine V_iload_n 0 Z rfl rfl (show decode cX6_readItem 5 = .ok (.iload_n 1, 1) by decide +kernel) ?_
  refine V_if_lt 80 Z (by decide) (show decode cX6_readItem 6 = .ok (.ifCond .lt 74, 3) by decide +kernel) (fun c18 => ?_) (fun c18 => ?_)
  · have h := zB_pos c18 h
    refine V_aload_n 1 Z rfl rfl (show decode cX6_readItem 80 = .ok (.aload_n 0, 1) by decide +kernel) ?_
    refine V_ldcS "order" 8 Z (by decide +kernel) (show decode cX6_readItem 81 = .ok (.ldc_w 301, 3) by decide +kernel) ?_
    obtain ⟨v20, e19, h⟩ := zB_bind h
    refine V_callV (rest := []) 1 Z (ok_X6_isWord (by decide) e19) cd_X6_isWord zc5 (by decide) rfl w1180 w1182 w57 rfl (show decode cX6_readItem 84 = .ok (.invokevirtual 276, 3) by decide +kernel) rfl ?_
    refine V_if_eq 114 Z (by decide) (show decode cX6_readItem 87 = .ok (.ifCond .eq 27, 3) by decide +kernel) (fun c21 => ?_) (fun c21 => ?_)
    · have h := zB_pos c21 h
      refine V_aload_n 1 Z rfl rfl (show decode cX6_readItem 114 = .ok (.aload_n 0, 1) by decide +kernel) ?_
      refine V_aload_n 1 Z rfl rfl (show decode cX6_readItem 115 = .ok (.aload_n 0, 1) by decide +kernel) ?_
      refine V_ldcS "person" 7 Z (by decide +kernel) (show decode cX6_readItem 116 = .ok (.ldc_w 303, 3) by decide +kernel) ?_
      obtain ⟨v23, e22, h⟩ := zB_bind h
      refine V_callV (rest := [_]) 1 Z (ok_X6_isWord (by decide) e22) cd_X6_isWord zc5 (by decide) rfl w1180 w1182 w57 rfl (show decode cX6_readItem 119 = .ok (.invokevirtual 276, 3) by decide +kernel) rfl ?_
      obtain ⟨M25, e24, h⟩ := zB_bind h
      refine V_callV (rest := []) 1 Z (ok_X6_must  e24) cd_X6_must zc5 (by decide) rfl w1186 w1188 w58 rfl (show decode cX6_readItem 122 = .ok (.invokevirtual 269, 3) by decide +kernel) rfl ?_
      refine V_aload_n 1 Z rfl rfl (show decode cX6_readItem 125 = .ok (.aload_n 0, 1) by decide +kernel) ?_
      refine V_iconst 0 (by decide) Z (show decode cX6_readItem 126 = .ok (.iconst 0, 1) by decide +kernel) ?_
      refine V_iconst 5 (by decide) Z (show decode cX6_readItem 127 = .ok (.iconst 5, 1) by decide +kernel) ?_
      obtain ⟨⟨v27, M28⟩, e26, h⟩ := zB_bind h
      refine V_callV (rest := []) 2 Z (ok_X6_number  e26) cd_X6_number zc5 (by decide) rfl w1190 w1192 w59 rfl (show decode cX6_readItem 128 = .ok (.invokevirtual 280, 3) by decide +kernel) rfl ?_
      refine V_istore_n [(2, Value.int v27), (1, Value.int v17), (0, Value.ref 47)] Z (by decide) rfl rfl (show decode cX6_readItem 131 = .ok (.istore_n 2, 1) by decide +kernel) ?_
      refine V_aload_n 2 Z rfl rfl (show decode cX6_readItem 132 = .ok (.aload_n 0, 1) by decide +kernel) ?_
      refine V_ldcS "purse" 11 Z (by decide +kernel) (show decode cX6_readItem 133 = .ok (.ldc_w 305, 3) by decide +kernel) ?_
      refine V_iconst (-1) (by decide) Z (show decode cX6_readItem 136 = .ok (.iconst (-1), 1) by decide +kernel) ?_
      refine V_sipush 9999 (by decide) Z (show decode cX6_readItem 137 = .ok (.sipush 9999, 3) by decide +kernel) ?_
      obtain ⟨⟨v30, M31⟩, e29, h⟩ := zB_bind h
      refine V_callV (rest := []) 3 Z (ok_X6_afterWord (by decide) e29) cd_X6_afterWord zc5 (by decide) rfl w1195 w1197 w60 rfl (show decode cX6_readItem 140 = .ok (.invokevirtual 291, 3) by decide +kernel) rfl ?_
      refine V_istore_n [(3, Value.int v30), (2, Value.int v27), (1, Value.int v17), (0, Value.ref 47)] Z (by decide) rfl rfl (show decode cX6_readItem 143 = .ok (.istore_n 3, 1) by decide +kernel) ?_
      refine V_aload_n 3 Z rfl rfl (show decode cX6_readItem 144 = .ok (.aload_n 0, 1) by decide +kernel) ?_
      refine V_bipush 10 (by decide) Z (show decode cX6_readItem 145 = .ok (.bipush 10, 2) by decide +kernel) ?_
      refine V_iload_n 1 Z rfl rfl (show decode cX6_readItem 147 = .ok (.iload_n 2, 1) by decide +kernel) ?_
      refine V_iload_n 0 Z rfl rfl (show decode cX6_readItem 148 = .ok (.iload_n 3, 1) by decide +kernel) ?_
      refine V_aload_n 3 Z rfl rfl (show decode cX6_readItem 149 = .ok (.aload_n 0, 1) by decide +kernel) ?_
      refine V_ldcS "wishes" 12 Z (by decide +kernel) (show decode cX6_readItem 150 = .ok (.ldc_w 307, 3) by decide +kernel) ?_
      refine V_iconst (-1) (by decide) Z (show decode cX6_readItem 153 = .ok (.iconst (-1), 1) by decide +kernel) ?_
      refine V_aload_n 3 Z rfl rfl (show decode cX6_readItem 154 = .ok (.aload_n 0, 1) by decide +kernel) ?_
      refine V_getI 17 Z zc5 (by decide) rfl (by decide) rfl ⟨rfl, rfl, rfl⟩ w783 (show decode cX6_readItem 155 = .ok (.getfield 286, 3) by decide +kernel) ?_
      refine V_iconst 1 (by decide) Z (show decode cX6_readItem 158 = .ok (.iconst 1, 1) by decide +kernel) ?_
      refine V_isub Z (show decode cX6_readItem 159 = .ok (.isub, 1) by decide +kernel) ?_
      obtain ⟨⟨v33, M34⟩, e32, h⟩ := zB_bind h
      refine V_callV (rest := [_, _, _, _]) 3 Z (ok_X6_afterWord (by decide) e32) cd_X6_afterWord zc5 (by decide) rfl w1195 w1197 w60 rfl (show decode cX6_readItem 160 = .ok (.invokevirtual 291, 3) by decide +kernel) rfl ?_
      obtain ⟨M36, e35, h⟩ := zB_bind h
      refine V_callV (rest := []) 4 Z (ok_X6_item  e35) cd_X6_item zc5 (by decide) rfl w1200 w1202 w61 rfl (show decode cX6_readItem 163 = .ok (.invokevirtual 297, 3) by decide +kernel) rfl ?_
      exact V_vretM Z hE h (show decode cX6_readItem 166 = .ok (.return_, 1) by decide +kernel)
    · have h := zB_neg c21 h
      refine V_aload_n 1 Z rfl rfl (show decode cX6_readItem 90 = .ok (.aload_n 0, 1) by decide +kernel) ?_
      refine V_iconst 1 (by decide) Z (show decode cX6_readItem 91 = .ok (.iconst 1, 1) by decide +kernel) ?_
      obtain ⟨M38, e37, h⟩ := zB_bind h
      refine V_callV (rest := []) 1 Z (ok_X6_must  e37) cd_X6_must zc5 (by decide) rfl w1186 w1188 w58 rfl (show decode cX6_readItem 92 = .ok (.invokevirtual 269, 3) by decide +kernel) rfl ?_
      refine V_aload_n 1 Z rfl rfl (show decode cX6_readItem 95 = .ok (.aload_n 0, 1) by decide +kernel) ?_
      refine V_bipush 11 (by decide) Z (show decode cX6_readItem 96 = .ok (.bipush 11, 2) by decide +kernel) ?_
      refine V_aload_n 1 Z rfl rfl (show decode cX6_readItem 98 = .ok (.aload_n 0, 1) by decide +kernel) ?_
      refine V_iconst 0 (by decide) Z (show decode cX6_readItem 99 = .ok (.iconst 0, 1) by decide +kernel) ?_
      refine V_sipush 719 (by decide) Z (show decode cX6_readItem 100 = .ok (.sipush 719, 3) by decide +kernel) ?_
      obtain ⟨⟨v40, M41⟩, e39, h⟩ := zB_bind h
      refine V_callV (rest := [_, _]) 2 Z (ok_X6_number  e39) cd_X6_number zc5 (by decide) rfl w1190 w1192 w59 rfl (show decode cX6_readItem 103 = .ok (.invokevirtual 280, 3) by decide +kernel) rfl ?_
      refine V_iconst 0 (by decide) Z (show decode cX6_readItem 106 = .ok (.iconst 0, 1) by decide +kernel) ?_
      refine V_iconst 0 (by decide) Z (show decode cX6_readItem 107 = .ok (.iconst 0, 1) by decide +kernel) ?_
      obtain ⟨M43, e42, h⟩ := zB_bind h
      refine V_callV (rest := []) 4 Z (ok_X6_item  e42) cd_X6_item zc5 (by decide) rfl w1200 w1202 w61 rfl (show decode cX6_readItem 108 = .ok (.invokevirtual 297, 3) by decide +kernel) rfl ?_
      refine V_goto 166 Z (by decide) (show decode cX6_readItem 111 = .ok (.goto 55, 3) by decide +kernel) ?_
      exact V_vretM Z hE h (show decode cX6_readItem 166 = .ok (.return_, 1) by decide +kernel)
  · have h := zB_neg c18 h
    refine V_aload_n 1 Z rfl rfl (show decode cX6_readItem 9 = .ok (.aload_n 0, 1) by decide +kernel) ?_
    refine V_aload_n 1 Z rfl rfl (show decode cX6_readItem 10 = .ok (.aload_n 0, 1) by decide +kernel) ?_
    refine V_getI 17 Z zc5 (by decide) rfl (by decide) rfl ⟨rfl, rfl, rfl⟩ w783 (show decode cX6_readItem 11 = .ok (.getfield 286, 3) by decide +kernel) ?_
    refine V_bipush 8 (by decide) Z (show decode cX6_readItem 14 = .ok (.bipush 8, 2) by decide +kernel) ?_
    refine V_icmp_ge 23 Z (by decide) (show decode cX6_readItem 16 = .ok (.if_icmp .ge 7, 3) by decide +kernel) (fun c44 => ?_) (fun c44 => ?_)
    · have h := zB_pos c44 h
      refine V_iconst 0 (by decide) Z (show decode cX6_readItem 23 = .ok (.iconst 0, 1) by decide +kernel) ?_
      refine V_sub [1, 0] rfl ?_
      exact J24 _ _ _ h
    · have h := zB_neg c44 h
      refine V_iconst 1 (by decide) Z (show decode cX6_readItem 19 = .ok (.iconst 1, 1) by decide +kernel) ?_
      refine V_goto 24 Z (by decide) (show decode cX6_readItem 20 = .ok (.goto 4, 3) by decide +kernel) ?_
      refine V_sub [1, 0] rfl ?_
      exact J24 _ _ _ h
def f_X6_isToldSo_j110 (y2 : Int32) (s0 : Int32) (s1 : Int32) (M : zM) : Option (Int32 × zM) :=
  (zwr M 48 s1 s0).bind fun (M1 : zM) =>
  some ((y2, M1))
def f_X6_isToldSo_j82 (y2 : Int32) (y4 : Int32) (s0 : Int32) (s1 : Int32) (M : zM) : Option (Int32 × zM) :=
  (zwr M 48 s1 s0).bind fun (M3 : zM) =>
  if 0 ≤ y4 then
    f_X6_isToldSo_j110 y2 y4 (61 + y2) M3
  else
    (zrd M3 48 (61 + y2)).bind fun (v6 : Int32) =>
    f_X6_isToldSo_j110 y2 v6 (61 + y2) M3
def f_X6_isToldSo (x1 : Int32) (M : zM) : Option (Int32 × zM) :=
  (zrd M 56 (x1 + 1)).bind fun (v8 : Int32) =>
  (zrd M 56 (x1 + 2)).bind fun (v10 : Int32) =>
  (zrd M 56 (x1 + 3)).bind fun (v12 : Int32) =>
  (zrd M 56 x1).bind fun (v14 : Int32) =>
  if v14 = 11 then
    (f_X6_become 3 v8 M).bind fun ((v29, M30) : Int32 × zM) =>
    some ((v29, M30))
  else
    (zrd M 56 x1).bind fun (v17 : Int32) =>
    if v17 = 10 then
      if 0 ≤ v10 then
        f_X6_isToldSo_j82 v8 v12 v10 (55 + v8) M
      else
        (zrd M 48 (55 + v8)).bind fun (v26 : Int32) =>
        f_X6_isToldSo_j82 v8 v12 v26 (55 + v8) M
    else
      (zrd M 56 x1).bind fun (v20 : Int32) =>
      (f_X6_comes v20 v8 v10 v12 M).bind fun ((v23, M24) : Int32 × zM) =>
      some ((v23, M24))
theorem cd_X6_isToldSo : zCd yX6_isToldSo cX6_isToldSo 5 (some .int) 1 := ⟨w1211, w69, ⟨by decide, by decide⟩, by decide +kernel⟩
set_option maxHeartbeats 4000000 in
set_option maxRecDepth 20000 in
theorem ok_X6_isToldSo {x1 : Int32} {M : zM} {y : Int32 × zM}  (h : f_X6_isToldSo x1 M = some y) : zRuns yX6_isToldSo cX6_isToldSo 5 (some .int) 2 46 [.ref 47, .int x1] M (some (.int y.1)) y.2 := by
  refine zRuns_of (by decide +kernel) (Nat.le_of_ble_eq_true rfl) (fun E Z hE => ?_)
  have h := zB_top h
  change VV E 5 0 [(0, Value.ref 47), (1, Value.int x1)] [] M
  have J110 : ∀ (y2 : Int32) (s0 : Int32) (s1 : Int32) (M : zM), (f_X6_isToldSo_j110 y2 s0 s1 M).bind some = some y → VV E 5 110 [(2, Value.int y2)] [Value.int s0, Value.int s1, Value.ref 48] M := by
    intro y2 s0 s1 M h
    obtain ⟨M1, e2, h⟩ := zB_bind h
    refine V_iast Z e2 (show decode cX6_isToldSo 110 = .ok (.iastore, 1) by decide +kernel) ?_
    refine V_iload_n 0 Z rfl rfl (show decode cX6_isToldSo 111 = .ok (.iload_n 2, 1) by decide +kernel) ?_
    exact V_iretM Z hE h (show decode cX6_isToldSo 112 = .ok (.ireturn, 1) by decide +kernel)
  have J82 : ∀ (y2 : Int32) (y4 : Int32) (s0 : Int32) (s1 : Int32) (M : zM), (f_X6_isToldSo_j82 y2 y4 s0 s1 M).bind some = some y → VV E 5 82 [(0, Value.ref 47), (2, Value.int y2), (4, Value.int y4)] [Value.int s0, Value.int s1, Value.ref 48] M := by
    intro y2 y4 s0 s1 M h
    obtain ⟨M3, e4, h⟩ := zB_bind h
    refine V_iast Z e4 (show decode cX6_isToldSo 82 = .ok (.iastore, 1) by decide +kernel) ?_
    refine V_aload_n 0 Z rfl rfl (show decode cX6_isToldSo 83 = .ok (.aload_n 0, 1) by decide +kernel) ?_
    refine V_getR 0 48 Z zc5 (by decide) rfl (by decide) rfl (by decide) ⟨rfl, rfl, rfl⟩ w766 (show decode cX6_isToldSo 84 = .ok (.getfield 9, 3) by decide +kernel) ?_
    refine V_bipush 61 (by decide) Z (show decode cX6_isToldSo 87 = .ok (.bipush 61, 2) by decide +kernel) ?_
    refine V_iload_n 1 Z rfl rfl (show decode cX6_isToldSo 89 = .ok (.iload_n 2, 1) by decide +kernel) ?_
    refine V_iadd Z (show decode cX6_isToldSo 90 = .ok (.iadd, 1) by decide +kernel) ?_
    refine V_iload 2 Z rfl (show decode cX6_isToldSo 91 = .ok (.iload 4, 2) by decide +kernel) ?_
    refine V_if_ge 108 Z (by decide) (show decode cX6_isToldSo 93 = .ok (.ifCond .ge 15, 3) by decide +kernel) (fun c5 => ?_) (fun c5 => ?_)
    · have h := zB_pos c5 h
      refine V_iload 2 Z rfl (show decode cX6_isToldSo 108 = .ok (.iload 4, 2) by decide +kernel) ?_
      refine V_sub [1] rfl ?_
      exact J110 _ _ _ _ h
    · have h := zB_neg c5 h
      refine V_aload_n 0 Z rfl rfl (show decode cX6_isToldSo 96 = .ok (.aload_n 0, 1) by decide +kernel) ?_
      refine V_getR 0 48 Z zc5 (by decide) rfl (by decide) rfl (by decide) ⟨rfl, rfl, rfl⟩ w766 (show decode cX6_isToldSo 97 = .ok (.getfield 9, 3) by decide +kernel) ?_
      refine V_bipush 61 (by decide) Z (show decode cX6_isToldSo 100 = .ok (.bipush 61, 2) by decide +kernel) ?_
      refine V_iload_n 1 Z rfl rfl (show decode cX6_isToldSo 102 = .ok (.iload_n 2, 1) by decide +kernel) ?_
      refine V_iadd Z (show decode cX6_isToldSo 103 = .ok (.iadd, 1) by decide +kernel) ?_
      obtain ⟨v6, e7, h⟩ := zB_bind h
      refine V_iald Z e7 (show decode cX6_isToldSo 104 = .ok (.iaload, 1) by decide +kernel) ?_
      refine V_goto 110 Z (by decide) (show decode cX6_isToldSo 105 = .ok (.goto 5, 3) by decide +kernel) ?_
      refine V_sub [1] rfl ?_
      exact J110 _ _ _ _ h
  refine V_aload_n 0 Z rfl rfl (show decode cX6_isToldSo 0 = .ok (.aload_n 0, 1) by decide +kernel) ?_
  refine V_getR 15 56 Z zc5 (by decide) rfl (by decide) rfl (by decide) ⟨rfl, rfl, rfl⟩ w781 (show decode cX6_isToldSo 1 = .ok (.getfield 51, 3) by decide +kernel) ?_
  refine V_iload_n 1 Z rfl rfl (show decode cX6_isToldSo 4 = .ok (.iload_n 1, 1) by decide +kernel) ?_
  refine V_iconst 1 (by decide) Z (show decode cX6_isToldSo 5 = .ok (.iconst 1, 1) by decide +kernel) ?_
  refine V_iadd Z (show decode cX6_isToldSo 6 = .ok (.iadd, 1) by decide +kernel) ?_
  obtain ⟨v8, e9, h⟩ := zB_bind h
  refine V_iald Z e9 (show decode cX6_isToldSo 7 = .ok (.iaload, 1) by decide +kernel) ?_
  refine V_istore_n [(2, Value.int v8), (0, Value.ref 47), (1, Value.int x1)] Z (by decide) rfl rfl (show decode cX6_isToldSo 8 = .ok (.istore_n 2, 1) by decide +kernel) ?_
  refine V_aload_n 1 Z rfl rfl (show decode cX6_isToldSo 9 = .ok (.aload_n 0, 1) by decide +kernel) ?_
  refine V_getR 15 56 Z zc5 (by decide) rfl (by decide) rfl (by decide) ⟨rfl, rfl, rfl⟩ w781 (show decode cX6_isToldSo 10 = .ok (.getfield 51, 3) by decide +kernel) ?_
  refine V_iload_n 2 Z rfl rfl (show decode cX6_isToldSo 13 = .ok (.iload_n 1, 1) by decide +kernel) ?_
  refine V_iconst 2 (by decide) Z (show decode cX6_isToldSo 14 = .ok (.iconst 2, 1) by decide +kernel) ?_
  refine V_iadd Z (show decode cX6_isToldSo 15 = .ok (.iadd, 1) by decide +kernel) ?_
  obtain ⟨v10, e11, h⟩ := zB_bind h
  refine V_iald Z e11 (show decode cX6_isToldSo 16 = .ok (.iaload, 1) by decide +kernel) ?_
  refine V_istore_n [(3, Value.int v10), (2, Value.int v8), (0, Value.ref 47), (1, Value.int x1)] Z (by decide) rfl rfl (show decode cX6_isToldSo 17 = .ok (.istore_n 3, 1) by decide +kernel) ?_
  refine V_aload_n 2 Z rfl rfl (show decode cX6_isToldSo 18 = .ok (.aload_n 0, 1) by decide +kernel) ?_
  refine V_getR 15 56 Z zc5 (by decide) rfl (by decide) rfl (by decide) ⟨rfl, rfl, rfl⟩ w781 (show decode cX6_isToldSo 19 = .ok (.getfield 51, 3) by decide +kernel) ?_
  refine V_iload_n 3 Z rfl rfl (show decode cX6_isToldSo 22 = .ok (.iload_n 1, 1) by decide +kernel) ?_
  refine V_iconst 3 (by decide) Z (show decode cX6_isToldSo 23 = .ok (.iconst 3, 1) by decide +kernel) ?_
  refine V_iadd Z (show decode cX6_isToldSo 24 = .ok (.iadd, 1) by decide +kernel) ?_
  obtain ⟨v12, e13, h⟩ := zB_bind h
  refine V_iald Z e13 (show decode cX6_isToldSo 25 = .ok (.iaload, 1) by decide +kernel) ?_
  refine V_istore [(4, Value.int v12), (3, Value.int v10), (2, Value.int v8), (0, Value.ref 47), (1, Value.int x1)] Z (by decide) rfl (show decode cX6_isToldSo 26 = .ok (.istore 4, 2) by decide +kernel) ?_
  refine V_aload_n 3 Z rfl rfl (show decode cX6_isToldSo 28 = .ok (.aload_n 0, 1) by decide +kernel) ?_
  refine V_getR 15 56 Z zc5 (by decide) rfl (by decide) rfl (by decide) ⟨rfl, rfl, rfl⟩ w781 (show decode cX6_isToldSo 29 = .ok (.getfield 51, 3) by decide +kernel) ?_
  refine V_iload_n 4 Z rfl rfl (show decode cX6_isToldSo 32 = .ok (.iload_n 1, 1) by decide +kernel) ?_
  obtain ⟨v14, e15, h⟩ := zB_bind h
  refine V_iald Z e15 (show decode cX6_isToldSo 33 = .ok (.iaload, 1) by decide +kernel) ?_
  refine V_bipush 11 (by decide) Z (show decode cX6_isToldSo 34 = .ok (.bipush 11, 2) by decide +kernel) ?_
  refine V_icmp_ne 46 Z (by decide) (show decode cX6_isToldSo 36 = .ok (.if_icmp .ne 10, 3) by decide +kernel) (fun c16 => ?_) (fun c16 => ?_)
  · have h := zB_neg c16 h
    refine V_aload_n 3 Z rfl rfl (show decode cX6_isToldSo 46 = .ok (.aload_n 0, 1) by decide +kernel) ?_
    refine V_getR 15 56 Z zc5 (by decide) rfl (by decide) rfl (by decide) ⟨rfl, rfl, rfl⟩ w781 (show decode cX6_isToldSo 47 = .ok (.getfield 51, 3) by decide +kernel) ?_
    refine V_iload_n 4 Z rfl rfl (show decode cX6_isToldSo 50 = .ok (.iload_n 1, 1) by decide +kernel) ?_
    obtain ⟨v17, e18, h⟩ := zB_bind h
    refine V_iald Z e18 (show decode cX6_isToldSo 51 = .ok (.iaload, 1) by decide +kernel) ?_
    refine V_bipush 10 (by decide) Z (show decode cX6_isToldSo 52 = .ok (.bipush 10, 2) by decide +kernel) ?_
    refine V_icmp_ne 113 Z (by decide) (show decode cX6_isToldSo 54 = .ok (.if_icmp .ne 59, 3) by decide +kernel) (fun c19 => ?_) (fun c19 => ?_)
    · have h := zB_neg c19 h
      refine V_aload_n 3 Z rfl rfl (show decode cX6_isToldSo 113 = .ok (.aload_n 0, 1) by decide +kernel) ?_
      refine V_aload_n 3 Z rfl rfl (show decode cX6_isToldSo 114 = .ok (.aload_n 0, 1) by decide +kernel) ?_
      refine V_getR 15 56 Z zc5 (by decide) rfl (by decide) rfl (by decide) ⟨rfl, rfl, rfl⟩ w781 (show decode cX6_isToldSo 115 = .ok (.getfield 51, 3) by decide +kernel) ?_
      refine V_iload_n 4 Z rfl rfl (show decode cX6_isToldSo 118 = .ok (.iload_n 1, 1) by decide +kernel) ?_
      obtain ⟨v20, e21, h⟩ := zB_bind h
      refine V_iald Z e21 (show decode cX6_isToldSo 119 = .ok (.iaload, 1) by decide +kernel) ?_
      refine V_iload_n 2 Z rfl rfl (show decode cX6_isToldSo 120 = .ok (.iload_n 2, 1) by decide +kernel) ?_
      refine V_iload_n 1 Z rfl rfl (show decode cX6_isToldSo 121 = .ok (.iload_n 3, 1) by decide +kernel) ?_
      refine V_iload 0 Z rfl (show decode cX6_isToldSo 122 = .ok (.iload 4, 2) by decide +kernel) ?_
      obtain ⟨⟨v23, M24⟩, e22, h⟩ := zB_bind h
      refine V_callV (rest := []) 4 Z (ok_X6_comes  e22) cd_X6_comes zc5 (by decide) rfl w849 w851 w18 rfl (show decode cX6_isToldSo 124 = .ok (.invokevirtual 89, 3) by decide +kernel) rfl ?_
      exact V_iretM Z hE h (show decode cX6_isToldSo 127 = .ok (.ireturn, 1) by decide +kernel)
    · have h := zB_pos c19 h
      refine V_aload_n 3 Z rfl rfl (show decode cX6_isToldSo 57 = .ok (.aload_n 0, 1) by decide +kernel) ?_
      refine V_getR 0 48 Z zc5 (by decide) rfl (by decide) rfl (by decide) ⟨rfl, rfl, rfl⟩ w766 (show decode cX6_isToldSo 58 = .ok (.getfield 9, 3) by decide +kernel) ?_
      refine V_bipush 55 (by decide) Z (show decode cX6_isToldSo 61 = .ok (.bipush 55, 2) by decide +kernel) ?_
      refine V_iload_n 2 Z rfl rfl (show decode cX6_isToldSo 63 = .ok (.iload_n 2, 1) by decide +kernel) ?_
      refine V_iadd Z (show decode cX6_isToldSo 64 = .ok (.iadd, 1) by decide +kernel) ?_
      refine V_iload_n 1 Z rfl rfl (show decode cX6_isToldSo 65 = .ok (.iload_n 3, 1) by decide +kernel) ?_
      refine V_if_ge 81 Z (by decide) (show decode cX6_isToldSo 66 = .ok (.ifCond .ge 15, 3) by decide +kernel) (fun c25 => ?_) (fun c25 => ?_)
      · have h := zB_pos c25 h
        refine V_iload_n 1 Z rfl rfl (show decode cX6_isToldSo 81 = .ok (.iload_n 3, 1) by decide +kernel) ?_
        refine V_sub [3, 2, 0] rfl ?_
        exact J82 _ _ _ _ _ h
      · have h := zB_neg c25 h
        refine V_aload_n 3 Z rfl rfl (show decode cX6_isToldSo 69 = .ok (.aload_n 0, 1) by decide +kernel) ?_
        refine V_getR 0 48 Z zc5 (by decide) rfl (by decide) rfl (by decide) ⟨rfl, rfl, rfl⟩ w766 (show decode cX6_isToldSo 70 = .ok (.getfield 9, 3) by decide +kernel) ?_
        refine V_bipush 55 (by decide) Z (show decode cX6_isToldSo 73 = .ok (.bipush 55, 2) by decide +kernel) ?_
        refine V_iload_n 2 Z rfl rfl (show decode cX6_isToldSo 75 = .ok (.iload_n 2, 1) by decide +kernel) ?_
        refine V_iadd Z (show decode cX6_isToldSo 76 = .ok (.iadd, 1) by decide +kernel) ?_
        obtain ⟨v26, e27, h⟩ := zB_bind h
        refine V_iald Z e27 (show decode cX6_isToldSo 77 = .ok (.iaload, 1) by decide +kernel) ?_
        refine V_goto 82 Z (by decide) (show decode cX6_isToldSo 78 = .ok (.goto 4, 3) by decide +kernel) ?_
        refine V_sub [3, 2, 0] rfl ?_
        exact J82 _ _ _ _ _ h
  · have h := zB_pos c16 h
    refine V_aload_n 3 Z rfl rfl (show decode cX6_isToldSo 39 = .ok (.aload_n 0, 1) by decide +kernel) ?_
    refine V_iconst 3 (by decide) Z (show decode cX6_isToldSo 40 = .ok (.iconst 3, 1) by decide +kernel) ?_
    refine V_iload_n 2 Z rfl rfl (show decode cX6_isToldSo 41 = .ok (.iload_n 2, 1) by decide +kernel) ?_
    obtain ⟨⟨v29, M30⟩, e28, h⟩ := zB_bind h
    refine V_callV (rest := []) 2 Z (ok_X6_become  e28) cd_X6_become zc5 (by decide) rfl w897 w899 w27 rfl (show decode cX6_isToldSo 42 = .ok (.invokevirtual 119, 3) by decide +kernel) rfl ?_
    exact V_iretM Z hE h (show decode cX6_isToldSo 45 = .ok (.ireturn, 1) by decide +kernel)
