/-! Generated walks: X5_odds X5_seed X5_feed X5_wipe X5_text X5_hold X5_as X5_sheet -/
def f_X5_odds_l78 (y1 : Int32) (y2 : Int32) (y3 : Int32) (y4 : Int32) (M : zM) : Int64 × Int32 → Option ((Int64 × Int32) ⊕ (Int64 × zM))
  | (y5, y7) =>
    if y1 ≤ y7 then
      some (.inr ((y5, M)))
    else
      if y2 = 0 then
        (some ((y5 * ((y3 : Int32).toInt64)))).bind fun (n9 : Int64) =>
        (some (y7 + 1)).bind fun (n11 : Int32) =>
        some (.inl ((n9, n11)))
      else
        (some ((y5 * ((y4 : Int32).toInt64)))).bind fun (n5 : Int64) =>
        (some (y7 + 1)).bind fun (n7 : Int32) =>
        some (.inl ((n5, n7)))
def f_X5_odds_j72 (y1 : Int32) (y2 : Int32) (y3 : Int32) (y4 : Int32) (M : zM) : Option (Int64 × zM) :=
  (some ((1 : Int64))).bind fun (n1 : Int64) =>
  zIter (f_X5_odds_l78 y1 y2 y3 y4 M) 1000 (n1, 0)
def f_X5_odds_j19 (M : zM) : Option (Int64 × zM) :=
  (f_X5_finding 0 M).bind fun ((v14, M15) : Int32 × zM) =>
  some ((((v14 : Int32).toInt64), M15))
def f_X5_odds_l44 (y1 : Int32) (y2 : Int32) (M : zM) : Int32 × Int32 × Int32 → Option ((Int32 × Int32 × Int32) ⊕ (Int64 × zM))
  | (y3, y4, y5) =>
    if 4 ≤ y5 then
      (f_X5_odds_j72 y1 y2 y3 y4 M).bind fun z => some (Sum.inr z)
    else
      if (y3 - y3 / 2 * 2) = 0 then
        (some ((y3 / 2))).bind fun (n28 : Int32) =>
        (some ((y4 / 2))).bind fun (n30 : Int32) =>
        (some (y5 + 1)).bind fun (n32 : Int32) =>
        some (.inl ((n28, n30, n32)))
      else
        (f_X5_odds_j72 y1 y2 y3 y4 M).bind fun z => some (Sum.inr z)
def f_X5_odds (x1 : Int32) (x2 : Int32) (M : zM) : Option (Int64 × zM) :=
  (f_X5_within x1 0 14 M).bind fun (v17 : Int32) =>
  if v17 = 0 then
    f_X5_odds_j19  M
  else
    (f_X5_within x2 0 1 M).bind fun (v20 : Int32) =>
    if v20 = 0 then
      f_X5_odds_j19  M
    else
      (f_X0_hanging 1 M).bind fun (v23 : Int32) =>
      (f_J6_bitCount_0f7a4 v23 M).bind fun (v25 : Int32) =>
      zIter (f_X5_odds_l44 x1 x2 M) 1000 (v25, 16, 0)
theorem cd_X5_odds : zCd yX5_odds cX5_odds 8 (some .long) 2 := ⟨w541, w64, ⟨by decide, by decide⟩, by decide +kernel⟩
set_option maxHeartbeats 4000000 in
set_option maxRecDepth 20000 in
theorem ok_X5_odds {x1 : Int32} {x2 : Int32} {M : zM} {y : Int64 × zM}  (h : f_X5_odds x1 x2 M = some y) : zRuns yX5_odds cX5_odds 8 (some .long) 2 43 [.ref 0, .int x1, .int x2] M (some (.long y.1)) y.2 := by
  refine zRuns_of (by decide +kernel) (Nat.le_of_ble_eq_true rfl) (fun E Z hE => ?_)
  have h := zB_top h
  change VV E 8 0 [(0, Value.ref 0), (1, Value.int x1), (2, Value.int x2)] [] M
  have J72 : ∀ (y1 : Int32) (y2 : Int32) (y3 : Int32) (y4 : Int32) (M : zM), (f_X5_odds_j72 y1 y2 y3 y4 M).bind some = some y → VV E 8 72 [(1, Value.int y1), (2, Value.int y2), (3, Value.int y3), (4, Value.int y4)] [] M := by
    intro y1 y2 y3 y4 M h
    refine V_lconst 1 (by decide) Z (show decode cX5_odds 72 = .ok (.lconst 1, 1) by decide +kernel) ?_
    obtain ⟨n1, e2, h⟩ := zB_let h
    refine V_nml e2 ?_
    refine V_lstore [(5, Value.long n1), (1, Value.int y1), (2, Value.int y2), (3, Value.int y3), (4, Value.int y4)] Z (by decide) rfl (show decode cX5_odds 73 = .ok (.lstore 5, 2) by decide +kernel) ?_
    refine V_iconst 0 (by decide) Z (show decode cX5_odds 75 = .ok (.iconst 0, 1) by decide +kernel) ?_
    refine V_istore [(7, Value.int 0), (5, Value.long n1), (1, Value.int y1), (2, Value.int y2), (3, Value.int y3), (4, Value.int y4)] Z (by decide) rfl (show decode cX5_odds 76 = .ok (.istore 7, 2) by decide +kernel) ?_
    refine V_sub [2, 3, 4, 5, 1, 0] rfl ?_
    refine zIter_loop' (K := some) (fun s : Int64 × Int32 => VV E 8 78 [(1, Value.int y1), (2, Value.int y2), (3, Value.int y3), (4, Value.int y4), (5, Value.long s.1), (7, Value.int s.2)] [] M) (fun K1 s c1_i c1_r h => ?_) _ _ h
    obtain ⟨y5, y7⟩ := s
    change VV E 8 78 [(1, Value.int y1), (2, Value.int y2), (3, Value.int y3), (4, Value.int y4), (5, Value.long y5), (7, Value.int y7)] [] M
    refine V_iload 5 Z rfl (show decode cX5_odds 78 = .ok (.iload 7, 2) by decide +kernel) ?_
    refine V_iload_n 0 Z rfl rfl (show decode cX5_odds 80 = .ok (.iload_n 1, 1) by decide +kernel) ?_
    refine V_icmp_ge 107 Z (by decide) (show decode cX5_odds 81 = .ok (.if_icmp .ge 26, 3) by decide +kernel) (fun c3 => ?_) (fun c3 => ?_)
    · have h := zB_pos c3 h
      refine V_lload 4 Z rfl (show decode cX5_odds 107 = .ok (.lload 5, 2) by decide +kernel) ?_
      have h := c1_r _ h
      exact V_lretM Z hE h (show decode cX5_odds 109 = .ok (.lreturn, 1) by decide +kernel)
    · have h := zB_neg c3 h
      refine V_lload 4 Z rfl (show decode cX5_odds 84 = .ok (.lload 5, 2) by decide +kernel) ?_
      refine V_iload_n 1 Z rfl rfl (show decode cX5_odds 86 = .ok (.iload_n 2, 1) by decide +kernel) ?_
      refine V_if_ne 95 Z (by decide) (show decode cX5_odds 87 = .ok (.ifCond .ne 8, 3) by decide +kernel) (fun c4 => ?_) (fun c4 => ?_)
      · have h := zB_neg c4 h
        refine V_iload 3 Z rfl (show decode cX5_odds 95 = .ok (.iload 4, 2) by decide +kernel) ?_
        refine V_i2l Z (show decode cX5_odds 97 = .ok (.i2l, 1) by decide +kernel) ?_
        refine V_lmul Z (show decode cX5_odds 98 = .ok (.lmul, 1) by decide +kernel) ?_
        obtain ⟨n5, e6, h⟩ := zB_let h
        refine V_nml e6 ?_
        refine V_lstore [(5, Value.long n5), (1, Value.int y1), (2, Value.int y2), (3, Value.int y3), (4, Value.int y4), (7, Value.int y7)] Z (by decide) rfl (show decode cX5_odds 99 = .ok (.lstore 5, 2) by decide +kernel) ?_
        obtain ⟨n7, e8, h⟩ := zB_let h
        refine V_iinck 1 1 5 n7 [(7, Value.int n7), (5, Value.long n5), (1, Value.int y1), (2, Value.int y2), (3, Value.int y3), (4, Value.int y4)] Z (by decide) (by decide) rfl e8 rfl (show decode cX5_odds 101 = .ok (.iinc 7 1, 3) by decide +kernel) ?_
        refine V_goto 78 Z (by decide) (show decode cX5_odds 104 = .ok (.goto (-26), 3) by decide +kernel) ?_
        refine V_sub [2, 3, 4, 5, 1, 0] rfl ?_
        exact c1_i _ h
      · have h := zB_pos c4 h
        refine V_iload_n 2 Z rfl rfl (show decode cX5_odds 90 = .ok (.iload_n 3, 1) by decide +kernel) ?_
        refine V_i2l Z (show decode cX5_odds 91 = .ok (.i2l, 1) by decide +kernel) ?_
        refine V_goto 98 Z (by decide) (show decode cX5_odds 92 = .ok (.goto 6, 3) by decide +kernel) ?_
        refine V_lmul Z (show decode cX5_odds 98 = .ok (.lmul, 1) by decide +kernel) ?_
        obtain ⟨n9, e10, h⟩ := zB_let h
        refine V_nml e10 ?_
        refine V_lstore [(5, Value.long n9), (1, Value.int y1), (2, Value.int y2), (3, Value.int y3), (4, Value.int y4), (7, Value.int y7)] Z (by decide) rfl (show decode cX5_odds 99 = .ok (.lstore 5, 2) by decide +kernel) ?_
        obtain ⟨n11, e12, h⟩ := zB_let h
        refine V_iinck 1 1 5 n11 [(7, Value.int n11), (5, Value.long n9), (1, Value.int y1), (2, Value.int y2), (3, Value.int y3), (4, Value.int y4)] Z (by decide) (by decide) rfl e12 rfl (show decode cX5_odds 101 = .ok (.iinc 7 1, 3) by decide +kernel) ?_
        refine V_goto 78 Z (by decide) (show decode cX5_odds 104 = .ok (.goto (-26), 3) by decide +kernel) ?_
        refine V_sub [2, 3, 4, 5, 1, 0] rfl ?_
        exact c1_i _ h
  have J19 : ∀ (M : zM), (f_X5_odds_j19  M).bind some = some y → VV E 8 19 [(0, Value.ref 0)] [] M := by
    intro  M h
    refine V_aload_n 0 Z rfl rfl (show decode cX5_odds 19 = .ok (.aload_n 0, 1) by decide +kernel) ?_
    refine V_iconst 0 (by decide) Z (show decode cX5_odds 20 = .ok (.iconst 0, 1) by decide +kernel) ?_
    obtain ⟨⟨v14, M15⟩, e13, h⟩ := zB_bind h
    refine V_callV (rest := []) 1 Z (ok_X5_finding  e13) cd_X5_finding zc4 (by decide) rfl w248 w250 w0 rfl (show decode cX5_odds 21 = .ok (.invokevirtual 55, 3) by decide +kernel) rfl ?_
    refine V_i2l Z (show decode cX5_odds 24 = .ok (.i2l, 1) by decide +kernel) ?_
    exact V_lretM Z hE h (show decode cX5_odds 25 = .ok (.lreturn, 1) by decide +kernel)
  refine V_iload_n 1 Z rfl rfl (show decode cX5_odds 0 = .ok (.iload_n 1, 1) by decide +kernel) ?_
  refine V_iconst 0 (by decide) Z (show decode cX5_odds 1 = .ok (.iconst 0, 1) by decide +kernel) ?_
  refine V_bipush 14 (by decide) Z (show decode cX5_odds 2 = .ok (.bipush 14, 2) by decide +kernel) ?_
  obtain ⟨v17, e16, h⟩ := zB_bind h
  refine V_callS (rest := []) 3 Z (ok_X5_within  e16) cd_X5_within w245 w246 rfl (show decode cX5_odds 4 = .ok (.invokestatic 51, 3) by decide +kernel) rfl ?_
  refine V_if_eq 19 Z (by decide) (show decode cX5_odds 7 = .ok (.ifCond .eq 12, 3) by decide +kernel) (fun c18 => ?_) (fun c18 => ?_)
  · have h := zB_pos c18 h
    refine V_sub [0] rfl ?_
    exact J19 _ h
  · have h := zB_neg c18 h
    refine V_iload_n 2 Z rfl rfl (show decode cX5_odds 10 = .ok (.iload_n 2, 1) by decide +kernel) ?_
    refine V_iconst 0 (by decide) Z (show decode cX5_odds 11 = .ok (.iconst 0, 1) by decide +kernel) ?_
    refine V_iconst 1 (by decide) Z (show decode cX5_odds 12 = .ok (.iconst 1, 1) by decide +kernel) ?_
    obtain ⟨v20, e19, h⟩ := zB_bind h
    refine V_callS (rest := []) 3 Z (ok_X5_within  e19) cd_X5_within w245 w246 rfl (show decode cX5_odds 13 = .ok (.invokestatic 51, 3) by decide +kernel) rfl ?_
    refine V_if_ne 26 Z (by decide) (show decode cX5_odds 16 = .ok (.ifCond .ne 10, 3) by decide +kernel) (fun c21 => ?_) (fun c21 => ?_)
    · have h := zB_neg c21 h
      refine V_aload_n 0 Z rfl rfl (show decode cX5_odds 26 = .ok (.aload_n 0, 1) by decide +kernel) ?_
      refine V_getR 0 1 Z zc4 (by decide) rfl (by decide) rfl (by decide) ⟨rfl, rfl, rfl⟩ w216 (show decode cX5_odds 27 = .ok (.getfield 10, 3) by decide +kernel) ?_
      obtain ⟨v23, e22, h⟩ := zB_bind h
      refine V_callV (rest := []) 0 Z (ok_X0_hanging isH_1 e22) cd_X0_hanging zc0 (isH_lt isH_1) (shH isH_1) w391 w344 w345 rfl (show decode cX5_odds 30 = .ok (.invokevirtual 143, 3) by decide +kernel) rfl ?_
      obtain ⟨v25, e24, h⟩ := zB_bind h
      refine V_callS (rest := []) 1 Z (ok_J6_bitCount_0f7a4  e24) cd_J6_bitCount_0f7a4 w351 w352 rfl (show decode cX5_odds 33 = .ok (.invokestatic 190, 3) by decide +kernel) rfl ?_
      refine V_istore_n [(3, Value.int v25), (0, Value.ref 0), (1, Value.int x1), (2, Value.int x2)] Z (by decide) rfl rfl (show decode cX5_odds 36 = .ok (.istore_n 3, 1) by decide +kernel) ?_
      refine V_bipush 16 (by decide) Z (show decode cX5_odds 37 = .ok (.bipush 16, 2) by decide +kernel) ?_
      refine V_istore [(4, Value.int 16), (3, Value.int v25), (0, Value.ref 0), (1, Value.int x1), (2, Value.int x2)] Z (by decide) rfl (show decode cX5_odds 39 = .ok (.istore 4, 2) by decide +kernel) ?_
      refine V_iconst 0 (by decide) Z (show decode cX5_odds 41 = .ok (.iconst 0, 1) by decide +kernel) ?_
      refine V_istore [(5, Value.int 0), (4, Value.int 16), (3, Value.int v25), (0, Value.ref 0), (1, Value.int x1), (2, Value.int x2)] Z (by decide) rfl (show decode cX5_odds 42 = .ok (.istore 5, 2) by decide +kernel) ?_
      refine V_sub [4, 5, 2, 1, 0] rfl ?_
      refine zIter_loop' (K := some) (fun s : Int32 × Int32 × Int32 => VV E 8 44 [(1, Value.int x1), (2, Value.int x2), (3, Value.int s.1), (4, Value.int s.2.1), (5, Value.int s.2.2)] [] M) (fun K1 s c1_i c1_r h => ?_) _ _ h
      obtain ⟨y3, y4, y5⟩ := s
      change VV E 8 44 [(1, Value.int x1), (2, Value.int x2), (3, Value.int y3), (4, Value.int y4), (5, Value.int y5)] [] M
      refine V_iload 4 Z rfl (show decode cX5_odds 44 = .ok (.iload 5, 2) by decide +kernel) ?_
      refine V_iconst 4 (by decide) Z (show decode cX5_odds 46 = .ok (.iconst 4, 1) by decide +kernel) ?_
      refine V_icmp_ge 72 Z (by decide) (show decode cX5_odds 47 = .ok (.if_icmp .ge 25, 3) by decide +kernel) (fun c26 => ?_) (fun c26 => ?_)
      · have h := zB_pos c26 h
        refine V_sub [0, 1, 2, 3] rfl ?_
        have h := zB_lift c1_r h
        exact J72 _ _ _ _ _ h
      · have h := zB_neg c26 h
        refine V_iload_n 2 Z rfl rfl (show decode cX5_odds 50 = .ok (.iload_n 3, 1) by decide +kernel) ?_
        refine V_iconst 2 (by decide) Z (show decode cX5_odds 51 = .ok (.iconst 2, 1) by decide +kernel) ?_
        refine V_iremc (by decide) Z (show decode cX5_odds 52 = .ok (.irem, 1) by decide +kernel) ?_
        refine V_if_ne 72 Z (by decide) (show decode cX5_odds 53 = .ok (.ifCond .ne 19, 3) by decide +kernel) (fun c27 => ?_) (fun c27 => ?_)
        · have h := zB_neg c27 h
          refine V_sub [0, 1, 2, 3] rfl ?_
          have h := zB_lift c1_r h
          exact J72 _ _ _ _ _ h
        · have h := zB_pos c27 h
          refine V_iload_n 2 Z rfl rfl (show decode cX5_odds 56 = .ok (.iload_n 3, 1) by decide +kernel) ?_
          refine V_iconst 2 (by decide) Z (show decode cX5_odds 57 = .ok (.iconst 2, 1) by decide +kernel) ?_
          refine V_idivc (by decide) Z (show decode cX5_odds 58 = .ok (.idiv, 1) by decide +kernel) ?_
          obtain ⟨n28, e29, h⟩ := zB_let h
          refine V_nm e29 ?_
          refine V_istore_n [(3, Value.int n28), (1, Value.int x1), (2, Value.int x2), (4, Value.int y4), (5, Value.int y5)] Z (by decide) rfl rfl (show decode cX5_odds 59 = .ok (.istore_n 3, 1) by decide +kernel) ?_
          refine V_iload 3 Z rfl (show decode cX5_odds 60 = .ok (.iload 4, 2) by decide +kernel) ?_
          refine V_iconst 2 (by decide) Z (show decode cX5_odds 62 = .ok (.iconst 2, 1) by decide +kernel) ?_
          refine V_idivc (by decide) Z (show decode cX5_odds 63 = .ok (.idiv, 1) by decide +kernel) ?_
          obtain ⟨n30, e31, h⟩ := zB_let h
          refine V_nm e31 ?_
          refine V_istore [(4, Value.int n30), (3, Value.int n28), (1, Value.int x1), (2, Value.int x2), (5, Value.int y5)] Z (by decide) rfl (show decode cX5_odds 64 = .ok (.istore 4, 2) by decide +kernel) ?_
          obtain ⟨n32, e33, h⟩ := zB_let h
          refine V_iinck 1 1 4 n32 [(5, Value.int n32), (4, Value.int n30), (3, Value.int n28), (1, Value.int x1), (2, Value.int x2)] Z (by decide) (by decide) rfl e33 rfl (show decode cX5_odds 66 = .ok (.iinc 5 1, 3) by decide +kernel) ?_
          refine V_goto 44 Z (by decide) (show decode cX5_odds 69 = .ok (.goto (-25), 3) by decide +kernel) ?_
          refine V_sub [3, 4, 2, 1, 0] rfl ?_
          exact c1_i _ h
    · have h := zB_pos c21 h
      refine V_sub [0] rfl ?_
      exact J19 _ h
def f_X5_seed (x1 : Int32) (M : zM) : Option (Int32 × zM) :=
  (some ((M 1 12))).bind fun (n1 : Int32) =>
  (some (zU M 1 12 x1)).bind fun (M3 : zM) =>
  some ((n1, M3))
theorem cd_X5_seed : zCd yX5_seed cX5_seed 3 (some .int) 1 := ⟨w545, w64, ⟨by decide, by decide⟩, by decide +kernel⟩
set_option maxHeartbeats 4000000 in
set_option maxRecDepth 20000 in
theorem ok_X5_seed {x1 : Int32} {M : zM} {y : Int32 × zM}  (h : f_X5_seed x1 M = some y) : zRuns yX5_seed cX5_seed 3 (some .int) 0 0 [.ref 0, .int x1] M (some (.int y.1)) y.2 := by
  refine zRuns_of (by decide +kernel) (Nat.le_of_ble_eq_true rfl) (fun E Z hE => ?_)
  have h := zB_top h
  change VV E 3 0 [(0, Value.ref 0), (1, Value.int x1)] [] M
  refine V_aload_n 0 Z rfl rfl (show decode cX5_seed 0 = .ok (.aload_n 0, 1) by decide +kernel) ?_
  refine V_getR 0 1 Z zc4 (by decide) rfl (by decide) rfl (by decide) ⟨rfl, rfl, rfl⟩ w216 (show decode cX5_seed 1 = .ok (.getfield 10, 3) by decide +kernel) ?_
  refine V_getI 12 Z zc0 (isH_lt isH_1) (shH isH_1) (by decide) rfl ⟨rfl, rfl, rfl⟩ w121 (show decode cX5_seed 4 = .ok (.getfield 211, 3) by decide +kernel) ?_
  obtain ⟨n1, e2, h⟩ := zB_let h
  refine V_nm e2 ?_
  refine V_istore_n [(2, Value.int n1), (0, Value.ref 0), (1, Value.int x1)] Z (by decide) rfl rfl (show decode cX5_seed 7 = .ok (.istore_n 2, 1) by decide +kernel) ?_
  refine V_aload_n 1 Z rfl rfl (show decode cX5_seed 8 = .ok (.aload_n 0, 1) by decide +kernel) ?_
  refine V_getR 0 1 Z zc4 (by decide) rfl (by decide) rfl (by decide) ⟨rfl, rfl, rfl⟩ w216 (show decode cX5_seed 9 = .ok (.getfield 10, 3) by decide +kernel) ?_
  refine V_iload_n 2 Z rfl rfl (show decode cX5_seed 12 = .ok (.iload_n 1, 1) by decide +kernel) ?_
  obtain ⟨M3, e4, h⟩ := zB_let h
  refine V_putI 12 Z zc0 (isH_lt isH_1) (shH isH_1) (by decide) rfl ⟨rfl, rfl, rfl⟩ rfl rfl w121 (show decode cX5_seed 13 = .ok (.putfield 211, 3) by decide +kernel) ?_
  refine V_nmM e4 ?_
  refine V_iload_n 0 Z rfl rfl (show decode cX5_seed 16 = .ok (.iload_n 2, 1) by decide +kernel) ?_
  exact V_iretM Z hE h (show decode cX5_seed 17 = .ok (.ireturn, 1) by decide +kernel)
def f_X5_feed_l39 (y1 : Int32) : Int32 × zM → Option ((Int32 × zM) ⊕ (Int32 × zM))
  | (y3, M) =>
    if y3 < 0 then
      some (.inr (((M 34 1), M)))
    else
      (f_X4_append ((((y1 : Int32).toUInt32 >>> (((8 * y3) : Int32).toUInt32 &&& Int32.toUInt32 31)).toInt32) &&& 255) M).bind fun (M9 : zM) =>
      (some (y3 + (-1))).bind fun (n10 : Int32) =>
      some (.inl ((n10, M9)))
def f_X5_feed (x1 : Int32) (x2 : Int32) (M : zM) : Option (Int32 × zM) :=
  (f_X5_within x2 1 4 M).bind fun (v2 : Int32) =>
  if v2 = 0 then
    (f_X5_finding 0 M).bind fun ((v16, M17) : Int32 × zM) =>
    some ((v16, M17))
  else
    if (M 34 1) ≤ (120 - x2) then
      (some ((x2 - 1))).bind fun (n5 : Int32) =>
      zIter (f_X5_feed_l39 x1) 1000 (n5, M)
    else
      (f_X5_finding 1 M).bind fun ((v13, M14) : Int32 × zM) =>
      some ((v13, M14))
theorem cd_X5_feed : zCd yX5_feed cX5_feed 4 (some .int) 2 := ⟨w549, w64, ⟨by decide, by decide⟩, by decide +kernel⟩
set_option maxHeartbeats 4000000 in
set_option maxRecDepth 20000 in
theorem ok_X5_feed {x1 : Int32} {x2 : Int32} {M : zM} {y : Int32 × zM}  (h : f_X5_feed x1 x2 M = some y) : zRuns yX5_feed cX5_feed 4 (some .int) 1 22 [.ref 0, .int x1, .int x2] M (some (.int y.1)) y.2 := by
  refine zRuns_of (by decide +kernel) (Nat.le_of_ble_eq_true rfl) (fun E Z hE => ?_)
  have h := zB_top h
  change VV E 4 0 [(0, Value.ref 0), (1, Value.int x1), (2, Value.int x2)] [] M
  refine V_iload_n 2 Z rfl rfl (show decode cX5_feed 0 = .ok (.iload_n 2, 1) by decide +kernel) ?_
  refine V_iconst 1 (by decide) Z (show decode cX5_feed 1 = .ok (.iconst 1, 1) by decide +kernel) ?_
  refine V_iconst 4 (by decide) Z (show decode cX5_feed 2 = .ok (.iconst 4, 1) by decide +kernel) ?_
  obtain ⟨v2, e1, h⟩ := zB_bind h
  refine V_callS (rest := []) 3 Z (ok_X5_within  e1) cd_X5_within w245 w246 rfl (show decode cX5_feed 3 = .ok (.invokestatic 51, 3) by decide +kernel) rfl ?_
  refine V_if_ne 15 Z (by decide) (show decode cX5_feed 6 = .ok (.ifCond .ne 9, 3) by decide +kernel) (fun c3 => ?_) (fun c3 => ?_)
  · have h := zB_neg c3 h
    refine V_aload_n 0 Z rfl rfl (show decode cX5_feed 15 = .ok (.aload_n 0, 1) by decide +kernel) ?_
    refine V_getR 3 34 Z zc4 (by decide) rfl (by decide) rfl (by decide) ⟨rfl, rfl, rfl⟩ w219 (show decode cX5_feed 16 = .ok (.getfield 25, 3) by decide +kernel) ?_
    refine V_getI 1 Z zc3 (by decide) rfl (by decide) rfl ⟨rfl, rfl, rfl⟩ w166 (show decode cX5_feed 19 = .ok (.getfield 214, 3) by decide +kernel) ?_
    refine V_bipush 120 (by decide) Z (show decode cX5_feed 22 = .ok (.bipush 120, 2) by decide +kernel) ?_
    refine V_iload_n 2 Z rfl rfl (show decode cX5_feed 24 = .ok (.iload_n 2, 1) by decide +kernel) ?_
    refine V_isub Z (show decode cX5_feed 25 = .ok (.isub, 1) by decide +kernel) ?_
    refine V_icmp_le 35 Z (by decide) (show decode cX5_feed 26 = .ok (.if_icmp .le 9, 3) by decide +kernel) (fun c4 => ?_) (fun c4 => ?_)
    · have h := zB_pos c4 h
      refine V_iload_n 2 Z rfl rfl (show decode cX5_feed 35 = .ok (.iload_n 2, 1) by decide +kernel) ?_
      refine V_iconst 1 (by decide) Z (show decode cX5_feed 36 = .ok (.iconst 1, 1) by decide +kernel) ?_
      refine V_isub Z (show decode cX5_feed 37 = .ok (.isub, 1) by decide +kernel) ?_
      obtain ⟨n5, e6, h⟩ := zB_let h
      refine V_nm e6 ?_
      refine V_istore_n [(3, Value.int n5), (0, Value.ref 0), (1, Value.int x1), (2, Value.int x2)] Z (by decide) rfl rfl (show decode cX5_feed 38 = .ok (.istore_n 3, 1) by decide +kernel) ?_
      refine V_sub [1, 2, 0] rfl ?_
      refine zIter_loop' (K := some) (fun s : Int32 × zM => VV E 4 39 [(0, Value.ref 0), (1, Value.int x1), (3, Value.int s.1)] [] s.2) (fun K1 s c1_i c1_r h => ?_) _ _ h
      obtain ⟨y3, M⟩ := s
      change VV E 4 39 [(0, Value.ref 0), (1, Value.int x1), (3, Value.int y3)] [] M
      refine V_iload_n 2 Z rfl rfl (show decode cX5_feed 39 = .ok (.iload_n 3, 1) by decide +kernel) ?_
      refine V_if_lt 66 Z (by decide) (show decode cX5_feed 40 = .ok (.ifCond .lt 26, 3) by decide +kernel) (fun c7 => ?_) (fun c7 => ?_)
      · have h := zB_pos c7 h
        refine V_aload_n 0 Z rfl rfl (show decode cX5_feed 66 = .ok (.aload_n 0, 1) by decide +kernel) ?_
        refine V_getR 3 34 Z zc4 (by decide) rfl (by decide) rfl (by decide) ⟨rfl, rfl, rfl⟩ w219 (show decode cX5_feed 67 = .ok (.getfield 25, 3) by decide +kernel) ?_
        refine V_getI 1 Z zc3 (by decide) rfl (by decide) rfl ⟨rfl, rfl, rfl⟩ w166 (show decode cX5_feed 70 = .ok (.getfield 214, 3) by decide +kernel) ?_
        have h := c1_r _ h
        exact V_iretM Z hE h (show decode cX5_feed 73 = .ok (.ireturn, 1) by decide +kernel)
      · have h := zB_neg c7 h
        refine V_aload_n 0 Z rfl rfl (show decode cX5_feed 43 = .ok (.aload_n 0, 1) by decide +kernel) ?_
        refine V_getR 3 34 Z zc4 (by decide) rfl (by decide) rfl (by decide) ⟨rfl, rfl, rfl⟩ w219 (show decode cX5_feed 44 = .ok (.getfield 25, 3) by decide +kernel) ?_
        refine V_iload_n 1 Z rfl rfl (show decode cX5_feed 47 = .ok (.iload_n 1, 1) by decide +kernel) ?_
        refine V_bipush 8 (by decide) Z (show decode cX5_feed 48 = .ok (.bipush 8, 2) by decide +kernel) ?_
        refine V_iload_n 2 Z rfl rfl (show decode cX5_feed 50 = .ok (.iload_n 3, 1) by decide +kernel) ?_
        refine V_imul Z (show decode cX5_feed 51 = .ok (.imul, 1) by decide +kernel) ?_
        refine V_iushr Z (show decode cX5_feed 52 = .ok (.iushr, 1) by decide +kernel) ?_
        refine V_sipush 255 (by decide) Z (show decode cX5_feed 53 = .ok (.sipush 255, 3) by decide +kernel) ?_
        refine V_iand Z (show decode cX5_feed 56 = .ok (.iand, 1) by decide +kernel) ?_
        obtain ⟨M9, e8, h⟩ := zB_bind h
        refine V_callV (rest := []) 1 Z (ok_X4_append  e8) cd_X4_append zc3 (by decide) rfl w550 w551 w552 rfl (show decode cX5_feed 57 = .ok (.invokevirtual 217, 3) by decide +kernel) rfl ?_
        obtain ⟨n10, e11, h⟩ := zB_let h
        refine V_iinck (-1) (-1) 2 n10 [(3, Value.int n10), (0, Value.ref 0), (1, Value.int x1)] Z (by decide) (by decide) rfl e11 rfl (show decode cX5_feed 60 = .ok (.iinc 3 (-1), 3) by decide +kernel) ?_
        refine V_goto 39 Z (by decide) (show decode cX5_feed 63 = .ok (.goto (-24), 3) by decide +kernel) ?_
        refine V_sub [1, 2, 0] rfl ?_
        exact c1_i _ h
    · have h := zB_neg c4 h
      refine V_aload_n 0 Z rfl rfl (show decode cX5_feed 29 = .ok (.aload_n 0, 1) by decide +kernel) ?_
      refine V_iconst 1 (by decide) Z (show decode cX5_feed 30 = .ok (.iconst 1, 1) by decide +kernel) ?_
      obtain ⟨⟨v13, M14⟩, e12, h⟩ := zB_bind h
      refine V_callV (rest := []) 1 Z (ok_X5_finding  e12) cd_X5_finding zc4 (by decide) rfl w248 w250 w0 rfl (show decode cX5_feed 31 = .ok (.invokevirtual 55, 3) by decide +kernel) rfl ?_
      exact V_iretM Z hE h (show decode cX5_feed 34 = .ok (.ireturn, 1) by decide +kernel)
  · have h := zB_pos c3 h
    refine V_aload_n 0 Z rfl rfl (show decode cX5_feed 9 = .ok (.aload_n 0, 1) by decide +kernel) ?_
    refine V_iconst 0 (by decide) Z (show decode cX5_feed 10 = .ok (.iconst 0, 1) by decide +kernel) ?_
    obtain ⟨⟨v16, M17⟩, e15, h⟩ := zB_bind h
    refine V_callV (rest := []) 1 Z (ok_X5_finding  e15) cd_X5_finding zc4 (by decide) rfl w248 w250 w0 rfl (show decode cX5_feed 11 = .ok (.invokevirtual 55, 3) by decide +kernel) rfl ?_
    exact V_iretM Z hE h (show decode cX5_feed 14 = .ok (.ireturn, 1) by decide +kernel)
def f_X5_wipe (M : zM) : Option (Int32 × zM) :=
  (some ((M 34 1))).bind fun (n1 : Int32) =>
  (some (zU M 34 1 0)).bind fun (M3 : zM) =>
  some ((n1, M3))
theorem cd_X5_wipe : zCd yX5_wipe cX5_wipe 2 (some .int) 0 := ⟨w557, w64, ⟨by decide, by decide⟩, by decide +kernel⟩
set_option maxHeartbeats 4000000 in
set_option maxRecDepth 20000 in
theorem ok_X5_wipe {M : zM} {y : Int32 × zM}  (h : f_X5_wipe  M = some y) : zRuns yX5_wipe cX5_wipe 2 (some .int) 0 0 [.ref 0] M (some (.int y.1)) y.2 := by
  refine zRuns_of (by decide +kernel) (Nat.le_of_ble_eq_true rfl) (fun E Z hE => ?_)
  have h := zB_top h
  change VV E 2 0 [(0, Value.ref 0)] [] M
  refine V_aload_n 0 Z rfl rfl (show decode cX5_wipe 0 = .ok (.aload_n 0, 1) by decide +kernel) ?_
  refine V_getR 3 34 Z zc4 (by decide) rfl (by decide) rfl (by decide) ⟨rfl, rfl, rfl⟩ w219 (show decode cX5_wipe 1 = .ok (.getfield 25, 3) by decide +kernel) ?_
  refine V_getI 1 Z zc3 (by decide) rfl (by decide) rfl ⟨rfl, rfl, rfl⟩ w166 (show decode cX5_wipe 4 = .ok (.getfield 214, 3) by decide +kernel) ?_
  obtain ⟨n1, e2, h⟩ := zB_let h
  refine V_nm e2 ?_
  refine V_istore_n [(1, Value.int n1), (0, Value.ref 0)] Z (by decide) rfl rfl (show decode cX5_wipe 7 = .ok (.istore_n 1, 1) by decide +kernel) ?_
  refine V_aload_n 1 Z rfl rfl (show decode cX5_wipe 8 = .ok (.aload_n 0, 1) by decide +kernel) ?_
  refine V_getR 3 34 Z zc4 (by decide) rfl (by decide) rfl (by decide) ⟨rfl, rfl, rfl⟩ w219 (show decode cX5_wipe 9 = .ok (.getfield 25, 3) by decide +kernel) ?_
  refine V_iconst 0 (by decide) Z (show decode cX5_wipe 12 = .ok (.iconst 0, 1) by decide +kernel) ?_
  obtain ⟨M3, e4, h⟩ := zB_let h
  refine V_putI 1 Z zc3 (by decide) rfl (by decide) rfl ⟨rfl, rfl, rfl⟩ rfl rfl w166 (show decode cX5_wipe 13 = .ok (.putfield 214, 3) by decide +kernel) ?_
  refine V_nmM e4 ?_
  refine V_iload_n 0 Z rfl rfl (show decode cX5_wipe 16 = .ok (.iload_n 1, 1) by decide +kernel) ?_
  exact V_iretM Z hE h (show decode cX5_wipe 17 = .ok (.ireturn, 1) by decide +kernel)
def f_X5_text_j42 (y1 : Int32) (M : zM) : Option (Int32 × zM) :=
  (some (zU M 34 1 0)).bind fun (M1 : zM) =>
  some ((y1, M1))
def f_X5_text (M : zM) : Option (Int32 × zM) :=
  (f_X0_become 23 1 M).bind fun (M4 : zM) =>
  (f_X2_read 23 M4).bind fun ((v6, M7) : Int32 × zM) =>
  if v6 < 0 then
    f_X5_text_j42 v6 M7
  else
    (f_X0_become 1 23 M7).bind fun (M10 : zM) =>
    f_X5_text_j42 v6 M10
theorem cd_X5_text : zCd yX5_text cX5_text 2 (some .int) 0 := ⟨w561, w64, ⟨by decide, by decide⟩, by decide +kernel⟩
set_option maxHeartbeats 4000000 in
set_option maxRecDepth 20000 in
theorem ok_X5_text {M : zM} {y : Int32 × zM}  (h : f_X5_text  M = some y) : zRuns yX5_text cX5_text 2 (some .int) 10 253 [.ref 0] M (some (.int y.1)) y.2 := by
  refine zRuns_of (by decide +kernel) (Nat.le_of_ble_eq_true rfl) (fun E Z hE => ?_)
  have h := zB_top h
  change VV E 2 0 [(0, Value.ref 0)] [] M
  have J42 : ∀ (y1 : Int32) (M : zM), (f_X5_text_j42 y1 M).bind some = some y → VV E 2 42 [(0, Value.ref 0), (1, Value.int y1)] [] M := by
    intro y1 M h
    refine V_aload_n 0 Z rfl rfl (show decode cX5_text 42 = .ok (.aload_n 0, 1) by decide +kernel) ?_
    refine V_getR 3 34 Z zc4 (by decide) rfl (by decide) rfl (by decide) ⟨rfl, rfl, rfl⟩ w219 (show decode cX5_text 43 = .ok (.getfield 25, 3) by decide +kernel) ?_
    refine V_iconst 0 (by decide) Z (show decode cX5_text 46 = .ok (.iconst 0, 1) by decide +kernel) ?_
    obtain ⟨M1, e2, h⟩ := zB_let h
    refine V_putI 1 Z zc3 (by decide) rfl (by decide) rfl ⟨rfl, rfl, rfl⟩ rfl rfl w166 (show decode cX5_text 47 = .ok (.putfield 214, 3) by decide +kernel) ?_
    refine V_nmM e2 ?_
    refine V_iload_n 1 Z rfl rfl (show decode cX5_text 50 = .ok (.iload_n 1, 1) by decide +kernel) ?_
    exact V_iretM Z hE h (show decode cX5_text 51 = .ok (.ireturn, 1) by decide +kernel)
  refine V_aload_n 0 Z rfl rfl (show decode cX5_text 0 = .ok (.aload_n 0, 1) by decide +kernel) ?_
  refine V_getR 2 23 Z zc4 (by decide) rfl (by decide) rfl (by decide) ⟨rfl, rfl, rfl⟩ w218 (show decode cX5_text 1 = .ok (.getfield 19, 3) by decide +kernel) ?_
  refine V_aload_n 0 Z rfl rfl (show decode cX5_text 4 = .ok (.aload_n 0, 1) by decide +kernel) ?_
  refine V_getR 0 1 Z zc4 (by decide) rfl (by decide) rfl (by decide) ⟨rfl, rfl, rfl⟩ w216 (show decode cX5_text 5 = .ok (.getfield 10, 3) by decide +kernel) ?_
  obtain ⟨M4, e3, h⟩ := zB_bind h
  refine V_callV (rest := []) 1 Z (ok_X0_become isH_23 isH_1 e3) cd_X0_become zc0 (isH_lt isH_23) (shH isH_23) w412 w413 w414 rfl (show decode cX5_text 8 = .ok (.invokevirtual 164, 3) by decide +kernel) rfl ?_
  refine V_aload_n 0 Z rfl rfl (show decode cX5_text 11 = .ok (.aload_n 0, 1) by decide +kernel) ?_
  refine V_getR 4 36 Z zc4 (by decide) rfl (by decide) rfl (by decide) ⟨rfl, rfl, rfl⟩ w220 (show decode cX5_text 12 = .ok (.getfield 32, 3) by decide +kernel) ?_
  refine V_aload_n 0 Z rfl rfl (show decode cX5_text 15 = .ok (.aload_n 0, 1) by decide +kernel) ?_
  refine V_getR 3 34 Z zc4 (by decide) rfl (by decide) rfl (by decide) ⟨rfl, rfl, rfl⟩ w219 (show decode cX5_text 16 = .ok (.getfield 25, 3) by decide +kernel) ?_
  refine V_aload_n 0 Z rfl rfl (show decode cX5_text 19 = .ok (.aload_n 0, 1) by decide +kernel) ?_
  refine V_getR 2 23 Z zc4 (by decide) rfl (by decide) rfl (by decide) ⟨rfl, rfl, rfl⟩ w218 (show decode cX5_text 20 = .ok (.getfield 19, 3) by decide +kernel) ?_
  obtain ⟨⟨v6, M7⟩, e5, h⟩ := zB_bind h
  refine V_callV (rest := []) 2 Z (ok_X2_read isH_23 e5) cd_X2_read zc1 (by decide) rfl w562 w563 w564 rfl (show decode cX5_text 23 = .ok (.invokevirtual 220, 3) by decide +kernel) rfl ?_
  refine V_istore_n [(1, Value.int v6), (0, Value.ref 0)] Z (by decide) rfl rfl (show decode cX5_text 26 = .ok (.istore_n 1, 1) by decide +kernel) ?_
  refine V_iload_n 0 Z rfl rfl (show decode cX5_text 27 = .ok (.iload_n 1, 1) by decide +kernel) ?_
  refine V_if_lt 42 Z (by decide) (show decode cX5_text 28 = .ok (.ifCond .lt 14, 3) by decide +kernel) (fun c8 => ?_) (fun c8 => ?_)
  · have h := zB_pos c8 h
    refine V_sub [1, 0] rfl ?_
    exact J42 _ _ h
  · have h := zB_neg c8 h
    refine V_aload_n 1 Z rfl rfl (show decode cX5_text 31 = .ok (.aload_n 0, 1) by decide +kernel) ?_
    refine V_getR 0 1 Z zc4 (by decide) rfl (by decide) rfl (by decide) ⟨rfl, rfl, rfl⟩ w216 (show decode cX5_text 32 = .ok (.getfield 10, 3) by decide +kernel) ?_
    refine V_aload_n 1 Z rfl rfl (show decode cX5_text 35 = .ok (.aload_n 0, 1) by decide +kernel) ?_
    refine V_getR 2 23 Z zc4 (by decide) rfl (by decide) rfl (by decide) ⟨rfl, rfl, rfl⟩ w218 (show decode cX5_text 36 = .ok (.getfield 19, 3) by decide +kernel) ?_
    obtain ⟨M10, e9, h⟩ := zB_bind h
    refine V_callV (rest := []) 1 Z (ok_X0_become isH_1 isH_23 e9) cd_X0_become zc0 (isH_lt isH_1) (shH isH_1) w412 w413 w414 rfl (show decode cX5_text 39 = .ok (.invokevirtual 164, 3) by decide +kernel) rfl ?_
    refine V_sub [1, 0] rfl ?_
    exact J42 _ _ h
def f_X5_hold_j18 (M : zM) : Option (Int32 × zM) :=
  (f_X5_finding 0 M).bind fun ((v2, M3) : Int32 × zM) =>
  some ((v2, M3))
def f_X5_hold (x1 : Int32) (x2 : Int32) (M : zM) : Option (Int32 × zM) :=
  (f_X5_within x1 0 9 M).bind fun (v5 : Int32) =>
  if v5 = 0 then
    f_X5_hold_j18  M
  else
    (f_X5_isNameOrNone x2 M).bind fun (v8 : Int32) =>
    if v8 = 0 then
      f_X5_hold_j18  M
    else
      (zwr M 9 x1 x2).bind fun (M10 : zM) =>
      some ((1, M10))
theorem cd_X5_hold : zCd yX5_hold cX5_hold 3 (some .int) 2 := ⟨w683, w64, ⟨by decide, by decide⟩, by decide +kernel⟩
set_option maxHeartbeats 4000000 in
set_option maxRecDepth 20000 in
theorem ok_X5_hold {x1 : Int32} {x2 : Int32} {M : zM} {y : Int32 × zM}  (h : f_X5_hold x1 x2 M = some y) : zRuns yX5_hold cX5_hold 3 (some .int) 2 43 [.ref 0, .int x1, .int x2] M (some (.int y.1)) y.2 := by
  refine zRuns_of (by decide +kernel) (Nat.le_of_ble_eq_true rfl) (fun E Z hE => ?_)
  have h := zB_top h
  change VV E 3 0 [(0, Value.ref 0), (1, Value.int x1), (2, Value.int x2)] [] M
  have J18 : ∀ (M : zM), (f_X5_hold_j18  M).bind some = some y → VV E 3 18 [(0, Value.ref 0)] [] M := by
    intro  M h
    refine V_aload_n 0 Z rfl rfl (show decode cX5_hold 18 = .ok (.aload_n 0, 1) by decide +kernel) ?_
    refine V_iconst 0 (by decide) Z (show decode cX5_hold 19 = .ok (.iconst 0, 1) by decide +kernel) ?_
    obtain ⟨⟨v2, M3⟩, e1, h⟩ := zB_bind h
    refine V_callV (rest := []) 1 Z (ok_X5_finding  e1) cd_X5_finding zc4 (by decide) rfl w248 w250 w0 rfl (show decode cX5_hold 20 = .ok (.invokevirtual 55, 3) by decide +kernel) rfl ?_
    exact V_iretM Z hE h (show decode cX5_hold 23 = .ok (.ireturn, 1) by decide +kernel)
  refine V_iload_n 1 Z rfl rfl (show decode cX5_hold 0 = .ok (.iload_n 1, 1) by decide +kernel) ?_
  refine V_iconst 0 (by decide) Z (show decode cX5_hold 1 = .ok (.iconst 0, 1) by decide +kernel) ?_
  refine V_bipush 9 (by decide) Z (show decode cX5_hold 2 = .ok (.bipush 9, 2) by decide +kernel) ?_
  obtain ⟨v5, e4, h⟩ := zB_bind h
  refine V_callS (rest := []) 3 Z (ok_X5_within  e4) cd_X5_within w245 w246 rfl (show decode cX5_hold 4 = .ok (.invokestatic 51, 3) by decide +kernel) rfl ?_
  refine V_if_eq 18 Z (by decide) (show decode cX5_hold 7 = .ok (.ifCond .eq 11, 3) by decide +kernel) (fun c6 => ?_) (fun c6 => ?_)
  · have h := zB_pos c6 h
    refine V_sub [0] rfl ?_
    exact J18 _ h
  · have h := zB_neg c6 h
    refine V_aload_n 0 Z rfl rfl (show decode cX5_hold 10 = .ok (.aload_n 0, 1) by decide +kernel) ?_
    refine V_iload_n 2 Z rfl rfl (show decode cX5_hold 11 = .ok (.iload_n 2, 1) by decide +kernel) ?_
    obtain ⟨v8, e7, h⟩ := zB_bind h
    refine V_callV (rest := []) 1 Z (ok_X5_isNameOrNone  e7) cd_X5_isNameOrNone zc4 (by decide) rfl w292 w294 w3 rfl (show decode cX5_hold 12 = .ok (.invokevirtual 105, 3) by decide +kernel) rfl ?_
    refine V_if_ne 24 Z (by decide) (show decode cX5_hold 15 = .ok (.ifCond .ne 9, 3) by decide +kernel) (fun c9 => ?_) (fun c9 => ?_)
    · have h := zB_neg c9 h
      refine V_aload_n 0 Z rfl rfl (show decode cX5_hold 24 = .ok (.aload_n 0, 1) by decide +kernel) ?_
      refine V_getR 0 1 Z zc4 (by decide) rfl (by decide) rfl (by decide) ⟨rfl, rfl, rfl⟩ w216 (show decode cX5_hold 25 = .ok (.getfield 10, 3) by decide +kernel) ?_
      refine V_getR 8 9 Z zc0 (isH_lt isH_1) (shH isH_1) (by decide) rfl (by decide) ⟨rfl, rfl, rfl⟩ w112 (show decode cX5_hold 28 = .ok (.getfield 224, 3) by decide +kernel) ?_
      refine V_iload_n 1 Z rfl rfl (show decode cX5_hold 31 = .ok (.iload_n 1, 1) by decide +kernel) ?_
      refine V_iload_n 2 Z rfl rfl (show decode cX5_hold 32 = .ok (.iload_n 2, 1) by decide +kernel) ?_
      obtain ⟨M10, e11, h⟩ := zB_bind h
      refine V_iast Z e11 (show decode cX5_hold 33 = .ok (.iastore, 1) by decide +kernel) ?_
      refine V_iconst 1 (by decide) Z (show decode cX5_hold 34 = .ok (.iconst 1, 1) by decide +kernel) ?_
      exact V_iretM Z hE h (show decode cX5_hold 35 = .ok (.ireturn, 1) by decide +kernel)
    · have h := zB_pos c9 h
      refine V_sub [0] rfl ?_
      exact J18 _ h
def f_X5_as_j20 (M : zM) : Option (Int32 × zM) :=
  (f_X5_finding 0 M).bind fun ((v2, M3) : Int32 × zM) =>
  some ((v2, M3))
def f_X5_as (x1 : Int32) (x2 : Int32) (M : zM) : Option (Int32 × zM) :=
  (f_X5_within x1 0 9 M).bind fun (v5 : Int32) =>
  if v5 = 0 then
    f_X5_as_j20  M
  else
    (f_X5_within x2 0 6 M).bind fun (v8 : Int32) =>
    if v8 = 0 then
      f_X5_as_j20  M
    else
      (zrd M 9 x1).bind fun (v10 : Int32) =>
      (f_X5_isName v10 M).bind fun (v13 : Int32) =>
      if v13 = 0 then
        (f_X5_finding 5 M).bind fun ((v24, M25) : Int32 × zM) =>
        some ((v24, M25))
      else
        (zrd M 2 v10).bind fun (v15 : Int32) =>
        (f_X1_isUnder v15 x2 M).bind fun (v18 : Int32) =>
        if v18 = 0 then
          (f_X5_finding 2 M).bind fun ((v21, M22) : Int32 × zM) =>
          some ((v21, M22))
        else
          some ((v10, M))
theorem cd_X5_as : zCd yX5_as cX5_as 4 (some .int) 2 := ⟨w687, w64, ⟨by decide, by decide⟩, by decide +kernel⟩
set_option maxHeartbeats 4000000 in
set_option maxRecDepth 20000 in
theorem ok_X5_as {x1 : Int32} {x2 : Int32} {M : zM} {y : Int32 × zM}  (h : f_X5_as x1 x2 M = some y) : zRuns yX5_as cX5_as 4 (some .int) 2 43 [.ref 0, .int x1, .int x2] M (some (.int y.1)) y.2 := by
  refine zRuns_of (by decide +kernel) (Nat.le_of_ble_eq_true rfl) (fun E Z hE => ?_)
  have h := zB_top h
  change VV E 4 0 [(0, Value.ref 0), (1, Value.int x1), (2, Value.int x2)] [] M
  have J20 : ∀ (M : zM), (f_X5_as_j20  M).bind some = some y → VV E 4 20 [(0, Value.ref 0)] [] M := by
    intro  M h
    refine V_aload_n 0 Z rfl rfl (show decode cX5_as 20 = .ok (.aload_n 0, 1) by decide +kernel) ?_
    refine V_iconst 0 (by decide) Z (show decode cX5_as 21 = .ok (.iconst 0, 1) by decide +kernel) ?_
    obtain ⟨⟨v2, M3⟩, e1, h⟩ := zB_bind h
    refine V_callV (rest := []) 1 Z (ok_X5_finding  e1) cd_X5_finding zc4 (by decide) rfl w248 w250 w0 rfl (show decode cX5_as 22 = .ok (.invokevirtual 55, 3) by decide +kernel) rfl ?_
    exact V_iretM Z hE h (show decode cX5_as 25 = .ok (.ireturn, 1) by decide +kernel)
  refine V_iload_n 1 Z rfl rfl (show decode cX5_as 0 = .ok (.iload_n 1, 1) by decide +kernel) ?_
  refine V_iconst 0 (by decide) Z (show decode cX5_as 1 = .ok (.iconst 0, 1) by decide +kernel) ?_
  refine V_bipush 9 (by decide) Z (show decode cX5_as 2 = .ok (.bipush 9, 2) by decide +kernel) ?_
  obtain ⟨v5, e4, h⟩ := zB_bind h
  refine V_callS (rest := []) 3 Z (ok_X5_within  e4) cd_X5_within w245 w246 rfl (show decode cX5_as 4 = .ok (.invokestatic 51, 3) by decide +kernel) rfl ?_
  refine V_if_eq 20 Z (by decide) (show decode cX5_as 7 = .ok (.ifCond .eq 13, 3) by decide +kernel) (fun c6 => ?_) (fun c6 => ?_)
  · have h := zB_pos c6 h
    refine V_sub [0] rfl ?_
    exact J20 _ h
  · have h := zB_neg c6 h
    refine V_iload_n 2 Z rfl rfl (show decode cX5_as 10 = .ok (.iload_n 2, 1) by decide +kernel) ?_
    refine V_iconst 0 (by decide) Z (show decode cX5_as 11 = .ok (.iconst 0, 1) by decide +kernel) ?_
    refine V_bipush 6 (by decide) Z (show decode cX5_as 12 = .ok (.bipush 6, 2) by decide +kernel) ?_
    obtain ⟨v8, e7, h⟩ := zB_bind h
    refine V_callS (rest := []) 3 Z (ok_X5_within  e7) cd_X5_within w245 w246 rfl (show decode cX5_as 14 = .ok (.invokestatic 51, 3) by decide +kernel) rfl ?_
    refine V_if_ne 26 Z (by decide) (show decode cX5_as 17 = .ok (.ifCond .ne 9, 3) by decide +kernel) (fun c9 => ?_) (fun c9 => ?_)
    · have h := zB_neg c9 h
      refine V_aload_n 0 Z rfl rfl (show decode cX5_as 26 = .ok (.aload_n 0, 1) by decide +kernel) ?_
      refine V_getR 0 1 Z zc4 (by decide) rfl (by decide) rfl (by decide) ⟨rfl, rfl, rfl⟩ w216 (show decode cX5_as 27 = .ok (.getfield 10, 3) by decide +kernel) ?_
      refine V_getR 8 9 Z zc0 (isH_lt isH_1) (shH isH_1) (by decide) rfl (by decide) ⟨rfl, rfl, rfl⟩ w112 (show decode cX5_as 30 = .ok (.getfield 224, 3) by decide +kernel) ?_
      refine V_iload_n 1 Z rfl rfl (show decode cX5_as 33 = .ok (.iload_n 1, 1) by decide +kernel) ?_
      obtain ⟨v10, e11, h⟩ := zB_bind h
      refine V_iald Z e11 (show decode cX5_as 34 = .ok (.iaload, 1) by decide +kernel) ?_
      refine V_istore_n [(3, Value.int v10), (0, Value.ref 0), (1, Value.int x1), (2, Value.int x2)] Z (by decide) rfl rfl (show decode cX5_as 35 = .ok (.istore_n 3, 1) by decide +kernel) ?_
      refine V_aload_n 1 Z rfl rfl (show decode cX5_as 36 = .ok (.aload_n 0, 1) by decide +kernel) ?_
      refine V_iload_n 0 Z rfl rfl (show decode cX5_as 37 = .ok (.iload_n 3, 1) by decide +kernel) ?_
      obtain ⟨v13, e12, h⟩ := zB_bind h
      refine V_callV (rest := []) 1 Z (ok_X5_isName  e12) cd_X5_isName zc4 (by decide) rfl w261 w263 w1 rfl (show decode cX5_as 38 = .ok (.invokevirtual 67, 3) by decide +kernel) rfl ?_
      refine V_if_ne 50 Z (by decide) (show decode cX5_as 41 = .ok (.ifCond .ne 9, 3) by decide +kernel) (fun c14 => ?_) (fun c14 => ?_)
      · have h := zB_neg c14 h
        refine V_aload_n 1 Z rfl rfl (show decode cX5_as 50 = .ok (.aload_n 0, 1) by decide +kernel) ?_
        refine V_getR 0 1 Z zc4 (by decide) rfl (by decide) rfl (by decide) ⟨rfl, rfl, rfl⟩ w216 (show decode cX5_as 51 = .ok (.getfield 10, 3) by decide +kernel) ?_
        refine V_getR 1 2 Z zc0 (isH_lt isH_1) (shH isH_1) (by decide) rfl (by decide) ⟨rfl, rfl, rfl⟩ w96 (show decode cX5_as 54 = .ok (.getfield 71, 3) by decide +kernel) ?_
        refine V_iload_n 0 Z rfl rfl (show decode cX5_as 57 = .ok (.iload_n 3, 1) by decide +kernel) ?_
        obtain ⟨v15, e16, h⟩ := zB_bind h
        refine V_iald Z e16 (show decode cX5_as 58 = .ok (.iaload, 1) by decide +kernel) ?_
        refine V_iload_n 3 Z rfl rfl (show decode cX5_as 59 = .ok (.iload_n 2, 1) by decide +kernel) ?_
        obtain ⟨v18, e17, h⟩ := zB_bind h
        refine V_callS (rest := []) 2 Z (ok_X1_isUnder  e17) cd_X1_isUnder w688 w689 rfl (show decode cX5_as 60 = .ok (.invokestatic 227, 3) by decide +kernel) rfl ?_
        refine V_if_eq 70 Z (by decide) (show decode cX5_as 63 = .ok (.ifCond .eq 7, 3) by decide +kernel) (fun c19 => ?_) (fun c19 => ?_)
        · have h := zB_pos c19 h
          refine V_aload_n 1 Z rfl rfl (show decode cX5_as 70 = .ok (.aload_n 0, 1) by decide +kernel) ?_
          refine V_iconst 2 (by decide) Z (show decode cX5_as 71 = .ok (.iconst 2, 1) by decide +kernel) ?_
          obtain ⟨⟨v21, M22⟩, e20, h⟩ := zB_bind h
          refine V_callV (rest := []) 1 Z (ok_X5_finding  e20) cd_X5_finding zc4 (by decide) rfl w248 w250 w0 rfl (show decode cX5_as 72 = .ok (.invokevirtual 55, 3) by decide +kernel) rfl ?_
          exact V_iretM Z hE h (show decode cX5_as 75 = .ok (.ireturn, 1) by decide +kernel)
        · have h := zB_neg c19 h
          refine V_iload_n 0 Z rfl rfl (show decode cX5_as 66 = .ok (.iload_n 3, 1) by decide +kernel) ?_
          refine V_goto 75 Z (by decide) (show decode cX5_as 67 = .ok (.goto 8, 3) by decide +kernel) ?_
          exact V_iretM Z hE h (show decode cX5_as 75 = .ok (.ireturn, 1) by decide +kernel)
      · have h := zB_pos c14 h
        refine V_aload_n 1 Z rfl rfl (show decode cX5_as 44 = .ok (.aload_n 0, 1) by decide +kernel) ?_
        refine V_iconst 5 (by decide) Z (show decode cX5_as 45 = .ok (.iconst 5, 1) by decide +kernel) ?_
        obtain ⟨⟨v24, M25⟩, e23, h⟩ := zB_bind h
        refine V_callV (rest := []) 1 Z (ok_X5_finding  e23) cd_X5_finding zc4 (by decide) rfl w248 w250 w0 rfl (show decode cX5_as 46 = .ok (.invokevirtual 55, 3) by decide +kernel) rfl ?_
        exact V_iretM Z hE h (show decode cX5_as 49 = .ok (.ireturn, 1) by decide +kernel)
    · have h := zB_pos c9 h
      refine V_sub [0] rfl ?_
      exact J20 _ h
def f_X5_sheet_j35 (y1 : Int32) (y2 : Int32) (y3 : Int32) (M : zM) : Option (Int32 × zM) :=
  if 0 ≤ y3 then
    if y3 ≤ 40 then
      (zrr 37 y1).bind fun (q3 : Nat) =>
      (f_X3_layOut q3 y2 y3 M).bind fun (M6 : zM) =>
      (zrr 37 y1).bind fun (q7 : Nat) =>
      some (((M6 q7 2), M6))
    else
      (f_X5_finding 0 M).bind fun ((v10, M11) : Int32 × zM) =>
      some ((v10, M11))
  else
    (f_X5_finding 6 M).bind fun ((v13, M14) : Int32 × zM) =>
    some ((v13, M14))
def f_X5_sheet_j29 (M : zM) : Option (Int32 × zM) :=
  (f_X5_finding 0 M).bind fun ((v16, M17) : Int32 × zM) =>
  some ((v16, M17))
def f_X5_sheet (x1 : Int32) (x2 : Int32) (x3 : Int32) (M : zM) : Option (Int32 × zM) :=
  (f_X5_isSheet x1 M).bind fun (v19 : Int32) =>
  if v19 = 0 then
    f_X5_sheet_j29  M
  else
    if x2 = 0 then
      f_X5_sheet_j35 x1 x2 x3 M
    else
      if x2 = 8 then
        f_X5_sheet_j35 x1 x2 x3 M
      else
        if x2 = 16 then
          f_X5_sheet_j35 x1 x2 x3 M
        else
          if x2 = 32 then
            f_X5_sheet_j35 x1 x2 x3 M
          else
            f_X5_sheet_j29  M
theorem cd_X5_sheet : zCd yX5_sheet cX5_sheet 4 (some .int) 3 := ⟨w697, w64, ⟨by decide, by decide⟩, by decide +kernel⟩
set_option maxHeartbeats 4000000 in
set_option maxRecDepth 20000 in
theorem ok_X5_sheet {x1 : Int32} {x2 : Int32} {x3 : Int32} {M : zM} {y : Int32 × zM}  (h : f_X5_sheet x1 x2 x3 M = some y) : zRuns yX5_sheet cX5_sheet 4 (some .int) 2 42 [.ref 0, .int x1, .int x2, .int x3] M (some (.int y.1)) y.2 := by
  refine zRuns_of (by decide +kernel) (Nat.le_of_ble_eq_true rfl) (fun E Z hE => ?_)
  have h := zB_top h
  change VV E 4 0 [(0, Value.ref 0), (1, Value.int x1), (2, Value.int x2), (3, Value.int x3)] [] M
  have J35 : ∀ (y1 : Int32) (y2 : Int32) (y3 : Int32) (M : zM), (f_X5_sheet_j35 y1 y2 y3 M).bind some = some y → VV E 4 35 [(0, Value.ref 0), (1, Value.int y1), (2, Value.int y2), (3, Value.int y3)] [] M := by
    intro y1 y2 y3 M h
    refine V_iload_n 3 Z rfl rfl (show decode cX5_sheet 35 = .ok (.iload_n 3, 1) by decide +kernel) ?_
    refine V_if_ge 46 Z (by decide) (show decode cX5_sheet 36 = .ok (.ifCond .ge 10, 3) by decide +kernel) (fun c1 => ?_) (fun c1 => ?_)
    · have h := zB_pos c1 h
      refine V_iload_n 3 Z rfl rfl (show decode cX5_sheet 46 = .ok (.iload_n 3, 1) by decide +kernel) ?_
      refine V_bipush 40 (by decide) Z (show decode cX5_sheet 47 = .ok (.bipush 40, 2) by decide +kernel) ?_
      refine V_icmp_le 58 Z (by decide) (show decode cX5_sheet 49 = .ok (.if_icmp .le 9, 3) by decide +kernel) (fun c2 => ?_) (fun c2 => ?_)
      · have h := zB_pos c2 h
        refine V_aload_n 0 Z rfl rfl (show decode cX5_sheet 58 = .ok (.aload_n 0, 1) by decide +kernel) ?_
        refine V_getR 5 37 Z zc4 (by decide) rfl (by decide) rfl (by decide) ⟨rfl, rfl, rfl⟩ w221 (show decode cX5_sheet 59 = .ok (.getfield 38, 3) by decide +kernel) ?_
        refine V_iload_n 1 Z rfl rfl (show decode cX5_sheet 62 = .ok (.iload_n 1, 1) by decide +kernel) ?_
        obtain ⟨q3, e4, h⟩ := zB_bind h
        refine V_aald 1 Z e4 (by decide) (fun _ => rfl) (by intro rs h; cases h; rfl) (show decode cX5_sheet 63 = .ok (.aaload, 1) by decide +kernel) ?_
        have hq3 := zrr_S e4
        refine V_iload_n 2 Z rfl rfl (show decode cX5_sheet 64 = .ok (.iload_n 2, 1) by decide +kernel) ?_
        refine V_iload_n 3 Z rfl rfl (show decode cX5_sheet 65 = .ok (.iload_n 3, 1) by decide +kernel) ?_
        obtain ⟨M6, e5, h⟩ := zB_bind h
        refine V_callV (rest := []) 2 Z (ok_X3_layOut hq3 e5) cd_X3_layOut zc2 (isS_lt hq3) (shS hq3) w698 w699 w700 rfl (show decode cX5_sheet 66 = .ok (.invokevirtual 233, 3) by decide +kernel) rfl ?_
        refine V_aload_n 0 Z rfl rfl (show decode cX5_sheet 69 = .ok (.aload_n 0, 1) by decide +kernel) ?_
        refine V_getR 5 37 Z zc4 (by decide) rfl (by decide) rfl (by decide) ⟨rfl, rfl, rfl⟩ w221 (show decode cX5_sheet 70 = .ok (.getfield 38, 3) by decide +kernel) ?_
        refine V_iload_n 1 Z rfl rfl (show decode cX5_sheet 73 = .ok (.iload_n 1, 1) by decide +kernel) ?_
        obtain ⟨q7, e8, h⟩ := zB_bind h
        refine V_aald 1 Z e8 (by decide) (fun _ => rfl) (by intro rs h; cases h; rfl) (show decode cX5_sheet 74 = .ok (.aaload, 1) by decide +kernel) ?_
        have hq7 := zrr_S e8
        refine V_getI 2 Z zc2 (isS_lt hq7) (shS hq7) (by decide) rfl ⟨rfl, rfl, rfl⟩ w208 (show decode cX5_sheet 75 = .ok (.getfield 237, 3) by decide +kernel) ?_
        exact V_iretM Z hE h (show decode cX5_sheet 78 = .ok (.ireturn, 1) by decide +kernel)
      · have h := zB_neg c2 h
        refine V_aload_n 0 Z rfl rfl (show decode cX5_sheet 52 = .ok (.aload_n 0, 1) by decide +kernel) ?_
        refine V_iconst 0 (by decide) Z (show decode cX5_sheet 53 = .ok (.iconst 0, 1) by decide +kernel) ?_
        obtain ⟨⟨v10, M11⟩, e9, h⟩ := zB_bind h
        refine V_callV (rest := []) 1 Z (ok_X5_finding  e9) cd_X5_finding zc4 (by decide) rfl w248 w250 w0 rfl (show decode cX5_sheet 54 = .ok (.invokevirtual 55, 3) by decide +kernel) rfl ?_
        exact V_iretM Z hE h (show decode cX5_sheet 57 = .ok (.ireturn, 1) by decide +kernel)
    · have h := zB_neg c1 h
      refine V_aload_n 0 Z rfl rfl (show decode cX5_sheet 39 = .ok (.aload_n 0, 1) by decide +kernel) ?_
      refine V_bipush 6 (by decide) Z (show decode cX5_sheet 40 = .ok (.bipush 6, 2) by decide +kernel) ?_
      obtain ⟨⟨v13, M14⟩, e12, h⟩ := zB_bind h
      refine V_callV (rest := []) 1 Z (ok_X5_finding  e12) cd_X5_finding zc4 (by decide) rfl w248 w250 w0 rfl (show decode cX5_sheet 42 = .ok (.invokevirtual 55, 3) by decide +kernel) rfl ?_
      exact V_iretM Z hE h (show decode cX5_sheet 45 = .ok (.ireturn, 1) by decide +kernel)
  have J29 : ∀ (M : zM), (f_X5_sheet_j29  M).bind some = some y → VV E 4 29 [(0, Value.ref 0)] [] M := by
    intro  M h
    refine V_aload_n 0 Z rfl rfl (show decode cX5_sheet 29 = .ok (.aload_n 0, 1) by decide +kernel) ?_
    refine V_iconst 0 (by decide) Z (show decode cX5_sheet 30 = .ok (.iconst 0, 1) by decide +kernel) ?_
    obtain ⟨⟨v16, M17⟩, e15, h⟩ := zB_bind h
    refine V_callV (rest := []) 1 Z (ok_X5_finding  e15) cd_X5_finding zc4 (by decide) rfl w248 w250 w0 rfl (show decode cX5_sheet 31 = .ok (.invokevirtual 55, 3) by decide +kernel) rfl ?_
    exact V_iretM Z hE h (show decode cX5_sheet 34 = .ok (.ireturn, 1) by decide +kernel)
  refine V_iload_n 1 Z rfl rfl (show decode cX5_sheet 0 = .ok (.iload_n 1, 1) by decide +kernel) ?_
  obtain ⟨v19, e18, h⟩ := zB_bind h
  refine V_callS (rest := []) 1 Z (ok_X5_isSheet  e18) cd_X5_isSheet w513 w514 rfl (show decode cX5_sheet 1 = .ok (.invokestatic 230, 3) by decide +kernel) rfl ?_
  refine V_if_eq 29 Z (by decide) (show decode cX5_sheet 4 = .ok (.ifCond .eq 25, 3) by decide +kernel) (fun c20 => ?_) (fun c20 => ?_)
  · have h := zB_pos c20 h
    refine V_sub [0] rfl ?_
    exact J29 _ h
  · have h := zB_neg c20 h
    refine V_iload_n 2 Z rfl rfl (show decode cX5_sheet 7 = .ok (.iload_n 2, 1) by decide +kernel) ?_
    refine V_if_eq 35 Z (by decide) (show decode cX5_sheet 8 = .ok (.ifCond .eq 27, 3) by decide +kernel) (fun c21 => ?_) (fun c21 => ?_)
    · have h := zB_pos c21 h
      exact J35 _ _ _ _ h
    · have h := zB_neg c21 h
      refine V_iload_n 2 Z rfl rfl (show decode cX5_sheet 11 = .ok (.iload_n 2, 1) by decide +kernel) ?_
      refine V_bipush 8 (by decide) Z (show decode cX5_sheet 12 = .ok (.bipush 8, 2) by decide +kernel) ?_
      refine V_icmp_eq 35 Z (by decide) (show decode cX5_sheet 14 = .ok (.if_icmp .eq 21, 3) by decide +kernel) (fun c22 => ?_) (fun c22 => ?_)
      · have h := zB_pos c22 h
        exact J35 _ _ _ _ h
      · have h := zB_neg c22 h
        refine V_iload_n 2 Z rfl rfl (show decode cX5_sheet 17 = .ok (.iload_n 2, 1) by decide +kernel) ?_
        refine V_bipush 16 (by decide) Z (show decode cX5_sheet 18 = .ok (.bipush 16, 2) by decide +kernel) ?_
        refine V_icmp_eq 35 Z (by decide) (show decode cX5_sheet 20 = .ok (.if_icmp .eq 15, 3) by decide +kernel) (fun c23 => ?_) (fun c23 => ?_)
        · have h := zB_pos c23 h
          exact J35 _ _ _ _ h
        · have h := zB_neg c23 h
          refine V_iload_n 2 Z rfl rfl (show decode cX5_sheet 23 = .ok (.iload_n 2, 1) by decide +kernel) ?_
          refine V_bipush 32 (by decide) Z (show decode cX5_sheet 24 = .ok (.bipush 32, 2) by decide +kernel) ?_
          refine V_icmp_eq 35 Z (by decide) (show decode cX5_sheet 26 = .ok (.if_icmp .eq 9, 3) by decide +kernel) (fun c24 => ?_) (fun c24 => ?_)
          · have h := zB_pos c24 h
            exact J35 _ _ _ _ h
          · have h := zB_neg c24 h
            refine V_sub [0] rfl ?_
            exact J29 _ h
