/-! Generated walks: X6_go X6_hungNow X6_debts X6_now X6_mend X6_wears X6_behind X6_ahead X6_owes X6_hungFor -/
def f_X6_go (x1 : Int32) (M : zM) : Option (Int32 × zM) :=
  (f_X6_within x1 1 60 M).bind fun (v2 : Int32) =>
  if v2 = 0 then
    (f_X6_finding (-1000001) M).bind fun ((v15, M16) : Int32 × zM) =>
    some ((v15, M16))
  else
    (zrd M 48 0).bind fun (v4 : Int32) =>
    if (v4 + x1) ≤ 99999 then
      (f_X6_days x1 M).bind fun (M8 : zM) =>
      (f_X6_purses  M8).bind fun (v10 : Int32) =>
      some ((v10, M8))
    else
      (f_X6_finding (-1000005) M).bind fun ((v12, M13) : Int32 × zM) =>
      some ((v12, M13))
theorem cd_X6_go : zCd yX6_go cX6_go 2 (some .int) 1 := ⟨w940, w69, ⟨by decide, by decide⟩, by decide +kernel⟩
set_option maxHeartbeats 4000000 in
set_option maxRecDepth 20000 in
theorem ok_X6_go {x1 : Int32} {M : zM} {y : Int32 × zM}  (h : f_X6_go x1 M = some y) : zRuns yX6_go cX6_go 2 (some .int) 7 156 [.ref 47, .int x1] M (some (.int y.1)) y.2 := by
  refine zRuns_of (by decide +kernel) (Nat.le_of_ble_eq_true rfl) (fun E Z hE => ?_)
  have h := zB_top h
  change VV E 2 0 [(0, Value.ref 47), (1, Value.int x1)] [] M
  refine V_iload_n 1 Z rfl rfl (show decode cX6_go 0 = .ok (.iload_n 1, 1) by decide +kernel) ?_
  refine V_iconst 1 (by decide) Z (show decode cX6_go 1 = .ok (.iconst 1, 1) by decide +kernel) ?_
  refine V_bipush 60 (by decide) Z (show decode cX6_go 2 = .ok (.bipush 60, 2) by decide +kernel) ?_
  obtain ⟨v2, e1, h⟩ := zB_bind h
  refine V_callS (rest := []) 3 Z (ok_X6_within  e1) cd_X6_within w840 w841 rfl (show decode cX6_go 4 = .ok (.invokestatic 76, 3) by decide +kernel) rfl ?_
  refine V_if_ne 17 Z (by decide) (show decode cX6_go 7 = .ok (.ifCond .ne 10, 3) by decide +kernel) (fun c3 => ?_) (fun c3 => ?_)
  · have h := zB_neg c3 h
    refine V_aload_n 0 Z rfl rfl (show decode cX6_go 17 = .ok (.aload_n 0, 1) by decide +kernel) ?_
    refine V_getR 0 48 Z zc5 (by decide) rfl (by decide) rfl (by decide) ⟨rfl, rfl, rfl⟩ w766 (show decode cX6_go 18 = .ok (.getfield 9, 3) by decide +kernel) ?_
    refine V_iconst 0 (by decide) Z (show decode cX6_go 21 = .ok (.iconst 0, 1) by decide +kernel) ?_
    obtain ⟨v4, e5, h⟩ := zB_bind h
    refine V_iald Z e5 (show decode cX6_go 22 = .ok (.iaload, 1) by decide +kernel) ?_
    refine V_iload_n 1 Z rfl rfl (show decode cX6_go 23 = .ok (.iload_n 1, 1) by decide +kernel) ?_
    refine V_iadd Z (show decode cX6_go 24 = .ok (.iadd, 1) by decide +kernel) ?_
    refine V_ldc 99999 Z w896 (show decode cX6_go 25 = .ok (.ldc 115, 2) by decide +kernel) ?_
    refine V_icmp_le 37 Z (by decide) (show decode cX6_go 27 = .ok (.if_icmp .le 10, 3) by decide +kernel) (fun c6 => ?_) (fun c6 => ?_)
    · have h := zB_pos c6 h
      refine V_aload_n 0 Z rfl rfl (show decode cX6_go 37 = .ok (.aload_n 0, 1) by decide +kernel) ?_
      refine V_iload_n 1 Z rfl rfl (show decode cX6_go 38 = .ok (.iload_n 1, 1) by decide +kernel) ?_
      obtain ⟨M8, e7, h⟩ := zB_bind h
      refine V_callV (rest := []) 1 Z (ok_X6_days  e7) cd_X6_days zc5 (by decide) rfl w942 w944 w29 rfl (show decode cX6_go 39 = .ok (.invokevirtual 165, 3) by decide +kernel) rfl ?_
      refine V_aload_n 0 Z rfl rfl (show decode cX6_go 42 = .ok (.aload_n 0, 1) by decide +kernel) ?_
      obtain ⟨v10, e9, h⟩ := zB_bind h
      refine V_callV (rest := []) 0 Z (ok_X6_purses  e9) cd_X6_purses zc5 (by decide) rfl w967 w969 w35 rfl (show decode cX6_go 43 = .ok (.invokevirtual 168, 3) by decide +kernel) rfl ?_
      exact V_iretM Z hE h (show decode cX6_go 46 = .ok (.ireturn, 1) by decide +kernel)
    · have h := zB_neg c6 h
      refine V_aload_n 0 Z rfl rfl (show decode cX6_go 30 = .ok (.aload_n 0, 1) by decide +kernel) ?_
      refine V_ldc (-1000005) Z w941 (show decode cX6_go 31 = .ok (.ldc 164, 2) by decide +kernel) ?_
      obtain ⟨⟨v12, M13⟩, e11, h⟩ := zB_bind h
      refine V_callV (rest := []) 1 Z (ok_X6_finding  e11) cd_X6_finding zc5 (by decide) rfl w844 w846 w17 rfl (show decode cX6_go 33 = .ok (.invokevirtual 72, 3) by decide +kernel) rfl ?_
      exact V_iretM Z hE h (show decode cX6_go 36 = .ok (.ireturn, 1) by decide +kernel)
  · have h := zB_pos c3 h
    refine V_aload_n 0 Z rfl rfl (show decode cX6_go 10 = .ok (.aload_n 0, 1) by decide +kernel) ?_
    refine V_ldc (-1000001) Z w843 (show decode cX6_go 11 = .ok (.ldc 66, 2) by decide +kernel) ?_
    obtain ⟨⟨v15, M16⟩, e14, h⟩ := zB_bind h
    refine V_callV (rest := []) 1 Z (ok_X6_finding  e14) cd_X6_finding zc5 (by decide) rfl w844 w846 w17 rfl (show decode cX6_go 13 = .ok (.invokevirtual 72, 3) by decide +kernel) rfl ?_
    exact V_iretM Z hE h (show decode cX6_go 16 = .ok (.ireturn, 1) by decide +kernel)
def f_X6_hungNow_l4 (M : zM) : Int32 × Int32 → Option ((Int32 × Int32) ⊕ (Int32))
  | (y1, y2) =>
    (zrd M 48 1).bind fun (v1 : Int32) =>
    if v1 ≤ y2 then
      some (.inr (y1))
    else
      (f_X6_hangs y2 M).bind fun (v5 : Int32) =>
      if v5 = 0 then
        (some ((y1 ||| 0))).bind fun (n7 : Int32) =>
        (some (y2 + 1)).bind fun (n9 : Int32) =>
        some (.inl ((n7, n9)))
      else
        (some ((y1 ||| (1 <<< (y2 &&& 31))))).bind fun (n11 : Int32) =>
        (some (y2 + 1)).bind fun (n13 : Int32) =>
        some (.inl ((n11, n13)))
def f_X6_hungNow (M : zM) : Option (Int32) :=
  zIter (f_X6_hungNow_l4 M) 1000 (0, 0)
theorem cd_X6_hungNow : zCd yX6_hungNow cX6_hungNow 3 (some .int) 0 := ⟨w978, w69, ⟨by decide, by decide⟩, by decide +kernel⟩
set_option maxHeartbeats 4000000 in
set_option maxRecDepth 20000 in
theorem ok_X6_hungNow {M : zM} {y : Int32}  (h : f_X6_hungNow  M = some y) : zRuns yX6_hungNow cX6_hungNow 3 (some .int) 3 64 [.ref 47] M (some (.int y)) M := by
  refine zRuns_of (by decide +kernel) (Nat.le_of_ble_eq_true rfl) (fun E Z hE => ?_)
  have h := zB_top h
  change VV E 3 0 [(0, Value.ref 47)] [] M
  refine V_iconst 0 (by decide) Z (show decode cX6_hungNow 0 = .ok (.iconst 0, 1) by decide +kernel) ?_
  refine V_istore_n [(1, Value.int 0), (0, Value.ref 47)] Z (by decide) rfl rfl (show decode cX6_hungNow 1 = .ok (.istore_n 1, 1) by decide +kernel) ?_
  refine V_iconst 0 (by decide) Z (show decode cX6_hungNow 2 = .ok (.iconst 0, 1) by decide +kernel) ?_
  refine V_istore_n [(2, Value.int 0), (1, Value.int 0), (0, Value.ref 47)] Z (by decide) rfl rfl (show decode cX6_hungNow 3 = .ok (.istore_n 2, 1) by decide +kernel) ?_
  refine V_sub [2, 1, 0] rfl ?_
  refine zIter_loop' (K := some) (fun s : Int32 × Int32 => VV E 3 4 [(0, Value.ref 47), (1, Value.int s.1), (2, Value.int s.2)] [] M) (fun K1 s c1_i c1_r h => ?_) _ _ h
  obtain ⟨y1, y2⟩ := s
  change VV E 3 4 [(0, Value.ref 47), (1, Value.int y1), (2, Value.int y2)] [] M
  rw [f_X6_hungNow_l4] at h
  refine V_iload_n 2 Z rfl rfl (show decode cX6_hungNow 4 = .ok (.iload_n 2, 1) by decide +kernel) ?_
  refine V_aload_n 0 Z rfl rfl (show decode cX6_hungNow 5 = .ok (.aload_n 0, 1) by decide +kernel) ?_
  refine V_getR 0 48 Z zc5 (by decide) rfl (by decide) rfl (by decide) ⟨rfl, rfl, rfl⟩ w766 (show decode cX6_hungNow 6 = .ok (.getfield 9, 3) by decide +kernel) ?_
  refine V_iconst 1 (by decide) Z (show decode cX6_hungNow 9 = .ok (.iconst 1, 1) by decide +kernel) ?_
  obtain ⟨v1, e2, h⟩ := zB_bind h
  refine V_iald Z e2 (show decode cX6_hungNow 10 = .ok (.iaload, 1) by decide +kernel) ?_
  refine V_icmp_ge 38 Z (by decide) (show decode cX6_hungNow 11 = .ok (.if_icmp .ge 27, 3) by decide +kernel) (fun c3 => ?_) (fun c3 => ?_)
  · have h := zB_pos c3 h
    refine V_iload_n 1 Z rfl rfl (show decode cX6_hungNow 38 = .ok (.iload_n 1, 1) by decide +kernel) ?_
    have h := c1_r _ h
    exact V_iretP Z hE h (show decode cX6_hungNow 39 = .ok (.ireturn, 1) by decide +kernel)
  · have h := zB_neg c3 h
    refine V_iload_n 1 Z rfl rfl (show decode cX6_hungNow 14 = .ok (.iload_n 1, 1) by decide +kernel) ?_
    refine V_aload_n 0 Z rfl rfl (show decode cX6_hungNow 15 = .ok (.aload_n 0, 1) by decide +kernel) ?_
    refine V_iload_n 2 Z rfl rfl (show decode cX6_hungNow 16 = .ok (.iload_n 2, 1) by decide +kernel) ?_
    obtain ⟨v5, e4, h⟩ := zB_bind h
    refine V_callV (rest := [_]) 1 Z (ok_X6_hangs  e4) cd_X6_hangs zc5 (by decide) rfl w876 w878 w23 rfl (show decode cX6_hungNow 17 = .ok (.invokevirtual 109, 3) by decide +kernel) rfl ?_
    refine V_if_eq 29 Z (by decide) (show decode cX6_hungNow 20 = .ok (.ifCond .eq 9, 3) by decide +kernel) (fun c6 => ?_) (fun c6 => ?_)
    · have h := zB_pos c6 h
      refine V_iconst 0 (by decide) Z (show decode cX6_hungNow 29 = .ok (.iconst 0, 1) by decide +kernel) ?_
      refine V_ior Z (show decode cX6_hungNow 30 = .ok (.ior, 1) by decide +kernel) ?_
      obtain ⟨n7, e8, h⟩ := zB_let h
      refine V_nm e8 ?_
      refine V_istore_n [(1, Value.int n7), (0, Value.ref 47), (2, Value.int y2)] Z (by decide) rfl rfl (show decode cX6_hungNow 31 = .ok (.istore_n 1, 1) by decide +kernel) ?_
      obtain ⟨n9, e10, h⟩ := zB_let h
      refine V_iinck 1 1 2 n9 [(2, Value.int n9), (1, Value.int n7), (0, Value.ref 47)] Z (by decide) (by decide) rfl e10 rfl (show decode cX6_hungNow 32 = .ok (.iinc 2 1, 3) by decide +kernel) ?_
      refine V_goto 4 Z (by decide) (show decode cX6_hungNow 35 = .ok (.goto (-31), 3) by decide +kernel) ?_
      refine V_sub [2, 1, 0] rfl ?_
      exact c1_i _ h
    · have h := zB_neg c6 h
      refine V_iconst 1 (by decide) Z (show decode cX6_hungNow 23 = .ok (.iconst 1, 1) by decide +kernel) ?_
      refine V_iload_n 2 Z rfl rfl (show decode cX6_hungNow 24 = .ok (.iload_n 2, 1) by decide +kernel) ?_
      refine V_ishl Z (show decode cX6_hungNow 25 = .ok (.ishl, 1) by decide +kernel) ?_
      refine V_goto 30 Z (by decide) (show decode cX6_hungNow 26 = .ok (.goto 4, 3) by decide +kernel) ?_
      refine V_ior Z (show decode cX6_hungNow 30 = .ok (.ior, 1) by decide +kernel) ?_
      obtain ⟨n11, e12, h⟩ := zB_let h
      refine V_nm e12 ?_
      refine V_istore_n [(1, Value.int n11), (0, Value.ref 47), (2, Value.int y2)] Z (by decide) rfl rfl (show decode cX6_hungNow 31 = .ok (.istore_n 1, 1) by decide +kernel) ?_
      obtain ⟨n13, e14, h⟩ := zB_let h
      refine V_iinck 1 1 2 n13 [(2, Value.int n13), (1, Value.int n11), (0, Value.ref 47)] Z (by decide) (by decide) rfl e14 rfl (show decode cX6_hungNow 32 = .ok (.iinc 2 1, 3) by decide +kernel) ?_
      refine V_goto 4 Z (by decide) (show decode cX6_hungNow 35 = .ok (.goto (-31), 3) by decide +kernel) ?_
      refine V_sub [2, 1, 0] rfl ?_
      exact c1_i _ h
def f_X6_debts_l4 (M : zM) : Int32 × Int32 → Option ((Int32 × Int32) ⊕ (Int32))
  | (y1, y2) =>
    (zrd M 48 1).bind fun (v1 : Int32) =>
    if v1 ≤ y2 then
      some (.inr (y1))
    else
      (f_X6_nameIs y2 3 M).bind fun (v5 : Int32) =>
      (some ((y1 + v5))).bind fun (n6 : Int32) =>
      (some (y2 + 1)).bind fun (n8 : Int32) =>
      some (.inl ((n6, n8)))
def f_X6_debts (M : zM) : Option (Int32) :=
  zIter (f_X6_debts_l4 M) 1000 (0, 0)
theorem cd_X6_debts : zCd yX6_debts cX6_debts 3 (some .int) 0 := ⟨w982, w69, ⟨by decide, by decide⟩, by decide +kernel⟩
set_option maxHeartbeats 4000000 in
set_option maxRecDepth 20000 in
theorem ok_X6_debts {M : zM} {y : Int32}  (h : f_X6_debts  M = some y) : zRuns yX6_debts cX6_debts 3 (some .int) 2 43 [.ref 47] M (some (.int y)) M := by
  refine zRuns_of (by decide +kernel) (Nat.le_of_ble_eq_true rfl) (fun E Z hE => ?_)
  have h := zB_top h
  change VV E 3 0 [(0, Value.ref 47)] [] M
  refine V_iconst 0 (by decide) Z (show decode cX6_debts 0 = .ok (.iconst 0, 1) by decide +kernel) ?_
  refine V_istore_n [(1, Value.int 0), (0, Value.ref 47)] Z (by decide) rfl rfl (show decode cX6_debts 1 = .ok (.istore_n 1, 1) by decide +kernel) ?_
  refine V_iconst 0 (by decide) Z (show decode cX6_debts 2 = .ok (.iconst 0, 1) by decide +kernel) ?_
  refine V_istore_n [(2, Value.int 0), (1, Value.int 0), (0, Value.ref 47)] Z (by decide) rfl rfl (show decode cX6_debts 3 = .ok (.istore_n 2, 1) by decide +kernel) ?_
  refine V_sub [2, 1, 0] rfl ?_
  refine zIter_loop' (K := some) (fun s : Int32 × Int32 => VV E 3 4 [(0, Value.ref 47), (1, Value.int s.1), (2, Value.int s.2)] [] M) (fun K1 s c1_i c1_r h => ?_) _ _ h
  obtain ⟨y1, y2⟩ := s
  change VV E 3 4 [(0, Value.ref 47), (1, Value.int y1), (2, Value.int y2)] [] M
  rw [f_X6_debts_l4] at h
  refine V_iload_n 2 Z rfl rfl (show decode cX6_debts 4 = .ok (.iload_n 2, 1) by decide +kernel) ?_
  refine V_aload_n 0 Z rfl rfl (show decode cX6_debts 5 = .ok (.aload_n 0, 1) by decide +kernel) ?_
  refine V_getR 0 48 Z zc5 (by decide) rfl (by decide) rfl (by decide) ⟨rfl, rfl, rfl⟩ w766 (show decode cX6_debts 6 = .ok (.getfield 9, 3) by decide +kernel) ?_
  refine V_iconst 1 (by decide) Z (show decode cX6_debts 9 = .ok (.iconst 1, 1) by decide +kernel) ?_
  obtain ⟨v1, e2, h⟩ := zB_bind h
  refine V_iald Z e2 (show decode cX6_debts 10 = .ok (.iaload, 1) by decide +kernel) ?_
  refine V_icmp_ge 29 Z (by decide) (show decode cX6_debts 11 = .ok (.if_icmp .ge 18, 3) by decide +kernel) (fun c3 => ?_) (fun c3 => ?_)
  · have h := zB_pos c3 h
    refine V_iload_n 1 Z rfl rfl (show decode cX6_debts 29 = .ok (.iload_n 1, 1) by decide +kernel) ?_
    have h := c1_r _ h
    exact V_iretP Z hE h (show decode cX6_debts 30 = .ok (.ireturn, 1) by decide +kernel)
  · have h := zB_neg c3 h
    refine V_iload_n 1 Z rfl rfl (show decode cX6_debts 14 = .ok (.iload_n 1, 1) by decide +kernel) ?_
    refine V_aload_n 0 Z rfl rfl (show decode cX6_debts 15 = .ok (.aload_n 0, 1) by decide +kernel) ?_
    refine V_iload_n 2 Z rfl rfl (show decode cX6_debts 16 = .ok (.iload_n 2, 1) by decide +kernel) ?_
    refine V_iconst 3 (by decide) Z (show decode cX6_debts 17 = .ok (.iconst 3, 1) by decide +kernel) ?_
    obtain ⟨v5, e4, h⟩ := zB_bind h
    refine V_callV (rest := [_]) 2 Z (ok_X6_nameIs  e4) cd_X6_nameIs zc5 (by decide) rfl w868 w870 w21 rfl (show decode cX6_debts 18 = .ok (.invokevirtual 93, 3) by decide +kernel) rfl ?_
    refine V_iadd Z (show decode cX6_debts 21 = .ok (.iadd, 1) by decide +kernel) ?_
    obtain ⟨n6, e7, h⟩ := zB_let h
    refine V_nm e7 ?_
    refine V_istore_n [(1, Value.int n6), (0, Value.ref 47), (2, Value.int y2)] Z (by decide) rfl rfl (show decode cX6_debts 22 = .ok (.istore_n 1, 1) by decide +kernel) ?_
    obtain ⟨n8, e9, h⟩ := zB_let h
    refine V_iinck 1 1 2 n8 [(2, Value.int n8), (1, Value.int n6), (0, Value.ref 47)] Z (by decide) (by decide) rfl e9 rfl (show decode cX6_debts 23 = .ok (.iinc 2 1, 3) by decide +kernel) ?_
    refine V_goto 4 Z (by decide) (show decode cX6_debts 26 = .ok (.goto (-22), 3) by decide +kernel) ?_
    refine V_sub [2, 1, 0] rfl ?_
    exact c1_i _ h
def f_X6_now (x1 : Int32) (M : zM) : Option (Int32 × zM) :=
  if x1 = 0 then
    (zrd M 48 0).bind fun (v2 : Int32) =>
    some ((v2, M))
  else
    if x1 = 1 then
      (f_X6_hungNow  M).bind fun (v6 : Int32) =>
      some ((v6, M))
    else
      if x1 = 2 then
        (f_X6_purses  M).bind fun (v9 : Int32) =>
        some ((v9, M))
      else
        if x1 = 3 then
          (f_X6_debts  M).bind fun (v12 : Int32) =>
          some ((v12, M))
        else
          if x1 = 4 then
            (zrd M 48 4).bind fun (v14 : Int32) =>
            some ((v14, M))
          else
            if x1 = 5 then
              (zrd M 48 3).bind fun (v17 : Int32) =>
              some ((v17, M))
            else
              (f_X6_finding (-1000001) M).bind fun ((v20, M21) : Int32 × zM) =>
              some ((v20, M21))
theorem cd_X6_now : zCd yX6_now cX6_now 2 (some .int) 1 := ⟨w974, w69, ⟨by decide, by decide⟩, by decide +kernel⟩
set_option maxHeartbeats 4000000 in
set_option maxRecDepth 20000 in
theorem ok_X6_now {x1 : Int32} {M : zM} {y : Int32 × zM}  (h : f_X6_now x1 M = some y) : zRuns yX6_now cX6_now 2 (some .int) 4 86 [.ref 47, .int x1] M (some (.int y.1)) y.2 := by
  refine zRuns_of (by decide +kernel) (Nat.le_of_ble_eq_true rfl) (fun E Z hE => ?_)
  have h := zB_top h
  change VV E 2 0 [(0, Value.ref 47), (1, Value.int x1)] [] M
  refine V_iload_n 1 Z rfl rfl (show decode cX6_now 0 = .ok (.iload_n 1, 1) by decide +kernel) ?_
  rcases zB_ite h with ⟨c1, h⟩ | ⟨c1, h⟩
  · refine V_tabE (off := 39) 0 40 Z c1 (show decode cX6_now 1 = .ok (.tableswitch 75 0 5 #[39, 46, 51, 56, 61, 68], 39) by decide +kernel) (by decide) ?_
    refine V_aload_n 0 Z rfl rfl (show decode cX6_now 40 = .ok (.aload_n 0, 1) by decide +kernel) ?_
    refine V_getR 0 48 Z zc5 (by decide) rfl (by decide) rfl (by decide) ⟨rfl, rfl, rfl⟩ w766 (show decode cX6_now 41 = .ok (.getfield 9, 3) by decide +kernel) ?_
    refine V_iconst 0 (by decide) Z (show decode cX6_now 44 = .ok (.iconst 0, 1) by decide +kernel) ?_
    obtain ⟨v2, e3, h⟩ := zB_bind h
    refine V_iald Z e3 (show decode cX6_now 45 = .ok (.iaload, 1) by decide +kernel) ?_
    exact V_iretM Z hE h (show decode cX6_now 46 = .ok (.ireturn, 1) by decide +kernel)
  · skip
    rcases zB_ite h with ⟨c4, h⟩ | ⟨c4, h⟩
    · refine V_tabE (off := 46) 1 47 Z c4 (show decode cX6_now 1 = .ok (.tableswitch 75 0 5 #[39, 46, 51, 56, 61, 68], 39) by decide +kernel) (by decide) ?_
      refine V_aload_n 0 Z rfl rfl (show decode cX6_now 47 = .ok (.aload_n 0, 1) by decide +kernel) ?_
      obtain ⟨v6, e5, h⟩ := zB_bind h
      refine V_callV (rest := []) 0 Z (ok_X6_hungNow  e5) cd_X6_hungNow zc5 (by decide) rfl w975 w977 w36 rfl (show decode cX6_now 48 = .ok (.invokevirtual 172, 3) by decide +kernel) rfl ?_
      exact V_iretM Z hE h (show decode cX6_now 51 = .ok (.ireturn, 1) by decide +kernel)
    · skip
      rcases zB_ite h with ⟨c7, h⟩ | ⟨c7, h⟩
      · refine V_tabE (off := 51) 2 52 Z c7 (show decode cX6_now 1 = .ok (.tableswitch 75 0 5 #[39, 46, 51, 56, 61, 68], 39) by decide +kernel) (by decide) ?_
        refine V_aload_n 0 Z rfl rfl (show decode cX6_now 52 = .ok (.aload_n 0, 1) by decide +kernel) ?_
        obtain ⟨v9, e8, h⟩ := zB_bind h
        refine V_callV (rest := []) 0 Z (ok_X6_purses  e8) cd_X6_purses zc5 (by decide) rfl w967 w969 w35 rfl (show decode cX6_now 53 = .ok (.invokevirtual 168, 3) by decide +kernel) rfl ?_
        exact V_iretM Z hE h (show decode cX6_now 56 = .ok (.ireturn, 1) by decide +kernel)
      · skip
        rcases zB_ite h with ⟨c10, h⟩ | ⟨c10, h⟩
        · refine V_tabE (off := 56) 3 57 Z c10 (show decode cX6_now 1 = .ok (.tableswitch 75 0 5 #[39, 46, 51, 56, 61, 68], 39) by decide +kernel) (by decide) ?_
          refine V_aload_n 0 Z rfl rfl (show decode cX6_now 57 = .ok (.aload_n 0, 1) by decide +kernel) ?_
          obtain ⟨v12, e11, h⟩ := zB_bind h
          refine V_callV (rest := []) 0 Z (ok_X6_debts  e11) cd_X6_debts zc5 (by decide) rfl w979 w981 w37 rfl (show decode cX6_now 58 = .ok (.invokevirtual 175, 3) by decide +kernel) rfl ?_
          exact V_iretM Z hE h (show decode cX6_now 61 = .ok (.ireturn, 1) by decide +kernel)
        · skip
          rcases zB_ite h with ⟨c13, h⟩ | ⟨c13, h⟩
          · refine V_tabE (off := 61) 4 62 Z c13 (show decode cX6_now 1 = .ok (.tableswitch 75 0 5 #[39, 46, 51, 56, 61, 68], 39) by decide +kernel) (by decide) ?_
            refine V_aload_n 0 Z rfl rfl (show decode cX6_now 62 = .ok (.aload_n 0, 1) by decide +kernel) ?_
            refine V_getR 0 48 Z zc5 (by decide) rfl (by decide) rfl (by decide) ⟨rfl, rfl, rfl⟩ w766 (show decode cX6_now 63 = .ok (.getfield 9, 3) by decide +kernel) ?_
            refine V_iconst 4 (by decide) Z (show decode cX6_now 66 = .ok (.iconst 4, 1) by decide +kernel) ?_
            obtain ⟨v14, e15, h⟩ := zB_bind h
            refine V_iald Z e15 (show decode cX6_now 67 = .ok (.iaload, 1) by decide +kernel) ?_
            exact V_iretM Z hE h (show decode cX6_now 68 = .ok (.ireturn, 1) by decide +kernel)
          · skip
            rcases zB_ite h with ⟨c16, h⟩ | ⟨c16, h⟩
            · refine V_tabE (off := 68) 5 69 Z c16 (show decode cX6_now 1 = .ok (.tableswitch 75 0 5 #[39, 46, 51, 56, 61, 68], 39) by decide +kernel) (by decide) ?_
              refine V_aload_n 0 Z rfl rfl (show decode cX6_now 69 = .ok (.aload_n 0, 1) by decide +kernel) ?_
              refine V_getR 0 48 Z zc5 (by decide) rfl (by decide) rfl (by decide) ⟨rfl, rfl, rfl⟩ w766 (show decode cX6_now 70 = .ok (.getfield 9, 3) by decide +kernel) ?_
              refine V_iconst 3 (by decide) Z (show decode cX6_now 73 = .ok (.iconst 3, 1) by decide +kernel) ?_
              obtain ⟨v17, e18, h⟩ := zB_bind h
              refine V_iald Z e18 (show decode cX6_now 74 = .ok (.iaload, 1) by decide +kernel) ?_
              exact V_iretM Z hE h (show decode cX6_now 75 = .ok (.ireturn, 1) by decide +kernel)
            · skip
              refine V_tabOut 76 Z (show decode cX6_now 1 = .ok (.tableswitch 75 0 5 #[39, 46, 51, 56, 61, 68], 39) by decide +kernel) (z_out (fun i h1 h2 e => by
                  rcases (show i = 0 ∨ i = 1 ∨ i = 2 ∨ i = 3 ∨ i = 4 ∨ i = 5 by omega) with rfl | rfl | rfl | rfl | rfl | rfl
                  · exact c1 e
                  · exact c4 e
                  · exact c7 e
                  · exact c10 e
                  · exact c13 e
                  · exact c16 e)) (by decide) ?_
              refine V_aload_n 0 Z rfl rfl (show decode cX6_now 76 = .ok (.aload_n 0, 1) by decide +kernel) ?_
              refine V_ldc (-1000001) Z w843 (show decode cX6_now 77 = .ok (.ldc 66, 2) by decide +kernel) ?_
              obtain ⟨⟨v20, M21⟩, e19, h⟩ := zB_bind h
              refine V_callV (rest := []) 1 Z (ok_X6_finding  e19) cd_X6_finding zc5 (by decide) rfl w844 w846 w17 rfl (show decode cX6_now 79 = .ok (.invokevirtual 72, 3) by decide +kernel) rfl ?_
              exact V_iretM Z hE h (show decode cX6_now 82 = .ok (.ireturn, 1) by decide +kernel)
def f_X6_mend_j25 (M : zM) : Option (Int32 × zM) :=
  (f_X6_finding (-1000001) M).bind fun ((v2, M3) : Int32 × zM) =>
  some ((v2, M3))
def f_X6_mend (x1 : Int32) (x2 : Int32) (x3 : Int32) (M : zM) : Option (Int32 × zM) :=
  (f_X6_isName x1 M).bind fun (v5 : Int32) =>
  if v5 = 0 then
    f_X6_mend_j25  M
  else
    (f_X6_isPerson x2 M).bind fun (v8 : Int32) =>
    if v8 = 0 then
      f_X6_mend_j25  M
    else
      (f_X6_within x3 0 99 M).bind fun (v11 : Int32) =>
      if v11 = 0 then
        f_X6_mend_j25  M
      else
        (zrd M 48 (55 + x2)).bind fun (v13 : Int32) =>
        if x3 ≤ v13 then
          (zrd M 48 (55 + x2)).bind fun (v16 : Int32) =>
          (zwr M 48 (55 + x2) (v16 - x3)).bind fun (M18 : zM) =>
          (f_X6_place x1 2 M18).bind fun (v21 : Int32) =>
          (f_X6_nameIs x1 2 M18).bind fun (v23 : Int32) =>
          (zwr M18 48 v21 (if 0 < (v23 - x3) then (v23 - x3) else 0)).bind fun (M24 : zM) =>
          (f_X6_nameIs x1 2 M24).bind fun (v27 : Int32) =>
          some ((v27, M24))
        else
          (f_X6_finding (-1000005) M).bind fun ((v29, M30) : Int32 × zM) =>
          some ((v29, M30))
theorem cd_X6_mend : zCd yX6_mend cX6_mend 4 (some .int) 3 := ⟨w986, w69, ⟨by decide, by decide⟩, by decide +kernel⟩
set_option maxHeartbeats 4000000 in
set_option maxRecDepth 20000 in
theorem ok_X6_mend {x1 : Int32} {x2 : Int32} {x3 : Int32} {M : zM} {y : Int32 × zM}  (h : f_X6_mend x1 x2 x3 M = some y) : zRuns yX6_mend cX6_mend 4 (some .int) 2 43 [.ref 47, .int x1, .int x2, .int x3] M (some (.int y.1)) y.2 := by
  refine zRuns_of (by decide +kernel) (Nat.le_of_ble_eq_true rfl) (fun E Z hE => ?_)
  have h := zB_top h
  change VV E 4 0 [(0, Value.ref 47), (1, Value.int x1), (2, Value.int x2), (3, Value.int x3)] [] M
  have J25 : ∀ (M : zM), (f_X6_mend_j25  M).bind some = some y → VV E 4 25 [(0, Value.ref 47)] [] M := by
    intro  M h
    refine V_aload_n 0 Z rfl rfl (show decode cX6_mend 25 = .ok (.aload_n 0, 1) by decide +kernel) ?_
    refine V_ldc (-1000001) Z w843 (show decode cX6_mend 26 = .ok (.ldc 66, 2) by decide +kernel) ?_
    obtain ⟨⟨v2, M3⟩, e1, h⟩ := zB_bind h
    refine V_callV (rest := []) 1 Z (ok_X6_finding  e1) cd_X6_finding zc5 (by decide) rfl w844 w846 w17 rfl (show decode cX6_mend 28 = .ok (.invokevirtual 72, 3) by decide +kernel) rfl ?_
    exact V_iretM Z hE h (show decode cX6_mend 31 = .ok (.ireturn, 1) by decide +kernel)
  refine V_aload_n 0 Z rfl rfl (show decode cX6_mend 0 = .ok (.aload_n 0, 1) by decide +kernel) ?_
  refine V_iload_n 1 Z rfl rfl (show decode cX6_mend 1 = .ok (.iload_n 1, 1) by decide +kernel) ?_
  obtain ⟨v5, e4, h⟩ := zB_bind h
  refine V_callV (rest := []) 1 Z (ok_X6_isName  e4) cd_X6_isName zc5 (by decide) rfl w860 w862 w19 rfl (show decode cX6_mend 2 = .ok (.invokevirtual 100, 3) by decide +kernel) rfl ?_
  refine V_if_eq 25 Z (by decide) (show decode cX6_mend 5 = .ok (.ifCond .eq 20, 3) by decide +kernel) (fun c6 => ?_) (fun c6 => ?_)
  · have h := zB_pos c6 h
    refine V_sub [0] rfl ?_
    exact J25 _ h
  · have h := zB_neg c6 h
    refine V_iload_n 2 Z rfl rfl (show decode cX6_mend 8 = .ok (.iload_n 2, 1) by decide +kernel) ?_
    obtain ⟨v8, e7, h⟩ := zB_bind h
    refine V_callS (rest := []) 1 Z (ok_X6_isPerson  e7) cd_X6_isPerson w908 w909 rfl (show decode cX6_mend 9 = .ok (.invokestatic 125, 3) by decide +kernel) rfl ?_
    refine V_if_eq 25 Z (by decide) (show decode cX6_mend 12 = .ok (.ifCond .eq 13, 3) by decide +kernel) (fun c9 => ?_) (fun c9 => ?_)
    · have h := zB_pos c9 h
      refine V_sub [0] rfl ?_
      exact J25 _ h
    · have h := zB_neg c9 h
      refine V_iload_n 3 Z rfl rfl (show decode cX6_mend 15 = .ok (.iload_n 3, 1) by decide +kernel) ?_
      refine V_iconst 0 (by decide) Z (show decode cX6_mend 16 = .ok (.iconst 0, 1) by decide +kernel) ?_
      refine V_bipush 99 (by decide) Z (show decode cX6_mend 17 = .ok (.bipush 99, 2) by decide +kernel) ?_
      obtain ⟨v11, e10, h⟩ := zB_bind h
      refine V_callS (rest := []) 3 Z (ok_X6_within  e10) cd_X6_within w840 w841 rfl (show decode cX6_mend 19 = .ok (.invokestatic 76, 3) by decide +kernel) rfl ?_
      refine V_if_ne 32 Z (by decide) (show decode cX6_mend 22 = .ok (.ifCond .ne 10, 3) by decide +kernel) (fun c12 => ?_) (fun c12 => ?_)
      · have h := zB_neg c12 h
        refine V_aload_n 0 Z rfl rfl (show decode cX6_mend 32 = .ok (.aload_n 0, 1) by decide +kernel) ?_
        refine V_getR 0 48 Z zc5 (by decide) rfl (by decide) rfl (by decide) ⟨rfl, rfl, rfl⟩ w766 (show decode cX6_mend 33 = .ok (.getfield 9, 3) by decide +kernel) ?_
        refine V_bipush 55 (by decide) Z (show decode cX6_mend 36 = .ok (.bipush 55, 2) by decide +kernel) ?_
        refine V_iload_n 2 Z rfl rfl (show decode cX6_mend 38 = .ok (.iload_n 2, 1) by decide +kernel) ?_
        refine V_iadd Z (show decode cX6_mend 39 = .ok (.iadd, 1) by decide +kernel) ?_
        obtain ⟨v13, e14, h⟩ := zB_bind h
        refine V_iald Z e14 (show decode cX6_mend 40 = .ok (.iaload, 1) by decide +kernel) ?_
        refine V_iload_n 3 Z rfl rfl (show decode cX6_mend 41 = .ok (.iload_n 3, 1) by decide +kernel) ?_
        refine V_icmp_ge 52 Z (by decide) (show decode cX6_mend 42 = .ok (.if_icmp .ge 10, 3) by decide +kernel) (fun c15 => ?_) (fun c15 => ?_)
        · have h := zB_pos c15 h
          refine V_aload_n 0 Z rfl rfl (show decode cX6_mend 52 = .ok (.aload_n 0, 1) by decide +kernel) ?_
          refine V_getR 0 48 Z zc5 (by decide) rfl (by decide) rfl (by decide) ⟨rfl, rfl, rfl⟩ w766 (show decode cX6_mend 53 = .ok (.getfield 9, 3) by decide +kernel) ?_
          refine V_bipush 55 (by decide) Z (show decode cX6_mend 56 = .ok (.bipush 55, 2) by decide +kernel) ?_
          refine V_iload_n 2 Z rfl rfl (show decode cX6_mend 58 = .ok (.iload_n 2, 1) by decide +kernel) ?_
          refine V_iadd Z (show decode cX6_mend 59 = .ok (.iadd, 1) by decide +kernel) ?_
          refine V_dup2 rfl rfl Z (show decode cX6_mend 60 = .ok (.dup2, 1) by decide +kernel) ?_
          obtain ⟨v16, e17, h⟩ := zB_bind h
          refine V_iald Z e17 (show decode cX6_mend 61 = .ok (.iaload, 1) by decide +kernel) ?_
          refine V_iload_n 3 Z rfl rfl (show decode cX6_mend 62 = .ok (.iload_n 3, 1) by decide +kernel) ?_
          refine V_isub Z (show decode cX6_mend 63 = .ok (.isub, 1) by decide +kernel) ?_
          obtain ⟨M18, e19, h⟩ := zB_bind h
          refine V_iast Z e19 (show decode cX6_mend 64 = .ok (.iastore, 1) by decide +kernel) ?_
          refine V_aload_n 0 Z rfl rfl (show decode cX6_mend 65 = .ok (.aload_n 0, 1) by decide +kernel) ?_
          refine V_getR 0 48 Z zc5 (by decide) rfl (by decide) rfl (by decide) ⟨rfl, rfl, rfl⟩ w766 (show decode cX6_mend 66 = .ok (.getfield 9, 3) by decide +kernel) ?_
          refine V_iload_n 1 Z rfl rfl (show decode cX6_mend 69 = .ok (.iload_n 1, 1) by decide +kernel) ?_
          refine V_iconst 2 (by decide) Z (show decode cX6_mend 70 = .ok (.iconst 2, 1) by decide +kernel) ?_
          obtain ⟨v21, e20, h⟩ := zB_bind h
          refine V_callS (rest := [_]) 2 Z (ok_X6_place  e20) cd_X6_place w853 w854 rfl (show decode cX6_mend 71 = .ok (.invokestatic 80, 3) by decide +kernel) rfl ?_
          refine V_iconst 0 (by decide) Z (show decode cX6_mend 74 = .ok (.iconst 0, 1) by decide +kernel) ?_
          refine V_aload_n 0 Z rfl rfl (show decode cX6_mend 75 = .ok (.aload_n 0, 1) by decide +kernel) ?_
          refine V_iload_n 1 Z rfl rfl (show decode cX6_mend 76 = .ok (.iload_n 1, 1) by decide +kernel) ?_
          refine V_iconst 2 (by decide) Z (show decode cX6_mend 77 = .ok (.iconst 2, 1) by decide +kernel) ?_
          obtain ⟨v23, e22, h⟩ := zB_bind h
          refine V_callV (rest := [_, _, _]) 2 Z (ok_X6_nameIs  e22) cd_X6_nameIs zc5 (by decide) rfl w868 w870 w21 rfl (show decode cX6_mend 78 = .ok (.invokevirtual 93, 3) by decide +kernel) rfl ?_
          refine V_iload_n 3 Z rfl rfl (show decode cX6_mend 81 = .ok (.iload_n 3, 1) by decide +kernel) ?_
          refine V_isub Z (show decode cX6_mend 82 = .ok (.isub, 1) by decide +kernel) ?_
          refine V_max Z w922 w401 w71 w402 (show decode cX6_mend 83 = .ok (.invokestatic 128, 3) by decide +kernel) rfl ?_
          obtain ⟨M24, e25, h⟩ := zB_bind h
          refine V_iast Z e25 (show decode cX6_mend 86 = .ok (.iastore, 1) by decide +kernel) ?_
          refine V_aload_n 0 Z rfl rfl (show decode cX6_mend 87 = .ok (.aload_n 0, 1) by decide +kernel) ?_
          refine V_iload_n 1 Z rfl rfl (show decode cX6_mend 88 = .ok (.iload_n 1, 1) by decide +kernel) ?_
          refine V_iconst 2 (by decide) Z (show decode cX6_mend 89 = .ok (.iconst 2, 1) by decide +kernel) ?_
          obtain ⟨v27, e26, h⟩ := zB_bind h
          refine V_callV (rest := []) 2 Z (ok_X6_nameIs  e26) cd_X6_nameIs zc5 (by decide) rfl w868 w870 w21 rfl (show decode cX6_mend 90 = .ok (.invokevirtual 93, 3) by decide +kernel) rfl ?_
          exact V_iretM Z hE h (show decode cX6_mend 93 = .ok (.ireturn, 1) by decide +kernel)
        · have h := zB_neg c15 h
          refine V_aload_n 0 Z rfl rfl (show decode cX6_mend 45 = .ok (.aload_n 0, 1) by decide +kernel) ?_
          refine V_ldc (-1000005) Z w941 (show decode cX6_mend 46 = .ok (.ldc 164, 2) by decide +kernel) ?_
          obtain ⟨⟨v29, M30⟩, e28, h⟩ := zB_bind h
          refine V_callV (rest := []) 1 Z (ok_X6_finding  e28) cd_X6_finding zc5 (by decide) rfl w844 w846 w17 rfl (show decode cX6_mend 48 = .ok (.invokevirtual 72, 3) by decide +kernel) rfl ?_
          exact V_iretM Z hE h (show decode cX6_mend 51 = .ok (.ireturn, 1) by decide +kernel)
      · have h := zB_pos c12 h
        refine V_sub [0] rfl ?_
        exact J25 _ h
def f_X6_wears (x1 : Int32) (M : zM) : Option (Int32 × zM) :=
  (f_X6_isPerson x1 M).bind fun (v2 : Int32) =>
  if v2 = 0 then
    (f_X6_finding (-1000001) M).bind fun ((v13, M14) : Int32 × zM) =>
    some ((v13, M14))
  else
    (zrd M 48 3).bind fun (v4 : Int32) =>
    (f_X6_drawBy v4 M).bind fun ((v7, M8) : Int32 × zM) =>
    if 0 ≤ v7 then
      (zrd M8 52 x1).bind fun (v10 : Int32) =>
      some ((v10, M8))
    else
      some (((-1), M8))
theorem cd_X6_wears : zCd yX6_wears cX6_wears 2 (some .int) 1 := ⟨w990, w69, ⟨by decide, by decide⟩, by decide +kernel⟩
set_option maxHeartbeats 4000000 in
set_option maxRecDepth 20000 in
theorem ok_X6_wears {x1 : Int32} {M : zM} {y : Int32 × zM}  (h : f_X6_wears x1 M = some y) : zRuns yX6_wears cX6_wears 2 (some .int) 5 112 [.ref 47, .int x1] M (some (.int y.1)) y.2 := by
  refine zRuns_of (by decide +kernel) (Nat.le_of_ble_eq_true rfl) (fun E Z hE => ?_)
  have h := zB_top h
  change VV E 2 0 [(0, Value.ref 47), (1, Value.int x1)] [] M
  refine V_iload_n 1 Z rfl rfl (show decode cX6_wears 0 = .ok (.iload_n 1, 1) by decide +kernel) ?_
  obtain ⟨v2, e1, h⟩ := zB_bind h
  refine V_callS (rest := []) 1 Z (ok_X6_isPerson  e1) cd_X6_isPerson w908 w909 rfl (show decode cX6_wears 1 = .ok (.invokestatic 125, 3) by decide +kernel) rfl ?_
  refine V_if_ne 14 Z (by decide) (show decode cX6_wears 4 = .ok (.ifCond .ne 10, 3) by decide +kernel) (fun c3 => ?_) (fun c3 => ?_)
  · have h := zB_neg c3 h
    refine V_aload_n 0 Z rfl rfl (show decode cX6_wears 14 = .ok (.aload_n 0, 1) by decide +kernel) ?_
    refine V_aload_n 0 Z rfl rfl (show decode cX6_wears 15 = .ok (.aload_n 0, 1) by decide +kernel) ?_
    refine V_getR 0 48 Z zc5 (by decide) rfl (by decide) rfl (by decide) ⟨rfl, rfl, rfl⟩ w766 (show decode cX6_wears 16 = .ok (.getfield 9, 3) by decide +kernel) ?_
    refine V_iconst 3 (by decide) Z (show decode cX6_wears 19 = .ok (.iconst 3, 1) by decide +kernel) ?_
    obtain ⟨v4, e5, h⟩ := zB_bind h
    refine V_iald Z e5 (show decode cX6_wears 20 = .ok (.iaload, 1) by decide +kernel) ?_
    obtain ⟨⟨v7, M8⟩, e6, h⟩ := zB_bind h
    refine V_callV (rest := []) 1 Z (ok_X6_drawBy  e6) cd_X6_drawBy zc5 (by decide) rfl w950 w952 w31 rfl (show decode cX6_wears 21 = .ok (.invokevirtual 151, 3) by decide +kernel) rfl ?_
    refine V_if_ge 31 Z (by decide) (show decode cX6_wears 24 = .ok (.ifCond .ge 7, 3) by decide +kernel) (fun c9 => ?_) (fun c9 => ?_)
    · have h := zB_pos c9 h
      refine V_aload_n 0 Z rfl rfl (show decode cX6_wears 31 = .ok (.aload_n 0, 1) by decide +kernel) ?_
      refine V_getR 5 52 Z zc5 (by decide) rfl (by decide) rfl (by decide) ⟨rfl, rfl, rfl⟩ w771 (show decode cX6_wears 32 = .ok (.getfield 22, 3) by decide +kernel) ?_
      refine V_iload_n 1 Z rfl rfl (show decode cX6_wears 35 = .ok (.iload_n 1, 1) by decide +kernel) ?_
      obtain ⟨v10, e11, h⟩ := zB_bind h
      refine V_iald Z e11 (show decode cX6_wears 36 = .ok (.iaload, 1) by decide +kernel) ?_
      exact V_iretM Z hE h (show decode cX6_wears 37 = .ok (.ireturn, 1) by decide +kernel)
    · have h := zB_neg c9 h
      refine V_iconst (-1) (by decide) Z (show decode cX6_wears 27 = .ok (.iconst (-1), 1) by decide +kernel) ?_
      refine V_goto 37 Z (by decide) (show decode cX6_wears 28 = .ok (.goto 9, 3) by decide +kernel) ?_
      exact V_iretM Z hE h (show decode cX6_wears 37 = .ok (.ireturn, 1) by decide +kernel)
  · have h := zB_pos c3 h
    refine V_aload_n 0 Z rfl rfl (show decode cX6_wears 7 = .ok (.aload_n 0, 1) by decide +kernel) ?_
    refine V_ldc (-1000001) Z w843 (show decode cX6_wears 8 = .ok (.ldc 66, 2) by decide +kernel) ?_
    obtain ⟨⟨v13, M14⟩, e12, h⟩ := zB_bind h
    refine V_callV (rest := []) 1 Z (ok_X6_finding  e12) cd_X6_finding zc5 (by decide) rfl w844 w846 w17 rfl (show decode cX6_wears 10 = .ok (.invokevirtual 72, 3) by decide +kernel) rfl ?_
    exact V_iretM Z hE h (show decode cX6_wears 13 = .ok (.ireturn, 1) by decide +kernel)
def f_X6_behind (x1 : Int32) (x2 : Int32) (M : zM) : Option (Int32 × zM) :=
  (f_X6_copyRow 48 50 M).bind fun (M2 : zM) =>
  (f_X6_days x2 M2).bind fun (M4 : zM) =>
  (zrd M4 48 x1).bind fun (v5 : Int32) =>
  (f_X6_putBack v5 M4).bind fun ((v8, M9) : Int32 × zM) =>
  some ((v8, M9))
theorem cd_X6_behind : zCd yX6_behind cX6_behind 3 (some .int) 2 := ⟨w998, w69, ⟨by decide, by decide⟩, by decide +kernel⟩
set_option maxHeartbeats 4000000 in
set_option maxRecDepth 20000 in
theorem ok_X6_behind {x1 : Int32} {x2 : Int32} {M : zM} {y : Int32 × zM}  (h : f_X6_behind x1 x2 M = some y) : zRuns yX6_behind cX6_behind 3 (some .int) 7 156 [.ref 47, .int x1, .int x2] M (some (.int y.1)) y.2 := by
  refine zRuns_of (by decide +kernel) (Nat.le_of_ble_eq_true rfl) (fun E Z hE => ?_)
  have h := zB_top h
  change VV E 3 0 [(0, Value.ref 47), (1, Value.int x1), (2, Value.int x2)] [] M
  refine V_aload_n 0 Z rfl rfl (show decode cX6_behind 0 = .ok (.aload_n 0, 1) by decide +kernel) ?_
  refine V_getR 0 48 Z zc5 (by decide) rfl (by decide) rfl (by decide) ⟨rfl, rfl, rfl⟩ w766 (show decode cX6_behind 1 = .ok (.getfield 9, 3) by decide +kernel) ?_
  refine V_aload_n 0 Z rfl rfl (show decode cX6_behind 4 = .ok (.aload_n 0, 1) by decide +kernel) ?_
  refine V_getR 2 50 Z zc5 (by decide) rfl (by decide) rfl (by decide) ⟨rfl, rfl, rfl⟩ w768 (show decode cX6_behind 5 = .ok (.getfield 16, 3) by decide +kernel) ?_
  obtain ⟨M2, e1, h⟩ := zB_bind h
  refine V_callS (rest := []) 2 Z (ok_X6_copyRow  e1) cd_X6_copyRow w999 w1000 rfl (show decode cX6_behind 8 = .ok (.invokestatic 67, 3) by decide +kernel) rfl ?_
  refine V_aload_n 0 Z rfl rfl (show decode cX6_behind 11 = .ok (.aload_n 0, 1) by decide +kernel) ?_
  refine V_iload_n 2 Z rfl rfl (show decode cX6_behind 12 = .ok (.iload_n 2, 1) by decide +kernel) ?_
  obtain ⟨M4, e3, h⟩ := zB_bind h
  refine V_callV (rest := []) 1 Z (ok_X6_days  e3) cd_X6_days zc5 (by decide) rfl w942 w944 w29 rfl (show decode cX6_behind 13 = .ok (.invokevirtual 165, 3) by decide +kernel) rfl ?_
  refine V_aload_n 0 Z rfl rfl (show decode cX6_behind 16 = .ok (.aload_n 0, 1) by decide +kernel) ?_
  refine V_aload_n 0 Z rfl rfl (show decode cX6_behind 17 = .ok (.aload_n 0, 1) by decide +kernel) ?_
  refine V_getR 0 48 Z zc5 (by decide) rfl (by decide) rfl (by decide) ⟨rfl, rfl, rfl⟩ w766 (show decode cX6_behind 18 = .ok (.getfield 9, 3) by decide +kernel) ?_
  refine V_iload_n 1 Z rfl rfl (show decode cX6_behind 21 = .ok (.iload_n 1, 1) by decide +kernel) ?_
  obtain ⟨v5, e6, h⟩ := zB_bind h
  refine V_iald Z e6 (show decode cX6_behind 22 = .ok (.iaload, 1) by decide +kernel) ?_
  obtain ⟨⟨v8, M9⟩, e7, h⟩ := zB_bind h
  refine V_callV (rest := []) 1 Z (ok_X6_putBack  e7) cd_X6_putBack zc5 (by decide) rfl w1002 w1004 w39 rfl (show decode cX6_behind 23 = .ok (.invokevirtual 178, 3) by decide +kernel) rfl ?_
  exact V_iretM Z hE h (show decode cX6_behind 26 = .ok (.ireturn, 1) by decide +kernel)
def f_X6_ahead_j29 (M : zM) : Option (Int32 × zM) :=
  (f_X6_finding (-1000001) M).bind fun ((v2, M3) : Int32 × zM) =>
  some ((v2, M3))
def f_X6_ahead (x1 : Int32) (x2 : Int32) (M : zM) : Option (Int32 × zM) :=
  (f_X6_isPerson x1 M).bind fun (v5 : Int32) =>
  if v5 = 0 then
    f_X6_ahead_j29  M
  else
    (f_X6_within x2 0 100 M).bind fun (v8 : Int32) =>
    if v8 = 0 then
      f_X6_ahead_j29  M
    else
      (f_X6_behind (55 + x1) x2 M).bind fun ((v11, M12) : Int32 × zM) =>
      some ((v11, M12))
theorem cd_X6_ahead : zCd yX6_ahead cX6_ahead 3 (some .int) 2 := ⟨w994, w69, ⟨by decide, by decide⟩, by decide +kernel⟩
set_option maxHeartbeats 4000000 in
set_option maxRecDepth 20000 in
theorem ok_X6_ahead {x1 : Int32} {x2 : Int32} {M : zM} {y : Int32 × zM}  (h : f_X6_ahead x1 x2 M = some y) : zRuns yX6_ahead cX6_ahead 3 (some .int) 8 178 [.ref 47, .int x1, .int x2] M (some (.int y.1)) y.2 := by
  refine zRuns_of (by decide +kernel) (Nat.le_of_ble_eq_true rfl) (fun E Z hE => ?_)
  have h := zB_top h
  change VV E 3 0 [(0, Value.ref 47), (1, Value.int x1), (2, Value.int x2)] [] M
  have J29 : ∀ (M : zM), (f_X6_ahead_j29  M).bind some = some y → VV E 3 29 [(0, Value.ref 47)] [] M := by
    intro  M h
    refine V_aload_n 0 Z rfl rfl (show decode cX6_ahead 29 = .ok (.aload_n 0, 1) by decide +kernel) ?_
    refine V_ldc (-1000001) Z w843 (show decode cX6_ahead 30 = .ok (.ldc 66, 2) by decide +kernel) ?_
    obtain ⟨⟨v2, M3⟩, e1, h⟩ := zB_bind h
    refine V_callV (rest := []) 1 Z (ok_X6_finding  e1) cd_X6_finding zc5 (by decide) rfl w844 w846 w17 rfl (show decode cX6_ahead 32 = .ok (.invokevirtual 72, 3) by decide +kernel) rfl ?_
    exact V_iretM Z hE h (show decode cX6_ahead 35 = .ok (.ireturn, 1) by decide +kernel)
  refine V_iload_n 1 Z rfl rfl (show decode cX6_ahead 0 = .ok (.iload_n 1, 1) by decide +kernel) ?_
  obtain ⟨v5, e4, h⟩ := zB_bind h
  refine V_callS (rest := []) 1 Z (ok_X6_isPerson  e4) cd_X6_isPerson w908 w909 rfl (show decode cX6_ahead 1 = .ok (.invokestatic 125, 3) by decide +kernel) rfl ?_
  refine V_if_eq 29 Z (by decide) (show decode cX6_ahead 4 = .ok (.ifCond .eq 25, 3) by decide +kernel) (fun c6 => ?_) (fun c6 => ?_)
  · have h := zB_pos c6 h
    refine V_sub [0] rfl ?_
    exact J29 _ h
  · have h := zB_neg c6 h
    refine V_iload_n 2 Z rfl rfl (show decode cX6_ahead 7 = .ok (.iload_n 2, 1) by decide +kernel) ?_
    refine V_iconst 0 (by decide) Z (show decode cX6_ahead 8 = .ok (.iconst 0, 1) by decide +kernel) ?_
    refine V_bipush 100 (by decide) Z (show decode cX6_ahead 9 = .ok (.bipush 100, 2) by decide +kernel) ?_
    obtain ⟨v8, e7, h⟩ := zB_bind h
    refine V_callS (rest := []) 3 Z (ok_X6_within  e7) cd_X6_within w840 w841 rfl (show decode cX6_ahead 11 = .ok (.invokestatic 76, 3) by decide +kernel) rfl ?_
    refine V_if_eq 29 Z (by decide) (show decode cX6_ahead 14 = .ok (.ifCond .eq 15, 3) by decide +kernel) (fun c9 => ?_) (fun c9 => ?_)
    · have h := zB_pos c9 h
      refine V_sub [0] rfl ?_
      exact J29 _ h
    · have h := zB_neg c9 h
      refine V_aload_n 0 Z rfl rfl (show decode cX6_ahead 17 = .ok (.aload_n 0, 1) by decide +kernel) ?_
      refine V_bipush 55 (by decide) Z (show decode cX6_ahead 18 = .ok (.bipush 55, 2) by decide +kernel) ?_
      refine V_iload_n 1 Z rfl rfl (show decode cX6_ahead 20 = .ok (.iload_n 1, 1) by decide +kernel) ?_
      refine V_iadd Z (show decode cX6_ahead 21 = .ok (.iadd, 1) by decide +kernel) ?_
      refine V_iload_n 2 Z rfl rfl (show decode cX6_ahead 22 = .ok (.iload_n 2, 1) by decide +kernel) ?_
      obtain ⟨⟨v11, M12⟩, e10, h⟩ := zB_bind h
      refine V_callV (rest := []) 2 Z (ok_X6_behind  e10) cd_X6_behind zc5 (by decide) rfl w995 w997 w38 rfl (show decode cX6_ahead 23 = .ok (.invokevirtual 181, 3) by decide +kernel) rfl ?_
      refine V_goto 35 Z (by decide) (show decode cX6_ahead 26 = .ok (.goto 9, 3) by decide +kernel) ?_
      exact V_iretM Z hE h (show decode cX6_ahead 35 = .ok (.ireturn, 1) by decide +kernel)
def f_X6_owes_j31 (M : zM) : Option (Int32 × zM) :=
  (f_X6_finding (-1000001) M).bind fun ((v2, M3) : Int32 × zM) =>
  some ((v2, M3))
def f_X6_owes (x1 : Int32) (x2 : Int32) (M : zM) : Option (Int32 × zM) :=
  (f_X6_isName x1 M).bind fun (v5 : Int32) =>
  if v5 = 0 then
    f_X6_owes_j31  M
  else
    (f_X6_within x2 0 100 M).bind fun (v8 : Int32) =>
    if v8 = 0 then
      f_X6_owes_j31  M
    else
      (f_X6_place x1 3 M).bind fun (v11 : Int32) =>
      (f_X6_behind v11 x2 M).bind fun ((v13, M14) : Int32 × zM) =>
      some ((v13, M14))
theorem cd_X6_owes : zCd yX6_owes cX6_owes 3 (some .int) 2 := ⟨w1009, w69, ⟨by decide, by decide⟩, by decide +kernel⟩
set_option maxHeartbeats 4000000 in
set_option maxRecDepth 20000 in
theorem ok_X6_owes {x1 : Int32} {x2 : Int32} {M : zM} {y : Int32 × zM}  (h : f_X6_owes x1 x2 M = some y) : zRuns yX6_owes cX6_owes 3 (some .int) 8 178 [.ref 47, .int x1, .int x2] M (some (.int y.1)) y.2 := by
  refine zRuns_of (by decide +kernel) (Nat.le_of_ble_eq_true rfl) (fun E Z hE => ?_)
  have h := zB_top h
  change VV E 3 0 [(0, Value.ref 47), (1, Value.int x1), (2, Value.int x2)] [] M
  have J31 : ∀ (M : zM), (f_X6_owes_j31  M).bind some = some y → VV E 3 31 [(0, Value.ref 47)] [] M := by
    intro  M h
    refine V_aload_n 0 Z rfl rfl (show decode cX6_owes 31 = .ok (.aload_n 0, 1) by decide +kernel) ?_
    refine V_ldc (-1000001) Z w843 (show decode cX6_owes 32 = .ok (.ldc 66, 2) by decide +kernel) ?_
    obtain ⟨⟨v2, M3⟩, e1, h⟩ := zB_bind h
    refine V_callV (rest := []) 1 Z (ok_X6_finding  e1) cd_X6_finding zc5 (by decide) rfl w844 w846 w17 rfl (show decode cX6_owes 34 = .ok (.invokevirtual 72, 3) by decide +kernel) rfl ?_
    exact V_iretM Z hE h (show decode cX6_owes 37 = .ok (.ireturn, 1) by decide +kernel)
  refine V_aload_n 0 Z rfl rfl (show decode cX6_owes 0 = .ok (.aload_n 0, 1) by decide +kernel) ?_
  refine V_iload_n 1 Z rfl rfl (show decode cX6_owes 1 = .ok (.iload_n 1, 1) by decide +kernel) ?_
  obtain ⟨v5, e4, h⟩ := zB_bind h
  refine V_callV (rest := []) 1 Z (ok_X6_isName  e4) cd_X6_isName zc5 (by decide) rfl w860 w862 w19 rfl (show decode cX6_owes 2 = .ok (.invokevirtual 100, 3) by decide +kernel) rfl ?_
  refine V_if_eq 31 Z (by decide) (show decode cX6_owes 5 = .ok (.ifCond .eq 26, 3) by decide +kernel) (fun c6 => ?_) (fun c6 => ?_)
  · have h := zB_pos c6 h
    refine V_sub [0] rfl ?_
    exact J31 _ h
  · have h := zB_neg c6 h
    refine V_iload_n 2 Z rfl rfl (show decode cX6_owes 8 = .ok (.iload_n 2, 1) by decide +kernel) ?_
    refine V_iconst 0 (by decide) Z (show decode cX6_owes 9 = .ok (.iconst 0, 1) by decide +kernel) ?_
    refine V_bipush 100 (by decide) Z (show decode cX6_owes 10 = .ok (.bipush 100, 2) by decide +kernel) ?_
    obtain ⟨v8, e7, h⟩ := zB_bind h
    refine V_callS (rest := []) 3 Z (ok_X6_within  e7) cd_X6_within w840 w841 rfl (show decode cX6_owes 12 = .ok (.invokestatic 76, 3) by decide +kernel) rfl ?_
    refine V_if_eq 31 Z (by decide) (show decode cX6_owes 15 = .ok (.ifCond .eq 16, 3) by decide +kernel) (fun c9 => ?_) (fun c9 => ?_)
    · have h := zB_pos c9 h
      refine V_sub [0] rfl ?_
      exact J31 _ h
    · have h := zB_neg c9 h
      refine V_aload_n 0 Z rfl rfl (show decode cX6_owes 18 = .ok (.aload_n 0, 1) by decide +kernel) ?_
      refine V_iload_n 1 Z rfl rfl (show decode cX6_owes 19 = .ok (.iload_n 1, 1) by decide +kernel) ?_
      refine V_iconst 3 (by decide) Z (show decode cX6_owes 20 = .ok (.iconst 3, 1) by decide +kernel) ?_
      obtain ⟨v11, e10, h⟩ := zB_bind h
      refine V_callS (rest := [_]) 2 Z (ok_X6_place  e10) cd_X6_place w853 w854 rfl (show decode cX6_owes 21 = .ok (.invokestatic 80, 3) by decide +kernel) rfl ?_
      refine V_iload_n 2 Z rfl rfl (show decode cX6_owes 24 = .ok (.iload_n 2, 1) by decide +kernel) ?_
      obtain ⟨⟨v13, M14⟩, e12, h⟩ := zB_bind h
      refine V_callV (rest := []) 2 Z (ok_X6_behind  e12) cd_X6_behind zc5 (by decide) rfl w995 w997 w38 rfl (show decode cX6_owes 25 = .ok (.invokevirtual 181, 3) by decide +kernel) rfl ?_
      refine V_goto 37 Z (by decide) (show decode cX6_owes 28 = .ok (.goto 9, 3) by decide +kernel) ?_
      exact V_iretM Z hE h (show decode cX6_owes 37 = .ok (.ireturn, 1) by decide +kernel)
def f_X6_hungFor_j37 (y2 : Int32) (M : zM) : Option (Int32 × zM) :=
  (f_X6_putBack y2 M).bind fun ((v2, M3) : Int32 × zM) =>
  some ((v2, M3))
def f_X6_hungFor_l13 (y1 : Int32) : Int32 × zM → Option ((Int32 × zM) ⊕ (Int32 × zM))
  | (y2, M) =>
    if 100 < y2 then
      (f_X6_hungFor_j37 y2 M).bind fun z => some (Sum.inr z)
    else
      (f_X6_hangs y1 M).bind fun (v8 : Int32) =>
      if v8 = 0 then
        (f_X6_hungFor_j37 y2 M).bind fun z => some (Sum.inr z)
      else
        (f_X6_day  M).bind fun (M11 : zM) =>
        (some (y2 + 1)).bind fun (n12 : Int32) =>
        some (.inl ((n12, M11)))
def f_X6_hungFor (x1 : Int32) (M : zM) : Option (Int32 × zM) :=
  (f_X6_copyRow 48 50 M).bind fun (M5 : zM) =>
  zIter (f_X6_hungFor_l13 x1) 1000 (0, M5)
theorem cd_X6_hungFor : zCd yX6_hungFor cX6_hungFor 3 (some .int) 1 := ⟨w1017, w69, ⟨by decide, by decide⟩, by decide +kernel⟩
set_option maxHeartbeats 4000000 in
set_option maxRecDepth 20000 in
theorem ok_X6_hungFor {x1 : Int32} {M : zM} {y : Int32 × zM}  (h : f_X6_hungFor x1 M = some y) : zRuns yX6_hungFor cX6_hungFor 3 (some .int) 6 134 [.ref 47, .int x1] M (some (.int y.1)) y.2 := by
  refine zRuns_of (by decide +kernel) (Nat.le_of_ble_eq_true rfl) (fun E Z hE => ?_)
  have h := zB_top h
  change VV E 3 0 [(0, Value.ref 47), (1, Value.int x1)] [] M
  have J37 : ∀ (y2 : Int32) (M : zM), (f_X6_hungFor_j37 y2 M).bind some = some y → VV E 3 37 [(0, Value.ref 47), (2, Value.int y2)] [] M := by
    intro y2 M h
    refine V_aload_n 0 Z rfl rfl (show decode cX6_hungFor 37 = .ok (.aload_n 0, 1) by decide +kernel) ?_
    refine V_iload_n 1 Z rfl rfl (show decode cX6_hungFor 38 = .ok (.iload_n 2, 1) by decide +kernel) ?_
    obtain ⟨⟨v2, M3⟩, e1, h⟩ := zB_bind h
    refine V_callV (rest := []) 1 Z (ok_X6_putBack  e1) cd_X6_putBack zc5 (by decide) rfl w1002 w1004 w39 rfl (show decode cX6_hungFor 39 = .ok (.invokevirtual 178, 3) by decide +kernel) rfl ?_
    exact V_iretM Z hE h (show decode cX6_hungFor 42 = .ok (.ireturn, 1) by decide +kernel)
  refine V_aload_n 0 Z rfl rfl (show decode cX6_hungFor 0 = .ok (.aload_n 0, 1) by decide +kernel) ?_
  refine V_getR 0 48 Z zc5 (by decide) rfl (by decide) rfl (by decide) ⟨rfl, rfl, rfl⟩ w766 (show decode cX6_hungFor 1 = .ok (.getfield 9, 3) by decide +kernel) ?_
  refine V_aload_n 0 Z rfl rfl (show decode cX6_hungFor 4 = .ok (.aload_n 0, 1) by decide +kernel) ?_
  refine V_getR 2 50 Z zc5 (by decide) rfl (by decide) rfl (by decide) ⟨rfl, rfl, rfl⟩ w768 (show decode cX6_hungFor 5 = .ok (.getfield 16, 3) by decide +kernel) ?_
  obtain ⟨M5, e4, h⟩ := zB_bind h
  refine V_callS (rest := []) 2 Z (ok_X6_copyRow  e4) cd_X6_copyRow w999 w1000 rfl (show decode cX6_hungFor 8 = .ok (.invokestatic 67, 3) by decide +kernel) rfl ?_
  refine V_iconst 0 (by decide) Z (show decode cX6_hungFor 11 = .ok (.iconst 0, 1) by decide +kernel) ?_
  refine V_istore_n [(2, Value.int 0), (0, Value.ref 47), (1, Value.int x1)] Z (by decide) rfl rfl (show decode cX6_hungFor 12 = .ok (.istore_n 2, 1) by decide +kernel) ?_
  refine V_sub [1, 2, 0] rfl ?_
  refine zIter_loop' (K := some) (fun s : Int32 × zM => VV E 3 13 [(0, Value.ref 47), (1, Value.int x1), (2, Value.int s.1)] [] s.2) (fun K1 s c1_i c1_r h => ?_) _ _ h
  obtain ⟨y2, M⟩ := s
  change VV E 3 13 [(0, Value.ref 47), (1, Value.int x1), (2, Value.int y2)] [] M
  refine V_iload_n 2 Z rfl rfl (show decode cX6_hungFor 13 = .ok (.iload_n 2, 1) by decide +kernel) ?_
  refine V_bipush 100 (by decide) Z (show decode cX6_hungFor 14 = .ok (.bipush 100, 2) by decide +kernel) ?_
  refine V_icmp_gt 37 Z (by decide) (show decode cX6_hungFor 16 = .ok (.if_icmp .gt 21, 3) by decide +kernel) (fun c6 => ?_) (fun c6 => ?_)
  · have h := zB_pos c6 h
    refine V_sub [0, 2] rfl ?_
    have h := zB_lift c1_r h
    exact J37 _ _ h
  · have h := zB_neg c6 h
    refine V_aload_n 0 Z rfl rfl (show decode cX6_hungFor 19 = .ok (.aload_n 0, 1) by decide +kernel) ?_
    refine V_iload_n 1 Z rfl rfl (show decode cX6_hungFor 20 = .ok (.iload_n 1, 1) by decide +kernel) ?_
    obtain ⟨v8, e7, h⟩ := zB_bind h
    refine V_callV (rest := []) 1 Z (ok_X6_hangs  e7) cd_X6_hangs zc5 (by decide) rfl w876 w878 w23 rfl (show decode cX6_hungFor 21 = .ok (.invokevirtual 109, 3) by decide +kernel) rfl ?_
    refine V_if_eq 37 Z (by decide) (show decode cX6_hungFor 24 = .ok (.ifCond .eq 13, 3) by decide +kernel) (fun c9 => ?_) (fun c9 => ?_)
    · have h := zB_pos c9 h
      refine V_sub [0, 2] rfl ?_
      have h := zB_lift c1_r h
      exact J37 _ _ h
    · have h := zB_neg c9 h
      refine V_aload_n 0 Z rfl rfl (show decode cX6_hungFor 27 = .ok (.aload_n 0, 1) by decide +kernel) ?_
      obtain ⟨M11, e10, h⟩ := zB_bind h
      refine V_callV (rest := []) 0 Z (ok_X6_day  e10) cd_X6_day zc5 (by decide) rfl w946 w948 w30 rfl (show decode cX6_hungFor 28 = .ok (.invokevirtual 161, 3) by decide +kernel) rfl ?_
      obtain ⟨n12, e13, h⟩ := zB_let h
      refine V_iinck 1 1 2 n12 [(2, Value.int n12), (0, Value.ref 47), (1, Value.int x1)] Z (by decide) (by decide) rfl e13 rfl (show decode cX6_hungFor 31 = .ok (.iinc 2 1, 3) by decide +kernel) ?_
      refine V_goto 13 Z (by decide) (show decode cX6_hungFor 34 = .ok (.goto (-21), 3) by decide +kernel) ?_
      refine V_sub [1, 2, 0] rfl ?_
      exact c1_i _ h
