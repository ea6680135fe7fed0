/-! Generated walks: X6_drawBy X6_quarrelsIn X6_pays X6_day X6_days X6_purses -/
def f_X6_drawBy_j80 (y1 : Int32) (y2 : Int32) (y3 : Int32) (y4 : Int32) (s0 : Int32) (s1 : Int32) (M : zM) : Option ((Int32 × Int32 × zM) ⊕ (Int32 × zM)) :=
  (zwr M 52 s1 s0).bind fun (M1 : zM) =>
  (zrd M1 52 y4).bind fun (v3 : Int32) =>
  if 0 ≤ v3 then
    (zrd M1 52 y4).bind fun (v6 : Int32) =>
    (some ((y2 ||| (1 <<< (v6 &&& 31))))).bind fun (n8 : Int32) =>
    (some (y3 + 1)).bind fun (n10 : Int32) =>
    some (.inl ((n8, n10, M1)))
  else
    (some ((y2 ||| 0))).bind fun (n12 : Int32) =>
    (some (y3 + 1)).bind fun (n14 : Int32) =>
    some (.inl ((n12, n14, M1)))
def f_X6_drawBy_j57 (y1 : Int32) (y2 : Int32) (y3 : Int32) (y4 : Int32) (y5 : Int32) (s0 : Int32) (M : zM) : Option ((Int32 × Int32 × zM) ⊕ (Int32 × zM)) :=
  if s0 = 0 then
    (f_X6_leastLeft y2 M).bind fun (v18 : Int32) =>
    f_X6_drawBy_j80 y1 y2 y3 y4 v18 y4 M
  else
    f_X6_drawBy_j80 y1 y2 y3 y4 y5 y4 M
def f_X6_drawBy_j56 (y1 : Int32) (y2 : Int32) (y3 : Int32) (y4 : Int32) (y5 : Int32) (M : zM) : Option ((Int32 × Int32 × zM) ⊕ (Int32 × zM)) :=
  f_X6_drawBy_j57 y1 y2 y3 y4 y5 0 M
def f_X6_drawBy_l4 (y1 : Int32) : Int32 × Int32 × zM → Option ((Int32 × Int32 × zM) ⊕ (Int32 × zM))
  | (y2, y3, M) =>
    if 6 ≤ y3 then
      some (.inr ((y2, M)))
    else
      (f_X6_standsAt y1 y3 M).bind fun (v21 : Int32) =>
      (zrd M 48 (61 + v21)).bind fun (v22 : Int32) =>
      if v22 < 0 then
        f_X6_drawBy_j56 y1 y2 y3 v21 v22 M
      else
        (f_X6_hangs v22 M).bind fun (v26 : Int32) =>
        if v26 = 0 then
          f_X6_drawBy_j56 y1 y2 y3 v21 v22 M
        else
          (f_X6_has y2 v22 M).bind fun (v29 : Int32) =>
          if v29 = 0 then
            f_X6_drawBy_j57 y1 y2 y3 v21 v22 1 M
          else
            f_X6_drawBy_j56 y1 y2 y3 v21 v22 M
def f_X6_drawBy (x1 : Int32) (M : zM) : Option (Int32 × zM) :=
  zIter (f_X6_drawBy_l4 x1) 1000 (0, 0, M)
theorem cd_X6_drawBy : zCd yX6_drawBy cX6_drawBy 7 (some .int) 1 := ⟨w953, w69, ⟨by decide, by decide⟩, by decide +kernel⟩
set_option maxHeartbeats 4000000 in
set_option maxRecDepth 20000 in
theorem ok_X6_drawBy {x1 : Int32} {M : zM} {y : Int32 × zM}  (h : f_X6_drawBy x1 M = some y) : zRuns yX6_drawBy cX6_drawBy 7 (some .int) 4 86 [.ref 47, .int x1] M (some (.int y.1)) y.2 := by
  refine zRuns_of (by decide +kernel) (Nat.le_of_ble_eq_true rfl) (fun E Z hE => ?_)
  have h := zB_top h
  change VV E 7 0 [(0, Value.ref 47), (1, Value.int x1)] [] M
  refine V_iconst 0 (by decide) Z (show decode cX6_drawBy 0 = .ok (.iconst 0, 1) by decide +kernel) ?_
  refine V_istore_n [(2, Value.int 0), (0, Value.ref 47), (1, Value.int x1)] Z (by decide) rfl rfl (show decode cX6_drawBy 1 = .ok (.istore_n 2, 1) by decide +kernel) ?_
  refine V_iconst 0 (by decide) Z (show decode cX6_drawBy 2 = .ok (.iconst 0, 1) by decide +kernel) ?_
  refine V_istore_n [(3, Value.int 0), (2, Value.int 0), (0, Value.ref 47), (1, Value.int x1)] Z (by decide) rfl rfl (show decode cX6_drawBy 3 = .ok (.istore_n 3, 1) by decide +kernel) ?_
  refine V_sub [2, 3, 1, 0] rfl ?_
  refine zIter_loop' (K := some) (fun s : Int32 × Int32 × zM => VV E 7 4 [(0, Value.ref 47), (1, Value.int x1), (2, Value.int s.1), (3, Value.int s.2.1)] [] s.2.2) (fun K1 s c1_i c1_r h => ?_) _ _ h
  obtain ⟨y2, y3, M⟩ := s
  change VV E 7 4 [(0, Value.ref 47), (1, Value.int x1), (2, Value.int y2), (3, Value.int y3)] [] M
  have J80 : ∀ (y2 : Int32) (y3 : Int32) (y4 : Int32) (s0 : Int32) (s1 : Int32) (M : zM), (f_X6_drawBy_j80 x1 y2 y3 y4 s0 s1 M).bind K1 = some y → VV E 7 80 [(0, Value.ref 47), (1, Value.int x1), (2, Value.int y2), (3, Value.int y3), (4, Value.int y4)] [Value.int s0, Value.int s1, Value.ref 52] M := by
    intro y2 y3 y4 s0 s1 M h
    obtain ⟨M1, e2, h⟩ := zB_bind h
    refine V_iast Z e2 (show decode cX6_drawBy 80 = .ok (.iastore, 1) by decide +kernel) ?_
    refine V_iload_n 2 Z rfl rfl (show decode cX6_drawBy 81 = .ok (.iload_n 2, 1) by decide +kernel) ?_
    refine V_aload_n 0 Z rfl rfl (show decode cX6_drawBy 82 = .ok (.aload_n 0, 1) by decide +kernel) ?_
    refine V_getR 5 52 Z zc5 (by decide) rfl (by decide) rfl (by decide) ⟨rfl, rfl, rfl⟩ w771 (show decode cX6_drawBy 83 = .ok (.getfield 22, 3) by decide +kernel) ?_
    refine V_iload 4 Z rfl (show decode cX6_drawBy 86 = .ok (.iload 4, 2) by decide +kernel) ?_
    obtain ⟨v3, e4, h⟩ := zB_bind h
    refine V_iald Z e4 (show decode cX6_drawBy 88 = .ok (.iaload, 1) by decide +kernel) ?_
    refine V_if_ge 96 Z (by decide) (show decode cX6_drawBy 89 = .ok (.ifCond .ge 7, 3) by decide +kernel) (fun c5 => ?_) (fun c5 => ?_)
    · have h := zB_pos c5 h
      refine V_iconst 1 (by decide) Z (show decode cX6_drawBy 96 = .ok (.iconst 1, 1) by decide +kernel) ?_
      refine V_aload_n 0 Z rfl rfl (show decode cX6_drawBy 97 = .ok (.aload_n 0, 1) by decide +kernel) ?_
      refine V_getR 5 52 Z zc5 (by decide) rfl (by decide) rfl (by decide) ⟨rfl, rfl, rfl⟩ w771 (show decode cX6_drawBy 98 = .ok (.getfield 22, 3) by decide +kernel) ?_
      refine V_iload 4 Z rfl (show decode cX6_drawBy 101 = .ok (.iload 4, 2) by decide +kernel) ?_
      obtain ⟨v6, e7, h⟩ := zB_bind h
      refine V_iald Z e7 (show decode cX6_drawBy 103 = .ok (.iaload, 1) by decide +kernel) ?_
      refine V_ishl Z (show decode cX6_drawBy 104 = .ok (.ishl, 1) by decide +kernel) ?_
      refine V_ior Z (show decode cX6_drawBy 105 = .ok (.ior, 1) by decide +kernel) ?_
      obtain ⟨n8, e9, h⟩ := zB_let h
      refine V_nm e9 ?_
      refine V_istore_n [(2, Value.int n8), (0, Value.ref 47), (1, Value.int x1), (3, Value.int y3), (4, Value.int y4)] Z (by decide) rfl rfl (show decode cX6_drawBy 106 = .ok (.istore_n 2, 1) by decide +kernel) ?_
      obtain ⟨n10, e11, h⟩ := zB_let h
      refine V_iinck 1 1 3 n10 [(3, Value.int n10), (2, Value.int n8), (0, Value.ref 47), (1, Value.int x1), (4, Value.int y4)] Z (by decide) (by decide) rfl e11 rfl (show decode cX6_drawBy 107 = .ok (.iinc 3 1, 3) by decide +kernel) ?_
      refine V_goto 4 Z (by decide) (show decode cX6_drawBy 110 = .ok (.goto (-106), 3) by decide +kernel) ?_
      refine V_sub [2, 3, 1, 0] rfl ?_
      exact c1_i _ h
    · have h := zB_neg c5 h
      refine V_iconst 0 (by decide) Z (show decode cX6_drawBy 92 = .ok (.iconst 0, 1) by decide +kernel) ?_
      refine V_goto 105 Z (by decide) (show decode cX6_drawBy 93 = .ok (.goto 12, 3) by decide +kernel) ?_
      refine V_ior Z (show decode cX6_drawBy 105 = .ok (.ior, 1) by decide +kernel) ?_
      obtain ⟨n12, e13, h⟩ := zB_let h
      refine V_nm e13 ?_
      refine V_istore_n [(2, Value.int n12), (0, Value.ref 47), (1, Value.int x1), (3, Value.int y3), (4, Value.int y4)] Z (by decide) rfl rfl (show decode cX6_drawBy 106 = .ok (.istore_n 2, 1) by decide +kernel) ?_
      obtain ⟨n14, e15, h⟩ := zB_let h
      refine V_iinck 1 1 3 n14 [(3, Value.int n14), (2, Value.int n12), (0, Value.ref 47), (1, Value.int x1), (4, Value.int y4)] Z (by decide) (by decide) rfl e15 rfl (show decode cX6_drawBy 107 = .ok (.iinc 3 1, 3) by decide +kernel) ?_
      refine V_goto 4 Z (by decide) (show decode cX6_drawBy 110 = .ok (.goto (-106), 3) by decide +kernel) ?_
      refine V_sub [2, 3, 1, 0] rfl ?_
      exact c1_i _ h
  have J57 : ∀ (y2 : Int32) (y3 : Int32) (y4 : Int32) (y5 : Int32) (s0 : Int32) (M : zM), (f_X6_drawBy_j57 x1 y2 y3 y4 y5 s0 M).bind K1 = some y → VV E 7 57 [(0, Value.ref 47), (1, Value.int x1), (2, Value.int y2), (3, Value.int y3), (4, Value.int y4), (5, Value.int y5)] [Value.int s0] M := by
    intro y2 y3 y4 y5 s0 M h
    refine V_istore [(6, Value.int s0), (0, Value.ref 47), (1, Value.int x1), (2, Value.int y2), (3, Value.int y3), (4, Value.int y4), (5, Value.int y5)] Z (by decide) rfl (show decode cX6_drawBy 57 = .ok (.istore 6, 2) by decide +kernel) ?_
    refine V_aload_n 1 Z rfl rfl (show decode cX6_drawBy 59 = .ok (.aload_n 0, 1) by decide +kernel) ?_
    refine V_getR 5 52 Z zc5 (by decide) rfl (by decide) rfl (by decide) ⟨rfl, rfl, rfl⟩ w771 (show decode cX6_drawBy 60 = .ok (.getfield 22, 3) by decide +kernel) ?_
    refine V_iload 5 Z rfl (show decode cX6_drawBy 63 = .ok (.iload 4, 2) by decide +kernel) ?_
    refine V_iload 0 Z rfl (show decode cX6_drawBy 65 = .ok (.iload 6, 2) by decide +kernel) ?_
    refine V_if_eq 75 Z (by decide) (show decode cX6_drawBy 67 = .ok (.ifCond .eq 8, 3) by decide +kernel) (fun c16 => ?_) (fun c16 => ?_)
    · have h := zB_pos c16 h
      refine V_aload_n 1 Z rfl rfl (show decode cX6_drawBy 75 = .ok (.aload_n 0, 1) by decide +kernel) ?_
      refine V_iload_n 3 Z rfl rfl (show decode cX6_drawBy 76 = .ok (.iload_n 2, 1) by decide +kernel) ?_
      obtain ⟨v18, e17, h⟩ := zB_bind h
      refine V_callV (rest := [_, _]) 1 Z (ok_X6_leastLeft  e17) cd_X6_leastLeft zc5 (by decide) rfl w954 w956 w32 rfl (show decode cX6_drawBy 77 = .ok (.invokevirtual 145, 3) by decide +kernel) rfl ?_
      refine V_sub [1, 2, 3, 4, 5] rfl ?_
      exact J80 _ _ _ _ _ _ h
    · have h := zB_neg c16 h
      refine V_iload 6 Z rfl (show decode cX6_drawBy 70 = .ok (.iload 5, 2) by decide +kernel) ?_
      refine V_goto 80 Z (by decide) (show decode cX6_drawBy 72 = .ok (.goto 8, 3) by decide +kernel) ?_
      refine V_sub [1, 2, 3, 4, 5] rfl ?_
      exact J80 _ _ _ _ _ _ h
  have J56 : ∀ (y2 : Int32) (y3 : Int32) (y4 : Int32) (y5 : Int32) (M : zM), (f_X6_drawBy_j56 x1 y2 y3 y4 y5 M).bind K1 = some y → VV E 7 56 [(0, Value.ref 47), (1, Value.int x1), (2, Value.int y2), (3, Value.int y3), (4, Value.int y4), (5, Value.int y5)] [] M := by
    intro y2 y3 y4 y5 M h
    refine V_iconst 0 (by decide) Z (show decode cX6_drawBy 56 = .ok (.iconst 0, 1) by decide +kernel) ?_
    exact J57 _ _ _ _ _ _ h
  refine V_iload_n 3 Z rfl rfl (show decode cX6_drawBy 4 = .ok (.iload_n 3, 1) by decide +kernel) ?_
  refine V_bipush 6 (by decide) Z (show decode cX6_drawBy 5 = .ok (.bipush 6, 2) by decide +kernel) ?_
  refine V_icmp_ge 113 Z (by decide) (show decode cX6_drawBy 7 = .ok (.if_icmp .ge 106, 3) by decide +kernel) (fun c19 => ?_) (fun c19 => ?_)
  · have h := zB_pos c19 h
    refine V_iload_n 2 Z rfl rfl (show decode cX6_drawBy 113 = .ok (.iload_n 2, 1) by decide +kernel) ?_
    have h := c1_r _ h
    exact V_iretM Z hE h (show decode cX6_drawBy 114 = .ok (.ireturn, 1) by decide +kernel)
  · have h := zB_neg c19 h
    refine V_iload_n 1 Z rfl rfl (show decode cX6_drawBy 10 = .ok (.iload_n 1, 1) by decide +kernel) ?_
    refine V_iload_n 3 Z rfl rfl (show decode cX6_drawBy 11 = .ok (.iload_n 3, 1) by decide +kernel) ?_
    obtain ⟨v21, e20, h⟩ := zB_bind h
    refine V_callS (rest := []) 2 Z (ok_X6_standsAt  e20) cd_X6_standsAt w919 w920 rfl (show decode cX6_drawBy 12 = .ok (.invokestatic 136, 3) by decide +kernel) rfl ?_
    refine V_istore [(4, Value.int v21), (0, Value.ref 47), (1, Value.int x1), (2, Value.int y2), (3, Value.int y3)] Z (by decide) rfl (show decode cX6_drawBy 15 = .ok (.istore 4, 2) by decide +kernel) ?_
    refine V_aload_n 1 Z rfl rfl (show decode cX6_drawBy 17 = .ok (.aload_n 0, 1) by decide +kernel) ?_
    refine V_getR 0 48 Z zc5 (by decide) rfl (by decide) rfl (by decide) ⟨rfl, rfl, rfl⟩ w766 (show decode cX6_drawBy 18 = .ok (.getfield 9, 3) by decide +kernel) ?_
    refine V_bipush 61 (by decide) Z (show decode cX6_drawBy 21 = .ok (.bipush 61, 2) by decide +kernel) ?_
    refine V_iload 0 Z rfl (show decode cX6_drawBy 23 = .ok (.iload 4, 2) by decide +kernel) ?_
    refine V_iadd Z (show decode cX6_drawBy 25 = .ok (.iadd, 1) by decide +kernel) ?_
    obtain ⟨v22, e23, h⟩ := zB_bind h
    refine V_iald Z e23 (show decode cX6_drawBy 26 = .ok (.iaload, 1) by decide +kernel) ?_
    refine V_istore [(5, Value.int v22), (4, Value.int v21), (0, Value.ref 47), (1, Value.int x1), (2, Value.int y2), (3, Value.int y3)] Z (by decide) rfl (show decode cX6_drawBy 27 = .ok (.istore 5, 2) by decide +kernel) ?_
    refine V_iload 0 Z rfl (show decode cX6_drawBy 29 = .ok (.iload 5, 2) by decide +kernel) ?_
    refine V_if_lt 56 Z (by decide) (show decode cX6_drawBy 31 = .ok (.ifCond .lt 25, 3) by decide +kernel) (fun c24 => ?_) (fun c24 => ?_)
    · have h := zB_pos c24 h
      refine V_sub [2, 3, 4, 5, 1, 0] rfl ?_
      exact J56 _ _ _ _ _ h
    · have h := zB_neg c24 h
      refine V_aload_n 2 Z rfl rfl (show decode cX6_drawBy 34 = .ok (.aload_n 0, 1) by decide +kernel) ?_
      refine V_iload 0 Z rfl (show decode cX6_drawBy 35 = .ok (.iload 5, 2) by decide +kernel) ?_
      obtain ⟨v26, e25, h⟩ := zB_bind h
      refine V_callV (rest := []) 1 Z (ok_X6_hangs  e25) cd_X6_hangs zc5 (by decide) rfl w876 w878 w23 rfl (show decode cX6_drawBy 37 = .ok (.invokevirtual 109, 3) by decide +kernel) rfl ?_
      refine V_if_eq 56 Z (by decide) (show decode cX6_drawBy 40 = .ok (.ifCond .eq 16, 3) by decide +kernel) (fun c27 => ?_) (fun c27 => ?_)
      · have h := zB_pos c27 h
        refine V_sub [2, 3, 4, 5, 1, 0] rfl ?_
        exact J56 _ _ _ _ _ h
      · have h := zB_neg c27 h
        refine V_iload_n 4 Z rfl rfl (show decode cX6_drawBy 43 = .ok (.iload_n 2, 1) by decide +kernel) ?_
        refine V_iload 0 Z rfl (show decode cX6_drawBy 44 = .ok (.iload 5, 2) by decide +kernel) ?_
        obtain ⟨v29, e28, h⟩ := zB_bind h
        refine V_callS (rest := []) 2 Z (ok_X6_has  e28) cd_X6_has w923 w924 rfl (show decode cX6_drawBy 46 = .ok (.invokestatic 133, 3) by decide +kernel) rfl ?_
        refine V_if_ne 56 Z (by decide) (show decode cX6_drawBy 49 = .ok (.ifCond .ne 7, 3) by decide +kernel) (fun c30 => ?_) (fun c30 => ?_)
        · have h := zB_neg c30 h
          refine V_sub [2, 3, 4, 5, 1, 0] rfl ?_
          exact J56 _ _ _ _ _ h
        · have h := zB_pos c30 h
          refine V_iconst 1 (by decide) Z (show decode cX6_drawBy 52 = .ok (.iconst 1, 1) by decide +kernel) ?_
          refine V_goto 57 Z (by decide) (show decode cX6_drawBy 53 = .ok (.goto 4, 3) by decide +kernel) ?_
          refine V_sub [2, 3, 4, 5, 1, 0] rfl ?_
          exact J57 _ _ _ _ _ _ h
def f_X6_quarrelsIn_j55 (y1 : Int32) (y3 : Int32) (y4 : Int32) (s0 : Int32) (M : zM) : Option ((Int32 × Int32) ⊕ ((Int32 × Int32) ⊕ (Int32))) :=
  (some ((s0 + 0))).bind fun (n4 : Int32) =>
  (some (y4 + 1)).bind fun (n6 : Int32) =>
  some (.inl ((n4, n6)))
def f_X6_quarrelsIn_l17 (y1 : Int32) (y3 : Int32) (M : zM) : Int32 × Int32 → Option ((Int32 × Int32) ⊕ ((Int32 × Int32) ⊕ (Int32)))
  | (y2, y4) =>
    if y3 ≤ y4 then
      (some (y3 + 1)).bind fun (n9 : Int32) =>
      some (.inr (.inl ((y2, n9))))
    else
      (f_X6_has y1 y3 M).bind fun (v12 : Int32) =>
      if v12 = 0 then
        f_X6_quarrelsIn_j55 y1 y3 y4 y2 M
      else
        (f_X6_has y1 y4 M).bind fun (v15 : Int32) =>
        if v15 = 0 then
          f_X6_quarrelsIn_j55 y1 y3 y4 y2 M
        else
          (f_X6_doQuarrel y3 y4 M).bind fun (v18 : Int32) =>
          if v18 = 0 then
            f_X6_quarrelsIn_j55 y1 y3 y4 y2 M
          else
            (some ((y2 + 1))).bind fun (n20 : Int32) =>
            (some (y4 + 1)).bind fun (n22 : Int32) =>
            some (.inl ((n20, n22)))
def f_X6_quarrelsIn_l4 (y1 : Int32) (M : zM) : Int32 × Int32 → Option ((Int32 × Int32) ⊕ (Int32))
  | (y2, y3) =>
    (zrd M 48 1).bind fun (v1 : Int32) =>
    if v1 ≤ y3 then
      some (.inr (y2))
    else
      zIter (f_X6_quarrelsIn_l17 y1 y3 M) 1000 (y2, 0)
def f_X6_quarrelsIn (x1 : Int32) (M : zM) : Option (Int32) :=
  zIter (f_X6_quarrelsIn_l4 x1 M) 1000 (0, 0)
theorem cd_X6_quarrelsIn : zCd yX6_quarrelsIn cX6_quarrelsIn 5 (some .int) 1 := ⟨w966, w69, ⟨by decide, by decide⟩, by decide +kernel⟩
set_option maxHeartbeats 4000000 in
set_option maxRecDepth 20000 in
theorem ok_X6_quarrelsIn {x1 : Int32} {M : zM} {y : Int32}  (h : f_X6_quarrelsIn x1 M = some y) : zRuns yX6_quarrelsIn cX6_quarrelsIn 5 (some .int) 3 65 [.ref 47, .int x1] M (some (.int y)) M := by
  refine zRuns_of (by decide +kernel) (Nat.le_of_ble_eq_true rfl) (fun E Z hE => ?_)
  have h := zB_top h
  change VV E 5 0 [(0, Value.ref 47), (1, Value.int x1)] [] M
  refine V_iconst 0 (by decide) Z (show decode cX6_quarrelsIn 0 = .ok (.iconst 0, 1) by decide +kernel) ?_
  refine V_istore_n [(2, Value.int 0), (0, Value.ref 47), (1, Value.int x1)] Z (by decide) rfl rfl (show decode cX6_quarrelsIn 1 = .ok (.istore_n 2, 1) by decide +kernel) ?_
  refine V_iconst 0 (by decide) Z (show decode cX6_quarrelsIn 2 = .ok (.iconst 0, 1) by decide +kernel) ?_
  refine V_istore_n [(3, Value.int 0), (2, Value.int 0), (0, Value.ref 47), (1, Value.int x1)] Z (by decide) rfl rfl (show decode cX6_quarrelsIn 3 = .ok (.istore_n 3, 1) by decide +kernel) ?_
  refine V_sub [2, 3, 1, 0] rfl ?_
  refine zIter_loop' (K := some) (fun s : Int32 × Int32 => VV E 5 4 [(0, Value.ref 47), (1, Value.int x1), (2, Value.int s.1), (3, Value.int s.2)] [] M) (fun K1 s c1_i c1_r h => ?_) _ _ h
  obtain ⟨y2, y3⟩ := s
  change VV E 5 4 [(0, Value.ref 47), (1, Value.int x1), (2, Value.int y2), (3, Value.int y3)] [] M
  rw [f_X6_quarrelsIn_l4] at h
  refine V_iload_n 3 Z rfl rfl (show decode cX6_quarrelsIn 4 = .ok (.iload_n 3, 1) by decide +kernel) ?_
  refine V_aload_n 0 Z rfl rfl (show decode cX6_quarrelsIn 5 = .ok (.aload_n 0, 1) by decide +kernel) ?_
  refine V_getR 0 48 Z zc5 (by decide) rfl (by decide) rfl (by decide) ⟨rfl, rfl, rfl⟩ w766 (show decode cX6_quarrelsIn 6 = .ok (.getfield 9, 3) by decide +kernel) ?_
  refine V_iconst 1 (by decide) Z (show decode cX6_quarrelsIn 9 = .ok (.iconst 1, 1) by decide +kernel) ?_
  obtain ⟨v1, e2, h⟩ := zB_bind h
  refine V_iald Z e2 (show decode cX6_quarrelsIn 10 = .ok (.iaload, 1) by decide +kernel) ?_
  refine V_icmp_ge 70 Z (by decide) (show decode cX6_quarrelsIn 11 = .ok (.if_icmp .ge 59, 3) by decide +kernel) (fun c3 => ?_) (fun c3 => ?_)
  · have h := zB_pos c3 h
    refine V_iload_n 2 Z rfl rfl (show decode cX6_quarrelsIn 70 = .ok (.iload_n 2, 1) by decide +kernel) ?_
    have h := c1_r _ h
    exact V_iretP Z hE h (show decode cX6_quarrelsIn 71 = .ok (.ireturn, 1) by decide +kernel)
  · have h := zB_neg c3 h
    refine V_iconst 0 (by decide) Z (show decode cX6_quarrelsIn 14 = .ok (.iconst 0, 1) by decide +kernel) ?_
    refine V_istore [(4, Value.int 0), (0, Value.ref 47), (1, Value.int x1), (2, Value.int y2), (3, Value.int y3)] Z (by decide) rfl (show decode cX6_quarrelsIn 15 = .ok (.istore 4, 2) by decide +kernel) ?_
    refine V_sub [1, 2, 3, 4, 0] rfl ?_
    refine zIter_loop' (K := K1) (fun s : Int32 × Int32 => VV E 5 17 [(0, Value.ref 47), (1, Value.int x1), (2, Value.int s.1), (3, Value.int y3), (4, Value.int s.2)] [] M) (fun K2 s c2_i c2_r h => ?_) _ _ h
    obtain ⟨y2, y4⟩ := s
    change VV E 5 17 [(0, Value.ref 47), (1, Value.int x1), (2, Value.int y2), (3, Value.int y3), (4, Value.int y4)] [] M
    have J55 : ∀ (y4 : Int32) (s0 : Int32), (f_X6_quarrelsIn_j55 x1 y3 y4 s0 M).bind K2 = some y → VV E 5 55 [(0, Value.ref 47), (1, Value.int x1), (3, Value.int y3), (4, Value.int y4)] [Value.int s0] M := by
      intro y4 s0 h
      refine V_iconst 0 (by decide) Z (show decode cX6_quarrelsIn 55 = .ok (.iconst 0, 1) by decide +kernel) ?_
      refine V_iadd Z (show decode cX6_quarrelsIn 56 = .ok (.iadd, 1) by decide +kernel) ?_
      obtain ⟨n4, e5, h⟩ := zB_let h
      refine V_nm e5 ?_
      refine V_istore_n [(2, Value.int n4), (0, Value.ref 47), (1, Value.int x1), (3, Value.int y3), (4, Value.int y4)] Z (by decide) rfl rfl (show decode cX6_quarrelsIn 57 = .ok (.istore_n 2, 1) by decide +kernel) ?_
      obtain ⟨n6, e7, h⟩ := zB_let h
      refine V_iinck 1 1 4 n6 [(4, Value.int n6), (2, Value.int n4), (0, Value.ref 47), (1, Value.int x1), (3, Value.int y3)] Z (by decide) (by decide) rfl e7 rfl (show decode cX6_quarrelsIn 58 = .ok (.iinc 4 1, 3) by decide +kernel) ?_
      refine V_goto 17 Z (by decide) (show decode cX6_quarrelsIn 61 = .ok (.goto (-44), 3) by decide +kernel) ?_
      refine V_sub [2, 3, 1, 4, 0] rfl ?_
      exact c2_i _ h
    refine V_iload 4 Z rfl (show decode cX6_quarrelsIn 17 = .ok (.iload 4, 2) by decide +kernel) ?_
    refine V_iload_n 3 Z rfl rfl (show decode cX6_quarrelsIn 19 = .ok (.iload_n 3, 1) by decide +kernel) ?_
    refine V_icmp_ge 64 Z (by decide) (show decode cX6_quarrelsIn 20 = .ok (.if_icmp .ge 44, 3) by decide +kernel) (fun c8 => ?_) (fun c8 => ?_)
    · have h := zB_pos c8 h
      obtain ⟨n9, e10, h⟩ := zB_let h
      refine V_iinck 1 1 3 n9 [(3, Value.int n9), (0, Value.ref 47), (1, Value.int x1), (2, Value.int y2), (4, Value.int y4)] Z (by decide) (by decide) rfl e10 rfl (show decode cX6_quarrelsIn 64 = .ok (.iinc 3 1, 3) by decide +kernel) ?_
      refine V_goto 4 Z (by decide) (show decode cX6_quarrelsIn 67 = .ok (.goto (-63), 3) by decide +kernel) ?_
      refine V_sub [1, 2, 3, 0] rfl ?_
      have h := c2_r _ h
      exact c1_i _ h
    · have h := zB_neg c8 h
      refine V_iload_n 2 Z rfl rfl (show decode cX6_quarrelsIn 23 = .ok (.iload_n 2, 1) by decide +kernel) ?_
      refine V_iload_n 1 Z rfl rfl (show decode cX6_quarrelsIn 24 = .ok (.iload_n 1, 1) by decide +kernel) ?_
      refine V_iload_n 3 Z rfl rfl (show decode cX6_quarrelsIn 25 = .ok (.iload_n 3, 1) by decide +kernel) ?_
      obtain ⟨v12, e11, h⟩ := zB_bind h
      refine V_callS (rest := [_]) 2 Z (ok_X6_has  e11) cd_X6_has w923 w924 rfl (show decode cX6_quarrelsIn 26 = .ok (.invokestatic 133, 3) by decide +kernel) rfl ?_
      refine V_if_eq 55 Z (by decide) (show decode cX6_quarrelsIn 29 = .ok (.ifCond .eq 26, 3) by decide +kernel) (fun c13 => ?_) (fun c13 => ?_)
      · have h := zB_pos c13 h
        refine V_sub [0, 1, 3, 4] rfl ?_
        exact J55 _ _ h
      · have h := zB_neg c13 h
        refine V_iload_n 1 Z rfl rfl (show decode cX6_quarrelsIn 32 = .ok (.iload_n 1, 1) by decide +kernel) ?_
        refine V_iload 4 Z rfl (show decode cX6_quarrelsIn 33 = .ok (.iload 4, 2) by decide +kernel) ?_
        obtain ⟨v15, e14, h⟩ := zB_bind h
        refine V_callS (rest := [_]) 2 Z (ok_X6_has  e14) cd_X6_has w923 w924 rfl (show decode cX6_quarrelsIn 35 = .ok (.invokestatic 133, 3) by decide +kernel) rfl ?_
        refine V_if_eq 55 Z (by decide) (show decode cX6_quarrelsIn 38 = .ok (.ifCond .eq 17, 3) by decide +kernel) (fun c16 => ?_) (fun c16 => ?_)
        · have h := zB_pos c16 h
          refine V_sub [0, 1, 3, 4] rfl ?_
          exact J55 _ _ h
        · have h := zB_neg c16 h
          refine V_aload_n 0 Z rfl rfl (show decode cX6_quarrelsIn 41 = .ok (.aload_n 0, 1) by decide +kernel) ?_
          refine V_iload_n 3 Z rfl rfl (show decode cX6_quarrelsIn 42 = .ok (.iload_n 3, 1) by decide +kernel) ?_
          refine V_iload 4 Z rfl (show decode cX6_quarrelsIn 43 = .ok (.iload 4, 2) by decide +kernel) ?_
          obtain ⟨v18, e17, h⟩ := zB_bind h
          refine V_callV (rest := [_]) 2 Z (ok_X6_doQuarrel  e17) cd_X6_doQuarrel zc5 (by decide) rfl w884 w886 w25 rfl (show decode cX6_quarrelsIn 45 = .ok (.invokevirtual 96, 3) by decide +kernel) rfl ?_
          refine V_if_eq 55 Z (by decide) (show decode cX6_quarrelsIn 48 = .ok (.ifCond .eq 7, 3) by decide +kernel) (fun c19 => ?_) (fun c19 => ?_)
          · have h := zB_pos c19 h
            refine V_sub [0, 1, 3, 4] rfl ?_
            exact J55 _ _ h
          · have h := zB_neg c19 h
            refine V_iconst 1 (by decide) Z (show decode cX6_quarrelsIn 51 = .ok (.iconst 1, 1) by decide +kernel) ?_
            refine V_goto 56 Z (by decide) (show decode cX6_quarrelsIn 52 = .ok (.goto 4, 3) by decide +kernel) ?_
            refine V_iadd Z (show decode cX6_quarrelsIn 56 = .ok (.iadd, 1) by decide +kernel) ?_
            obtain ⟨n20, e21, h⟩ := zB_let h
            refine V_nm e21 ?_
            refine V_istore_n [(2, Value.int n20), (0, Value.ref 47), (1, Value.int x1), (3, Value.int y3), (4, Value.int y4)] Z (by decide) rfl rfl (show decode cX6_quarrelsIn 57 = .ok (.istore_n 2, 1) by decide +kernel) ?_
            obtain ⟨n22, e23, h⟩ := zB_let h
            refine V_iinck 1 1 4 n22 [(4, Value.int n22), (2, Value.int n20), (0, Value.ref 47), (1, Value.int x1), (3, Value.int y3)] Z (by decide) (by decide) rfl e23 rfl (show decode cX6_quarrelsIn 58 = .ok (.iinc 4 1, 3) by decide +kernel) ?_
            refine V_goto 17 Z (by decide) (show decode cX6_quarrelsIn 61 = .ok (.goto (-44), 3) by decide +kernel) ?_
            refine V_sub [2, 3, 1, 4, 0] rfl ?_
            exact c2_i _ h
def f_X6_pays (x1 : Int32) (M : zM) : Option (zM) :=
  (zrd M 52 x1).bind fun (v1 : Int32) =>
  (f_X6_dueOf v1 M).bind fun (v4 : Int32) =>
  (zrd M 48 (55 + x1)).bind fun (v5 : Int32) =>
  (some ((if v5 < v4 then v5 else v4))).bind fun (n7 : Int32) =>
  (zrd M 48 (55 + x1)).bind fun (v9 : Int32) =>
  (zwr M 48 (55 + x1) (v9 - n7)).bind fun (M11 : zM) =>
  (f_X6_place v1 3 M11).bind fun (v14 : Int32) =>
  (f_X6_nameIs v1 3 M11).bind fun (v16 : Int32) =>
  (zwr M11 48 v14 (if ((v16 + v4) - n7) < 99999 then ((v16 + v4) - n7) else 99999)).bind fun (M17 : zM) =>
  some (M17)
theorem cd_X6_pays : zCd yX6_pays cX6_pays 5 none 1 := ⟨w961, w69, ⟨by decide, by decide⟩, by decide +kernel⟩
set_option maxHeartbeats 4000000 in
set_option maxRecDepth 20000 in
theorem ok_X6_pays {x1 : Int32} {M : zM} {y : zM}  (h : f_X6_pays x1 M = some y) : zRuns yX6_pays cX6_pays 5 none 3 66 [.ref 47, .int x1] M none y := by
  refine zRuns_of (by decide +kernel) (Nat.le_of_ble_eq_true rfl) (fun E Z hE => ?_)
  have h := zB_top h
  change VV E 5 0 [(0, Value.ref 47), (1, Value.int x1)] [] M
  refine V_aload_n 0 Z rfl rfl (show decode cX6_pays 0 = .ok (.aload_n 0, 1) by decide +kernel) ?_
  refine V_getR 5 52 Z zc5 (by decide) rfl (by decide) rfl (by decide) ⟨rfl, rfl, rfl⟩ w771 (show decode cX6_pays 1 = .ok (.getfield 22, 3) by decide +kernel) ?_
  refine V_iload_n 1 Z rfl rfl (show decode cX6_pays 4 = .ok (.iload_n 1, 1) by decide +kernel) ?_
  obtain ⟨v1, e2, h⟩ := zB_bind h
  refine V_iald Z e2 (show decode cX6_pays 5 = .ok (.iaload, 1) by decide +kernel) ?_
  refine V_istore_n [(2, Value.int v1), (0, Value.ref 47), (1, Value.int x1)] Z (by decide) rfl rfl (show decode cX6_pays 6 = .ok (.istore_n 2, 1) by decide +kernel) ?_
  refine V_aload_n 1 Z rfl rfl (show decode cX6_pays 7 = .ok (.aload_n 0, 1) by decide +kernel) ?_
  refine V_iload_n 0 Z rfl rfl (show decode cX6_pays 8 = .ok (.iload_n 2, 1) by decide +kernel) ?_
  obtain ⟨v4, e3, h⟩ := zB_bind h
  refine V_callV (rest := []) 1 Z (ok_X6_dueOf  e3) cd_X6_dueOf zc5 (by decide) rfl w864 w866 w20 rfl (show decode cX6_pays 9 = .ok (.invokevirtual 103, 3) by decide +kernel) rfl ?_
  refine V_istore_n [(3, Value.int v4), (2, Value.int v1), (0, Value.ref 47), (1, Value.int x1)] Z (by decide) rfl rfl (show decode cX6_pays 12 = .ok (.istore_n 3, 1) by decide +kernel) ?_
  refine V_iload_n 0 Z rfl rfl (show decode cX6_pays 13 = .ok (.iload_n 3, 1) by decide +kernel) ?_
  refine V_aload_n 2 Z rfl rfl (show decode cX6_pays 14 = .ok (.aload_n 0, 1) by decide +kernel) ?_
  refine V_getR 0 48 Z zc5 (by decide) rfl (by decide) rfl (by decide) ⟨rfl, rfl, rfl⟩ w766 (show decode cX6_pays 15 = .ok (.getfield 9, 3) by decide +kernel) ?_
  refine V_bipush 55 (by decide) Z (show decode cX6_pays 18 = .ok (.bipush 55, 2) by decide +kernel) ?_
  refine V_iload_n 3 Z rfl rfl (show decode cX6_pays 20 = .ok (.iload_n 1, 1) by decide +kernel) ?_
  refine V_iadd Z (show decode cX6_pays 21 = .ok (.iadd, 1) by decide +kernel) ?_
  obtain ⟨v5, e6, h⟩ := zB_bind h
  refine V_iald Z e6 (show decode cX6_pays 22 = .ok (.iaload, 1) by decide +kernel) ?_
  refine V_min Z w962 w367 w71 w368 (show decode cX6_pays 23 = .ok (.invokestatic 148, 3) by decide +kernel) rfl ?_
  obtain ⟨n7, e8, h⟩ := zB_let h
  refine V_nm e8 ?_
  refine V_istore [(4, Value.int n7), (3, Value.int v4), (2, Value.int v1), (0, Value.ref 47), (1, Value.int x1)] Z (by decide) rfl (show decode cX6_pays 26 = .ok (.istore 4, 2) by decide +kernel) ?_
  refine V_aload_n 3 Z rfl rfl (show decode cX6_pays 28 = .ok (.aload_n 0, 1) by decide +kernel) ?_
  refine V_getR 0 48 Z zc5 (by decide) rfl (by decide) rfl (by decide) ⟨rfl, rfl, rfl⟩ w766 (show decode cX6_pays 29 = .ok (.getfield 9, 3) by decide +kernel) ?_
  refine V_bipush 55 (by decide) Z (show decode cX6_pays 32 = .ok (.bipush 55, 2) by decide +kernel) ?_
  refine V_iload_n 4 Z rfl rfl (show decode cX6_pays 34 = .ok (.iload_n 1, 1) by decide +kernel) ?_
  refine V_iadd Z (show decode cX6_pays 35 = .ok (.iadd, 1) by decide +kernel) ?_
  refine V_dup2 rfl rfl Z (show decode cX6_pays 36 = .ok (.dup2, 1) by decide +kernel) ?_
  obtain ⟨v9, e10, h⟩ := zB_bind h
  refine V_iald Z e10 (show decode cX6_pays 37 = .ok (.iaload, 1) by decide +kernel) ?_
  refine V_iload 0 Z rfl (show decode cX6_pays 38 = .ok (.iload 4, 2) by decide +kernel) ?_
  refine V_isub Z (show decode cX6_pays 40 = .ok (.isub, 1) by decide +kernel) ?_
  obtain ⟨M11, e12, h⟩ := zB_bind h
  refine V_iast Z e12 (show decode cX6_pays 41 = .ok (.iastore, 1) by decide +kernel) ?_
  refine V_aload_n 3 Z rfl rfl (show decode cX6_pays 42 = .ok (.aload_n 0, 1) by decide +kernel) ?_
  refine V_getR 0 48 Z zc5 (by decide) rfl (by decide) rfl (by decide) ⟨rfl, rfl, rfl⟩ w766 (show decode cX6_pays 43 = .ok (.getfield 9, 3) by decide +kernel) ?_
  refine V_iload_n 2 Z rfl rfl (show decode cX6_pays 46 = .ok (.iload_n 2, 1) by decide +kernel) ?_
  refine V_iconst 3 (by decide) Z (show decode cX6_pays 47 = .ok (.iconst 3, 1) by decide +kernel) ?_
  obtain ⟨v14, e13, h⟩ := zB_bind h
  refine V_callS (rest := [_]) 2 Z (ok_X6_place  e13) cd_X6_place w853 w854 rfl (show decode cX6_pays 48 = .ok (.invokestatic 80, 3) by decide +kernel) rfl ?_
  refine V_ldc 99999 Z w896 (show decode cX6_pays 51 = .ok (.ldc 115, 2) by decide +kernel) ?_
  refine V_aload_n 3 Z rfl rfl (show decode cX6_pays 53 = .ok (.aload_n 0, 1) by decide +kernel) ?_
  refine V_iload_n 2 Z rfl rfl (show decode cX6_pays 54 = .ok (.iload_n 2, 1) by decide +kernel) ?_
  refine V_iconst 3 (by decide) Z (show decode cX6_pays 55 = .ok (.iconst 3, 1) by decide +kernel) ?_
  obtain ⟨v16, e15, h⟩ := zB_bind h
  refine V_callV (rest := [_, _, _]) 2 Z (ok_X6_nameIs  e15) cd_X6_nameIs zc5 (by decide) rfl w868 w870 w21 rfl (show decode cX6_pays 56 = .ok (.invokevirtual 93, 3) by decide +kernel) rfl ?_
  refine V_iload_n 1 Z rfl rfl (show decode cX6_pays 59 = .ok (.iload_n 3, 1) by decide +kernel) ?_
  refine V_iadd Z (show decode cX6_pays 60 = .ok (.iadd, 1) by decide +kernel) ?_
  refine V_iload 0 Z rfl (show decode cX6_pays 61 = .ok (.iload 4, 2) by decide +kernel) ?_
  refine V_isub Z (show decode cX6_pays 63 = .ok (.isub, 1) by decide +kernel) ?_
  refine V_min Z w962 w367 w71 w368 (show decode cX6_pays 64 = .ok (.invokestatic 148, 3) by decide +kernel) rfl ?_
  obtain ⟨M17, e18, h⟩ := zB_bind h
  refine V_iast Z e18 (show decode cX6_pays 67 = .ok (.iastore, 1) by decide +kernel) ?_
  exact V_vretM Z hE h (show decode cX6_pays 68 = .ok (.return_, 1) by decide +kernel)
def f_X6_day_j101 (y1 : Int32) (M : zM) : Option (zM) :=
  (zrd M 48 4).bind fun (v1 : Int32) =>
  (f_X6_quarrelsIn y1 M).bind fun (v4 : Int32) =>
  (zwr M 48 4 (if (v1 + v4) < 99999 then (v1 + v4) else 99999)).bind fun (M5 : zM) =>
  (zrd M5 48 0).bind fun (v7 : Int32) =>
  (zwr M5 48 0 (v7 + 1)).bind fun (M9 : zM) =>
  some (M9)
def f_X6_day_j94 (y1 : Int32) (y2 : Int32) (s0 : Int32) (s1 : Int32) (M : zM) : Option ((Int32 × zM) ⊕ (zM)) :=
  (zwr M 48 s1 s0).bind fun (M11 : zM) =>
  (some (y2 + 1)).bind fun (n13 : Int32) =>
  some (.inl ((n13, M11)))
def f_X6_day_l41 (y1 : Int32) : Int32 × zM → Option ((Int32 × zM) ⊕ (zM))
  | (y2, M) =>
    (zrd M 48 1).bind fun (v15 : Int32) =>
    if v15 ≤ y2 then
      (f_X6_day_j101 y1 M).bind fun z => some (Sum.inr z)
    else
      (f_X6_place y2 2 M).bind fun (v19 : Int32) =>
      (f_X6_has y1 y2 M).bind fun (v21 : Int32) =>
      if v21 = 0 then
        (f_X6_nameIs y2 2 M).bind fun (v28 : Int32) =>
        f_X6_day_j94 y1 y2 v28 v19 M
      else
        (f_X6_nameIs y2 2 M).bind fun (v24 : Int32) =>
        (f_X6_fadesBy y2 M).bind fun (v26 : Int32) =>
        f_X6_day_j94 y1 y2 (if (v24 + v26) < 99 then (v24 + v26) else 99) v19 M
def f_X6_day_j39 (y1 : Int32) (M : zM) : Option (zM) :=
  zIter (f_X6_day_l41 y1) 1000 (0, M)
def f_X6_day_l13 (y1 : Int32) : Int32 × zM → Option ((Int32 × zM) ⊕ (zM))
  | (y2, M) =>
    if 6 ≤ y2 then
      (f_X6_day_j39 y1 M).bind fun z => some (Sum.inr z)
    else
      (zrd M 52 y2).bind fun (v35 : Int32) =>
      if v35 < 0 then
        (some (y2 + 1)).bind fun (n38 : Int32) =>
        some (.inl ((n38, M)))
      else
        (f_X6_pays y2 M).bind fun (M41 : zM) =>
        (some (y2 + 1)).bind fun (n42 : Int32) =>
        some (.inl ((n42, M41)))
def f_X6_day (M : zM) : Option (zM) :=
  (zrd M 48 3).bind fun (v29 : Int32) =>
  (f_X6_drawBy v29 M).bind fun ((v32, M33) : Int32 × zM) =>
  zIter (f_X6_day_l13 v32) 1000 (0, M33)
theorem cd_X6_day : zCd yX6_day cX6_day 3 none 0 := ⟨w949, w69, ⟨by decide, by decide⟩, by decide +kernel⟩
set_option maxHeartbeats 4000000 in
set_option maxRecDepth 20000 in
theorem ok_X6_day {M : zM} {y : zM}  (h : f_X6_day  M = some y) : zRuns yX6_day cX6_day 3 none 5 112 [.ref 47] M none y := by
  refine zRuns_of (by decide +kernel) (Nat.le_of_ble_eq_true rfl) (fun E Z hE => ?_)
  have h := zB_top h
  change VV E 3 0 [(0, Value.ref 47)] [] M
  have J101 : ∀ (y1 : Int32) (M : zM), (f_X6_day_j101 y1 M).bind some = some y → VV E 3 101 [(0, Value.ref 47), (1, Value.int y1)] [] M := by
    intro y1 M h
    refine V_aload_n 0 Z rfl rfl (show decode cX6_day 101 = .ok (.aload_n 0, 1) by decide +kernel) ?_
    refine V_getR 0 48 Z zc5 (by decide) rfl (by decide) rfl (by decide) ⟨rfl, rfl, rfl⟩ w766 (show decode cX6_day 102 = .ok (.getfield 9, 3) by decide +kernel) ?_
    refine V_iconst 4 (by decide) Z (show decode cX6_day 105 = .ok (.iconst 4, 1) by decide +kernel) ?_
    refine V_ldc 99999 Z w896 (show decode cX6_day 106 = .ok (.ldc 115, 2) by decide +kernel) ?_
    refine V_aload_n 0 Z rfl rfl (show decode cX6_day 108 = .ok (.aload_n 0, 1) by decide +kernel) ?_
    refine V_getR 0 48 Z zc5 (by decide) rfl (by decide) rfl (by decide) ⟨rfl, rfl, rfl⟩ w766 (show decode cX6_day 109 = .ok (.getfield 9, 3) by decide +kernel) ?_
    refine V_iconst 4 (by decide) Z (show decode cX6_day 112 = .ok (.iconst 4, 1) by decide +kernel) ?_
    obtain ⟨v1, e2, h⟩ := zB_bind h
    refine V_iald Z e2 (show decode cX6_day 113 = .ok (.iaload, 1) by decide +kernel) ?_
    refine V_aload_n 0 Z rfl rfl (show decode cX6_day 114 = .ok (.aload_n 0, 1) by decide +kernel) ?_
    refine V_iload_n 1 Z rfl rfl (show decode cX6_day 115 = .ok (.iload_n 1, 1) by decide +kernel) ?_
    obtain ⟨v4, e3, h⟩ := zB_bind h
    refine V_callV (rest := [_, _, _, _]) 1 Z (ok_X6_quarrelsIn  e3) cd_X6_quarrelsIn zc5 (by decide) rfl w963 w965 w34 rfl (show decode cX6_day 116 = .ok (.invokevirtual 158, 3) by decide +kernel) rfl ?_
    refine V_iadd Z (show decode cX6_day 119 = .ok (.iadd, 1) by decide +kernel) ?_
    refine V_min Z w962 w367 w71 w368 (show decode cX6_day 120 = .ok (.invokestatic 148, 3) by decide +kernel) rfl ?_
    obtain ⟨M5, e6, h⟩ := zB_bind h
    refine V_iast Z e6 (show decode cX6_day 123 = .ok (.iastore, 1) by decide +kernel) ?_
    refine V_aload_n 0 Z rfl rfl (show decode cX6_day 124 = .ok (.aload_n 0, 1) by decide +kernel) ?_
    refine V_getR 0 48 Z zc5 (by decide) rfl (by decide) rfl (by decide) ⟨rfl, rfl, rfl⟩ w766 (show decode cX6_day 125 = .ok (.getfield 9, 3) by decide +kernel) ?_
    refine V_iconst 0 (by decide) Z (show decode cX6_day 128 = .ok (.iconst 0, 1) by decide +kernel) ?_
    refine V_dup2 rfl rfl Z (show decode cX6_day 129 = .ok (.dup2, 1) by decide +kernel) ?_
    obtain ⟨v7, e8, h⟩ := zB_bind h
    refine V_iald Z e8 (show decode cX6_day 130 = .ok (.iaload, 1) by decide +kernel) ?_
    refine V_iconst 1 (by decide) Z (show decode cX6_day 131 = .ok (.iconst 1, 1) by decide +kernel) ?_
    refine V_iadd Z (show decode cX6_day 132 = .ok (.iadd, 1) by decide +kernel) ?_
    obtain ⟨M9, e10, h⟩ := zB_bind h
    refine V_iast Z e10 (show decode cX6_day 133 = .ok (.iastore, 1) by decide +kernel) ?_
    exact V_vretM Z hE h (show decode cX6_day 134 = .ok (.return_, 1) by decide +kernel)
  have J39 : ∀ (y1 : Int32) (M : zM), (f_X6_day_j39 y1 M).bind some = some y → VV E 3 39 [(0, Value.ref 47), (1, Value.int y1)] [] M := by
    intro y1 M h
    refine V_iconst 0 (by decide) Z (show decode cX6_day 39 = .ok (.iconst 0, 1) by decide +kernel) ?_
    refine V_istore_n [(2, Value.int 0), (0, Value.ref 47), (1, Value.int y1)] Z (by decide) rfl rfl (show decode cX6_day 40 = .ok (.istore_n 2, 1) by decide +kernel) ?_
    refine V_sub [1, 2, 0] rfl ?_
    refine zIter_loop' (K := some) (fun s : Int32 × zM => VV E 3 41 [(0, Value.ref 47), (1, Value.int y1), (2, Value.int s.1)] [] s.2) (fun K1 s c1_i c1_r h => ?_) _ _ h
    obtain ⟨y2, M⟩ := s
    change VV E 3 41 [(0, Value.ref 47), (1, Value.int y1), (2, Value.int y2)] [] M
    rw [f_X6_day_l41] at h
    have J94 : ∀ (y2 : Int32) (s0 : Int32) (s1 : Int32) (M : zM), (f_X6_day_j94 y1 y2 s0 s1 M).bind K1 = some y → VV E 3 94 [(0, Value.ref 47), (1, Value.int y1), (2, Value.int y2)] [Value.int s0, Value.int s1, Value.ref 48] M := by
      intro y2 s0 s1 M h
      obtain ⟨M11, e12, h⟩ := zB_bind h
      refine V_iast Z e12 (show decode cX6_day 94 = .ok (.iastore, 1) by decide +kernel) ?_
      obtain ⟨n13, e14, h⟩ := zB_let h
      refine V_iinck 1 1 2 n13 [(2, Value.int n13), (0, Value.ref 47), (1, Value.int y1)] Z (by decide) (by decide) rfl e14 rfl (show decode cX6_day 95 = .ok (.iinc 2 1, 3) by decide +kernel) ?_
      refine V_goto 41 Z (by decide) (show decode cX6_day 98 = .ok (.goto (-57), 3) by decide +kernel) ?_
      refine V_sub [1, 2, 0] rfl ?_
      exact c1_i _ h
    refine V_iload_n 2 Z rfl rfl (show decode cX6_day 41 = .ok (.iload_n 2, 1) by decide +kernel) ?_
    refine V_aload_n 0 Z rfl rfl (show decode cX6_day 42 = .ok (.aload_n 0, 1) by decide +kernel) ?_
    refine V_getR 0 48 Z zc5 (by decide) rfl (by decide) rfl (by decide) ⟨rfl, rfl, rfl⟩ w766 (show decode cX6_day 43 = .ok (.getfield 9, 3) by decide +kernel) ?_
    refine V_iconst 1 (by decide) Z (show decode cX6_day 46 = .ok (.iconst 1, 1) by decide +kernel) ?_
    obtain ⟨v15, e16, h⟩ := zB_bind h
    refine V_iald Z e16 (show decode cX6_day 47 = .ok (.iaload, 1) by decide +kernel) ?_
    refine V_icmp_ge 101 Z (by decide) (show decode cX6_day 48 = .ok (.if_icmp .ge 53, 3) by decide +kernel) (fun c17 => ?_) (fun c17 => ?_)
    · have h := zB_pos c17 h
      refine V_sub [0, 1] rfl ?_
      have h := zB_lift c1_r h
      exact J101 _ _ h
    · have h := zB_neg c17 h
      refine V_aload_n 0 Z rfl rfl (show decode cX6_day 51 = .ok (.aload_n 0, 1) by decide +kernel) ?_
      refine V_getR 0 48 Z zc5 (by decide) rfl (by decide) rfl (by decide) ⟨rfl, rfl, rfl⟩ w766 (show decode cX6_day 52 = .ok (.getfield 9, 3) by decide +kernel) ?_
      refine V_iload_n 2 Z rfl rfl (show decode cX6_day 55 = .ok (.iload_n 2, 1) by decide +kernel) ?_
      refine V_iconst 2 (by decide) Z (show decode cX6_day 56 = .ok (.iconst 2, 1) by decide +kernel) ?_
      obtain ⟨v19, e18, h⟩ := zB_bind h
      refine V_callS (rest := [_]) 2 Z (ok_X6_place  e18) cd_X6_place w853 w854 rfl (show decode cX6_day 57 = .ok (.invokestatic 80, 3) by decide +kernel) rfl ?_
      refine V_iload_n 1 Z rfl rfl (show decode cX6_day 60 = .ok (.iload_n 1, 1) by decide +kernel) ?_
      refine V_iload_n 2 Z rfl rfl (show decode cX6_day 61 = .ok (.iload_n 2, 1) by decide +kernel) ?_
      obtain ⟨v21, e20, h⟩ := zB_bind h
      refine V_callS (rest := [_, _]) 2 Z (ok_X6_has  e20) cd_X6_has w923 w924 rfl (show decode cX6_day 62 = .ok (.invokestatic 133, 3) by decide +kernel) rfl ?_
      refine V_if_ne 77 Z (by decide) (show decode cX6_day 65 = .ok (.ifCond .ne 12, 3) by decide +kernel) (fun c22 => ?_) (fun c22 => ?_)
      · have h := zB_neg c22 h
        refine V_bipush 99 (by decide) Z (show decode cX6_day 77 = .ok (.bipush 99, 2) by decide +kernel) ?_
        refine V_aload_n 0 Z rfl rfl (show decode cX6_day 79 = .ok (.aload_n 0, 1) by decide +kernel) ?_
        refine V_iload_n 2 Z rfl rfl (show decode cX6_day 80 = .ok (.iload_n 2, 1) by decide +kernel) ?_
        refine V_iconst 2 (by decide) Z (show decode cX6_day 81 = .ok (.iconst 2, 1) by decide +kernel) ?_
        obtain ⟨v24, e23, h⟩ := zB_bind h
        refine V_callV (rest := [_, _, _]) 2 Z (ok_X6_nameIs  e23) cd_X6_nameIs zc5 (by decide) rfl w868 w870 w21 rfl (show decode cX6_day 82 = .ok (.invokevirtual 93, 3) by decide +kernel) rfl ?_
        refine V_aload_n 0 Z rfl rfl (show decode cX6_day 85 = .ok (.aload_n 0, 1) by decide +kernel) ?_
        refine V_iload_n 2 Z rfl rfl (show decode cX6_day 86 = .ok (.iload_n 2, 1) by decide +kernel) ?_
        obtain ⟨v26, e25, h⟩ := zB_bind h
        refine V_callV (rest := [_, _, _, _]) 1 Z (ok_X6_fadesBy  e25) cd_X6_fadesBy zc5 (by decide) rfl w872 w874 w22 rfl (show decode cX6_day 87 = .ok (.invokevirtual 106, 3) by decide +kernel) rfl ?_
        refine V_iadd Z (show decode cX6_day 90 = .ok (.iadd, 1) by decide +kernel) ?_
        refine V_min Z w962 w367 w71 w368 (show decode cX6_day 91 = .ok (.invokestatic 148, 3) by decide +kernel) rfl ?_
        exact J94 _ _ _ _ h
      · have h := zB_pos c22 h
        refine V_aload_n 0 Z rfl rfl (show decode cX6_day 68 = .ok (.aload_n 0, 1) by decide +kernel) ?_
        refine V_iload_n 2 Z rfl rfl (show decode cX6_day 69 = .ok (.iload_n 2, 1) by decide +kernel) ?_
        refine V_iconst 2 (by decide) Z (show decode cX6_day 70 = .ok (.iconst 2, 1) by decide +kernel) ?_
        obtain ⟨v28, e27, h⟩ := zB_bind h
        refine V_callV (rest := [_, _]) 2 Z (ok_X6_nameIs  e27) cd_X6_nameIs zc5 (by decide) rfl w868 w870 w21 rfl (show decode cX6_day 71 = .ok (.invokevirtual 93, 3) by decide +kernel) rfl ?_
        refine V_goto 94 Z (by decide) (show decode cX6_day 74 = .ok (.goto 20, 3) by decide +kernel) ?_
        exact J94 _ _ _ _ h
  refine V_aload_n 0 Z rfl rfl (show decode cX6_day 0 = .ok (.aload_n 0, 1) by decide +kernel) ?_
  refine V_aload_n 0 Z rfl rfl (show decode cX6_day 1 = .ok (.aload_n 0, 1) by decide +kernel) ?_
  refine V_getR 0 48 Z zc5 (by decide) rfl (by decide) rfl (by decide) ⟨rfl, rfl, rfl⟩ w766 (show decode cX6_day 2 = .ok (.getfield 9, 3) by decide +kernel) ?_
  refine V_iconst 3 (by decide) Z (show decode cX6_day 5 = .ok (.iconst 3, 1) by decide +kernel) ?_
  obtain ⟨v29, e30, h⟩ := zB_bind h
  refine V_iald Z e30 (show decode cX6_day 6 = .ok (.iaload, 1) by decide +kernel) ?_
  obtain ⟨⟨v32, M33⟩, e31, h⟩ := zB_bind h
  refine V_callV (rest := []) 1 Z (ok_X6_drawBy  e31) cd_X6_drawBy zc5 (by decide) rfl w950 w952 w31 rfl (show decode cX6_day 7 = .ok (.invokevirtual 151, 3) by decide +kernel) rfl ?_
  refine V_istore_n [(1, Value.int v32), (0, Value.ref 47)] Z (by decide) rfl rfl (show decode cX6_day 10 = .ok (.istore_n 1, 1) by decide +kernel) ?_
  refine V_iconst 0 (by decide) Z (show decode cX6_day 11 = .ok (.iconst 0, 1) by decide +kernel) ?_
  refine V_istore_n [(2, Value.int 0), (1, Value.int v32), (0, Value.ref 47)] Z (by decide) rfl rfl (show decode cX6_day 12 = .ok (.istore_n 2, 1) by decide +kernel) ?_
  refine V_sub [2, 1, 0] rfl ?_
  refine zIter_loop' (K := some) (fun s : Int32 × zM => VV E 3 13 [(0, Value.ref 47), (1, Value.int v32), (2, Value.int s.1)] [] s.2) (fun K1 s c1_i c1_r h => ?_) _ _ h
  obtain ⟨y2, M⟩ := s
  change VV E 3 13 [(0, Value.ref 47), (1, Value.int v32), (2, Value.int y2)] [] M
  refine V_iload_n 2 Z rfl rfl (show decode cX6_day 13 = .ok (.iload_n 2, 1) by decide +kernel) ?_
  refine V_bipush 6 (by decide) Z (show decode cX6_day 14 = .ok (.bipush 6, 2) by decide +kernel) ?_
  refine V_icmp_ge 39 Z (by decide) (show decode cX6_day 16 = .ok (.if_icmp .ge 23, 3) by decide +kernel) (fun c34 => ?_) (fun c34 => ?_)
  · have h := zB_pos c34 h
    refine V_sub [0, 1] rfl ?_
    have h := zB_lift c1_r h
    exact J39 _ _ h
  · have h := zB_neg c34 h
    refine V_aload_n 0 Z rfl rfl (show decode cX6_day 19 = .ok (.aload_n 0, 1) by decide +kernel) ?_
    refine V_getR 5 52 Z zc5 (by decide) rfl (by decide) rfl (by decide) ⟨rfl, rfl, rfl⟩ w771 (show decode cX6_day 20 = .ok (.getfield 22, 3) by decide +kernel) ?_
    refine V_iload_n 2 Z rfl rfl (show decode cX6_day 23 = .ok (.iload_n 2, 1) by decide +kernel) ?_
    obtain ⟨v35, e36, h⟩ := zB_bind h
    refine V_iald Z e36 (show decode cX6_day 24 = .ok (.iaload, 1) by decide +kernel) ?_
    refine V_if_lt 33 Z (by decide) (show decode cX6_day 25 = .ok (.ifCond .lt 8, 3) by decide +kernel) (fun c37 => ?_) (fun c37 => ?_)
    · have h := zB_pos c37 h
      obtain ⟨n38, e39, h⟩ := zB_let h
      refine V_iinck 1 1 2 n38 [(2, Value.int n38), (0, Value.ref 47), (1, Value.int v32)] Z (by decide) (by decide) rfl e39 rfl (show decode cX6_day 33 = .ok (.iinc 2 1, 3) by decide +kernel) ?_
      refine V_goto 13 Z (by decide) (show decode cX6_day 36 = .ok (.goto (-23), 3) by decide +kernel) ?_
      refine V_sub [1, 2, 0] rfl ?_
      exact c1_i _ h
    · have h := zB_neg c37 h
      refine V_aload_n 0 Z rfl rfl (show decode cX6_day 28 = .ok (.aload_n 0, 1) by decide +kernel) ?_
      refine V_iload_n 2 Z rfl rfl (show decode cX6_day 29 = .ok (.iload_n 2, 1) by decide +kernel) ?_
      obtain ⟨M41, e40, h⟩ := zB_bind h
      refine V_callV (rest := []) 1 Z (ok_X6_pays  e40) cd_X6_pays zc5 (by decide) rfl w958 w960 w33 rfl (show decode cX6_day 30 = .ok (.invokevirtual 154, 3) by decide +kernel) rfl ?_
      obtain ⟨n42, e43, h⟩ := zB_let h
      refine V_iinck 1 1 2 n42 [(2, Value.int n42), (0, Value.ref 47), (1, Value.int v32)] Z (by decide) (by decide) rfl e43 rfl (show decode cX6_day 33 = .ok (.iinc 2 1, 3) by decide +kernel) ?_
      refine V_goto 13 Z (by decide) (show decode cX6_day 36 = .ok (.goto (-23), 3) by decide +kernel) ?_
      refine V_sub [1, 2, 0] rfl ?_
      exact c1_i _ h
def f_X6_days_l2 (y1 : Int32) : Int32 × zM → Option ((Int32 × zM) ⊕ (zM))
  | (y2, M) =>
    if y1 ≤ y2 then
      some (.inr (M))
    else
      (f_X6_day  M).bind fun (M3 : zM) =>
      (some (y2 + 1)).bind fun (n4 : Int32) =>
      some (.inl ((n4, M3)))
def f_X6_days (x1 : Int32) (M : zM) : Option (zM) :=
  zIter (f_X6_days_l2 x1) 1000 (0, M)
theorem cd_X6_days : zCd yX6_days cX6_days 3 none 1 := ⟨w945, w69, ⟨by decide, by decide⟩, by decide +kernel⟩
set_option maxHeartbeats 4000000 in
set_option maxRecDepth 20000 in
theorem ok_X6_days {x1 : Int32} {M : zM} {y : zM}  (h : f_X6_days x1 M = some y) : zRuns yX6_days cX6_days 3 none 6 134 [.ref 47, .int x1] M none y := by
  refine zRuns_of (by decide +kernel) (Nat.le_of_ble_eq_true rfl) (fun E Z hE => ?_)
  have h := zB_top h
  change VV E 3 0 [(0, Value.ref 47), (1, Value.int x1)] [] M
  refine V_iconst 0 (by decide) Z (show decode cX6_days 0 = .ok (.iconst 0, 1) by decide +kernel) ?_
  refine V_istore_n [(2, Value.int 0), (0, Value.ref 47), (1, Value.int x1)] Z (by decide) rfl rfl (show decode cX6_days 1 = .ok (.istore_n 2, 1) by decide +kernel) ?_
  refine V_sub [1, 2, 0] rfl ?_
  refine zIter_loop' (K := some) (fun s : Int32 × zM => VV E 3 2 [(0, Value.ref 47), (1, Value.int x1), (2, Value.int s.1)] [] s.2) (fun K1 s c1_i c1_r h => ?_) _ _ h
  obtain ⟨y2, M⟩ := s
  change VV E 3 2 [(0, Value.ref 47), (1, Value.int x1), (2, Value.int y2)] [] M
  refine V_iload_n 2 Z rfl rfl (show decode cX6_days 2 = .ok (.iload_n 2, 1) by decide +kernel) ?_
  refine V_iload_n 1 Z rfl rfl (show decode cX6_days 3 = .ok (.iload_n 1, 1) by decide +kernel) ?_
  refine V_icmp_ge 17 Z (by decide) (show decode cX6_days 4 = .ok (.if_icmp .ge 13, 3) by decide +kernel) (fun c1 => ?_) (fun c1 => ?_)
  · have h := zB_pos c1 h
    have h := c1_r _ h
    exact V_vretM Z hE h (show decode cX6_days 17 = .ok (.return_, 1) by decide +kernel)
  · have h := zB_neg c1 h
    refine V_aload_n 0 Z rfl rfl (show decode cX6_days 7 = .ok (.aload_n 0, 1) by decide +kernel) ?_
    obtain ⟨M3, e2, h⟩ := zB_bind h
    refine V_callV (rest := []) 0 Z (ok_X6_day  e2) cd_X6_day zc5 (by decide) rfl w946 w948 w30 rfl (show decode cX6_days 8 = .ok (.invokevirtual 161, 3) by decide +kernel) rfl ?_
    obtain ⟨n4, e5, h⟩ := zB_let h
    refine V_iinck 1 1 2 n4 [(2, Value.int n4), (0, Value.ref 47), (1, Value.int x1)] Z (by decide) (by decide) rfl e5 rfl (show decode cX6_days 11 = .ok (.iinc 2 1, 3) by decide +kernel) ?_
    refine V_goto 2 Z (by decide) (show decode cX6_days 14 = .ok (.goto (-12), 3) by decide +kernel) ?_
    refine V_sub [1, 2, 0] rfl ?_
    exact c1_i _ h
def f_X6_purses_l4 (M : zM) : Int32 × Int32 → Option ((Int32 × Int32) ⊕ (Int32))
  | (y1, y2) =>
    if 6 ≤ y2 then
      some (.inr (y1))
    else
      (zrd M 48 (55 + y2)).bind fun (v2 : Int32) =>
      (some ((y1 + v2))).bind fun (n4 : Int32) =>
      (some (y2 + 1)).bind fun (n6 : Int32) =>
      some (.inl ((n4, n6)))
def f_X6_purses (M : zM) : Option (Int32) :=
  zIter (f_X6_purses_l4 M) 1000 (0, 0)
theorem cd_X6_purses : zCd yX6_purses cX6_purses 3 (some .int) 0 := ⟨w970, w69, ⟨by decide, by decide⟩, by decide +kernel⟩
set_option maxHeartbeats 4000000 in
set_option maxRecDepth 20000 in
theorem ok_X6_purses {M : zM} {y : Int32}  (h : f_X6_purses  M = some y) : zRuns yX6_purses cX6_purses 3 (some .int) 0 0 [.ref 47] M (some (.int y)) M := by
  refine zRuns_of (by decide +kernel) (Nat.le_of_ble_eq_true rfl) (fun E Z hE => ?_)
  have h := zB_top h
  change VV E 3 0 [(0, Value.ref 47)] [] M
  refine V_iconst 0 (by decide) Z (show decode cX6_purses 0 = .ok (.iconst 0, 1) by decide +kernel) ?_
  refine V_istore_n [(1, Value.int 0), (0, Value.ref 47)] Z (by decide) rfl rfl (show decode cX6_purses 1 = .ok (.istore_n 1, 1) by decide +kernel) ?_
  refine V_iconst 0 (by decide) Z (show decode cX6_purses 2 = .ok (.iconst 0, 1) by decide +kernel) ?_
  refine V_istore_n [(2, Value.int 0), (1, Value.int 0), (0, Value.ref 47)] Z (by decide) rfl rfl (show decode cX6_purses 3 = .ok (.istore_n 2, 1) by decide +kernel) ?_
  refine V_sub [2, 1, 0] rfl ?_
  refine zIter_loop' (K := some) (fun s : Int32 × Int32 => VV E 3 4 [(0, Value.ref 47), (1, Value.int s.1), (2, Value.int s.2)] [] M) (fun K1 s c1_i c1_r h => ?_) _ _ h
  obtain ⟨y1, y2⟩ := s
  change VV E 3 4 [(0, Value.ref 47), (1, Value.int y1), (2, Value.int y2)] [] M
  refine V_iload_n 2 Z rfl rfl (show decode cX6_purses 4 = .ok (.iload_n 2, 1) by decide +kernel) ?_
  refine V_bipush 6 (by decide) Z (show decode cX6_purses 5 = .ok (.bipush 6, 2) by decide +kernel) ?_
  refine V_icmp_ge 28 Z (by decide) (show decode cX6_purses 7 = .ok (.if_icmp .ge 21, 3) by decide +kernel) (fun c1 => ?_) (fun c1 => ?_)
  · have h := zB_pos c1 h
    refine V_iload_n 1 Z rfl rfl (show decode cX6_purses 28 = .ok (.iload_n 1, 1) by decide +kernel) ?_
    have h := c1_r _ h
    exact V_iretP Z hE h (show decode cX6_purses 29 = .ok (.ireturn, 1) by decide +kernel)
  · have h := zB_neg c1 h
    refine V_iload_n 1 Z rfl rfl (show decode cX6_purses 10 = .ok (.iload_n 1, 1) by decide +kernel) ?_
    refine V_aload_n 0 Z rfl rfl (show decode cX6_purses 11 = .ok (.aload_n 0, 1) by decide +kernel) ?_
    refine V_getR 0 48 Z zc5 (by decide) rfl (by decide) rfl (by decide) ⟨rfl, rfl, rfl⟩ w766 (show decode cX6_purses 12 = .ok (.getfield 9, 3) by decide +kernel) ?_
    refine V_bipush 55 (by decide) Z (show decode cX6_purses 15 = .ok (.bipush 55, 2) by decide +kernel) ?_
    refine V_iload_n 2 Z rfl rfl (show decode cX6_purses 17 = .ok (.iload_n 2, 1) by decide +kernel) ?_
    refine V_iadd Z (show decode cX6_purses 18 = .ok (.iadd, 1) by decide +kernel) ?_
    obtain ⟨v2, e3, h⟩ := zB_bind h
    refine V_iald Z e3 (show decode cX6_purses 19 = .ok (.iaload, 1) by decide +kernel) ?_
    refine V_iadd Z (show decode cX6_purses 20 = .ok (.iadd, 1) by decide +kernel) ?_
    obtain ⟨n4, e5, h⟩ := zB_let h
    refine V_nm e5 ?_
    refine V_istore_n [(1, Value.int n4), (0, Value.ref 47), (2, Value.int y2)] Z (by decide) rfl rfl (show decode cX6_purses 21 = .ok (.istore_n 1, 1) by decide +kernel) ?_
    obtain ⟨n6, e7, h⟩ := zB_let h
    refine V_iinck 1 1 2 n6 [(2, Value.int n6), (1, Value.int n4), (0, Value.ref 47)] Z (by decide) (by decide) rfl e7 rfl (show decode cX6_purses 22 = .ok (.iinc 2 1, 3) by decide +kernel) ?_
    refine V_goto 4 Z (by decide) (show decode cX6_purses 25 = .ok (.goto (-21), 3) by decide +kernel) ?_
    refine V_sub [2, 1, 0] rfl ?_
    exact c1_i _ h
