/-! Generated walks: X6_groups X6_putBackPurses X6_pursesBy X6_mendFor X6_without X6_isSheet X6_lacks X6_wentSo X6_fitting -/
def f_X6_groups_j91 (y1 : Int32) (M : zM) : Option (Int32 × zM) :=
  (zrd M 53 y1).bind fun (v1 : Int32) =>
  some ((v1, M))
def f_X6_groups_j78 (y1 : Int32) (y2 : Int32) (y3 : Int32) (M : zM) : Option ((Int32 × zM) ⊕ (Int32 × zM)) :=
  (zwr M 53 y2 y3).bind fun (M9 : zM) =>
  (some (y2 + 1)).bind fun (n11 : Int32) =>
  some (.inl ((n11, M9)))
def f_X6_groups_j66 (y1 : Int32) (y2 : Int32) (y4 : Int32) (s0 : Int32) (M : zM) : Option ((Int32 × Int32) ⊕ ((Int32 × zM) ⊕ (Int32 × zM))) :=
  (some (((y4 - 1) &&& y2))).bind fun (n14 : Int32) =>
  some (.inl ((s0, n14)))
def f_X6_groups_l31 (y1 : Int32) (y2 : Int32) (M : zM) : Int32 × Int32 → Option ((Int32 × Int32) ⊕ ((Int32 × zM) ⊕ (Int32 × zM)))
  | (y3, y4) =>
    if y4 ≤ 0 then
      (f_X6_groups_j78 y1 y2 y3 M).bind fun z => some (Sum.inr z)
    else
      (f_X6_isPeace y4 M).bind fun (v18 : Int32) =>
      if v18 = 0 then
        f_X6_groups_j66 y1 y2 y4 y3 M
      else
        (zrd M 53 (y2 &&& (y4 ^^^ (-1)))).bind fun (v20 : Int32) =>
        f_X6_groups_j66 y1 y2 y4 (if (1 + v20) < y3 then (1 + v20) else y3) M
def f_X6_groups_l20 (y1 : Int32) : Int32 × zM → Option ((Int32 × zM) ⊕ (Int32 × zM))
  | (y2, M) =>
    if y1 < y2 then
      (f_X6_groups_j91 y1 M).bind fun z => some (Sum.inr z)
    else
      zIter (f_X6_groups_l31 y1 y2 M) 1000 (8, y2)
def f_X6_groups (M : zM) : Option (Int32 × zM) :=
  (zrd M 48 1).bind fun (v3 : Int32) =>
  (some (((1 <<< (v3 &&& 31)) - 1))).bind fun (n5 : Int32) =>
  (zwr M 53 0 0).bind fun (M7 : zM) =>
  zIter (f_X6_groups_l20 n5) 1000 (1, M7)
theorem cd_X6_groups : zCd yX6_groups cX6_groups 5 (some .int) 0 := ⟨w1094, w69, ⟨by decide, by decide⟩, by decide +kernel⟩
set_option maxHeartbeats 4000000 in
set_option maxRecDepth 20000 in
theorem ok_X6_groups {M : zM} {y : Int32 × zM}  (h : f_X6_groups  M = some y) : zRuns yX6_groups cX6_groups 5 (some .int) 5 110 [.ref 47] M (some (.int y.1)) y.2 := by
  refine zRuns_of (by decide +kernel) (Nat.le_of_ble_eq_true rfl) (fun E Z hE => ?_)
  have h := zB_top h
  change VV E 5 0 [(0, Value.ref 47)] [] M
  have J91 : ∀ (y1 : Int32) (M : zM), (f_X6_groups_j91 y1 M).bind some = some y → VV E 5 91 [(0, Value.ref 47), (1, Value.int y1)] [] M := by
    intro y1 M h
    refine V_aload_n 0 Z rfl rfl (show decode cX6_groups 91 = .ok (.aload_n 0, 1) by decide +kernel) ?_
    refine V_getR 6 53 Z zc5 (by decide) rfl (by decide) rfl (by decide) ⟨rfl, rfl, rfl⟩ w772 (show decode cX6_groups 92 = .ok (.getfield 25, 3) by decide +kernel) ?_
    refine V_iload_n 1 Z rfl rfl (show decode cX6_groups 95 = .ok (.iload_n 1, 1) by decide +kernel) ?_
    obtain ⟨v1, e2, h⟩ := zB_bind h
    refine V_iald Z e2 (show decode cX6_groups 96 = .ok (.iaload, 1) by decide +kernel) ?_
    exact V_iretM Z hE h (show decode cX6_groups 97 = .ok (.ireturn, 1) by decide +kernel)
  refine V_iconst 1 (by decide) Z (show decode cX6_groups 0 = .ok (.iconst 1, 1) by decide +kernel) ?_
  refine V_aload_n 0 Z rfl rfl (show decode cX6_groups 1 = .ok (.aload_n 0, 1) by decide +kernel) ?_
  refine V_getR 0 48 Z zc5 (by decide) rfl (by decide) rfl (by decide) ⟨rfl, rfl, rfl⟩ w766 (show decode cX6_groups 2 = .ok (.getfield 9, 3) by decide +kernel) ?_
  refine V_iconst 1 (by decide) Z (show decode cX6_groups 5 = .ok (.iconst 1, 1) by decide +kernel) ?_
  obtain ⟨v3, e4, h⟩ := zB_bind h
  refine V_iald Z e4 (show decode cX6_groups 6 = .ok (.iaload, 1) by decide +kernel) ?_
  refine V_ishl Z (show decode cX6_groups 7 = .ok (.ishl, 1) by decide +kernel) ?_
  refine V_iconst 1 (by decide) Z (show decode cX6_groups 8 = .ok (.iconst 1, 1) by decide +kernel) ?_
  refine V_isub Z (show decode cX6_groups 9 = .ok (.isub, 1) by decide +kernel) ?_
  obtain ⟨n5, e6, h⟩ := zB_let h
  refine V_nm e6 ?_
  refine V_istore_n [(1, Value.int n5), (0, Value.ref 47)] Z (by decide) rfl rfl (show decode cX6_groups 10 = .ok (.istore_n 1, 1) by decide +kernel) ?_
  refine V_aload_n 1 Z rfl rfl (show decode cX6_groups 11 = .ok (.aload_n 0, 1) by decide +kernel) ?_
  refine V_getR 6 53 Z zc5 (by decide) rfl (by decide) rfl (by decide) ⟨rfl, rfl, rfl⟩ w772 (show decode cX6_groups 12 = .ok (.getfield 25, 3) by decide +kernel) ?_
  refine V_iconst 0 (by decide) Z (show decode cX6_groups 15 = .ok (.iconst 0, 1) by decide +kernel) ?_
  refine V_iconst 0 (by decide) Z (show decode cX6_groups 16 = .ok (.iconst 0, 1) by decide +kernel) ?_
  obtain ⟨M7, e8, h⟩ := zB_bind h
  refine V_iast Z e8 (show decode cX6_groups 17 = .ok (.iastore, 1) by decide +kernel) ?_
  refine V_iconst 1 (by decide) Z (show decode cX6_groups 18 = .ok (.iconst 1, 1) by decide +kernel) ?_
  refine V_istore_n [(2, Value.int 1), (1, Value.int n5), (0, Value.ref 47)] Z (by decide) rfl rfl (show decode cX6_groups 19 = .ok (.istore_n 2, 1) by decide +kernel) ?_
  refine V_sub [2, 1, 0] rfl ?_
  refine zIter_loop' (K := some) (fun s : Int32 × zM => VV E 5 20 [(0, Value.ref 47), (1, Value.int n5), (2, Value.int s.1)] [] s.2) (fun K1 s c1_i c1_r h => ?_) _ _ h
  obtain ⟨y2, M⟩ := s
  change VV E 5 20 [(0, Value.ref 47), (1, Value.int n5), (2, Value.int y2)] [] M
  have J78 : ∀ (y2 : Int32) (y3 : Int32) (M : zM), (f_X6_groups_j78 n5 y2 y3 M).bind K1 = some y → VV E 5 78 [(0, Value.ref 47), (1, Value.int n5), (2, Value.int y2), (3, Value.int y3)] [] M := by
    intro y2 y3 M h
    refine V_aload_n 0 Z rfl rfl (show decode cX6_groups 78 = .ok (.aload_n 0, 1) by decide +kernel) ?_
    refine V_getR 6 53 Z zc5 (by decide) rfl (by decide) rfl (by decide) ⟨rfl, rfl, rfl⟩ w772 (show decode cX6_groups 79 = .ok (.getfield 25, 3) by decide +kernel) ?_
    refine V_iload_n 2 Z rfl rfl (show decode cX6_groups 82 = .ok (.iload_n 2, 1) by decide +kernel) ?_
    refine V_iload_n 3 Z rfl rfl (show decode cX6_groups 83 = .ok (.iload_n 3, 1) by decide +kernel) ?_
    obtain ⟨M9, e10, h⟩ := zB_bind h
    refine V_iast Z e10 (show decode cX6_groups 84 = .ok (.iastore, 1) by decide +kernel) ?_
    obtain ⟨n11, e12, h⟩ := zB_let h
    refine V_iinck 1 1 2 n11 [(2, Value.int n11), (0, Value.ref 47), (1, Value.int n5), (3, Value.int y3)] Z (by decide) (by decide) rfl e12 rfl (show decode cX6_groups 85 = .ok (.iinc 2 1, 3) by decide +kernel) ?_
    refine V_goto 20 Z (by decide) (show decode cX6_groups 88 = .ok (.goto (-68), 3) by decide +kernel) ?_
    refine V_sub [1, 2, 0] rfl ?_
    exact c1_i _ h
  refine V_iload_n 2 Z rfl rfl (show decode cX6_groups 20 = .ok (.iload_n 2, 1) by decide +kernel) ?_
  refine V_iload_n 1 Z rfl rfl (show decode cX6_groups 21 = .ok (.iload_n 1, 1) by decide +kernel) ?_
  refine V_icmp_gt 91 Z (by decide) (show decode cX6_groups 22 = .ok (.if_icmp .gt 69, 3) by decide +kernel) (fun c13 => ?_) (fun c13 => ?_)
  · have h := zB_pos c13 h
    refine V_sub [0, 1] rfl ?_
    have h := zB_lift c1_r h
    exact J91 _ _ h
  · have h := zB_neg c13 h
    refine V_bipush 8 (by decide) Z (show decode cX6_groups 25 = .ok (.bipush 8, 2) by decide +kernel) ?_
    refine V_istore_n [(3, Value.int 8), (0, Value.ref 47), (1, Value.int n5), (2, Value.int y2)] Z (by decide) rfl rfl (show decode cX6_groups 27 = .ok (.istore_n 3, 1) by decide +kernel) ?_
    refine V_iload_n 3 Z rfl rfl (show decode cX6_groups 28 = .ok (.iload_n 2, 1) by decide +kernel) ?_
    refine V_istore [(4, Value.int y2), (3, Value.int 8), (0, Value.ref 47), (1, Value.int n5), (2, Value.int y2)] Z (by decide) rfl (show decode cX6_groups 29 = .ok (.istore 4, 2) by decide +kernel) ?_
    refine V_sub [2, 3, 4, 1, 0] rfl ?_
    refine zIter_loop' (K := K1) (fun s : Int32 × Int32 => VV E 5 31 [(0, Value.ref 47), (1, Value.int n5), (2, Value.int y2), (3, Value.int s.1), (4, Value.int s.2)] [] M) (fun K2 s c2_i c2_r h => ?_) _ _ h
    obtain ⟨y3, y4⟩ := s
    change VV E 5 31 [(0, Value.ref 47), (1, Value.int n5), (2, Value.int y2), (3, Value.int y3), (4, Value.int y4)] [] M
    have J66 : ∀ (y4 : Int32) (s0 : Int32), (f_X6_groups_j66 n5 y2 y4 s0 M).bind K2 = some y → VV E 5 66 [(0, Value.ref 47), (1, Value.int n5), (2, Value.int y2), (4, Value.int y4)] [Value.int s0] M := by
      intro y4 s0 h
      refine V_istore_n [(3, Value.int s0), (0, Value.ref 47), (1, Value.int n5), (2, Value.int y2), (4, Value.int y4)] Z (by decide) rfl rfl (show decode cX6_groups 66 = .ok (.istore_n 3, 1) by decide +kernel) ?_
      refine V_iload 4 Z rfl (show decode cX6_groups 67 = .ok (.iload 4, 2) by decide +kernel) ?_
      refine V_iconst 1 (by decide) Z (show decode cX6_groups 69 = .ok (.iconst 1, 1) by decide +kernel) ?_
      refine V_isub Z (show decode cX6_groups 70 = .ok (.isub, 1) by decide +kernel) ?_
      refine V_iload_n 3 Z rfl rfl (show decode cX6_groups 71 = .ok (.iload_n 2, 1) by decide +kernel) ?_
      refine V_iand Z (show decode cX6_groups 72 = .ok (.iand, 1) by decide +kernel) ?_
      obtain ⟨n14, e15, h⟩ := zB_let h
      refine V_nm e15 ?_
      refine V_istore [(4, Value.int n14), (3, Value.int s0), (0, Value.ref 47), (1, Value.int n5), (2, Value.int y2)] Z (by decide) rfl (show decode cX6_groups 73 = .ok (.istore 4, 2) by decide +kernel) ?_
      refine V_goto 31 Z (by decide) (show decode cX6_groups 75 = .ok (.goto (-44), 3) by decide +kernel) ?_
      refine V_sub [2, 3, 4, 1, 0] rfl ?_
      exact c2_i _ h
    refine V_iload 4 Z rfl (show decode cX6_groups 31 = .ok (.iload 4, 2) by decide +kernel) ?_
    refine V_if_le 78 Z (by decide) (show decode cX6_groups 33 = .ok (.ifCond .le 45, 3) by decide +kernel) (fun c16 => ?_) (fun c16 => ?_)
    · have h := zB_pos c16 h
      refine V_sub [0, 1, 2, 3] rfl ?_
      have h := zB_lift c2_r h
      exact J78 _ _ _ h
    · have h := zB_neg c16 h
      refine V_aload_n 0 Z rfl rfl (show decode cX6_groups 36 = .ok (.aload_n 0, 1) by decide +kernel) ?_
      refine V_iload 4 Z rfl (show decode cX6_groups 37 = .ok (.iload 4, 2) by decide +kernel) ?_
      obtain ⟨v18, e17, h⟩ := zB_bind h
      refine V_callV (rest := []) 1 Z (ok_X6_isPeace  e17) cd_X6_isPeace zc5 (by decide) rfl w1083 w1085 w46 rfl (show decode cX6_groups 39 = .ok (.invokevirtual 210, 3) by decide +kernel) rfl ?_
      refine V_if_eq 65 Z (by decide) (show decode cX6_groups 42 = .ok (.ifCond .eq 23, 3) by decide +kernel) (fun c19 => ?_) (fun c19 => ?_)
      · have h := zB_pos c19 h
        refine V_iload_n 3 Z rfl rfl (show decode cX6_groups 65 = .ok (.iload_n 3, 1) by decide +kernel) ?_
        refine V_sub [0, 1, 2, 4] rfl ?_
        exact J66 _ _ h
      · have h := zB_neg c19 h
        refine V_iload_n 3 Z rfl rfl (show decode cX6_groups 45 = .ok (.iload_n 3, 1) by decide +kernel) ?_
        refine V_iconst 1 (by decide) Z (show decode cX6_groups 46 = .ok (.iconst 1, 1) by decide +kernel) ?_
        refine V_aload_n 0 Z rfl rfl (show decode cX6_groups 47 = .ok (.aload_n 0, 1) by decide +kernel) ?_
        refine V_getR 6 53 Z zc5 (by decide) rfl (by decide) rfl (by decide) ⟨rfl, rfl, rfl⟩ w772 (show decode cX6_groups 48 = .ok (.getfield 25, 3) by decide +kernel) ?_
        refine V_iload_n 2 Z rfl rfl (show decode cX6_groups 51 = .ok (.iload_n 2, 1) by decide +kernel) ?_
        refine V_iload 4 Z rfl (show decode cX6_groups 52 = .ok (.iload 4, 2) by decide +kernel) ?_
        refine V_iconst (-1) (by decide) Z (show decode cX6_groups 54 = .ok (.iconst (-1), 1) by decide +kernel) ?_
        refine V_ixor Z (show decode cX6_groups 55 = .ok (.ixor, 1) by decide +kernel) ?_
        refine V_iand Z (show decode cX6_groups 56 = .ok (.iand, 1) by decide +kernel) ?_
        obtain ⟨v20, e21, h⟩ := zB_bind h
        refine V_iald Z e21 (show decode cX6_groups 57 = .ok (.iaload, 1) by decide +kernel) ?_
        refine V_iadd Z (show decode cX6_groups 58 = .ok (.iadd, 1) by decide +kernel) ?_
        refine V_min Z w962 w367 w71 w368 (show decode cX6_groups 59 = .ok (.invokestatic 148, 3) by decide +kernel) rfl ?_
        refine V_goto 66 Z (by decide) (show decode cX6_groups 62 = .ok (.goto 4, 3) by decide +kernel) ?_
        refine V_sub [0, 1, 2, 4] rfl ?_
        exact J66 _ _ h
def f_X6_putBackPurses (M : zM) : Option (Int32 × zM) :=
  (f_X6_purses  M).bind fun (v2 : Int32) =>
  (f_X6_copyRow 50 48 M).bind fun (M4 : zM) =>
  some ((v2, M4))
theorem cd_X6_putBackPurses : zCd yX6_putBackPurses cX6_putBackPurses 2 (some .int) 0 := ⟨w1106, w69, ⟨by decide, by decide⟩, by decide +kernel⟩
set_option maxHeartbeats 4000000 in
set_option maxRecDepth 20000 in
theorem ok_X6_putBackPurses {M : zM} {y : Int32 × zM}  (h : f_X6_putBackPurses  M = some y) : zRuns yX6_putBackPurses cX6_putBackPurses 2 (some .int) 1 22 [.ref 47] M (some (.int y.1)) y.2 := by
  refine zRuns_of (by decide +kernel) (Nat.le_of_ble_eq_true rfl) (fun E Z hE => ?_)
  have h := zB_top h
  change VV E 2 0 [(0, Value.ref 47)] [] M
  refine V_aload_n 0 Z rfl rfl (show decode cX6_putBackPurses 0 = .ok (.aload_n 0, 1) by decide +kernel) ?_
  obtain ⟨v2, e1, h⟩ := zB_bind h
  refine V_callV (rest := []) 0 Z (ok_X6_purses  e1) cd_X6_purses zc5 (by decide) rfl w967 w969 w35 rfl (show decode cX6_putBackPurses 1 = .ok (.invokevirtual 168, 3) by decide +kernel) rfl ?_
  refine V_istore_n [(1, Value.int v2), (0, Value.ref 47)] Z (by decide) rfl rfl (show decode cX6_putBackPurses 4 = .ok (.istore_n 1, 1) by decide +kernel) ?_
  refine V_aload_n 1 Z rfl rfl (show decode cX6_putBackPurses 5 = .ok (.aload_n 0, 1) by decide +kernel) ?_
  refine V_getR 2 50 Z zc5 (by decide) rfl (by decide) rfl (by decide) ⟨rfl, rfl, rfl⟩ w768 (show decode cX6_putBackPurses 6 = .ok (.getfield 16, 3) by decide +kernel) ?_
  refine V_aload_n 1 Z rfl rfl (show decode cX6_putBackPurses 9 = .ok (.aload_n 0, 1) by decide +kernel) ?_
  refine V_getR 0 48 Z zc5 (by decide) rfl (by decide) rfl (by decide) ⟨rfl, rfl, rfl⟩ w766 (show decode cX6_putBackPurses 10 = .ok (.getfield 9, 3) by decide +kernel) ?_
  obtain ⟨M4, e3, h⟩ := zB_bind h
  refine V_callS (rest := []) 2 Z (ok_X6_copyRow  e3) cd_X6_copyRow w999 w1000 rfl (show decode cX6_putBackPurses 13 = .ok (.invokestatic 67, 3) by decide +kernel) rfl ?_
  refine V_iload_n 0 Z rfl rfl (show decode cX6_putBackPurses 16 = .ok (.iload_n 1, 1) by decide +kernel) ?_
  exact V_iretM Z hE h (show decode cX6_putBackPurses 17 = .ok (.ireturn, 1) by decide +kernel)
def f_X6_pursesBy_j80 (y1 : Int32) (y2 : Int32) (y4 : Int32) (y5 : Int32) (y7 : Int32) (s0 : Int32) (M : zM) : Option ((Int32 × Int32 × Int32 × zM) ⊕ (Int32 × zM)) :=
  (some ((if y4 < y7 then y7 else y4))).bind fun (n1 : Int32) =>
  (some (y5 + 1)).bind fun (n3 : Int32) =>
  some (.inl ((s0, n1, n3, M)))
def f_X6_pursesBy_l8 (y1 : Int32) (y2 : Int32) : Int32 × Int32 × Int32 × zM → Option ((Int32 × Int32 × Int32 × zM) ⊕ (Int32 × zM))
  | (y3, y4, y5, M) =>
    (zrd M 48 1).bind fun (v5 : Int32) =>
    if v5 ≤ y5 then
      some (.inr ((y3, M)))
    else
      (f_X6_place y5 2 M).bind fun (v9 : Int32) =>
      (f_X6_become v9 y1 M).bind fun ((v11, M12) : Int32 × zM) =>
      (f_X6_copyRow 48 50 M12).bind fun (M14 : zM) =>
      (f_X6_days y2 M14).bind fun (M16 : zM) =>
      (f_X6_putBackPurses  M16).bind fun ((v18, M19) : Int32 × zM) =>
      (f_X6_place y5 2 M19).bind fun (v21 : Int32) =>
      (zwr M19 48 v21 v11).bind fun (M22 : zM) =>
      if v18 ≤ y4 then
        f_X6_pursesBy_j80 y1 y2 y4 y5 v18 y3 M22
      else
        f_X6_pursesBy_j80 y1 y2 y4 y5 v18 y5 M22
def f_X6_pursesBy (x1 : Int32) (x2 : Int32) (M : zM) : Option (Int32 × zM) :=
  zIter (f_X6_pursesBy_l8 x1 x2) 1000 ((-1), (-1), 0, M)
theorem cd_X6_pursesBy : zCd yX6_pursesBy cX6_pursesBy 8 (some .int) 2 := ⟨w1102, w69, ⟨by decide, by decide⟩, by decide +kernel⟩
set_option maxHeartbeats 4000000 in
set_option maxRecDepth 20000 in
theorem ok_X6_pursesBy {x1 : Int32} {x2 : Int32} {M : zM} {y : Int32 × zM}  (h : f_X6_pursesBy x1 x2 M = some y) : zRuns yX6_pursesBy cX6_pursesBy 8 (some .int) 7 156 [.ref 47, .int x1, .int x2] M (some (.int y.1)) y.2 := by
  refine zRuns_of (by decide +kernel) (Nat.le_of_ble_eq_true rfl) (fun E Z hE => ?_)
  have h := zB_top h
  change VV E 8 0 [(0, Value.ref 47), (1, Value.int x1), (2, Value.int x2)] [] M
  refine V_iconst (-1) (by decide) Z (show decode cX6_pursesBy 0 = .ok (.iconst (-1), 1) by decide +kernel) ?_
  refine V_istore_n [(3, Value.int (-1)), (0, Value.ref 47), (1, Value.int x1), (2, Value.int x2)] Z (by decide) rfl rfl (show decode cX6_pursesBy 1 = .ok (.istore_n 3, 1) by decide +kernel) ?_
  refine V_iconst (-1) (by decide) Z (show decode cX6_pursesBy 2 = .ok (.iconst (-1), 1) by decide +kernel) ?_
  refine V_istore [(4, Value.int (-1)), (3, Value.int (-1)), (0, Value.ref 47), (1, Value.int x1), (2, Value.int x2)] Z (by decide) rfl (show decode cX6_pursesBy 3 = .ok (.istore 4, 2) by decide +kernel) ?_
  refine V_iconst 0 (by decide) Z (show decode cX6_pursesBy 5 = .ok (.iconst 0, 1) by decide +kernel) ?_
  refine V_istore [(5, Value.int 0), (4, Value.int (-1)), (3, Value.int (-1)), (0, Value.ref 47), (1, Value.int x1), (2, Value.int x2)] Z (by decide) rfl (show decode cX6_pursesBy 6 = .ok (.istore 5, 2) by decide +kernel) ?_
  refine V_sub [3, 4, 5, 2, 1, 0] rfl ?_
  refine zIter_loop' (K := some) (fun s : Int32 × Int32 × Int32 × zM => VV E 8 8 [(0, Value.ref 47), (1, Value.int x1), (2, Value.int x2), (3, Value.int s.1), (4, Value.int s.2.1), (5, Value.int s.2.2.1)] [] s.2.2.2) (fun K1 s c1_i c1_r h => ?_) _ _ h
  obtain ⟨y3, y4, y5, M⟩ := s
  change VV E 8 8 [(0, Value.ref 47), (1, Value.int x1), (2, Value.int x2), (3, Value.int y3), (4, Value.int y4), (5, Value.int y5)] [] M
  rw [f_X6_pursesBy_l8] at h
  have J80 : ∀ (y4 : Int32) (y5 : Int32) (y7 : Int32) (s0 : Int32) (M : zM), (f_X6_pursesBy_j80 x1 x2 y4 y5 y7 s0 M).bind K1 = some y → VV E 8 80 [(0, Value.ref 47), (1, Value.int x1), (2, Value.int x2), (4, Value.int y4), (5, Value.int y5), (7, Value.int y7)] [Value.int s0] M := by
    intro y4 y5 y7 s0 M h
    refine V_istore_n [(3, Value.int s0), (0, Value.ref 47), (1, Value.int x1), (2, Value.int x2), (4, Value.int y4), (5, Value.int y5), (7, Value.int y7)] Z (by decide) rfl rfl (show decode cX6_pursesBy 80 = .ok (.istore_n 3, 1) by decide +kernel) ?_
    refine V_iload 4 Z rfl (show decode cX6_pursesBy 81 = .ok (.iload 4, 2) by decide +kernel) ?_
    refine V_iload 6 Z rfl (show decode cX6_pursesBy 83 = .ok (.iload 7, 2) by decide +kernel) ?_
    refine V_max Z w922 w401 w71 w402 (show decode cX6_pursesBy 85 = .ok (.invokestatic 128, 3) by decide +kernel) rfl ?_
    obtain ⟨n1, e2, h⟩ := zB_let h
    refine V_nm e2 ?_
    refine V_istore [(4, Value.int n1), (3, Value.int s0), (0, Value.ref 47), (1, Value.int x1), (2, Value.int x2), (5, Value.int y5), (7, Value.int y7)] Z (by decide) rfl (show decode cX6_pursesBy 88 = .ok (.istore 4, 2) by decide +kernel) ?_
    obtain ⟨n3, e4, h⟩ := zB_let h
    refine V_iinck 1 1 5 n3 [(5, Value.int n3), (4, Value.int n1), (3, Value.int s0), (0, Value.ref 47), (1, Value.int x1), (2, Value.int x2), (7, Value.int y7)] Z (by decide) (by decide) rfl e4 rfl (show decode cX6_pursesBy 90 = .ok (.iinc 5 1, 3) by decide +kernel) ?_
    refine V_goto 8 Z (by decide) (show decode cX6_pursesBy 93 = .ok (.goto (-85), 3) by decide +kernel) ?_
    refine V_sub [3, 4, 5, 2, 1, 0] rfl ?_
    exact c1_i _ h
  refine V_iload 5 Z rfl (show decode cX6_pursesBy 8 = .ok (.iload 5, 2) by decide +kernel) ?_
  refine V_aload_n 0 Z rfl rfl (show decode cX6_pursesBy 10 = .ok (.aload_n 0, 1) by decide +kernel) ?_
  refine V_getR 0 48 Z zc5 (by decide) rfl (by decide) rfl (by decide) ⟨rfl, rfl, rfl⟩ w766 (show decode cX6_pursesBy 11 = .ok (.getfield 9, 3) by decide +kernel) ?_
  refine V_iconst 1 (by decide) Z (show decode cX6_pursesBy 14 = .ok (.iconst 1, 1) by decide +kernel) ?_
  obtain ⟨v5, e6, h⟩ := zB_bind h
  refine V_iald Z e6 (show decode cX6_pursesBy 15 = .ok (.iaload, 1) by decide +kernel) ?_
  refine V_icmp_ge 96 Z (by decide) (show decode cX6_pursesBy 16 = .ok (.if_icmp .ge 80, 3) by decide +kernel) (fun c7 => ?_) (fun c7 => ?_)
  · have h := zB_pos c7 h
    refine V_iload_n 3 Z rfl rfl (show decode cX6_pursesBy 96 = .ok (.iload_n 3, 1) by decide +kernel) ?_
    have h := c1_r _ h
    exact V_iretM Z hE h (show decode cX6_pursesBy 97 = .ok (.ireturn, 1) by decide +kernel)
  · have h := zB_neg c7 h
    refine V_aload_n 0 Z rfl rfl (show decode cX6_pursesBy 19 = .ok (.aload_n 0, 1) by decide +kernel) ?_
    refine V_iload 5 Z rfl (show decode cX6_pursesBy 20 = .ok (.iload 5, 2) by decide +kernel) ?_
    refine V_iconst 2 (by decide) Z (show decode cX6_pursesBy 22 = .ok (.iconst 2, 1) by decide +kernel) ?_
    obtain ⟨v9, e8, h⟩ := zB_bind h
    refine V_callS (rest := [_]) 2 Z (ok_X6_place  e8) cd_X6_place w853 w854 rfl (show decode cX6_pursesBy 23 = .ok (.invokestatic 80, 3) by decide +kernel) rfl ?_
    refine V_iload_n 1 Z rfl rfl (show decode cX6_pursesBy 26 = .ok (.iload_n 1, 1) by decide +kernel) ?_
    obtain ⟨⟨v11, M12⟩, e10, h⟩ := zB_bind h
    refine V_callV (rest := []) 2 Z (ok_X6_become  e10) cd_X6_become zc5 (by decide) rfl w897 w899 w27 rfl (show decode cX6_pursesBy 27 = .ok (.invokevirtual 119, 3) by decide +kernel) rfl ?_
    refine V_istore [(6, Value.int v11), (0, Value.ref 47), (1, Value.int x1), (2, Value.int x2), (3, Value.int y3), (4, Value.int y4), (5, Value.int y5)] Z (by decide) rfl (show decode cX6_pursesBy 30 = .ok (.istore 6, 2) by decide +kernel) ?_
    refine V_aload_n 1 Z rfl rfl (show decode cX6_pursesBy 32 = .ok (.aload_n 0, 1) by decide +kernel) ?_
    refine V_getR 0 48 Z zc5 (by decide) rfl (by decide) rfl (by decide) ⟨rfl, rfl, rfl⟩ w766 (show decode cX6_pursesBy 33 = .ok (.getfield 9, 3) by decide +kernel) ?_
    refine V_aload_n 1 Z rfl rfl (show decode cX6_pursesBy 36 = .ok (.aload_n 0, 1) by decide +kernel) ?_
    refine V_getR 2 50 Z zc5 (by decide) rfl (by decide) rfl (by decide) ⟨rfl, rfl, rfl⟩ w768 (show decode cX6_pursesBy 37 = .ok (.getfield 16, 3) by decide +kernel) ?_
    obtain ⟨M14, e13, h⟩ := zB_bind h
    refine V_callS (rest := []) 2 Z (ok_X6_copyRow  e13) cd_X6_copyRow w999 w1000 rfl (show decode cX6_pursesBy 40 = .ok (.invokestatic 67, 3) by decide +kernel) rfl ?_
    refine V_aload_n 1 Z rfl rfl (show decode cX6_pursesBy 43 = .ok (.aload_n 0, 1) by decide +kernel) ?_
    refine V_iload_n 3 Z rfl rfl (show decode cX6_pursesBy 44 = .ok (.iload_n 2, 1) by decide +kernel) ?_
    obtain ⟨M16, e15, h⟩ := zB_bind h
    refine V_callV (rest := []) 1 Z (ok_X6_days  e15) cd_X6_days zc5 (by decide) rfl w942 w944 w29 rfl (show decode cX6_pursesBy 45 = .ok (.invokevirtual 165, 3) by decide +kernel) rfl ?_
    refine V_aload_n 1 Z rfl rfl (show decode cX6_pursesBy 48 = .ok (.aload_n 0, 1) by decide +kernel) ?_
    obtain ⟨⟨v18, M19⟩, e17, h⟩ := zB_bind h
    refine V_callV (rest := []) 0 Z (ok_X6_putBackPurses  e17) cd_X6_putBackPurses zc5 (by decide) rfl w1103 w1105 w48 rfl (show decode cX6_pursesBy 49 = .ok (.invokevirtual 213, 3) by decide +kernel) rfl ?_
    refine V_istore [(7, Value.int v18), (6, Value.int v11), (0, Value.ref 47), (1, Value.int x1), (2, Value.int x2), (3, Value.int y3), (4, Value.int y4), (5, Value.int y5)] Z (by decide) rfl (show decode cX6_pursesBy 52 = .ok (.istore 7, 2) by decide +kernel) ?_
    refine V_aload_n 2 Z rfl rfl (show decode cX6_pursesBy 54 = .ok (.aload_n 0, 1) by decide +kernel) ?_
    refine V_getR 0 48 Z zc5 (by decide) rfl (by decide) rfl (by decide) ⟨rfl, rfl, rfl⟩ w766 (show decode cX6_pursesBy 55 = .ok (.getfield 9, 3) by decide +kernel) ?_
    refine V_iload 7 Z rfl (show decode cX6_pursesBy 58 = .ok (.iload 5, 2) by decide +kernel) ?_
    refine V_iconst 2 (by decide) Z (show decode cX6_pursesBy 60 = .ok (.iconst 2, 1) by decide +kernel) ?_
    obtain ⟨v21, e20, h⟩ := zB_bind h
    refine V_callS (rest := [_]) 2 Z (ok_X6_place  e20) cd_X6_place w853 w854 rfl (show decode cX6_pursesBy 61 = .ok (.invokestatic 80, 3) by decide +kernel) rfl ?_
    refine V_iload 1 Z rfl (show decode cX6_pursesBy 64 = .ok (.iload 6, 2) by decide +kernel) ?_
    obtain ⟨M22, e23, h⟩ := zB_bind h
    refine V_iast Z e23 (show decode cX6_pursesBy 66 = .ok (.iastore, 1) by decide +kernel) ?_
    refine V_iload 0 Z rfl (show decode cX6_pursesBy 67 = .ok (.iload 7, 2) by decide +kernel) ?_
    refine V_iload 6 Z rfl (show decode cX6_pursesBy 69 = .ok (.iload 4, 2) by decide +kernel) ?_
    refine V_icmp_le 79 Z (by decide) (show decode cX6_pursesBy 71 = .ok (.if_icmp .le 8, 3) by decide +kernel) (fun c24 => ?_) (fun c24 => ?_)
    · have h := zB_pos c24 h
      refine V_iload_n 5 Z rfl rfl (show decode cX6_pursesBy 79 = .ok (.iload_n 3, 1) by decide +kernel) ?_
      refine V_sub [2, 3, 4, 6, 7, 0] rfl ?_
      exact J80 _ _ _ _ _ h
    · have h := zB_neg c24 h
      refine V_iload 7 Z rfl (show decode cX6_pursesBy 74 = .ok (.iload 5, 2) by decide +kernel) ?_
      refine V_goto 80 Z (by decide) (show decode cX6_pursesBy 76 = .ok (.goto 4, 3) by decide +kernel) ?_
      refine V_sub [2, 3, 4, 6, 7, 0] rfl ?_
      exact J80 _ _ _ _ _ h
def f_X6_mendFor (x1 : Int32) (M : zM) : Option (Int32 × zM) :=
  (f_X6_within x1 0 60 M).bind fun (v2 : Int32) =>
  if v2 = 0 then
    (f_X6_finding (-1000001) M).bind fun ((v5, M6) : Int32 × zM) =>
    some ((v5, M6))
  else
    (f_X6_pursesBy 0 x1 M).bind fun ((v8, M9) : Int32 × zM) =>
    (f_X6_orNone v8 M9).bind fun ((v11, M12) : Int32 × zM) =>
    some ((v11, M12))
theorem cd_X6_mendFor : zCd yX6_mendFor cX6_mendFor 2 (some .int) 1 := ⟨w1098, w69, ⟨by decide, by decide⟩, by decide +kernel⟩
set_option maxHeartbeats 4000000 in
set_option maxRecDepth 20000 in
theorem ok_X6_mendFor {x1 : Int32} {M : zM} {y : Int32 × zM}  (h : f_X6_mendFor x1 M = some y) : zRuns yX6_mendFor cX6_mendFor 2 (some .int) 8 183 [.ref 47, .int x1] M (some (.int y.1)) y.2 := by
  refine zRuns_of (by decide +kernel) (Nat.le_of_ble_eq_true rfl) (fun E Z hE => ?_)
  have h := zB_top h
  change VV E 2 0 [(0, Value.ref 47), (1, Value.int x1)] [] M
  refine V_iload_n 1 Z rfl rfl (show decode cX6_mendFor 0 = .ok (.iload_n 1, 1) by decide +kernel) ?_
  refine V_iconst 0 (by decide) Z (show decode cX6_mendFor 1 = .ok (.iconst 0, 1) by decide +kernel) ?_
  refine V_bipush 60 (by decide) Z (show decode cX6_mendFor 2 = .ok (.bipush 60, 2) by decide +kernel) ?_
  obtain ⟨v2, e1, h⟩ := zB_bind h
  refine V_callS (rest := []) 3 Z (ok_X6_within  e1) cd_X6_within w840 w841 rfl (show decode cX6_mendFor 4 = .ok (.invokestatic 76, 3) by decide +kernel) rfl ?_
  refine V_if_eq 23 Z (by decide) (show decode cX6_mendFor 7 = .ok (.ifCond .eq 16, 3) by decide +kernel) (fun c3 => ?_) (fun c3 => ?_)
  · have h := zB_pos c3 h
    refine V_aload_n 0 Z rfl rfl (show decode cX6_mendFor 23 = .ok (.aload_n 0, 1) by decide +kernel) ?_
    refine V_ldc (-1000001) Z w843 (show decode cX6_mendFor 24 = .ok (.ldc 66, 2) by decide +kernel) ?_
    obtain ⟨⟨v5, M6⟩, e4, h⟩ := zB_bind h
    refine V_callV (rest := []) 1 Z (ok_X6_finding  e4) cd_X6_finding zc5 (by decide) rfl w844 w846 w17 rfl (show decode cX6_mendFor 26 = .ok (.invokevirtual 72, 3) by decide +kernel) rfl ?_
    exact V_iretM Z hE h (show decode cX6_mendFor 29 = .ok (.ireturn, 1) by decide +kernel)
  · have h := zB_neg c3 h
    refine V_aload_n 0 Z rfl rfl (show decode cX6_mendFor 10 = .ok (.aload_n 0, 1) by decide +kernel) ?_
    refine V_aload_n 0 Z rfl rfl (show decode cX6_mendFor 11 = .ok (.aload_n 0, 1) by decide +kernel) ?_
    refine V_iconst 0 (by decide) Z (show decode cX6_mendFor 12 = .ok (.iconst 0, 1) by decide +kernel) ?_
    refine V_iload_n 1 Z rfl rfl (show decode cX6_mendFor 13 = .ok (.iload_n 1, 1) by decide +kernel) ?_
    obtain ⟨⟨v8, M9⟩, e7, h⟩ := zB_bind h
    refine V_callV (rest := [_]) 2 Z (ok_X6_pursesBy  e7) cd_X6_pursesBy zc5 (by decide) rfl w1099 w1101 w47 rfl (show decode cX6_mendFor 14 = .ok (.invokevirtual 216, 3) by decide +kernel) rfl ?_
    obtain ⟨⟨v11, M12⟩, e10, h⟩ := zB_bind h
    refine V_callV (rest := []) 1 Z (ok_X6_orNone  e10) cd_X6_orNone zc5 (by decide) rfl w1023 w1025 w41 rfl (show decode cX6_mendFor 17 = .ok (.invokevirtual 187, 3) by decide +kernel) rfl ?_
    refine V_goto 29 Z (by decide) (show decode cX6_mendFor 20 = .ok (.goto 9, 3) by decide +kernel) ?_
    exact V_iretM Z hE h (show decode cX6_mendFor 29 = .ok (.ireturn, 1) by decide +kernel)
def f_X6_without (x1 : Int32) (M : zM) : Option (Int32 × zM) :=
  (f_X6_within x1 0 60 M).bind fun (v2 : Int32) =>
  if v2 = 0 then
    (f_X6_finding (-1000001) M).bind fun ((v5, M6) : Int32 × zM) =>
    some ((v5, M6))
  else
    (f_X6_pursesBy 99 x1 M).bind fun ((v8, M9) : Int32 × zM) =>
    (f_X6_orNone v8 M9).bind fun ((v11, M12) : Int32 × zM) =>
    some ((v11, M12))
theorem cd_X6_without : zCd yX6_without cX6_without 2 (some .int) 1 := ⟨w1110, w69, ⟨by decide, by decide⟩, by decide +kernel⟩
set_option maxHeartbeats 4000000 in
set_option maxRecDepth 20000 in
theorem ok_X6_without {x1 : Int32} {M : zM} {y : Int32 × zM}  (h : f_X6_without x1 M = some y) : zRuns yX6_without cX6_without 2 (some .int) 8 183 [.ref 47, .int x1] M (some (.int y.1)) y.2 := by
  refine zRuns_of (by decide +kernel) (Nat.le_of_ble_eq_true rfl) (fun E Z hE => ?_)
  have h := zB_top h
  change VV E 2 0 [(0, Value.ref 47), (1, Value.int x1)] [] M
  refine V_iload_n 1 Z rfl rfl (show decode cX6_without 0 = .ok (.iload_n 1, 1) by decide +kernel) ?_
  refine V_iconst 0 (by decide) Z (show decode cX6_without 1 = .ok (.iconst 0, 1) by decide +kernel) ?_
  refine V_bipush 60 (by decide) Z (show decode cX6_without 2 = .ok (.bipush 60, 2) by decide +kernel) ?_
  obtain ⟨v2, e1, h⟩ := zB_bind h
  refine V_callS (rest := []) 3 Z (ok_X6_within  e1) cd_X6_within w840 w841 rfl (show decode cX6_without 4 = .ok (.invokestatic 76, 3) by decide +kernel) rfl ?_
  refine V_if_eq 24 Z (by decide) (show decode cX6_without 7 = .ok (.ifCond .eq 17, 3) by decide +kernel) (fun c3 => ?_) (fun c3 => ?_)
  · have h := zB_pos c3 h
    refine V_aload_n 0 Z rfl rfl (show decode cX6_without 24 = .ok (.aload_n 0, 1) by decide +kernel) ?_
    refine V_ldc (-1000001) Z w843 (show decode cX6_without 25 = .ok (.ldc 66, 2) by decide +kernel) ?_
    obtain ⟨⟨v5, M6⟩, e4, h⟩ := zB_bind h
    refine V_callV (rest := []) 1 Z (ok_X6_finding  e4) cd_X6_finding zc5 (by decide) rfl w844 w846 w17 rfl (show decode cX6_without 27 = .ok (.invokevirtual 72, 3) by decide +kernel) rfl ?_
    exact V_iretM Z hE h (show decode cX6_without 30 = .ok (.ireturn, 1) by decide +kernel)
  · have h := zB_neg c3 h
    refine V_aload_n 0 Z rfl rfl (show decode cX6_without 10 = .ok (.aload_n 0, 1) by decide +kernel) ?_
    refine V_aload_n 0 Z rfl rfl (show decode cX6_without 11 = .ok (.aload_n 0, 1) by decide +kernel) ?_
    refine V_bipush 99 (by decide) Z (show decode cX6_without 12 = .ok (.bipush 99, 2) by decide +kernel) ?_
    refine V_iload_n 1 Z rfl rfl (show decode cX6_without 14 = .ok (.iload_n 1, 1) by decide +kernel) ?_
    obtain ⟨⟨v8, M9⟩, e7, h⟩ := zB_bind h
    refine V_callV (rest := [_]) 2 Z (ok_X6_pursesBy  e7) cd_X6_pursesBy zc5 (by decide) rfl w1099 w1101 w47 rfl (show decode cX6_without 15 = .ok (.invokevirtual 216, 3) by decide +kernel) rfl ?_
    obtain ⟨⟨v11, M12⟩, e10, h⟩ := zB_bind h
    refine V_callV (rest := []) 1 Z (ok_X6_orNone  e10) cd_X6_orNone zc5 (by decide) rfl w1023 w1025 w41 rfl (show decode cX6_without 18 = .ok (.invokevirtual 187, 3) by decide +kernel) rfl ?_
    refine V_goto 30 Z (by decide) (show decode cX6_without 21 = .ok (.goto 9, 3) by decide +kernel) ?_
    exact V_iretM Z hE h (show decode cX6_without 30 = .ok (.ireturn, 1) by decide +kernel)
def f_X6_isSheet (x0 : Int32) (M : zM) : Option (Int32) :=
  (f_X6_within x0 0 3 M).bind fun (v2 : Int32) =>
  (zbo v2).bind fun (b3 : Int32) =>
  some (b3)
theorem cd_X6_isSheet : zCd yX6_isSheet cX6_isSheet 1 (some .boolean) 1 := ⟨w1121, w69, ⟨by decide, by decide⟩, by decide +kernel⟩
set_option maxHeartbeats 4000000 in
set_option maxRecDepth 20000 in
theorem ok_X6_isSheet {x0 : Int32} {M : zM} {y : Int32}  (h : f_X6_isSheet x0 M = some y) : zRuns yX6_isSheet cX6_isSheet 1 (some .boolean) 1 22 [.int x0] M (some (.int y)) M := by
  refine zRuns_of (by decide +kernel) (Nat.le_of_ble_eq_true rfl) (fun E Z hE => ?_)
  have h := zB_top h
  change VV E 1 0 [(0, Value.int x0)] [] M
  refine V_iload_n 0 Z rfl rfl (show decode cX6_isSheet 0 = .ok (.iload_n 0, 1) by decide +kernel) ?_
  refine V_iconst 0 (by decide) Z (show decode cX6_isSheet 1 = .ok (.iconst 0, 1) by decide +kernel) ?_
  refine V_iconst 3 (by decide) Z (show decode cX6_isSheet 2 = .ok (.iconst 3, 1) by decide +kernel) ?_
  obtain ⟨v2, e1, h⟩ := zB_bind h
  refine V_callS (rest := []) 3 Z (ok_X6_within  e1) cd_X6_within w840 w841 rfl (show decode cX6_isSheet 3 = .ok (.invokestatic 76, 3) by decide +kernel) rfl ?_
  obtain ⟨b3, e4, h⟩ := zB_bind h
  refine V_nm (zbo_v e4).1 ?_
  exact V_zretP Z hE h (zbo_v e4).2 (show decode cX6_isSheet 6 = .ok (.ireturn, 1) by decide +kernel)
def f_X6_lacks (x1 : Int32) (M : zM) : Option (Int32) :=
  (f_X6_isSheet x1 M).bind fun (v2 : Int32) =>
  if v2 = 0 then
    some (((-1000001) : Int32))
  else
    (zrd M 57 x1).bind fun (v4 : Int32) =>
    if v4 = 0 then
      some (((-1000006) : Int32))
    else
      some ((0 : Int32))
theorem cd_X6_lacks : zCd yX6_lacks cX6_lacks 2 (some .int) 1 := ⟨w1118, w69, ⟨by decide, by decide⟩, by decide +kernel⟩
set_option maxHeartbeats 4000000 in
set_option maxRecDepth 20000 in
theorem ok_X6_lacks {x1 : Int32} {M : zM} {y : Int32}  (h : f_X6_lacks x1 M = some y) : zRuns yX6_lacks cX6_lacks 2 (some .int) 2 42 [.ref 47, .int x1] M (some (.int y)) M := by
  refine zRuns_of (by decide +kernel) (Nat.le_of_ble_eq_true rfl) (fun E Z hE => ?_)
  have h := zB_top h
  change VV E 2 0 [(0, Value.ref 47), (1, Value.int x1)] [] M
  refine V_iload_n 1 Z rfl rfl (show decode cX6_lacks 0 = .ok (.iload_n 1, 1) by decide +kernel) ?_
  obtain ⟨v2, e1, h⟩ := zB_bind h
  refine V_callS (rest := []) 1 Z (ok_X6_isSheet  e1) cd_X6_isSheet w1119 w1120 rfl (show decode cX6_lacks 1 = .ok (.invokestatic 219, 3) by decide +kernel) rfl ?_
  refine V_if_ne 12 Z (by decide) (show decode cX6_lacks 4 = .ok (.ifCond .ne 8, 3) by decide +kernel) (fun c3 => ?_) (fun c3 => ?_)
  · have h := zB_neg c3 h
    refine V_aload_n 0 Z rfl rfl (show decode cX6_lacks 12 = .ok (.aload_n 0, 1) by decide +kernel) ?_
    refine V_getR 18 57 Z zc5 (by decide) rfl (by decide) rfl (by decide) ⟨rfl, rfl, rfl⟩ w784 (show decode cX6_lacks 13 = .ok (.getfield 54, 3) by decide +kernel) ?_
    refine V_iload_n 1 Z rfl rfl (show decode cX6_lacks 16 = .ok (.iload_n 1, 1) by decide +kernel) ?_
    obtain ⟨v4, e5, h⟩ := zB_bind h
    refine V_iald Z e5 (show decode cX6_lacks 17 = .ok (.iaload, 1) by decide +kernel) ?_
    refine V_if_ne 26 Z (by decide) (show decode cX6_lacks 18 = .ok (.ifCond .ne 8, 3) by decide +kernel) (fun c6 => ?_) (fun c6 => ?_)
    · have h := zB_neg c6 h
      refine V_iconst 0 (by decide) Z (show decode cX6_lacks 26 = .ok (.iconst 0, 1) by decide +kernel) ?_
      exact V_iretP Z hE h (show decode cX6_lacks 27 = .ok (.ireturn, 1) by decide +kernel)
    · have h := zB_pos c6 h
      refine V_ldc (-1000006) Z w1122 (show decode cX6_lacks 21 = .ok (.ldc 222, 2) by decide +kernel) ?_
      refine V_goto 27 Z (by decide) (show decode cX6_lacks 23 = .ok (.goto 4, 3) by decide +kernel) ?_
      exact V_iretP Z hE h (show decode cX6_lacks 27 = .ok (.ireturn, 1) by decide +kernel)
  · have h := zB_pos c3 h
    refine V_ldc (-1000001) Z w843 (show decode cX6_lacks 7 = .ok (.ldc 66, 2) by decide +kernel) ?_
    refine V_goto 27 Z (by decide) (show decode cX6_lacks 9 = .ok (.goto 18, 3) by decide +kernel) ?_
    exact V_iretP Z hE h (show decode cX6_lacks 27 = .ok (.ireturn, 1) by decide +kernel)
def f_X6_wentSo_j81 (y3 : Int32) (M : zM) : Option (Int32 × zM) :=
  (f_X6_copyRow 50 48 M).bind fun (M2 : zM) =>
  (zbo y3).bind fun (b3 : Int32) =>
  some ((b3, M2))
def f_X6_wentSo_j70 (y1 : Int32) (y2 : Int32) (y4 : Int32) (s0 : Int32) (M : zM) : Option ((Int32 × Int32 × zM) ⊕ (Int32 × zM)) :=
  (f_X6_day  M).bind fun (M8 : zM) =>
  (some (y4 + 1)).bind fun (n9 : Int32) =>
  some (.inl ((s0, n9, M8)))
def f_X6_wentSo_j65 (y1 : Int32) (y2 : Int32) (y4 : Int32) (M : zM) : Option ((Int32 × Int32 × zM) ⊕ (Int32 × zM)) :=
  f_X6_wentSo_j70 y1 y2 y4 1 M
def f_X6_wentSo_l16 (y1 : Int32) (y2 : Int32) : Int32 × Int32 × zM → Option ((Int32 × Int32 × zM) ⊕ (Int32 × zM))
  | (y3, y4, M) =>
    (zrd M 58 y1).bind fun (v11 : Int32) =>
    if v11 ≤ y4 then
      (f_X6_wentSo_j81 y3 M).bind fun z => some (Sum.inr z)
    else
      if y3 = 0 then
        (f_X6_wentSo_j81 y3 M).bind fun z => some (Sum.inr z)
      else
        (zrd M 59 ((40 * y1) + y4)).bind fun (v15 : Int32) =>
        if v15 = (-1) then
          f_X6_wentSo_j65 y1 y2 y4 M
        else
          (zrd M 48 (55 + y2)).bind fun (v18 : Int32) =>
          if v15 = v18 then
            f_X6_wentSo_j65 y1 y2 y4 M
          else
            f_X6_wentSo_j70 y1 y2 y4 0 M
def f_X6_wentSo (x1 : Int32) (x2 : Int32) (M : zM) : Option (Int32 × zM) :=
  (f_X6_copyRow 48 50 M).bind fun (M6 : zM) =>
  zIter (f_X6_wentSo_l16 x1 x2) 1000 (1, 0, M6)
theorem cd_X6_wentSo : zCd yX6_wentSo cX6_wentSo 6 (some .boolean) 2 := ⟨w1130, w69, ⟨by decide, by decide⟩, by decide +kernel⟩
set_option maxHeartbeats 4000000 in
set_option maxRecDepth 20000 in
theorem ok_X6_wentSo {x1 : Int32} {x2 : Int32} {M : zM} {y : Int32 × zM}  (h : f_X6_wentSo x1 x2 M = some y) : zRuns yX6_wentSo cX6_wentSo 6 (some .boolean) 6 134 [.ref 47, .int x1, .int x2] M (some (.int y.1)) y.2 := by
  refine zRuns_of (by decide +kernel) (Nat.le_of_ble_eq_true rfl) (fun E Z hE => ?_)
  have h := zB_top h
  change VV E 6 0 [(0, Value.ref 47), (1, Value.int x1), (2, Value.int x2)] [] M
  have J81 : ∀ (y3 : Int32) (M : zM), (f_X6_wentSo_j81 y3 M).bind some = some y → VV E 6 81 [(0, Value.ref 47), (3, Value.int y3)] [] M := by
    intro y3 M h
    refine V_aload_n 0 Z rfl rfl (show decode cX6_wentSo 81 = .ok (.aload_n 0, 1) by decide +kernel) ?_
    refine V_getR 2 50 Z zc5 (by decide) rfl (by decide) rfl (by decide) ⟨rfl, rfl, rfl⟩ w768 (show decode cX6_wentSo 82 = .ok (.getfield 16, 3) by decide +kernel) ?_
    refine V_aload_n 0 Z rfl rfl (show decode cX6_wentSo 85 = .ok (.aload_n 0, 1) by decide +kernel) ?_
    refine V_getR 0 48 Z zc5 (by decide) rfl (by decide) rfl (by decide) ⟨rfl, rfl, rfl⟩ w766 (show decode cX6_wentSo 86 = .ok (.getfield 9, 3) by decide +kernel) ?_
    obtain ⟨M2, e1, h⟩ := zB_bind h
    refine V_callS (rest := []) 2 Z (ok_X6_copyRow  e1) cd_X6_copyRow w999 w1000 rfl (show decode cX6_wentSo 89 = .ok (.invokestatic 67, 3) by decide +kernel) rfl ?_
    refine V_iload_n 1 Z rfl rfl (show decode cX6_wentSo 92 = .ok (.iload_n 3, 1) by decide +kernel) ?_
    obtain ⟨b3, e4, h⟩ := zB_bind h
    refine V_nm (zbo_v e4).1 ?_
    exact V_zretM Z hE h (zbo_v e4).2 (show decode cX6_wentSo 93 = .ok (.ireturn, 1) by decide +kernel)
  refine V_aload_n 0 Z rfl rfl (show decode cX6_wentSo 0 = .ok (.aload_n 0, 1) by decide +kernel) ?_
  refine V_getR 0 48 Z zc5 (by decide) rfl (by decide) rfl (by decide) ⟨rfl, rfl, rfl⟩ w766 (show decode cX6_wentSo 1 = .ok (.getfield 9, 3) by decide +kernel) ?_
  refine V_aload_n 0 Z rfl rfl (show decode cX6_wentSo 4 = .ok (.aload_n 0, 1) by decide +kernel) ?_
  refine V_getR 2 50 Z zc5 (by decide) rfl (by decide) rfl (by decide) ⟨rfl, rfl, rfl⟩ w768 (show decode cX6_wentSo 5 = .ok (.getfield 16, 3) by decide +kernel) ?_
  obtain ⟨M6, e5, h⟩ := zB_bind h
  refine V_callS (rest := []) 2 Z (ok_X6_copyRow  e5) cd_X6_copyRow w999 w1000 rfl (show decode cX6_wentSo 8 = .ok (.invokestatic 67, 3) by decide +kernel) rfl ?_
  refine V_iconst 1 (by decide) Z (show decode cX6_wentSo 11 = .ok (.iconst 1, 1) by decide +kernel) ?_
  refine V_istore_n [(3, Value.int 1), (0, Value.ref 47), (1, Value.int x1), (2, Value.int x2)] Z (by decide) rfl rfl (show decode cX6_wentSo 12 = .ok (.istore_n 3, 1) by decide +kernel) ?_
  refine V_iconst 0 (by decide) Z (show decode cX6_wentSo 13 = .ok (.iconst 0, 1) by decide +kernel) ?_
  refine V_istore [(4, Value.int 0), (3, Value.int 1), (0, Value.ref 47), (1, Value.int x1), (2, Value.int x2)] Z (by decide) rfl (show decode cX6_wentSo 14 = .ok (.istore 4, 2) by decide +kernel) ?_
  refine V_sub [2, 3, 4, 1, 0] rfl ?_
  refine zIter_loop' (K := some) (fun s : Int32 × Int32 × zM => VV E 6 16 [(0, Value.ref 47), (1, Value.int x1), (2, Value.int x2), (3, Value.int s.1), (4, Value.int s.2.1)] [] s.2.2) (fun K1 s c1_i c1_r h => ?_) _ _ h
  obtain ⟨y3, y4, M⟩ := s
  change VV E 6 16 [(0, Value.ref 47), (1, Value.int x1), (2, Value.int x2), (3, Value.int y3), (4, Value.int y4)] [] M
  rw [f_X6_wentSo_l16] at h
  have J70 : ∀ (y4 : Int32) (s0 : Int32) (M : zM), (f_X6_wentSo_j70 x1 x2 y4 s0 M).bind K1 = some y → VV E 6 70 [(0, Value.ref 47), (1, Value.int x1), (2, Value.int x2), (4, Value.int y4)] [Value.int s0] M := by
    intro y4 s0 M h
    refine V_istore_n [(3, Value.int s0), (0, Value.ref 47), (1, Value.int x1), (2, Value.int x2), (4, Value.int y4)] Z (by decide) rfl rfl (show decode cX6_wentSo 70 = .ok (.istore_n 3, 1) by decide +kernel) ?_
    refine V_aload_n 1 Z rfl rfl (show decode cX6_wentSo 71 = .ok (.aload_n 0, 1) by decide +kernel) ?_
    obtain ⟨M8, e7, h⟩ := zB_bind h
    refine V_callV (rest := []) 0 Z (ok_X6_day  e7) cd_X6_day zc5 (by decide) rfl w946 w948 w30 rfl (show decode cX6_wentSo 72 = .ok (.invokevirtual 161, 3) by decide +kernel) rfl ?_
    obtain ⟨n9, e10, h⟩ := zB_let h
    refine V_iinck 1 1 4 n9 [(4, Value.int n9), (3, Value.int s0), (0, Value.ref 47), (1, Value.int x1), (2, Value.int x2)] Z (by decide) (by decide) rfl e10 rfl (show decode cX6_wentSo 75 = .ok (.iinc 4 1, 3) by decide +kernel) ?_
    refine V_goto 16 Z (by decide) (show decode cX6_wentSo 78 = .ok (.goto (-62), 3) by decide +kernel) ?_
    refine V_sub [2, 3, 4, 1, 0] rfl ?_
    exact c1_i _ h
  have J65 : ∀ (y4 : Int32) (M : zM), (f_X6_wentSo_j65 x1 x2 y4 M).bind K1 = some y → VV E 6 65 [(0, Value.ref 47), (1, Value.int x1), (2, Value.int x2), (4, Value.int y4)] [] M := by
    intro y4 M h
    refine V_iconst 1 (by decide) Z (show decode cX6_wentSo 65 = .ok (.iconst 1, 1) by decide +kernel) ?_
    refine V_goto 70 Z (by decide) (show decode cX6_wentSo 66 = .ok (.goto 4, 3) by decide +kernel) ?_
    exact J70 _ _ _ h
  refine V_iload 4 Z rfl (show decode cX6_wentSo 16 = .ok (.iload 4, 2) by decide +kernel) ?_
  refine V_aload_n 0 Z rfl rfl (show decode cX6_wentSo 18 = .ok (.aload_n 0, 1) by decide +kernel) ?_
  refine V_getR 19 58 Z zc5 (by decide) rfl (by decide) rfl (by decide) ⟨rfl, rfl, rfl⟩ w785 (show decode cX6_wentSo 19 = .ok (.getfield 57, 3) by decide +kernel) ?_
  refine V_iload_n 1 Z rfl rfl (show decode cX6_wentSo 22 = .ok (.iload_n 1, 1) by decide +kernel) ?_
  obtain ⟨v11, e12, h⟩ := zB_bind h
  refine V_iald Z e12 (show decode cX6_wentSo 23 = .ok (.iaload, 1) by decide +kernel) ?_
  refine V_icmp_ge 81 Z (by decide) (show decode cX6_wentSo 24 = .ok (.if_icmp .ge 57, 3) by decide +kernel) (fun c13 => ?_) (fun c13 => ?_)
  · have h := zB_pos c13 h
    refine V_sub [0, 3] rfl ?_
    have h := zB_lift c1_r h
    exact J81 _ _ h
  · have h := zB_neg c13 h
    refine V_iload_n 3 Z rfl rfl (show decode cX6_wentSo 27 = .ok (.iload_n 3, 1) by decide +kernel) ?_
    refine V_if_eq 81 Z (by decide) (show decode cX6_wentSo 28 = .ok (.ifCond .eq 53, 3) by decide +kernel) (fun c14 => ?_) (fun c14 => ?_)
    · have h := zB_pos c14 h
      refine V_sub [0, 3] rfl ?_
      have h := zB_lift c1_r h
      exact J81 _ _ h
    · have h := zB_neg c14 h
      refine V_aload_n 0 Z rfl rfl (show decode cX6_wentSo 31 = .ok (.aload_n 0, 1) by decide +kernel) ?_
      refine V_getR 20 59 Z zc5 (by decide) rfl (by decide) rfl (by decide) ⟨rfl, rfl, rfl⟩ w786 (show decode cX6_wentSo 32 = .ok (.getfield 60, 3) by decide +kernel) ?_
      refine V_bipush 40 (by decide) Z (show decode cX6_wentSo 35 = .ok (.bipush 40, 2) by decide +kernel) ?_
      refine V_iload_n 1 Z rfl rfl (show decode cX6_wentSo 37 = .ok (.iload_n 1, 1) by decide +kernel) ?_
      refine V_imul Z (show decode cX6_wentSo 38 = .ok (.imul, 1) by decide +kernel) ?_
      refine V_iload 4 Z rfl (show decode cX6_wentSo 39 = .ok (.iload 4, 2) by decide +kernel) ?_
      refine V_iadd Z (show decode cX6_wentSo 41 = .ok (.iadd, 1) by decide +kernel) ?_
      obtain ⟨v15, e16, h⟩ := zB_bind h
      refine V_iald Z e16 (show decode cX6_wentSo 42 = .ok (.iaload, 1) by decide +kernel) ?_
      refine V_istore [(5, Value.int v15), (0, Value.ref 47), (1, Value.int x1), (2, Value.int x2), (3, Value.int y3), (4, Value.int y4)] Z (by decide) rfl (show decode cX6_wentSo 43 = .ok (.istore 5, 2) by decide +kernel) ?_
      refine V_iload 0 Z rfl (show decode cX6_wentSo 45 = .ok (.iload 5, 2) by decide +kernel) ?_
      refine V_iconst (-1) (by decide) Z (show decode cX6_wentSo 47 = .ok (.iconst (-1), 1) by decide +kernel) ?_
      refine V_icmp_eq 65 Z (by decide) (show decode cX6_wentSo 48 = .ok (.if_icmp .eq 17, 3) by decide +kernel) (fun c17 => ?_) (fun c17 => ?_)
      · have h := zB_pos c17 h
        refine V_sub [1, 2, 3, 5] rfl ?_
        exact J65 _ _ h
      · have h := zB_neg c17 h
        refine V_iload 0 Z rfl (show decode cX6_wentSo 51 = .ok (.iload 5, 2) by decide +kernel) ?_
        refine V_aload_n 1 Z rfl rfl (show decode cX6_wentSo 53 = .ok (.aload_n 0, 1) by decide +kernel) ?_
        refine V_getR 0 48 Z zc5 (by decide) rfl (by decide) rfl (by decide) ⟨rfl, rfl, rfl⟩ w766 (show decode cX6_wentSo 54 = .ok (.getfield 9, 3) by decide +kernel) ?_
        refine V_bipush 55 (by decide) Z (show decode cX6_wentSo 57 = .ok (.bipush 55, 2) by decide +kernel) ?_
        refine V_iload_n 3 Z rfl rfl (show decode cX6_wentSo 59 = .ok (.iload_n 2, 1) by decide +kernel) ?_
        refine V_iadd Z (show decode cX6_wentSo 60 = .ok (.iadd, 1) by decide +kernel) ?_
        obtain ⟨v18, e19, h⟩ := zB_bind h
        refine V_iald Z e19 (show decode cX6_wentSo 61 = .ok (.iaload, 1) by decide +kernel) ?_
        refine V_icmp_ne 69 Z (by decide) (show decode cX6_wentSo 62 = .ok (.if_icmp .ne 7, 3) by decide +kernel) (fun c20 => ?_) (fun c20 => ?_)
        · have h := zB_neg c20 h
          refine V_iconst 0 (by decide) Z (show decode cX6_wentSo 69 = .ok (.iconst 0, 1) by decide +kernel) ?_
          refine V_sub [1, 2, 3, 5] rfl ?_
          exact J70 _ _ _ h
        · have h := zB_pos c20 h
          refine V_sub [1, 2, 3, 5] rfl ?_
          exact J65 _ _ h
def f_X6_fitting_j68 (y2 : Int32) (y3 : Int32) (y4 : Int32) (M : zM) : Option (Int32 × zM) :=
  (zwr M 48 (61 + y2) y3).bind fun (M1 : zM) =>
  some (((y4 >>> (1 &&& 31)), M1))
def f_X6_fitting_l16 (y1 : Int32) (y2 : Int32) (y3 : Int32) : Int32 × Int32 × zM → Option ((Int32 × Int32 × zM) ⊕ (Int32 × zM))
  | (y4, y5, M) =>
    (zrd M 48 1).bind fun (v5 : Int32) =>
    if v5 ≤ y5 then
      (f_X6_fitting_j68 y2 y3 y4 M).bind fun z => some (Sum.inr z)
    else
      (zwr M 48 (61 + y2) y5).bind fun (M8 : zM) =>
      (f_X6_wentSo y1 y2 M8).bind fun ((v11, M12) : Int32 × zM) =>
      if v11 = 0 then
        (some ((y4 ||| 0))).bind fun (n14 : Int32) =>
        (some (y5 + 1)).bind fun (n16 : Int32) =>
        some (.inl ((n14, n16, M12)))
      else
        (some ((y4 ||| (2 <<< ((y5 + 1) &&& 31))))).bind fun (n18 : Int32) =>
        (some (y5 + 1)).bind fun (n20 : Int32) =>
        some (.inl ((n18, n20, M12)))
def f_X6_fitting (x1 : Int32) (x2 : Int32) (M : zM) : Option (Int32 × zM) :=
  (zrd M 48 (61 + x2)).bind fun (v3 : Int32) =>
  zIter (f_X6_fitting_l16 x1 x2 v3) 1000 (0, (-1), M)
theorem cd_X6_fitting : zCd yX6_fitting cX6_fitting 6 (some .int) 2 := ⟨w1126, w69, ⟨by decide, by decide⟩, by decide +kernel⟩
set_option maxHeartbeats 4000000 in
set_option maxRecDepth 20000 in
theorem ok_X6_fitting {x1 : Int32} {x2 : Int32} {M : zM} {y : Int32 × zM}  (h : f_X6_fitting x1 x2 M = some y) : zRuns yX6_fitting cX6_fitting 6 (some .int) 7 159 [.ref 47, .int x1, .int x2] M (some (.int y.1)) y.2 := by
  refine zRuns_of (by decide +kernel) (Nat.le_of_ble_eq_true rfl) (fun E Z hE => ?_)
  have h := zB_top h
  change VV E 6 0 [(0, Value.ref 47), (1, Value.int x1), (2, Value.int x2)] [] M
  have J68 : ∀ (y2 : Int32) (y3 : Int32) (y4 : Int32) (M : zM), (f_X6_fitting_j68 y2 y3 y4 M).bind some = some y → VV E 6 68 [(0, Value.ref 47), (2, Value.int y2), (3, Value.int y3), (4, Value.int y4)] [] M := by
    intro y2 y3 y4 M h
    refine V_aload_n 0 Z rfl rfl (show decode cX6_fitting 68 = .ok (.aload_n 0, 1) by decide +kernel) ?_
    refine V_getR 0 48 Z zc5 (by decide) rfl (by decide) rfl (by decide) ⟨rfl, rfl, rfl⟩ w766 (show decode cX6_fitting 69 = .ok (.getfield 9, 3) by decide +kernel) ?_
    refine V_bipush 61 (by decide) Z (show decode cX6_fitting 72 = .ok (.bipush 61, 2) by decide +kernel) ?_
    refine V_iload_n 1 Z rfl rfl (show decode cX6_fitting 74 = .ok (.iload_n 2, 1) by decide +kernel) ?_
    refine V_iadd Z (show decode cX6_fitting 75 = .ok (.iadd, 1) by decide +kernel) ?_
    refine V_iload_n 2 Z rfl rfl (show decode cX6_fitting 76 = .ok (.iload_n 3, 1) by decide +kernel) ?_
    obtain ⟨M1, e2, h⟩ := zB_bind h
    refine V_iast Z e2 (show decode cX6_fitting 77 = .ok (.iastore, 1) by decide +kernel) ?_
    refine V_iload 3 Z rfl (show decode cX6_fitting 78 = .ok (.iload 4, 2) by decide +kernel) ?_
    refine V_iconst 1 (by decide) Z (show decode cX6_fitting 80 = .ok (.iconst 1, 1) by decide +kernel) ?_
    refine V_ishr Z (show decode cX6_fitting 81 = .ok (.ishr, 1) by decide +kernel) ?_
    exact V_iretM Z hE h (show decode cX6_fitting 82 = .ok (.ireturn, 1) by decide +kernel)
  refine V_aload_n 0 Z rfl rfl (show decode cX6_fitting 0 = .ok (.aload_n 0, 1) by decide +kernel) ?_
  refine V_getR 0 48 Z zc5 (by decide) rfl (by decide) rfl (by decide) ⟨rfl, rfl, rfl⟩ w766 (show decode cX6_fitting 1 = .ok (.getfield 9, 3) by decide +kernel) ?_
  refine V_bipush 61 (by decide) Z (show decode cX6_fitting 4 = .ok (.bipush 61, 2) by decide +kernel) ?_
  refine V_iload_n 2 Z rfl rfl (show decode cX6_fitting 6 = .ok (.iload_n 2, 1) by decide +kernel) ?_
  refine V_iadd Z (show decode cX6_fitting 7 = .ok (.iadd, 1) by decide +kernel) ?_
  obtain ⟨v3, e4, h⟩ := zB_bind h
  refine V_iald Z e4 (show decode cX6_fitting 8 = .ok (.iaload, 1) by decide +kernel) ?_
  refine V_istore_n [(3, Value.int v3), (0, Value.ref 47), (1, Value.int x1), (2, Value.int x2)] Z (by decide) rfl rfl (show decode cX6_fitting 9 = .ok (.istore_n 3, 1) by decide +kernel) ?_
  refine V_iconst 0 (by decide) Z (show decode cX6_fitting 10 = .ok (.iconst 0, 1) by decide +kernel) ?_
  refine V_istore [(4, Value.int 0), (3, Value.int v3), (0, Value.ref 47), (1, Value.int x1), (2, Value.int x2)] Z (by decide) rfl (show decode cX6_fitting 11 = .ok (.istore 4, 2) by decide +kernel) ?_
  refine V_iconst (-1) (by decide) Z (show decode cX6_fitting 13 = .ok (.iconst (-1), 1) by decide +kernel) ?_
  refine V_istore [(5, Value.int (-1)), (4, Value.int 0), (3, Value.int v3), (0, Value.ref 47), (1, Value.int x1), (2, Value.int x2)] Z (by decide) rfl (show decode cX6_fitting 14 = .ok (.istore 5, 2) by decide +kernel) ?_
  refine V_sub [3, 4, 5, 2, 1, 0] rfl ?_
  refine zIter_loop' (K := some) (fun s : Int32 × Int32 × zM => VV E 6 16 [(0, Value.ref 47), (1, Value.int x1), (2, Value.int x2), (3, Value.int v3), (4, Value.int s.1), (5, Value.int s.2.1)] [] s.2.2) (fun K1 s c1_i c1_r h => ?_) _ _ h
  obtain ⟨y4, y5, M⟩ := s
  change VV E 6 16 [(0, Value.ref 47), (1, Value.int x1), (2, Value.int x2), (3, Value.int v3), (4, Value.int y4), (5, Value.int y5)] [] M
  rw [f_X6_fitting_l16] at h
  refine V_iload 5 Z rfl (show decode cX6_fitting 16 = .ok (.iload 5, 2) by decide +kernel) ?_
  refine V_aload_n 0 Z rfl rfl (show decode cX6_fitting 18 = .ok (.aload_n 0, 1) by decide +kernel) ?_
  refine V_getR 0 48 Z zc5 (by decide) rfl (by decide) rfl (by decide) ⟨rfl, rfl, rfl⟩ w766 (show decode cX6_fitting 19 = .ok (.getfield 9, 3) by decide +kernel) ?_
  refine V_iconst 1 (by decide) Z (show decode cX6_fitting 22 = .ok (.iconst 1, 1) by decide +kernel) ?_
  obtain ⟨v5, e6, h⟩ := zB_bind h
  refine V_iald Z e6 (show decode cX6_fitting 23 = .ok (.iaload, 1) by decide +kernel) ?_
  refine V_icmp_ge 68 Z (by decide) (show decode cX6_fitting 24 = .ok (.if_icmp .ge 44, 3) by decide +kernel) (fun c7 => ?_) (fun c7 => ?_)
  · have h := zB_pos c7 h
    refine V_sub [0, 2, 3, 4] rfl ?_
    have h := zB_lift c1_r h
    exact J68 _ _ _ _ h
  · have h := zB_neg c7 h
    refine V_aload_n 0 Z rfl rfl (show decode cX6_fitting 27 = .ok (.aload_n 0, 1) by decide +kernel) ?_
    refine V_getR 0 48 Z zc5 (by decide) rfl (by decide) rfl (by decide) ⟨rfl, rfl, rfl⟩ w766 (show decode cX6_fitting 28 = .ok (.getfield 9, 3) by decide +kernel) ?_
    refine V_bipush 61 (by decide) Z (show decode cX6_fitting 31 = .ok (.bipush 61, 2) by decide +kernel) ?_
    refine V_iload_n 2 Z rfl rfl (show decode cX6_fitting 33 = .ok (.iload_n 2, 1) by decide +kernel) ?_
    refine V_iadd Z (show decode cX6_fitting 34 = .ok (.iadd, 1) by decide +kernel) ?_
    refine V_iload 5 Z rfl (show decode cX6_fitting 35 = .ok (.iload 5, 2) by decide +kernel) ?_
    obtain ⟨M8, e9, h⟩ := zB_bind h
    refine V_iast Z e9 (show decode cX6_fitting 37 = .ok (.iastore, 1) by decide +kernel) ?_
    refine V_iload 4 Z rfl (show decode cX6_fitting 38 = .ok (.iload 4, 2) by decide +kernel) ?_
    refine V_aload_n 0 Z rfl rfl (show decode cX6_fitting 40 = .ok (.aload_n 0, 1) by decide +kernel) ?_
    refine V_iload_n 1 Z rfl rfl (show decode cX6_fitting 41 = .ok (.iload_n 1, 1) by decide +kernel) ?_
    refine V_iload_n 2 Z rfl rfl (show decode cX6_fitting 42 = .ok (.iload_n 2, 1) by decide +kernel) ?_
    obtain ⟨⟨v11, M12⟩, e10, h⟩ := zB_bind h
    refine V_callV (rest := [_]) 2 Z (ok_X6_wentSo  e10) cd_X6_wentSo zc5 (by decide) rfl w1127 w1129 w51 rfl (show decode cX6_fitting 43 = .ok (.invokevirtual 223, 3) by decide +kernel) rfl ?_
    refine V_if_eq 58 Z (by decide) (show decode cX6_fitting 46 = .ok (.ifCond .eq 12, 3) by decide +kernel) (fun c13 => ?_) (fun c13 => ?_)
    · have h := zB_pos c13 h
      refine V_iconst 0 (by decide) Z (show decode cX6_fitting 58 = .ok (.iconst 0, 1) by decide +kernel) ?_
      refine V_ior Z (show decode cX6_fitting 59 = .ok (.ior, 1) by decide +kernel) ?_
      obtain ⟨n14, e15, h⟩ := zB_let h
      refine V_nm e15 ?_
      refine V_istore [(4, Value.int n14), (0, Value.ref 47), (1, Value.int x1), (2, Value.int x2), (3, Value.int v3), (5, Value.int y5)] Z (by decide) rfl (show decode cX6_fitting 60 = .ok (.istore 4, 2) by decide +kernel) ?_
      obtain ⟨n16, e17, h⟩ := zB_let h
      refine V_iinck 1 1 5 n16 [(5, Value.int n16), (4, Value.int n14), (0, Value.ref 47), (1, Value.int x1), (2, Value.int x2), (3, Value.int v3)] Z (by decide) (by decide) rfl e17 rfl (show decode cX6_fitting 62 = .ok (.iinc 5 1, 3) by decide +kernel) ?_
      refine V_goto 16 Z (by decide) (show decode cX6_fitting 65 = .ok (.goto (-49), 3) by decide +kernel) ?_
      refine V_sub [2, 3, 4, 5, 1, 0] rfl ?_
      exact c1_i _ h
    · have h := zB_neg c13 h
      refine V_iconst 2 (by decide) Z (show decode cX6_fitting 49 = .ok (.iconst 2, 1) by decide +kernel) ?_
      refine V_iload 5 Z rfl (show decode cX6_fitting 50 = .ok (.iload 5, 2) by decide +kernel) ?_
      refine V_iconst 1 (by decide) Z (show decode cX6_fitting 52 = .ok (.iconst 1, 1) by decide +kernel) ?_
      refine V_iadd Z (show decode cX6_fitting 53 = .ok (.iadd, 1) by decide +kernel) ?_
      refine V_ishl Z (show decode cX6_fitting 54 = .ok (.ishl, 1) by decide +kernel) ?_
      refine V_goto 59 Z (by decide) (show decode cX6_fitting 55 = .ok (.goto 4, 3) by decide +kernel) ?_
      refine V_ior Z (show decode cX6_fitting 59 = .ok (.ior, 1) by decide +kernel) ?_
      obtain ⟨n18, e19, h⟩ := zB_let h
      refine V_nm e19 ?_
      refine V_istore [(4, Value.int n18), (0, Value.ref 47), (1, Value.int x1), (2, Value.int x2), (3, Value.int v3), (5, Value.int y5)] Z (by decide) rfl (show decode cX6_fitting 60 = .ok (.istore 4, 2) by decide +kernel) ?_
      obtain ⟨n20, e21, h⟩ := zB_let h
      refine V_iinck 1 1 5 n20 [(5, Value.int n20), (4, Value.int n18), (0, Value.ref 47), (1, Value.int x1), (2, Value.int x2), (3, Value.int v3)] Z (by decide) (by decide) rfl e21 rfl (show decode cX6_fitting 62 = .ok (.iinc 5 1, 3) by decide +kernel) ?_
      refine V_goto 16 Z (by decide) (show decode cX6_fitting 65 = .ok (.goto (-49), 3) by decide +kernel) ?_
      refine V_sub [2, 3, 4, 5, 1, 0] rfl ?_
      exact c1_i _ h
