/-! Generated walks: X6_seed X6_feed X6_wipe X6_byteAt X6_next X6_isWord X6_must -/
def f_X6_seed (x1 : Int32) (M : zM) : Option (Int32 × zM) :=
  (f_X6_become 2 x1 M).bind fun ((v2, M3) : Int32 × zM) =>
  some ((v2, M3))
theorem cd_X6_seed : zCd yX6_seed cX6_seed 2 (some .int) 1 := ⟨w1151, w69, ⟨by decide, by decide⟩, by decide +kernel⟩
set_option maxHeartbeats 4000000 in
set_option maxRecDepth 20000 in
theorem ok_X6_seed {x1 : Int32} {M : zM} {y : Int32 × zM}  (h : f_X6_seed x1 M = some y) : zRuns yX6_seed cX6_seed 2 (some .int) 1 23 [.ref 47, .int x1] M (some (.int y.1)) y.2 := by
  refine zRuns_of (by decide +kernel) (Nat.le_of_ble_eq_true rfl) (fun E Z hE => ?_)
  have h := zB_top h
  change VV E 2 0 [(0, Value.ref 47), (1, Value.int x1)] [] M
  refine V_aload_n 0 Z rfl rfl (show decode cX6_seed 0 = .ok (.aload_n 0, 1) by decide +kernel) ?_
  refine V_iconst 2 (by decide) Z (show decode cX6_seed 1 = .ok (.iconst 2, 1) by decide +kernel) ?_
  refine V_iload_n 1 Z rfl rfl (show decode cX6_seed 2 = .ok (.iload_n 1, 1) by decide +kernel) ?_
  obtain ⟨⟨v2, M3⟩, e1, h⟩ := zB_bind h
  refine V_callV (rest := []) 2 Z (ok_X6_become  e1) cd_X6_become zc5 (by decide) rfl w897 w899 w27 rfl (show decode cX6_seed 3 = .ok (.invokevirtual 119, 3) by decide +kernel) rfl ?_
  exact V_iretM Z hE h (show decode cX6_seed 6 = .ok (.ireturn, 1) by decide +kernel)
def f_X6_feed_l38 (y1 : Int32) : Int32 × zM → Option ((Int32 × zM) ⊕ (Int32 × zM))
  | (y3, M) =>
    if y3 < 0 then
      some (.inr (((M 47 8), M)))
    else
      (zwr M 54 (M 47 8) ((y1 >>> ((8 * y3) &&& 31)) &&& 255)).bind fun (M8 : zM) =>
      (some (zU M8 47 8 (((M8 47 8) + 1)))).bind fun (M10 : zM) =>
      (some (y3 + (-1))).bind fun (x12 : Int32) =>
      some (.inl ((x12, M10)))
def f_X6_feed (x1 : Int32) (x2 : Int32) (M : zM) : Option (Int32 × zM) :=
  (f_X6_within x2 1 4 M).bind fun (v2 : Int32) =>
  if v2 = 0 then
    (f_X6_finding (-1000001) M).bind fun ((v18, M19) : Int32 × zM) =>
    some ((v18, M19))
  else
    if ((M 47 8) + x2) ≤ 120 then
      (some ((x2 - 1))).bind fun (x5 : Int32) =>
      zIter (f_X6_feed_l38 x1) 1000 (x5, M)
    else
      (f_X6_finding (-1000002) M).bind fun ((v15, M16) : Int32 × zM) =>
      some ((v15, M16))
theorem cd_X6_feed : zCd yX6_feed cX6_feed 4 (some .int) 2 := ⟨w1155, w69, ⟨by decide, by decide⟩, by decide +kernel⟩
set_option maxHeartbeats 4000000 in
set_option maxRecDepth 20000 in
theorem ok_X6_feed {x1 : Int32} {x2 : Int32} {M : zM} {y : Int32 × zM}  (h : f_X6_feed x1 x2 M = some y) : zRuns yX6_feed cX6_feed 4 (some .int) 1 22 [.ref 47, .int x1, .int x2] M (some (.int y.1)) y.2 := by
  refine zRuns_of (by decide +kernel) (Nat.le_of_ble_eq_true rfl) (fun E Z hE => ?_)
  have h := zB_top h
  change VV E 4 0 [(0, Value.ref 47), (1, Value.int x1), (2, Value.int x2)] [] M
  refine V_iload_n 2 Z rfl rfl (show decode cX6_feed 0 = .ok (.iload_n 2, 1) by decide +kernel) ?_
  refine V_iconst 1 (by decide) Z (show decode cX6_feed 1 = .ok (.iconst 1, 1) by decide +kernel) ?_
  refine V_iconst 4 (by decide) Z (show decode cX6_feed 2 = .ok (.iconst 4, 1) by decide +kernel) ?_
  obtain ⟨v2, e1, h⟩ := zB_bind h
  refine V_callS (rest := []) 3 Z (ok_X6_within  e1) cd_X6_within w840 w841 rfl (show decode cX6_feed 3 = .ok (.invokestatic 76, 3) by decide +kernel) rfl ?_
  refine V_if_ne 16 Z (by decide) (show decode cX6_feed 6 = .ok (.ifCond .ne 10, 3) by decide +kernel) (fun c3 => ?_) (fun c3 => ?_)
  · have h := zB_neg c3 h
    refine V_aload_n 0 Z rfl rfl (show decode cX6_feed 16 = .ok (.aload_n 0, 1) by decide +kernel) ?_
    refine V_getI 8 Z zc5 (by decide) rfl (by decide) rfl ⟨rfl, rfl, rfl⟩ w774 (show decode cX6_feed 17 = .ok (.getfield 236, 3) by decide +kernel) ?_
    refine V_iload_n 2 Z rfl rfl (show decode cX6_feed 20 = .ok (.iload_n 2, 1) by decide +kernel) ?_
    refine V_iadd Z (show decode cX6_feed 21 = .ok (.iadd, 1) by decide +kernel) ?_
    refine V_bipush 120 (by decide) Z (show decode cX6_feed 22 = .ok (.bipush 120, 2) by decide +kernel) ?_
    refine V_icmp_le 34 Z (by decide) (show decode cX6_feed 24 = .ok (.if_icmp .le 10, 3) by decide +kernel) (fun c4 => ?_) (fun c4 => ?_)
    · have h := zB_pos c4 h
      refine V_iload_n 2 Z rfl rfl (show decode cX6_feed 34 = .ok (.iload_n 2, 1) by decide +kernel) ?_
      refine V_iconst 1 (by decide) Z (show decode cX6_feed 35 = .ok (.iconst 1, 1) by decide +kernel) ?_
      refine V_isub Z (show decode cX6_feed 36 = .ok (.isub, 1) by decide +kernel) ?_
      obtain ⟨x5, e6, h⟩ := zB_let h
      refine V_nm e6 ?_
      refine V_istore_n [(3, Value.int x5), (0, Value.ref 47), (1, Value.int x1), (2, Value.int x2)] Z (by decide) rfl rfl (show decode cX6_feed 37 = .ok (.istore_n 3, 1) by decide +kernel) ?_
      refine V_sub [1, 2, 0] rfl ?_
      refine zIter_loop' (K := some) (fun s : Int32 × zM => VV E 4 38 [(0, Value.ref 47), (1, Value.int x1), (3, Value.int s.1)] [] s.2) (fun K1 s c1_i c1_r h => ?_) _ _ h
      obtain ⟨y3, M⟩ := s
      change VV E 4 38 [(0, Value.ref 47), (1, Value.int x1), (3, Value.int y3)] [] M
      refine V_iload_n 2 Z rfl rfl (show decode cX6_feed 38 = .ok (.iload_n 3, 1) by decide +kernel) ?_
      refine V_if_lt 77 Z (by decide) (show decode cX6_feed 39 = .ok (.ifCond .lt 38, 3) by decide +kernel) (fun c7 => ?_) (fun c7 => ?_)
      · have h := zB_pos c7 h
        refine V_aload_n 0 Z rfl rfl (show decode cX6_feed 77 = .ok (.aload_n 0, 1) by decide +kernel) ?_
        refine V_getI 8 Z zc5 (by decide) rfl (by decide) rfl ⟨rfl, rfl, rfl⟩ w774 (show decode cX6_feed 78 = .ok (.getfield 236, 3) by decide +kernel) ?_
        have h := c1_r _ h
        exact V_iretM Z hE h (show decode cX6_feed 81 = .ok (.ireturn, 1) by decide +kernel)
      · have h := zB_neg c7 h
        refine V_aload_n 0 Z rfl rfl (show decode cX6_feed 42 = .ok (.aload_n 0, 1) by decide +kernel) ?_
        refine V_getR 7 54 Z zc5 (by decide) rfl (by decide) rfl (by decide) ⟨rfl, rfl, rfl⟩ w773 (show decode cX6_feed 43 = .ok (.getfield 28, 3) by decide +kernel) ?_
        refine V_aload_n 0 Z rfl rfl (show decode cX6_feed 46 = .ok (.aload_n 0, 1) by decide +kernel) ?_
        refine V_getI 8 Z zc5 (by decide) rfl (by decide) rfl ⟨rfl, rfl, rfl⟩ w774 (show decode cX6_feed 47 = .ok (.getfield 236, 3) by decide +kernel) ?_
        refine V_iload_n 1 Z rfl rfl (show decode cX6_feed 50 = .ok (.iload_n 1, 1) by decide +kernel) ?_
        refine V_bipush 8 (by decide) Z (show decode cX6_feed 51 = .ok (.bipush 8, 2) by decide +kernel) ?_
        refine V_iload_n 2 Z rfl rfl (show decode cX6_feed 53 = .ok (.iload_n 3, 1) by decide +kernel) ?_
        refine V_imul Z (show decode cX6_feed 54 = .ok (.imul, 1) by decide +kernel) ?_
        refine V_ishr Z (show decode cX6_feed 55 = .ok (.ishr, 1) by decide +kernel) ?_
        refine V_sipush 255 (by decide) Z (show decode cX6_feed 56 = .ok (.sipush 255, 3) by decide +kernel) ?_
        refine V_iand Z (show decode cX6_feed 59 = .ok (.iand, 1) by decide +kernel) ?_
        obtain ⟨M8, e9, h⟩ := zB_bind h
        refine V_iast Z e9 (show decode cX6_feed 60 = .ok (.iastore, 1) by decide +kernel) ?_
        refine V_aload_n 0 Z rfl rfl (show decode cX6_feed 61 = .ok (.aload_n 0, 1) by decide +kernel) ?_
        refine V_dup rfl Z (show decode cX6_feed 62 = .ok (.dup, 1) by decide +kernel) ?_
        refine V_getI 8 Z zc5 (by decide) rfl (by decide) rfl ⟨rfl, rfl, rfl⟩ w774 (show decode cX6_feed 63 = .ok (.getfield 236, 3) by decide +kernel) ?_
        refine V_iconst 1 (by decide) Z (show decode cX6_feed 66 = .ok (.iconst 1, 1) by decide +kernel) ?_
        refine V_iadd Z (show decode cX6_feed 67 = .ok (.iadd, 1) by decide +kernel) ?_
        obtain ⟨M10, e11, h⟩ := zB_let h
        refine V_putI 8 Z zc5 (by decide) rfl (by decide) rfl ⟨rfl, rfl, rfl⟩ rfl rfl w774 (show decode cX6_feed 68 = .ok (.putfield 236, 3) by decide +kernel) ?_
        refine V_nmM e11 ?_
        obtain ⟨x12, e13, h⟩ := zB_let h
        refine V_iinc (n := (-1)) 2 x12 [(3, Value.int x12), (0, Value.ref 47), (1, Value.int x1)] Z (by decide) rfl e13 rfl (show decode cX6_feed 71 = .ok (.iinc 3 (-1), 3) by decide +kernel) ?_
        refine V_goto 38 Z (by decide) (show decode cX6_feed 74 = .ok (.goto (-36), 3) by decide +kernel) ?_
        refine V_sub [1, 2, 0] rfl ?_
        exact c1_i _ h
    · have h := zB_neg c4 h
      refine V_aload_n 0 Z rfl rfl (show decode cX6_feed 27 = .ok (.aload_n 0, 1) by decide +kernel) ?_
      refine V_ldc (-1000002) Z w848 (show decode cX6_feed 28 = .ok (.ldc 88, 2) by decide +kernel) ?_
      obtain ⟨⟨v15, M16⟩, e14, h⟩ := zB_bind h
      refine V_callV (rest := []) 1 Z (ok_X6_finding  e14) cd_X6_finding zc5 (by decide) rfl w844 w846 w17 rfl (show decode cX6_feed 30 = .ok (.invokevirtual 72, 3) by decide +kernel) rfl ?_
      exact V_iretM Z hE h (show decode cX6_feed 33 = .ok (.ireturn, 1) by decide +kernel)
  · have h := zB_pos c3 h
    refine V_aload_n 0 Z rfl rfl (show decode cX6_feed 9 = .ok (.aload_n 0, 1) by decide +kernel) ?_
    refine V_ldc (-1000001) Z w843 (show decode cX6_feed 10 = .ok (.ldc 66, 2) by decide +kernel) ?_
    obtain ⟨⟨v18, M19⟩, e17, h⟩ := zB_bind h
    refine V_callV (rest := []) 1 Z (ok_X6_finding  e17) cd_X6_finding zc5 (by decide) rfl w844 w846 w17 rfl (show decode cX6_feed 12 = .ok (.invokevirtual 72, 3) by decide +kernel) rfl ?_
    exact V_iretM Z hE h (show decode cX6_feed 15 = .ok (.ireturn, 1) by decide +kernel)
def f_X6_wipe (M : zM) : Option (Int32 × zM) :=
  (some ((M 47 8))).bind fun (x1 : Int32) =>
  (some (zU M 47 8 0)).bind fun (M3 : zM) =>
  some ((x1, M3))
theorem cd_X6_wipe : zCd yX6_wipe cX6_wipe 2 (some .int) 0 := ⟨w1159, w69, ⟨by decide, by decide⟩, by decide +kernel⟩
set_option maxHeartbeats 4000000 in
set_option maxRecDepth 20000 in
theorem ok_X6_wipe {M : zM} {y : Int32 × zM}  (h : f_X6_wipe  M = some y) : zRuns yX6_wipe cX6_wipe 2 (some .int) 0 0 [.ref 47] M (some (.int y.1)) y.2 := by
  refine zRuns_of (by decide +kernel) (Nat.le_of_ble_eq_true rfl) (fun E Z hE => ?_)
  have h := zB_top h
  change VV E 2 0 [(0, Value.ref 47)] [] M
  refine V_aload_n 0 Z rfl rfl (show decode cX6_wipe 0 = .ok (.aload_n 0, 1) by decide +kernel) ?_
  refine V_getI 8 Z zc5 (by decide) rfl (by decide) rfl ⟨rfl, rfl, rfl⟩ w774 (show decode cX6_wipe 1 = .ok (.getfield 236, 3) by decide +kernel) ?_
  obtain ⟨x1, e2, h⟩ := zB_let h
  refine V_nm e2 ?_
  refine V_istore_n [(1, Value.int x1), (0, Value.ref 47)] Z (by decide) rfl rfl (show decode cX6_wipe 4 = .ok (.istore_n 1, 1) by decide +kernel) ?_
  refine V_aload_n 1 Z rfl rfl (show decode cX6_wipe 5 = .ok (.aload_n 0, 1) by decide +kernel) ?_
  refine V_iconst 0 (by decide) Z (show decode cX6_wipe 6 = .ok (.iconst 0, 1) by decide +kernel) ?_
  obtain ⟨M3, e4, h⟩ := zB_let h
  refine V_putI 8 Z zc5 (by decide) rfl (by decide) rfl ⟨rfl, rfl, rfl⟩ rfl rfl w774 (show decode cX6_wipe 7 = .ok (.putfield 236, 3) by decide +kernel) ?_
  refine V_nmM e4 ?_
  refine V_iload_n 0 Z rfl rfl (show decode cX6_wipe 10 = .ok (.iload_n 1, 1) by decide +kernel) ?_
  exact V_iretM Z hE h (show decode cX6_wipe 11 = .ok (.ireturn, 1) by decide +kernel)
def f_X6_byteAt (x1 : Int32) (M : zM) : Option (Int32) :=
  if (M 47 8) ≤ x1 then
    some (((-1) : Int32))
  else
    (zrd M 54 x1).bind fun (v2 : Int32) =>
    some (v2)
theorem cd_X6_byteAt : zCd yX6_byteAt cX6_byteAt 2 (some .int) 1 := ⟨w1171, w69, ⟨by decide, by decide⟩, by decide +kernel⟩
set_option maxHeartbeats 4000000 in
set_option maxRecDepth 20000 in
theorem ok_X6_byteAt {x1 : Int32} {M : zM} {y : Int32}  (h : f_X6_byteAt x1 M = some y) : zRuns yX6_byteAt cX6_byteAt 2 (some .int) 0 0 [.ref 47, .int x1] M (some (.int y)) M := by
  refine zRuns_of (by decide +kernel) (Nat.le_of_ble_eq_true rfl) (fun E Z hE => ?_)
  have h := zB_top h
  change VV E 2 0 [(0, Value.ref 47), (1, Value.int x1)] [] M
  refine V_iload_n 1 Z rfl rfl (show decode cX6_byteAt 0 = .ok (.iload_n 1, 1) by decide +kernel) ?_
  refine V_aload_n 0 Z rfl rfl (show decode cX6_byteAt 1 = .ok (.aload_n 0, 1) by decide +kernel) ?_
  refine V_getI 8 Z zc5 (by decide) rfl (by decide) rfl ⟨rfl, rfl, rfl⟩ w774 (show decode cX6_byteAt 2 = .ok (.getfield 236, 3) by decide +kernel) ?_
  refine V_icmp_ge 17 Z (by decide) (show decode cX6_byteAt 5 = .ok (.if_icmp .ge 12, 3) by decide +kernel) (fun c1 => ?_) (fun c1 => ?_)
  · have h := zB_pos c1 h
    refine V_iconst (-1) (by decide) Z (show decode cX6_byteAt 17 = .ok (.iconst (-1), 1) by decide +kernel) ?_
    exact V_iretP Z hE h (show decode cX6_byteAt 18 = .ok (.ireturn, 1) by decide +kernel)
  · have h := zB_neg c1 h
    refine V_aload_n 0 Z rfl rfl (show decode cX6_byteAt 8 = .ok (.aload_n 0, 1) by decide +kernel) ?_
    refine V_getR 7 54 Z zc5 (by decide) rfl (by decide) rfl (by decide) ⟨rfl, rfl, rfl⟩ w773 (show decode cX6_byteAt 9 = .ok (.getfield 28, 3) by decide +kernel) ?_
    refine V_iload_n 1 Z rfl rfl (show decode cX6_byteAt 12 = .ok (.iload_n 1, 1) by decide +kernel) ?_
    obtain ⟨v2, e3, h⟩ := zB_bind h
    refine V_iald Z e3 (show decode cX6_byteAt 13 = .ok (.iaload, 1) by decide +kernel) ?_
    refine V_goto 18 Z (by decide) (show decode cX6_byteAt 14 = .ok (.goto 4, 3) by decide +kernel) ?_
    exact V_iretP Z hE h (show decode cX6_byteAt 18 = .ok (.ireturn, 1) by decide +kernel)
def f_X6_next_l131  : zM → Option ((zM) ⊕ (zM))
  | M =>
    (f_X6_byteAt (M 47 10) M).bind fun (v21 : Int32) =>
    (f_X6_within v21 48 57 M).bind fun (v23 : Int32) =>
    if v23 = 0 then
      some (.inr (M))
    else
      (f_X6_byteAt (M 47 10) M).bind fun (v26 : Int32) =>
      (some (zU M 47 12 ((if (((10 * (M 47 12)) + v26) - 48) < 10000 then (((10 * (M 47 12)) + v26) - 48) else 10000)))).bind fun (M27 : zM) =>
      (some (zU M27 47 10 (((M27 47 10) + 1)))).bind fun (M29 : zM) =>
      some (.inl (M29))
def f_X6_next_l84  : zM → Option ((zM) ⊕ (zM))
  | M =>
    (f_X6_byteAt (M 47 10) M).bind fun (v34 : Int32) =>
    (f_X6_within v34 97 122 M).bind fun (v36 : Int32) =>
    if v36 = 0 then
      some (.inr (M))
    else
      (some (zU M 47 10 (((M 47 10) + 1)))).bind fun (M38 : zM) =>
      some (.inl (M38))
def f_X6_next_j34 (M : zM) : Option (zM) :=
  (f_X6_byteAt (M 47 9) M).bind fun (v2 : Int32) =>
  (some (zU M 47 10 ((M 47 9)))).bind fun (M3 : zM) =>
  (some (zU M3 47 12 0)).bind fun (M5 : zM) =>
  if 0 ≤ v2 then
    (f_X6_within v2 97 122 M5).bind fun (v9 : Int32) =>
    if v9 = 0 then
      (f_X6_within v2 48 57 M5).bind fun (v12 : Int32) =>
      if v12 = 0 then
        (some (zU M5 47 11 3)).bind fun (M14 : zM) =>
        (some (zU M14 47 10 (((M14 47 10) + 1)))).bind fun (M16 : zM) =>
        some (M16)
      else
        (some (zU M5 47 11 2)).bind fun (M18 : zM) =>
        zIter (f_X6_next_l131 ) 1000 (M18)
    else
      (some (zU M5 47 11 1)).bind fun (M31 : zM) =>
      zIter (f_X6_next_l84 ) 1000 (M31)
  else
    (some (zU M5 47 11 0)).bind fun (M40 : zM) =>
    some (M40)
def f_X6_next_l8  : zM → Option ((zM) ⊕ (zM))
  | M =>
    (f_X6_byteAt (M 47 9) M).bind fun (v45 : Int32) =>
    if v45 = 32 then
      (some (zU M 47 9 (((M 47 9) + 1)))).bind fun (M47 : zM) =>
      some (.inl (M47))
    else
      (f_X6_next_j34  M).bind fun z => some (Sum.inr z)
def f_X6_next (M : zM) : Option (zM) :=
  (some (zU M 47 9 ((M 47 10)))).bind fun (M42 : zM) =>
  zIter (f_X6_next_l8 ) 1000 (M42)
theorem cd_X6_next : zCd yX6_next cX6_next 2 none 0 := ⟨w1167, w69, ⟨by decide, by decide⟩, by decide +kernel⟩
set_option maxHeartbeats 4000000 in
set_option maxRecDepth 20000 in
theorem ok_X6_next {M : zM} {y : zM}  (h : f_X6_next  M = some y) : zRuns yX6_next cX6_next 2 none 1 22 [.ref 47] M none y := by
  refine zRuns_of (by decide +kernel) (Nat.le_of_ble_eq_true rfl) (fun E Z hE => ?_)
  have h := zB_top h
  change VV E 2 0 [(0, Value.ref 47)] [] M
  have J34 : ∀ (M : zM), (f_X6_next_j34  M).bind some = some y → VV E 2 34 [(0, Value.ref 47)] [] M := by
    intro  M h
    refine V_aload_n 0 Z rfl rfl (show decode cX6_next 34 = .ok (.aload_n 0, 1) by decide +kernel) ?_
    refine V_aload_n 0 Z rfl rfl (show decode cX6_next 35 = .ok (.aload_n 0, 1) by decide +kernel) ?_
    refine V_getI 9 Z zc5 (by decide) rfl (by decide) rfl ⟨rfl, rfl, rfl⟩ w775 (show decode cX6_next 36 = .ok (.getfield 243, 3) by decide +kernel) ?_
    obtain ⟨v2, e1, h⟩ := zB_bind h
    refine V_callV (rest := []) 1 Z (ok_X6_byteAt  e1) cd_X6_byteAt zc5 (by decide) rfl w1168 w1170 w54 rfl (show decode cX6_next 39 = .ok (.invokevirtual 246, 3) by decide +kernel) rfl ?_
    refine V_istore_n [(1, Value.int v2), (0, Value.ref 47)] Z (by decide) rfl rfl (show decode cX6_next 42 = .ok (.istore_n 1, 1) by decide +kernel) ?_
    refine V_aload_n 1 Z rfl rfl (show decode cX6_next 43 = .ok (.aload_n 0, 1) by decide +kernel) ?_
    refine V_aload_n 1 Z rfl rfl (show decode cX6_next 44 = .ok (.aload_n 0, 1) by decide +kernel) ?_
    refine V_getI 9 Z zc5 (by decide) rfl (by decide) rfl ⟨rfl, rfl, rfl⟩ w775 (show decode cX6_next 45 = .ok (.getfield 243, 3) by decide +kernel) ?_
    obtain ⟨M3, e4, h⟩ := zB_let h
    refine V_putI 10 Z zc5 (by decide) rfl (by decide) rfl ⟨rfl, rfl, rfl⟩ rfl rfl w776 (show decode cX6_next 48 = .ok (.putfield 240, 3) by decide +kernel) ?_
    refine V_nmM e4 ?_
    refine V_aload_n 1 Z rfl rfl (show decode cX6_next 51 = .ok (.aload_n 0, 1) by decide +kernel) ?_
    refine V_iconst 0 (by decide) Z (show decode cX6_next 52 = .ok (.iconst 0, 1) by decide +kernel) ?_
    obtain ⟨M5, e6, h⟩ := zB_let h
    refine V_putI 12 Z zc5 (by decide) rfl (by decide) rfl ⟨rfl, rfl, rfl⟩ rfl rfl w778 (show decode cX6_next 53 = .ok (.putfield 249, 3) by decide +kernel) ?_
    refine V_nmM e6 ?_
    refine V_iload_n 0 Z rfl rfl (show decode cX6_next 56 = .ok (.iload_n 1, 1) by decide +kernel) ?_
    refine V_if_ge 68 Z (by decide) (show decode cX6_next 57 = .ok (.ifCond .ge 11, 3) by decide +kernel) (fun c7 => ?_) (fun c7 => ?_)
    · have h := zB_pos c7 h
      refine V_iload_n 0 Z rfl rfl (show decode cX6_next 68 = .ok (.iload_n 1, 1) by decide +kernel) ?_
      refine V_bipush 97 (by decide) Z (show decode cX6_next 69 = .ok (.bipush 97, 2) by decide +kernel) ?_
      refine V_bipush 122 (by decide) Z (show decode cX6_next 71 = .ok (.bipush 122, 2) by decide +kernel) ?_
      obtain ⟨v9, e8, h⟩ := zB_bind h
      refine V_callS (rest := []) 3 Z (ok_X6_within  e8) cd_X6_within w840 w841 rfl (show decode cX6_next 73 = .ok (.invokestatic 76, 3) by decide +kernel) rfl ?_
      refine V_if_eq 115 Z (by decide) (show decode cX6_next 76 = .ok (.ifCond .eq 39, 3) by decide +kernel) (fun c10 => ?_) (fun c10 => ?_)
      · have h := zB_pos c10 h
        refine V_iload_n 0 Z rfl rfl (show decode cX6_next 115 = .ok (.iload_n 1, 1) by decide +kernel) ?_
        refine V_bipush 48 (by decide) Z (show decode cX6_next 116 = .ok (.bipush 48, 2) by decide +kernel) ?_
        refine V_bipush 57 (by decide) Z (show decode cX6_next 118 = .ok (.bipush 57, 2) by decide +kernel) ?_
        obtain ⟨v12, e11, h⟩ := zB_bind h
        refine V_callS (rest := []) 3 Z (ok_X6_within  e11) cd_X6_within w840 w841 rfl (show decode cX6_next 120 = .ok (.invokestatic 76, 3) by decide +kernel) rfl ?_
        refine V_if_eq 191 Z (by decide) (show decode cX6_next 123 = .ok (.ifCond .eq 68, 3) by decide +kernel) (fun c13 => ?_) (fun c13 => ?_)
        · have h := zB_pos c13 h
          refine V_aload_n 1 Z rfl rfl (show decode cX6_next 191 = .ok (.aload_n 0, 1) by decide +kernel) ?_
          refine V_iconst 3 (by decide) Z (show decode cX6_next 192 = .ok (.iconst 3, 1) by decide +kernel) ?_
          obtain ⟨M14, e15, h⟩ := zB_let h
          refine V_putI 11 Z zc5 (by decide) rfl (by decide) rfl ⟨rfl, rfl, rfl⟩ rfl rfl w777 (show decode cX6_next 193 = .ok (.putfield 252, 3) by decide +kernel) ?_
          refine V_nmM e15 ?_
          refine V_aload_n 1 Z rfl rfl (show decode cX6_next 196 = .ok (.aload_n 0, 1) by decide +kernel) ?_
          refine V_dup rfl Z (show decode cX6_next 197 = .ok (.dup, 1) by decide +kernel) ?_
          refine V_getI 10 Z zc5 (by decide) rfl (by decide) rfl ⟨rfl, rfl, rfl⟩ w776 (show decode cX6_next 198 = .ok (.getfield 240, 3) by decide +kernel) ?_
          refine V_iconst 1 (by decide) Z (show decode cX6_next 201 = .ok (.iconst 1, 1) by decide +kernel) ?_
          refine V_iadd Z (show decode cX6_next 202 = .ok (.iadd, 1) by decide +kernel) ?_
          obtain ⟨M16, e17, h⟩ := zB_let h
          refine V_putI 10 Z zc5 (by decide) rfl (by decide) rfl ⟨rfl, rfl, rfl⟩ rfl rfl w776 (show decode cX6_next 203 = .ok (.putfield 240, 3) by decide +kernel) ?_
          refine V_nmM e17 ?_
          exact V_vretM Z hE h (show decode cX6_next 206 = .ok (.return_, 1) by decide +kernel)
        · have h := zB_neg c13 h
          refine V_aload_n 1 Z rfl rfl (show decode cX6_next 126 = .ok (.aload_n 0, 1) by decide +kernel) ?_
          refine V_iconst 2 (by decide) Z (show decode cX6_next 127 = .ok (.iconst 2, 1) by decide +kernel) ?_
          obtain ⟨M18, e19, h⟩ := zB_let h
          refine V_putI 11 Z zc5 (by decide) rfl (by decide) rfl ⟨rfl, rfl, rfl⟩ rfl rfl w777 (show decode cX6_next 128 = .ok (.putfield 252, 3) by decide +kernel) ?_
          refine V_nmM e19 ?_
          refine V_sub [1] rfl ?_
          refine zIter_loop' (K := some) (fun s : zM => VV E 2 131 [(0, Value.ref 47)] [] s) (fun K1 M c1_i c1_r h => ?_) _ _ h
          refine V_aload_n 0 Z rfl rfl (show decode cX6_next 131 = .ok (.aload_n 0, 1) by decide +kernel) ?_
          refine V_aload_n 0 Z rfl rfl (show decode cX6_next 132 = .ok (.aload_n 0, 1) by decide +kernel) ?_
          refine V_getI 10 Z zc5 (by decide) rfl (by decide) rfl ⟨rfl, rfl, rfl⟩ w776 (show decode cX6_next 133 = .ok (.getfield 240, 3) by decide +kernel) ?_
          obtain ⟨v21, e20, h⟩ := zB_bind h
          refine V_callV (rest := []) 1 Z (ok_X6_byteAt  e20) cd_X6_byteAt zc5 (by decide) rfl w1168 w1170 w54 rfl (show decode cX6_next 136 = .ok (.invokevirtual 246, 3) by decide +kernel) rfl ?_
          refine V_bipush 48 (by decide) Z (show decode cX6_next 139 = .ok (.bipush 48, 2) by decide +kernel) ?_
          refine V_bipush 57 (by decide) Z (show decode cX6_next 141 = .ok (.bipush 57, 2) by decide +kernel) ?_
          obtain ⟨v23, e22, h⟩ := zB_bind h
          refine V_callS (rest := []) 3 Z (ok_X6_within  e22) cd_X6_within w840 w841 rfl (show decode cX6_next 143 = .ok (.invokestatic 76, 3) by decide +kernel) rfl ?_
          refine V_if_eq 206 Z (by decide) (show decode cX6_next 146 = .ok (.ifCond .eq 60, 3) by decide +kernel) (fun c24 => ?_) (fun c24 => ?_)
          · have h := zB_pos c24 h
            have h := c1_r _ h
            exact V_vretM Z hE h (show decode cX6_next 206 = .ok (.return_, 1) by decide +kernel)
          · have h := zB_neg c24 h
            refine V_aload_n 0 Z rfl rfl (show decode cX6_next 149 = .ok (.aload_n 0, 1) by decide +kernel) ?_
            refine V_sipush 10000 (by decide) Z (show decode cX6_next 150 = .ok (.sipush 10000, 3) by decide +kernel) ?_
            refine V_bipush 10 (by decide) Z (show decode cX6_next 153 = .ok (.bipush 10, 2) by decide +kernel) ?_
            refine V_aload_n 0 Z rfl rfl (show decode cX6_next 155 = .ok (.aload_n 0, 1) by decide +kernel) ?_
            refine V_getI 12 Z zc5 (by decide) rfl (by decide) rfl ⟨rfl, rfl, rfl⟩ w778 (show decode cX6_next 156 = .ok (.getfield 249, 3) by decide +kernel) ?_
            refine V_imul Z (show decode cX6_next 159 = .ok (.imul, 1) by decide +kernel) ?_
            refine V_aload_n 0 Z rfl rfl (show decode cX6_next 160 = .ok (.aload_n 0, 1) by decide +kernel) ?_
            refine V_aload_n 0 Z rfl rfl (show decode cX6_next 161 = .ok (.aload_n 0, 1) by decide +kernel) ?_
            refine V_getI 10 Z zc5 (by decide) rfl (by decide) rfl ⟨rfl, rfl, rfl⟩ w776 (show decode cX6_next 162 = .ok (.getfield 240, 3) by decide +kernel) ?_
            obtain ⟨v26, e25, h⟩ := zB_bind h
            refine V_callV (rest := [_, _, _]) 1 Z (ok_X6_byteAt  e25) cd_X6_byteAt zc5 (by decide) rfl w1168 w1170 w54 rfl (show decode cX6_next 165 = .ok (.invokevirtual 246, 3) by decide +kernel) rfl ?_
            refine V_iadd Z (show decode cX6_next 168 = .ok (.iadd, 1) by decide +kernel) ?_
            refine V_bipush 48 (by decide) Z (show decode cX6_next 169 = .ok (.bipush 48, 2) by decide +kernel) ?_
            refine V_isub Z (show decode cX6_next 171 = .ok (.isub, 1) by decide +kernel) ?_
            refine V_min Z w962 w367 w71 w368 (show decode cX6_next 172 = .ok (.invokestatic 148, 3) by decide +kernel) rfl ?_
            obtain ⟨M27, e28, h⟩ := zB_let h
            refine V_putI 12 Z zc5 (by decide) rfl (by decide) rfl ⟨rfl, rfl, rfl⟩ rfl rfl w778 (show decode cX6_next 175 = .ok (.putfield 249, 3) by decide +kernel) ?_
            refine V_nmM e28 ?_
            refine V_aload_n 0 Z rfl rfl (show decode cX6_next 178 = .ok (.aload_n 0, 1) by decide +kernel) ?_
            refine V_dup rfl Z (show decode cX6_next 179 = .ok (.dup, 1) by decide +kernel) ?_
            refine V_getI 10 Z zc5 (by decide) rfl (by decide) rfl ⟨rfl, rfl, rfl⟩ w776 (show decode cX6_next 180 = .ok (.getfield 240, 3) by decide +kernel) ?_
            refine V_iconst 1 (by decide) Z (show decode cX6_next 183 = .ok (.iconst 1, 1) by decide +kernel) ?_
            refine V_iadd Z (show decode cX6_next 184 = .ok (.iadd, 1) by decide +kernel) ?_
            obtain ⟨M29, e30, h⟩ := zB_let h
            refine V_putI 10 Z zc5 (by decide) rfl (by decide) rfl ⟨rfl, rfl, rfl⟩ rfl rfl w776 (show decode cX6_next 185 = .ok (.putfield 240, 3) by decide +kernel) ?_
            refine V_nmM e30 ?_
            refine V_goto 131 Z (by decide) (show decode cX6_next 188 = .ok (.goto (-57), 3) by decide +kernel) ?_
            exact c1_i _ h
      · have h := zB_neg c10 h
        refine V_aload_n 1 Z rfl rfl (show decode cX6_next 79 = .ok (.aload_n 0, 1) by decide +kernel) ?_
        refine V_iconst 1 (by decide) Z (show decode cX6_next 80 = .ok (.iconst 1, 1) by decide +kernel) ?_
        obtain ⟨M31, e32, h⟩ := zB_let h
        refine V_putI 11 Z zc5 (by decide) rfl (by decide) rfl ⟨rfl, rfl, rfl⟩ rfl rfl w777 (show decode cX6_next 81 = .ok (.putfield 252, 3) by decide +kernel) ?_
        refine V_nmM e32 ?_
        refine V_sub [1] rfl ?_
        refine zIter_loop' (K := some) (fun s : zM => VV E 2 84 [(0, Value.ref 47)] [] s) (fun K1 M c1_i c1_r h => ?_) _ _ h
        refine V_aload_n 0 Z rfl rfl (show decode cX6_next 84 = .ok (.aload_n 0, 1) by decide +kernel) ?_
        refine V_aload_n 0 Z rfl rfl (show decode cX6_next 85 = .ok (.aload_n 0, 1) by decide +kernel) ?_
        refine V_getI 10 Z zc5 (by decide) rfl (by decide) rfl ⟨rfl, rfl, rfl⟩ w776 (show decode cX6_next 86 = .ok (.getfield 240, 3) by decide +kernel) ?_
        obtain ⟨v34, e33, h⟩ := zB_bind h
        refine V_callV (rest := []) 1 Z (ok_X6_byteAt  e33) cd_X6_byteAt zc5 (by decide) rfl w1168 w1170 w54 rfl (show decode cX6_next 89 = .ok (.invokevirtual 246, 3) by decide +kernel) rfl ?_
        refine V_bipush 97 (by decide) Z (show decode cX6_next 92 = .ok (.bipush 97, 2) by decide +kernel) ?_
        refine V_bipush 122 (by decide) Z (show decode cX6_next 94 = .ok (.bipush 122, 2) by decide +kernel) ?_
        obtain ⟨v36, e35, h⟩ := zB_bind h
        refine V_callS (rest := []) 3 Z (ok_X6_within  e35) cd_X6_within w840 w841 rfl (show decode cX6_next 96 = .ok (.invokestatic 76, 3) by decide +kernel) rfl ?_
        refine V_if_eq 206 Z (by decide) (show decode cX6_next 99 = .ok (.ifCond .eq 107, 3) by decide +kernel) (fun c37 => ?_) (fun c37 => ?_)
        · have h := zB_pos c37 h
          have h := c1_r _ h
          exact V_vretM Z hE h (show decode cX6_next 206 = .ok (.return_, 1) by decide +kernel)
        · have h := zB_neg c37 h
          refine V_aload_n 0 Z rfl rfl (show decode cX6_next 102 = .ok (.aload_n 0, 1) by decide +kernel) ?_
          refine V_dup rfl Z (show decode cX6_next 103 = .ok (.dup, 1) by decide +kernel) ?_
          refine V_getI 10 Z zc5 (by decide) rfl (by decide) rfl ⟨rfl, rfl, rfl⟩ w776 (show decode cX6_next 104 = .ok (.getfield 240, 3) by decide +kernel) ?_
          refine V_iconst 1 (by decide) Z (show decode cX6_next 107 = .ok (.iconst 1, 1) by decide +kernel) ?_
          refine V_iadd Z (show decode cX6_next 108 = .ok (.iadd, 1) by decide +kernel) ?_
          obtain ⟨M38, e39, h⟩ := zB_let h
          refine V_putI 10 Z zc5 (by decide) rfl (by decide) rfl ⟨rfl, rfl, rfl⟩ rfl rfl w776 (show decode cX6_next 109 = .ok (.putfield 240, 3) by decide +kernel) ?_
          refine V_nmM e39 ?_
          refine V_goto 84 Z (by decide) (show decode cX6_next 112 = .ok (.goto (-28), 3) by decide +kernel) ?_
          exact c1_i _ h
    · have h := zB_neg c7 h
      refine V_aload_n 1 Z rfl rfl (show decode cX6_next 60 = .ok (.aload_n 0, 1) by decide +kernel) ?_
      refine V_iconst 0 (by decide) Z (show decode cX6_next 61 = .ok (.iconst 0, 1) by decide +kernel) ?_
      obtain ⟨M40, e41, h⟩ := zB_let h
      refine V_putI 11 Z zc5 (by decide) rfl (by decide) rfl ⟨rfl, rfl, rfl⟩ rfl rfl w777 (show decode cX6_next 62 = .ok (.putfield 252, 3) by decide +kernel) ?_
      refine V_nmM e41 ?_
      refine V_goto 206 Z (by decide) (show decode cX6_next 65 = .ok (.goto 141, 3) by decide +kernel) ?_
      exact V_vretM Z hE h (show decode cX6_next 206 = .ok (.return_, 1) by decide +kernel)
  refine V_aload_n 0 Z rfl rfl (show decode cX6_next 0 = .ok (.aload_n 0, 1) by decide +kernel) ?_
  refine V_aload_n 0 Z rfl rfl (show decode cX6_next 1 = .ok (.aload_n 0, 1) by decide +kernel) ?_
  refine V_getI 10 Z zc5 (by decide) rfl (by decide) rfl ⟨rfl, rfl, rfl⟩ w776 (show decode cX6_next 2 = .ok (.getfield 240, 3) by decide +kernel) ?_
  obtain ⟨M42, e43, h⟩ := zB_let h
  refine V_putI 9 Z zc5 (by decide) rfl (by decide) rfl ⟨rfl, rfl, rfl⟩ rfl rfl w775 (show decode cX6_next 5 = .ok (.putfield 243, 3) by decide +kernel) ?_
  refine V_nmM e43 ?_
  refine zIter_loop' (K := some) (fun s : zM => VV E 2 8 [(0, Value.ref 47)] [] s) (fun K1 M c1_i c1_r h => ?_) _ _ h
  refine V_aload_n 0 Z rfl rfl (show decode cX6_next 8 = .ok (.aload_n 0, 1) by decide +kernel) ?_
  refine V_aload_n 0 Z rfl rfl (show decode cX6_next 9 = .ok (.aload_n 0, 1) by decide +kernel) ?_
  refine V_getI 9 Z zc5 (by decide) rfl (by decide) rfl ⟨rfl, rfl, rfl⟩ w775 (show decode cX6_next 10 = .ok (.getfield 243, 3) by decide +kernel) ?_
  obtain ⟨v45, e44, h⟩ := zB_bind h
  refine V_callV (rest := []) 1 Z (ok_X6_byteAt  e44) cd_X6_byteAt zc5 (by decide) rfl w1168 w1170 w54 rfl (show decode cX6_next 13 = .ok (.invokevirtual 246, 3) by decide +kernel) rfl ?_
  refine V_bipush 32 (by decide) Z (show decode cX6_next 16 = .ok (.bipush 32, 2) by decide +kernel) ?_
  refine V_icmp_ne 34 Z (by decide) (show decode cX6_next 18 = .ok (.if_icmp .ne 16, 3) by decide +kernel) (fun c46 => ?_) (fun c46 => ?_)
  · have h := zB_neg c46 h
    have h := zB_lift c1_r h
    exact J34 _ h
  · have h := zB_pos c46 h
    refine V_aload_n 0 Z rfl rfl (show decode cX6_next 21 = .ok (.aload_n 0, 1) by decide +kernel) ?_
    refine V_dup rfl Z (show decode cX6_next 22 = .ok (.dup, 1) by decide +kernel) ?_
    refine V_getI 9 Z zc5 (by decide) rfl (by decide) rfl ⟨rfl, rfl, rfl⟩ w775 (show decode cX6_next 23 = .ok (.getfield 243, 3) by decide +kernel) ?_
    refine V_iconst 1 (by decide) Z (show decode cX6_next 26 = .ok (.iconst 1, 1) by decide +kernel) ?_
    refine V_iadd Z (show decode cX6_next 27 = .ok (.iadd, 1) by decide +kernel) ?_
    obtain ⟨M47, e48, h⟩ := zB_let h
    refine V_putI 9 Z zc5 (by decide) rfl (by decide) rfl ⟨rfl, rfl, rfl⟩ rfl rfl w775 (show decode cX6_next 28 = .ok (.putfield 243, 3) by decide +kernel) ?_
    refine V_nmM e48 ?_
    refine V_goto 8 Z (by decide) (show decode cX6_next 31 = .ok (.goto (-23), 3) by decide +kernel) ?_
    exact c1_i _ h
def f_X6_isWord_l32 (w : Nat) (M : zM) : Int32 × Int32 → Option ((Int32 × Int32) ⊕ (Int32))
  | (y2, y3) =>
    if (zsl w) ≤ y3 then
      (zbo y2).bind fun (b3 : Int32) =>
      some (.inr (b3))
    else
      if y2 = 0 then
        (zbo y2).bind fun (b6 : Int32) =>
        some (.inr (b6))
      else
        (zrd M 54 ((M 47 9) + y3)).bind fun (v8 : Int32) =>
        (zsc w y3).bind fun (v10 : Int32) =>
        if v8 = v10 then
          (some (y3 + 1)).bind fun (x15 : Int32) =>
          some (.inl ((1, x15)))
        else
          (some (y3 + 1)).bind fun (x13 : Int32) =>
          some (.inl ((0, x13)))
def f_X6_isWord (w : Nat) (M : zM) : Option (Int32) :=
  if (M 47 11) = 1 then
    if ((M 47 10) - (M 47 9)) = (zsl w) then
      zIter (f_X6_isWord_l32 w M) 1000 (1, 0)
    else
      zIter (f_X6_isWord_l32 w M) 1000 (0, 0)
  else
    zIter (f_X6_isWord_l32 w M) 1000 (0, 0)
theorem cd_X6_isWord : zCd yX6_isWord cX6_isWord 4 (some .boolean) 1 := ⟨w1183, w69, ⟨by decide, by decide⟩, by decide +kernel⟩
set_option maxHeartbeats 4000000 in
set_option maxRecDepth 20000 in
theorem ok_X6_isWord {w : Nat} {M : zM} {y : Int32} (hw : w < 13) (h : f_X6_isWord w M = some y) : zRuns yX6_isWord cX6_isWord 4 (some .boolean) 6 161 [.ref 47, .ref (1000 + w)] M (some (.int y)) M := by
  refine zRuns_of (by decide +kernel) (Nat.le_of_ble_eq_true rfl) (fun E Z hE => ?_)
  have h := zB_top h
  change VV E 4 0 [(0, Value.ref 47), (1, Value.ref (1000 + w))] [] M
  refine V_aload_n 0 Z rfl rfl (show decode cX6_isWord 0 = .ok (.aload_n 0, 1) by decide +kernel) ?_
  refine V_getI 11 Z zc5 (by decide) rfl (by decide) rfl ⟨rfl, rfl, rfl⟩ w777 (show decode cX6_isWord 1 = .ok (.getfield 252, 3) by decide +kernel) ?_
  refine V_iconst 1 (by decide) Z (show decode cX6_isWord 4 = .ok (.iconst 1, 1) by decide +kernel) ?_
  refine V_icmp_ne 28 Z (by decide) (show decode cX6_isWord 5 = .ok (.if_icmp .ne 23, 3) by decide +kernel) (fun c1 => ?_) (fun c1 => ?_)
  · have h := zB_neg c1 h
    refine V_iconst 0 (by decide) Z (show decode cX6_isWord 28 = .ok (.iconst 0, 1) by decide +kernel) ?_
    refine V_istore_n [(2, Value.int 0), (0, Value.ref 47), (1, Value.ref (1000 + w))] Z (by decide) rfl rfl (show decode cX6_isWord 29 = .ok (.istore_n 2, 1) by decide +kernel) ?_
    refine V_iconst 0 (by decide) Z (show decode cX6_isWord 30 = .ok (.iconst 0, 1) by decide +kernel) ?_
    refine V_istore_n [(3, Value.int 0), (2, Value.int 0), (0, Value.ref 47), (1, Value.ref (1000 + w))] Z (by decide) rfl rfl (show decode cX6_isWord 31 = .ok (.istore_n 3, 1) by decide +kernel) ?_
    refine V_sub [2, 3, 1, 0] rfl ?_
    refine zIter_loop' (K := some) (fun s : Int32 × Int32 => VV E 4 32 [(0, Value.ref 47), (1, Value.ref (1000 + w)), (2, Value.int s.1), (3, Value.int s.2)] [] M) (fun K1 s c1_i c1_r h => ?_) _ _ h
    obtain ⟨y2, y3⟩ := s
    change VV E 4 32 [(0, Value.ref 47), (1, Value.ref (1000 + w)), (2, Value.int y2), (3, Value.int y3)] [] M
    refine V_iload_n 3 Z rfl rfl (show decode cX6_isWord 32 = .ok (.iload_n 3, 1) by decide +kernel) ?_
    refine V_aload_n 1 Z rfl rfl (show decode cX6_isWord 33 = .ok (.aload_n 1, 1) by decide +kernel) ?_
    refine V_strlen Z hw w1184 (show decode cX6_isWord 34 = .ok (.invokevirtual 255, 3) by decide +kernel) rfl ?_
    refine V_icmp_ge 75 Z (by decide) (show decode cX6_isWord 37 = .ok (.if_icmp .ge 38, 3) by decide +kernel) (fun c2 => ?_) (fun c2 => ?_)
    · have h := zB_pos c2 h
      refine V_iload_n 2 Z rfl rfl (show decode cX6_isWord 75 = .ok (.iload_n 2, 1) by decide +kernel) ?_
      obtain ⟨b3, e4, h⟩ := zB_bind h
      refine V_nm (zbo_v e4).1 ?_
      have h := c1_r _ h
      exact V_zretP Z hE h (zbo_v e4).2 (show decode cX6_isWord 76 = .ok (.ireturn, 1) by decide +kernel)
    · have h := zB_neg c2 h
      refine V_iload_n 2 Z rfl rfl (show decode cX6_isWord 40 = .ok (.iload_n 2, 1) by decide +kernel) ?_
      refine V_if_eq 75 Z (by decide) (show decode cX6_isWord 41 = .ok (.ifCond .eq 34, 3) by decide +kernel) (fun c5 => ?_) (fun c5 => ?_)
      · have h := zB_pos c5 h
        refine V_iload_n 2 Z rfl rfl (show decode cX6_isWord 75 = .ok (.iload_n 2, 1) by decide +kernel) ?_
        obtain ⟨b6, e7, h⟩ := zB_bind h
        refine V_nm (zbo_v e7).1 ?_
        have h := c1_r _ h
        exact V_zretP Z hE h (zbo_v e7).2 (show decode cX6_isWord 76 = .ok (.ireturn, 1) by decide +kernel)
      · have h := zB_neg c5 h
        refine V_aload_n 0 Z rfl rfl (show decode cX6_isWord 44 = .ok (.aload_n 0, 1) by decide +kernel) ?_
        refine V_getR 7 54 Z zc5 (by decide) rfl (by decide) rfl (by decide) ⟨rfl, rfl, rfl⟩ w773 (show decode cX6_isWord 45 = .ok (.getfield 28, 3) by decide +kernel) ?_
        refine V_aload_n 0 Z rfl rfl (show decode cX6_isWord 48 = .ok (.aload_n 0, 1) by decide +kernel) ?_
        refine V_getI 9 Z zc5 (by decide) rfl (by decide) rfl ⟨rfl, rfl, rfl⟩ w775 (show decode cX6_isWord 49 = .ok (.getfield 243, 3) by decide +kernel) ?_
        refine V_iload_n 3 Z rfl rfl (show decode cX6_isWord 52 = .ok (.iload_n 3, 1) by decide +kernel) ?_
        refine V_iadd Z (show decode cX6_isWord 53 = .ok (.iadd, 1) by decide +kernel) ?_
        obtain ⟨v8, e9, h⟩ := zB_bind h
        refine V_iald Z e9 (show decode cX6_isWord 54 = .ok (.iaload, 1) by decide +kernel) ?_
        refine V_aload_n 1 Z rfl rfl (show decode cX6_isWord 55 = .ok (.aload_n 1, 1) by decide +kernel) ?_
        refine V_iload_n 3 Z rfl rfl (show decode cX6_isWord 56 = .ok (.iload_n 3, 1) by decide +kernel) ?_
        obtain ⟨v10, e11, h⟩ := zB_bind h
        refine V_strchar Z hw e11 w1185 (show decode cX6_isWord 57 = .ok (.invokevirtual 258, 3) by decide +kernel) rfl ?_
        refine V_icmp_ne 67 Z (by decide) (show decode cX6_isWord 60 = .ok (.if_icmp .ne 7, 3) by decide +kernel) (fun c12 => ?_) (fun c12 => ?_)
        · have h := zB_neg c12 h
          refine V_iconst 0 (by decide) Z (show decode cX6_isWord 67 = .ok (.iconst 0, 1) by decide +kernel) ?_
          refine V_istore_n [(2, Value.int 0), (0, Value.ref 47), (1, Value.ref (1000 + w)), (3, Value.int y3)] Z (by decide) rfl rfl (show decode cX6_isWord 68 = .ok (.istore_n 2, 1) by decide +kernel) ?_
          obtain ⟨x13, e14, h⟩ := zB_let h
          refine V_iinc (n := 1) 3 x13 [(3, Value.int x13), (2, Value.int 0), (0, Value.ref 47), (1, Value.ref (1000 + w))] Z (by decide) rfl e14 rfl (show decode cX6_isWord 69 = .ok (.iinc 3 1, 3) by decide +kernel) ?_
          refine V_goto 32 Z (by decide) (show decode cX6_isWord 72 = .ok (.goto (-40), 3) by decide +kernel) ?_
          refine V_sub [2, 3, 1, 0] rfl ?_
          exact c1_i _ h
        · have h := zB_pos c12 h
          refine V_iconst 1 (by decide) Z (show decode cX6_isWord 63 = .ok (.iconst 1, 1) by decide +kernel) ?_
          refine V_goto 68 Z (by decide) (show decode cX6_isWord 64 = .ok (.goto 4, 3) by decide +kernel) ?_
          refine V_istore_n [(2, Value.int 1), (0, Value.ref 47), (1, Value.ref (1000 + w)), (3, Value.int y3)] Z (by decide) rfl rfl (show decode cX6_isWord 68 = .ok (.istore_n 2, 1) by decide +kernel) ?_
          obtain ⟨x15, e16, h⟩ := zB_let h
          refine V_iinc (n := 1) 3 x15 [(3, Value.int x15), (2, Value.int 1), (0, Value.ref 47), (1, Value.ref (1000 + w))] Z (by decide) rfl e16 rfl (show decode cX6_isWord 69 = .ok (.iinc 3 1, 3) by decide +kernel) ?_
          refine V_goto 32 Z (by decide) (show decode cX6_isWord 72 = .ok (.goto (-40), 3) by decide +kernel) ?_
          refine V_sub [2, 3, 1, 0] rfl ?_
          exact c1_i _ h
  · have h := zB_pos c1 h
    refine V_aload_n 0 Z rfl rfl (show decode cX6_isWord 8 = .ok (.aload_n 0, 1) by decide +kernel) ?_
    refine V_getI 10 Z zc5 (by decide) rfl (by decide) rfl ⟨rfl, rfl, rfl⟩ w776 (show decode cX6_isWord 9 = .ok (.getfield 240, 3) by decide +kernel) ?_
    refine V_aload_n 0 Z rfl rfl (show decode cX6_isWord 12 = .ok (.aload_n 0, 1) by decide +kernel) ?_
    refine V_getI 9 Z zc5 (by decide) rfl (by decide) rfl ⟨rfl, rfl, rfl⟩ w775 (show decode cX6_isWord 13 = .ok (.getfield 243, 3) by decide +kernel) ?_
    refine V_isub Z (show decode cX6_isWord 16 = .ok (.isub, 1) by decide +kernel) ?_
    refine V_aload_n 1 Z rfl rfl (show decode cX6_isWord 17 = .ok (.aload_n 1, 1) by decide +kernel) ?_
    refine V_strlen Z hw w1184 (show decode cX6_isWord 18 = .ok (.invokevirtual 255, 3) by decide +kernel) rfl ?_
    refine V_icmp_ne 28 Z (by decide) (show decode cX6_isWord 21 = .ok (.if_icmp .ne 7, 3) by decide +kernel) (fun c17 => ?_) (fun c17 => ?_)
    · have h := zB_neg c17 h
      refine V_iconst 0 (by decide) Z (show decode cX6_isWord 28 = .ok (.iconst 0, 1) by decide +kernel) ?_
      refine V_istore_n [(2, Value.int 0), (0, Value.ref 47), (1, Value.ref (1000 + w))] Z (by decide) rfl rfl (show decode cX6_isWord 29 = .ok (.istore_n 2, 1) by decide +kernel) ?_
      refine V_iconst 0 (by decide) Z (show decode cX6_isWord 30 = .ok (.iconst 0, 1) by decide +kernel) ?_
      refine V_istore_n [(3, Value.int 0), (2, Value.int 0), (0, Value.ref 47), (1, Value.ref (1000 + w))] Z (by decide) rfl rfl (show decode cX6_isWord 31 = .ok (.istore_n 3, 1) by decide +kernel) ?_
      refine V_sub [2, 3, 1, 0] rfl ?_
      refine zIter_loop' (K := some) (fun s : Int32 × Int32 => VV E 4 32 [(0, Value.ref 47), (1, Value.ref (1000 + w)), (2, Value.int s.1), (3, Value.int s.2)] [] M) (fun K1 s c1_i c1_r h => ?_) _ _ h
      obtain ⟨y2, y3⟩ := s
      change VV E 4 32 [(0, Value.ref 47), (1, Value.ref (1000 + w)), (2, Value.int y2), (3, Value.int y3)] [] M
      refine V_iload_n 3 Z rfl rfl (show decode cX6_isWord 32 = .ok (.iload_n 3, 1) by decide +kernel) ?_
      refine V_aload_n 1 Z rfl rfl (show decode cX6_isWord 33 = .ok (.aload_n 1, 1) by decide +kernel) ?_
      refine V_strlen Z hw w1184 (show decode cX6_isWord 34 = .ok (.invokevirtual 255, 3) by decide +kernel) rfl ?_
      refine V_icmp_ge 75 Z (by decide) (show decode cX6_isWord 37 = .ok (.if_icmp .ge 38, 3) by decide +kernel) (fun c18 => ?_) (fun c18 => ?_)
      · have h := zB_pos c18 h
        refine V_iload_n 2 Z rfl rfl (show decode cX6_isWord 75 = .ok (.iload_n 2, 1) by decide +kernel) ?_
        obtain ⟨b19, e20, h⟩ := zB_bind h
        refine V_nm (zbo_v e20).1 ?_
        have h := c1_r _ h
        exact V_zretP Z hE h (zbo_v e20).2 (show decode cX6_isWord 76 = .ok (.ireturn, 1) by decide +kernel)
      · have h := zB_neg c18 h
        refine V_iload_n 2 Z rfl rfl (show decode cX6_isWord 40 = .ok (.iload_n 2, 1) by decide +kernel) ?_
        refine V_if_eq 75 Z (by decide) (show decode cX6_isWord 41 = .ok (.ifCond .eq 34, 3) by decide +kernel) (fun c21 => ?_) (fun c21 => ?_)
        · have h := zB_pos c21 h
          refine V_iload_n 2 Z rfl rfl (show decode cX6_isWord 75 = .ok (.iload_n 2, 1) by decide +kernel) ?_
          obtain ⟨b22, e23, h⟩ := zB_bind h
          refine V_nm (zbo_v e23).1 ?_
          have h := c1_r _ h
          exact V_zretP Z hE h (zbo_v e23).2 (show decode cX6_isWord 76 = .ok (.ireturn, 1) by decide +kernel)
        · have h := zB_neg c21 h
          refine V_aload_n 0 Z rfl rfl (show decode cX6_isWord 44 = .ok (.aload_n 0, 1) by decide +kernel) ?_
          refine V_getR 7 54 Z zc5 (by decide) rfl (by decide) rfl (by decide) ⟨rfl, rfl, rfl⟩ w773 (show decode cX6_isWord 45 = .ok (.getfield 28, 3) by decide +kernel) ?_
          refine V_aload_n 0 Z rfl rfl (show decode cX6_isWord 48 = .ok (.aload_n 0, 1) by decide +kernel) ?_
          refine V_getI 9 Z zc5 (by decide) rfl (by decide) rfl ⟨rfl, rfl, rfl⟩ w775 (show decode cX6_isWord 49 = .ok (.getfield 243, 3) by decide +kernel) ?_
          refine V_iload_n 3 Z rfl rfl (show decode cX6_isWord 52 = .ok (.iload_n 3, 1) by decide +kernel) ?_
          refine V_iadd Z (show decode cX6_isWord 53 = .ok (.iadd, 1) by decide +kernel) ?_
          obtain ⟨v24, e25, h⟩ := zB_bind h
          refine V_iald Z e25 (show decode cX6_isWord 54 = .ok (.iaload, 1) by decide +kernel) ?_
          refine V_aload_n 1 Z rfl rfl (show decode cX6_isWord 55 = .ok (.aload_n 1, 1) by decide +kernel) ?_
          refine V_iload_n 3 Z rfl rfl (show decode cX6_isWord 56 = .ok (.iload_n 3, 1) by decide +kernel) ?_
          obtain ⟨v26, e27, h⟩ := zB_bind h
          refine V_strchar Z hw e27 w1185 (show decode cX6_isWord 57 = .ok (.invokevirtual 258, 3) by decide +kernel) rfl ?_
          refine V_icmp_ne 67 Z (by decide) (show decode cX6_isWord 60 = .ok (.if_icmp .ne 7, 3) by decide +kernel) (fun c28 => ?_) (fun c28 => ?_)
          · have h := zB_neg c28 h
            refine V_iconst 0 (by decide) Z (show decode cX6_isWord 67 = .ok (.iconst 0, 1) by decide +kernel) ?_
            refine V_istore_n [(2, Value.int 0), (0, Value.ref 47), (1, Value.ref (1000 + w)), (3, Value.int y3)] Z (by decide) rfl rfl (show decode cX6_isWord 68 = .ok (.istore_n 2, 1) by decide +kernel) ?_
            obtain ⟨x29, e30, h⟩ := zB_let h
            refine V_iinc (n := 1) 3 x29 [(3, Value.int x29), (2, Value.int 0), (0, Value.ref 47), (1, Value.ref (1000 + w))] Z (by decide) rfl e30 rfl (show decode cX6_isWord 69 = .ok (.iinc 3 1, 3) by decide +kernel) ?_
            refine V_goto 32 Z (by decide) (show decode cX6_isWord 72 = .ok (.goto (-40), 3) by decide +kernel) ?_
            refine V_sub [2, 3, 1, 0] rfl ?_
            exact c1_i _ h
          · have h := zB_pos c28 h
            refine V_iconst 1 (by decide) Z (show decode cX6_isWord 63 = .ok (.iconst 1, 1) by decide +kernel) ?_
            refine V_goto 68 Z (by decide) (show decode cX6_isWord 64 = .ok (.goto 4, 3) by decide +kernel) ?_
            refine V_istore_n [(2, Value.int 1), (0, Value.ref 47), (1, Value.ref (1000 + w)), (3, Value.int y3)] Z (by decide) rfl rfl (show decode cX6_isWord 68 = .ok (.istore_n 2, 1) by decide +kernel) ?_
            obtain ⟨x31, e32, h⟩ := zB_let h
            refine V_iinc (n := 1) 3 x31 [(3, Value.int x31), (2, Value.int 1), (0, Value.ref 47), (1, Value.ref (1000 + w))] Z (by decide) rfl e32 rfl (show decode cX6_isWord 69 = .ok (.iinc 3 1, 3) by decide +kernel) ?_
            refine V_goto 32 Z (by decide) (show decode cX6_isWord 72 = .ok (.goto (-40), 3) by decide +kernel) ?_
            refine V_sub [2, 3, 1, 0] rfl ?_
            exact c1_i _ h
    · have h := zB_pos c17 h
      refine V_iconst 1 (by decide) Z (show decode cX6_isWord 24 = .ok (.iconst 1, 1) by decide +kernel) ?_
      refine V_goto 29 Z (by decide) (show decode cX6_isWord 25 = .ok (.goto 4, 3) by decide +kernel) ?_
      refine V_istore_n [(2, Value.int 1), (0, Value.ref 47), (1, Value.ref (1000 + w))] Z (by decide) rfl rfl (show decode cX6_isWord 29 = .ok (.istore_n 2, 1) by decide +kernel) ?_
      refine V_iconst 0 (by decide) Z (show decode cX6_isWord 30 = .ok (.iconst 0, 1) by decide +kernel) ?_
      refine V_istore_n [(3, Value.int 0), (2, Value.int 1), (0, Value.ref 47), (1, Value.ref (1000 + w))] Z (by decide) rfl rfl (show decode cX6_isWord 31 = .ok (.istore_n 3, 1) by decide +kernel) ?_
      refine V_sub [2, 3, 1, 0] rfl ?_
      refine zIter_loop' (K := some) (fun s : Int32 × Int32 => VV E 4 32 [(0, Value.ref 47), (1, Value.ref (1000 + w)), (2, Value.int s.1), (3, Value.int s.2)] [] M) (fun K1 s c1_i c1_r h => ?_) _ _ h
      obtain ⟨y2, y3⟩ := s
      change VV E 4 32 [(0, Value.ref 47), (1, Value.ref (1000 + w)), (2, Value.int y2), (3, Value.int y3)] [] M
      refine V_iload_n 3 Z rfl rfl (show decode cX6_isWord 32 = .ok (.iload_n 3, 1) by decide +kernel) ?_
      refine V_aload_n 1 Z rfl rfl (show decode cX6_isWord 33 = .ok (.aload_n 1, 1) by decide +kernel) ?_
      refine V_strlen Z hw w1184 (show decode cX6_isWord 34 = .ok (.invokevirtual 255, 3) by decide +kernel) rfl ?_
      refine V_icmp_ge 75 Z (by decide) (show decode cX6_isWord 37 = .ok (.if_icmp .ge 38, 3) by decide +kernel) (fun c33 => ?_) (fun c33 => ?_)
      · have h := zB_pos c33 h
        refine V_iload_n 2 Z rfl rfl (show decode cX6_isWord 75 = .ok (.iload_n 2, 1) by decide +kernel) ?_
        obtain ⟨b34, e35, h⟩ := zB_bind h
        refine V_nm (zbo_v e35).1 ?_
        have h := c1_r _ h
        exact V_zretP Z hE h (zbo_v e35).2 (show decode cX6_isWord 76 = .ok (.ireturn, 1) by decide +kernel)
      · have h := zB_neg c33 h
        refine V_iload_n 2 Z rfl rfl (show decode cX6_isWord 40 = .ok (.iload_n 2, 1) by decide +kernel) ?_
        refine V_if_eq 75 Z (by decide) (show decode cX6_isWord 41 = .ok (.ifCond .eq 34, 3) by decide +kernel) (fun c36 => ?_) (fun c36 => ?_)
        · have h := zB_pos c36 h
          refine V_iload_n 2 Z rfl rfl (show decode cX6_isWord 75 = .ok (.iload_n 2, 1) by decide +kernel) ?_
          obtain ⟨b37, e38, h⟩ := zB_bind h
          refine V_nm (zbo_v e38).1 ?_
          have h := c1_r _ h
          exact V_zretP Z hE h (zbo_v e38).2 (show decode cX6_isWord 76 = .ok (.ireturn, 1) by decide +kernel)
        · have h := zB_neg c36 h
          refine V_aload_n 0 Z rfl rfl (show decode cX6_isWord 44 = .ok (.aload_n 0, 1) by decide +kernel) ?_
          refine V_getR 7 54 Z zc5 (by decide) rfl (by decide) rfl (by decide) ⟨rfl, rfl, rfl⟩ w773 (show decode cX6_isWord 45 = .ok (.getfield 28, 3) by decide +kernel) ?_
          refine V_aload_n 0 Z rfl rfl (show decode cX6_isWord 48 = .ok (.aload_n 0, 1) by decide +kernel) ?_
          refine V_getI 9 Z zc5 (by decide) rfl (by decide) rfl ⟨rfl, rfl, rfl⟩ w775 (show decode cX6_isWord 49 = .ok (.getfield 243, 3) by decide +kernel) ?_
          refine V_iload_n 3 Z rfl rfl (show decode cX6_isWord 52 = .ok (.iload_n 3, 1) by decide +kernel) ?_
          refine V_iadd Z (show decode cX6_isWord 53 = .ok (.iadd, 1) by decide +kernel) ?_
          obtain ⟨v39, e40, h⟩ := zB_bind h
          refine V_iald Z e40 (show decode cX6_isWord 54 = .ok (.iaload, 1) by decide +kernel) ?_
          refine V_aload_n 1 Z rfl rfl (show decode cX6_isWord 55 = .ok (.aload_n 1, 1) by decide +kernel) ?_
          refine V_iload_n 3 Z rfl rfl (show decode cX6_isWord 56 = .ok (.iload_n 3, 1) by decide +kernel) ?_
          obtain ⟨v41, e42, h⟩ := zB_bind h
          refine V_strchar Z hw e42 w1185 (show decode cX6_isWord 57 = .ok (.invokevirtual 258, 3) by decide +kernel) rfl ?_
          refine V_icmp_ne 67 Z (by decide) (show decode cX6_isWord 60 = .ok (.if_icmp .ne 7, 3) by decide +kernel) (fun c43 => ?_) (fun c43 => ?_)
          · have h := zB_neg c43 h
            refine V_iconst 0 (by decide) Z (show decode cX6_isWord 67 = .ok (.iconst 0, 1) by decide +kernel) ?_
            refine V_istore_n [(2, Value.int 0), (0, Value.ref 47), (1, Value.ref (1000 + w)), (3, Value.int y3)] Z (by decide) rfl rfl (show decode cX6_isWord 68 = .ok (.istore_n 2, 1) by decide +kernel) ?_
            obtain ⟨x44, e45, h⟩ := zB_let h
            refine V_iinc (n := 1) 3 x44 [(3, Value.int x44), (2, Value.int 0), (0, Value.ref 47), (1, Value.ref (1000 + w))] Z (by decide) rfl e45 rfl (show decode cX6_isWord 69 = .ok (.iinc 3 1, 3) by decide +kernel) ?_
            refine V_goto 32 Z (by decide) (show decode cX6_isWord 72 = .ok (.goto (-40), 3) by decide +kernel) ?_
            refine V_sub [2, 3, 1, 0] rfl ?_
            exact c1_i _ h
          · have h := zB_pos c43 h
            refine V_iconst 1 (by decide) Z (show decode cX6_isWord 63 = .ok (.iconst 1, 1) by decide +kernel) ?_
            refine V_goto 68 Z (by decide) (show decode cX6_isWord 64 = .ok (.goto 4, 3) by decide +kernel) ?_
            refine V_istore_n [(2, Value.int 1), (0, Value.ref 47), (1, Value.ref (1000 + w)), (3, Value.int y3)] Z (by decide) rfl rfl (show decode cX6_isWord 68 = .ok (.istore_n 2, 1) by decide +kernel) ?_
            obtain ⟨x46, e47, h⟩ := zB_let h
            refine V_iinc (n := 1) 3 x46 [(3, Value.int x46), (2, Value.int 1), (0, Value.ref 47), (1, Value.ref (1000 + w))] Z (by decide) rfl e47 rfl (show decode cX6_isWord 69 = .ok (.iinc 3 1, 3) by decide +kernel) ?_
            refine V_goto 32 Z (by decide) (show decode cX6_isWord 72 = .ok (.goto (-40), 3) by decide +kernel) ?_
            refine V_sub [2, 3, 1, 0] rfl ?_
            exact c1_i _ h
def f_X6_must_j17 (s0 : Int32) (M : zM) : Option (zM) :=
  (zbo s0).bind fun (b3 : Int32) =>
  (some (zU M 47 13 b3)).bind fun (M1 : zM) =>
  if (M1 47 13) = 0 then
    (f_X6_next  M1).bind fun (M7 : zM) =>
    some (M7)
  else
    some (M1)
def f_X6_must_j12 (M : zM) : Option (zM) :=
  f_X6_must_j17 1 M
def f_X6_must (x1 : Int32) (M : zM) : Option (zM) :=
  if (M 47 13) = 0 then
    if x1 = 0 then
      f_X6_must_j12  M
    else
      f_X6_must_j17 0 M
  else
    f_X6_must_j12  M
theorem cd_X6_must : zCd yX6_must cX6_must 2 none 1 := ⟨w1189, w69, ⟨by decide, by decide⟩, by decide +kernel⟩
set_option maxHeartbeats 4000000 in
set_option maxRecDepth 20000 in
theorem ok_X6_must {x1 : Int32} {M : zM} {y : zM}  (h : f_X6_must x1 M = some y) : zRuns yX6_must cX6_must 2 none 2 43 [.ref 47, .int x1] M none y := by
  refine zRuns_of (by decide +kernel) (Nat.le_of_ble_eq_true rfl) (fun E Z hE => ?_)
  have h := zB_top h
  change VV E 2 0 [(0, Value.ref 47), (1, Value.int x1)] [] M
  have J17 : ∀ (s0 : Int32) (M : zM), (f_X6_must_j17 s0 M).bind some = some y → VV E 2 17 [(0, Value.ref 47)] [Value.int s0, Value.ref 47] M := by
    intro s0 M h
    obtain ⟨b3, e4, h⟩ := zB_bind h
    refine V_nm (zbo_v e4).1 ?_
    obtain ⟨M1, e2, h⟩ := zB_let h
    refine V_putZ 13 Z zc5 (by decide) rfl (by decide) rfl ⟨rfl, rfl, rfl⟩ rfl rfl (zbo_v e4).2 w779 (show decode cX6_must 17 = .ok (.putfield 262, 3) by decide +kernel) ?_
    refine V_nmM e2 ?_
    refine V_aload_n 0 Z rfl rfl (show decode cX6_must 20 = .ok (.aload_n 0, 1) by decide +kernel) ?_
    refine V_getI 13 Z zc5 (by decide) rfl (by decide) rfl ⟨rfl, rfl, rfl⟩ w779 (show decode cX6_must 21 = .ok (.getfield 262, 3) by decide +kernel) ?_
    refine V_if_ne 31 Z (by decide) (show decode cX6_must 24 = .ok (.ifCond .ne 7, 3) by decide +kernel) (fun c5 => ?_) (fun c5 => ?_)
    · have h := zB_neg c5 h
      exact V_vretM Z hE h (show decode cX6_must 31 = .ok (.return_, 1) by decide +kernel)
    · have h := zB_pos c5 h
      refine V_aload_n 0 Z rfl rfl (show decode cX6_must 27 = .ok (.aload_n 0, 1) by decide +kernel) ?_
      obtain ⟨M7, e6, h⟩ := zB_bind h
      refine V_callV (rest := []) 0 Z (ok_X6_next  e6) cd_X6_next zc5 (by decide) rfl w1164 w1166 w53 rfl (show decode cX6_must 28 = .ok (.invokevirtual 266, 3) by decide +kernel) rfl ?_
      exact V_vretM Z hE h (show decode cX6_must 31 = .ok (.return_, 1) by decide +kernel)
  have J12 : ∀ (M : zM), (f_X6_must_j12  M).bind some = some y → VV E 2 12 [(0, Value.ref 47)] [Value.ref 47] M := by
    intro  M h
    refine V_iconst 1 (by decide) Z (show decode cX6_must 12 = .ok (.iconst 1, 1) by decide +kernel) ?_
    refine V_goto 17 Z (by decide) (show decode cX6_must 13 = .ok (.goto 4, 3) by decide +kernel) ?_
    exact J17 _ _ h
  refine V_aload_n 0 Z rfl rfl (show decode cX6_must 0 = .ok (.aload_n 0, 1) by decide +kernel) ?_
  refine V_aload_n 0 Z rfl rfl (show decode cX6_must 1 = .ok (.aload_n 0, 1) by decide +kernel) ?_
  refine V_getI 13 Z zc5 (by decide) rfl (by decide) rfl ⟨rfl, rfl, rfl⟩ w779 (show decode cX6_must 2 = .ok (.getfield 262, 3) by decide +kernel) ?_
  refine V_if_ne 12 Z (by decide) (show decode cX6_must 5 = .ok (.ifCond .ne 7, 3) by decide +kernel) (fun c8 => ?_) (fun c8 => ?_)
  · have h := zB_neg c8 h
    refine V_sub [0] rfl ?_
    exact J12 _ h
  · have h := zB_pos c8 h
    refine V_iload_n 1 Z rfl rfl (show decode cX6_must 8 = .ok (.iload_n 1, 1) by decide +kernel) ?_
    refine V_if_ne 16 Z (by decide) (show decode cX6_must 9 = .ok (.ifCond .ne 7, 3) by decide +kernel) (fun c9 => ?_) (fun c9 => ?_)
    · have h := zB_neg c9 h
      refine V_iconst 0 (by decide) Z (show decode cX6_must 16 = .ok (.iconst 0, 1) by decide +kernel) ?_
      refine V_sub [0] rfl ?_
      exact J17 _ _ h
    · have h := zB_pos c9 h
      refine V_sub [0] rfl ?_
      exact J12 _ h
