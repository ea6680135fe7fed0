/-! Generated walks: X6_text X6_isSpot X6_hold X6_above X6_isUnder X6_as X6_cutTo -/
def f_X6_text_l113  : Int32 × Int32 × zM → Option ((Int32 × Int32 × zM) ⊕ (Int32 × zM))
  | (y1, y2, M) =>
    if (M 47 16) ≤ y2 then
      some (.inr ((y1, M)))
    else
      (f_X6_isToldSo (4 * y2) M).bind fun ((v8, M9) : Int32 × zM) =>
      if 0 ≤ v8 then
        (some ((y1 + 1))).bind fun (x11 : Int32) =>
        (some (y2 + 1)).bind fun (x13 : Int32) =>
        some (.inl ((x11, x13, M9)))
      else
        (some ((y1 + 0))).bind fun (x15 : Int32) =>
        (some (y2 + 1)).bind fun (x17 : Int32) =>
        some (.inl ((x15, x17, M9)))
def f_X6_text_j87 (s0 : Int32) (M : zM) : Option (Int32 × zM) :=
  (f_X6_must s0 M).bind fun (M2 : zM) =>
  (some (zU M2 47 8 0)).bind fun (M3 : zM) =>
  if (M3 47 13) = 0 then
    zIter (f_X6_text_l113 ) 1000 (0, 0, M3)
  else
    some ((((-1) - (M3 47 9)), M3))
def f_X6_text_j74 (M : zM) : Option (Int32 × zM) :=
  if (M 47 11) = 0 then
    f_X6_text_j87 1 M
  else
    f_X6_text_j87 0 M
def f_X6_text_l33  : zM → Option ((zM) ⊕ (Int32 × zM))
  | M =>
    if (M 47 13) = 0 then
      if (M 47 11) = 3 then
        (zrd M 54 (M 47 9)).bind fun (v36 : Int32) =>
        if v36 = 59 then
          (f_X6_must 1 M).bind fun (M40 : zM) =>
          (f_X6_readItem  M40).bind fun (M42 : zM) =>
          some (.inl (M42))
        else
          (f_X6_text_j74  M).bind fun z => some (Sum.inr z)
      else
        (f_X6_text_j74  M).bind fun z => some (Sum.inr z)
    else
      (f_X6_text_j74  M).bind fun z => some (Sum.inr z)
def f_X6_text (M : zM) : Option (Int32 × zM) :=
  (some (zU M 47 10 0)).bind fun (M20 : zM) =>
  (some (zU M20 47 13 0)).bind fun (M22 : zM) =>
  (some (zU M22 47 16 0)).bind fun (M24 : zM) =>
  (zrd M24 48 1).bind fun (v26 : Int32) =>
  (some (zU M24 47 17 v26)).bind fun (M28 : zM) =>
  (f_X6_next  M28).bind fun (M31 : zM) =>
  (f_X6_readItem  M31).bind fun (M33 : zM) =>
  zIter (f_X6_text_l33 ) 1000 (M33)
theorem cd_X6_text : zCd yX6_text cX6_text 3 (some .int) 0 := ⟨w1163, w69, ⟨by decide, by decide⟩, by decide +kernel⟩
set_option maxHeartbeats 4000000 in
set_option maxRecDepth 20000 in
theorem ok_X6_text {M : zM} {y : Int32 × zM}  (h : f_X6_text  M = some y) : zRuns yX6_text cX6_text 3 (some .int) 9 230 [.ref 47] M (some (.int y.1)) y.2 := by
  refine zRuns_of (by decide +kernel) (Nat.le_of_ble_eq_true rfl) (fun E Z hE => ?_)
  have h := zB_top h
  change VV E 3 0 [(0, Value.ref 47)] [] M
  have J87 : ∀ (s0 : Int32) (M : zM), (f_X6_text_j87 s0 M).bind some = some y → VV E 3 87 [(0, Value.ref 47)] [Value.int s0, Value.ref 47] M := by
    intro s0 M h
    obtain ⟨M2, e1, h⟩ := zB_bind h
    refine V_callV (rest := []) 1 Z (ok_X6_must  e1) cd_X6_must zc5 (by decide) rfl w1186 w1188 w58 rfl (show decode cX6_text 87 = .ok (.invokevirtual 269, 3) by decide +kernel) rfl ?_
    refine V_aload_n 0 Z rfl rfl (show decode cX6_text 90 = .ok (.aload_n 0, 1) by decide +kernel) ?_
    refine V_iconst 0 (by decide) Z (show decode cX6_text 91 = .ok (.iconst 0, 1) by decide +kernel) ?_
    obtain ⟨M3, e4, h⟩ := zB_let h
    refine V_putI 8 Z zc5 (by decide) rfl (by decide) rfl ⟨rfl, rfl, rfl⟩ rfl rfl w774 (show decode cX6_text 92 = .ok (.putfield 236, 3) by decide +kernel) ?_
    refine V_nmM e4 ?_
    refine V_aload_n 0 Z rfl rfl (show decode cX6_text 95 = .ok (.aload_n 0, 1) by decide +kernel) ?_
    refine V_getI 13 Z zc5 (by decide) rfl (by decide) rfl ⟨rfl, rfl, rfl⟩ w779 (show decode cX6_text 96 = .ok (.getfield 262, 3) by decide +kernel) ?_
    refine V_if_eq 109 Z (by decide) (show decode cX6_text 99 = .ok (.ifCond .eq 10, 3) by decide +kernel) (fun c5 => ?_) (fun c5 => ?_)
    · have h := zB_pos c5 h
      refine V_iconst 0 (by decide) Z (show decode cX6_text 109 = .ok (.iconst 0, 1) by decide +kernel) ?_
      refine V_istore_n [(1, Value.int 0), (0, Value.ref 47)] Z (by decide) rfl rfl (show decode cX6_text 110 = .ok (.istore_n 1, 1) by decide +kernel) ?_
      refine V_iconst 0 (by decide) Z (show decode cX6_text 111 = .ok (.iconst 0, 1) by decide +kernel) ?_
      refine V_istore_n [(2, Value.int 0), (1, Value.int 0), (0, Value.ref 47)] Z (by decide) rfl rfl (show decode cX6_text 112 = .ok (.istore_n 2, 1) by decide +kernel) ?_
      refine V_sub [2, 1, 0] rfl ?_
      refine zIter_loop' (K := some) (fun s : Int32 × Int32 × zM => VV E 3 113 [(0, Value.ref 47), (1, Value.int s.1), (2, Value.int s.2.1)] [] s.2.2) (fun K1 s c1_i c1_r h => ?_) _ _ h
      obtain ⟨y1, y2, M⟩ := s
      change VV E 3 113 [(0, Value.ref 47), (1, Value.int y1), (2, Value.int y2)] [] M
      refine V_iload_n 2 Z rfl rfl (show decode cX6_text 113 = .ok (.iload_n 2, 1) by decide +kernel) ?_
      refine V_aload_n 0 Z rfl rfl (show decode cX6_text 114 = .ok (.aload_n 0, 1) by decide +kernel) ?_
      refine V_getI 16 Z zc5 (by decide) rfl (by decide) rfl ⟨rfl, rfl, rfl⟩ w782 (show decode cX6_text 115 = .ok (.getfield 273, 3) by decide +kernel) ?_
      refine V_icmp_ge 145 Z (by decide) (show decode cX6_text 118 = .ok (.if_icmp .ge 27, 3) by decide +kernel) (fun c6 => ?_) (fun c6 => ?_)
      · have h := zB_pos c6 h
        refine V_iload_n 1 Z rfl rfl (show decode cX6_text 145 = .ok (.iload_n 1, 1) by decide +kernel) ?_
        have h := c1_r _ h
        exact V_iretM Z hE h (show decode cX6_text 146 = .ok (.ireturn, 1) by decide +kernel)
      · have h := zB_neg c6 h
        refine V_iload_n 1 Z rfl rfl (show decode cX6_text 121 = .ok (.iload_n 1, 1) by decide +kernel) ?_
        refine V_aload_n 0 Z rfl rfl (show decode cX6_text 122 = .ok (.aload_n 0, 1) by decide +kernel) ?_
        refine V_iconst 4 (by decide) Z (show decode cX6_text 123 = .ok (.iconst 4, 1) by decide +kernel) ?_
        refine V_iload_n 2 Z rfl rfl (show decode cX6_text 124 = .ok (.iload_n 2, 1) by decide +kernel) ?_
        refine V_imul Z (show decode cX6_text 125 = .ok (.imul, 1) by decide +kernel) ?_
        obtain ⟨⟨v8, M9⟩, e7, h⟩ := zB_bind h
        refine V_callV (rest := [_]) 1 Z (ok_X6_isToldSo  e7) cd_X6_isToldSo zc5 (by decide) rfl w1208 w1210 w62 rfl (show decode cX6_text 126 = .ok (.invokevirtual 312, 3) by decide +kernel) rfl ?_
        refine V_if_ge 136 Z (by decide) (show decode cX6_text 129 = .ok (.ifCond .ge 7, 3) by decide +kernel) (fun c10 => ?_) (fun c10 => ?_)
        · have h := zB_pos c10 h
          refine V_iconst 1 (by decide) Z (show decode cX6_text 136 = .ok (.iconst 1, 1) by decide +kernel) ?_
          refine V_iadd Z (show decode cX6_text 137 = .ok (.iadd, 1) by decide +kernel) ?_
          obtain ⟨x11, e12, h⟩ := zB_let h
          refine V_nm e12 ?_
          refine V_istore_n [(1, Value.int x11), (0, Value.ref 47), (2, Value.int y2)] Z (by decide) rfl rfl (show decode cX6_text 138 = .ok (.istore_n 1, 1) by decide +kernel) ?_
          obtain ⟨x13, e14, h⟩ := zB_let h
          refine V_iinc (n := 1) 2 x13 [(2, Value.int x13), (1, Value.int x11), (0, Value.ref 47)] Z (by decide) rfl e14 rfl (show decode cX6_text 139 = .ok (.iinc 2 1, 3) by decide +kernel) ?_
          refine V_goto 113 Z (by decide) (show decode cX6_text 142 = .ok (.goto (-29), 3) by decide +kernel) ?_
          refine V_sub [2, 1, 0] rfl ?_
          exact c1_i _ h
        · have h := zB_neg c10 h
          refine V_iconst 0 (by decide) Z (show decode cX6_text 132 = .ok (.iconst 0, 1) by decide +kernel) ?_
          refine V_goto 137 Z (by decide) (show decode cX6_text 133 = .ok (.goto 4, 3) by decide +kernel) ?_
          refine V_iadd Z (show decode cX6_text 137 = .ok (.iadd, 1) by decide +kernel) ?_
          obtain ⟨x15, e16, h⟩ := zB_let h
          refine V_nm e16 ?_
          refine V_istore_n [(1, Value.int x15), (0, Value.ref 47), (2, Value.int y2)] Z (by decide) rfl rfl (show decode cX6_text 138 = .ok (.istore_n 1, 1) by decide +kernel) ?_
          obtain ⟨x17, e18, h⟩ := zB_let h
          refine V_iinc (n := 1) 2 x17 [(2, Value.int x17), (1, Value.int x15), (0, Value.ref 47)] Z (by decide) rfl e18 rfl (show decode cX6_text 139 = .ok (.iinc 2 1, 3) by decide +kernel) ?_
          refine V_goto 113 Z (by decide) (show decode cX6_text 142 = .ok (.goto (-29), 3) by decide +kernel) ?_
          refine V_sub [2, 1, 0] rfl ?_
          exact c1_i _ h
    · have h := zB_neg c5 h
      refine V_iconst (-1) (by decide) Z (show decode cX6_text 102 = .ok (.iconst (-1), 1) by decide +kernel) ?_
      refine V_aload_n 0 Z rfl rfl (show decode cX6_text 103 = .ok (.aload_n 0, 1) by decide +kernel) ?_
      refine V_getI 9 Z zc5 (by decide) rfl (by decide) rfl ⟨rfl, rfl, rfl⟩ w775 (show decode cX6_text 104 = .ok (.getfield 243, 3) by decide +kernel) ?_
      refine V_isub Z (show decode cX6_text 107 = .ok (.isub, 1) by decide +kernel) ?_
      exact V_iretM Z hE h (show decode cX6_text 108 = .ok (.ireturn, 1) by decide +kernel)
  have J74 : ∀ (M : zM), (f_X6_text_j74  M).bind some = some y → VV E 3 74 [(0, Value.ref 47)] [] M := by
    intro  M h
    refine V_aload_n 0 Z rfl rfl (show decode cX6_text 74 = .ok (.aload_n 0, 1) by decide +kernel) ?_
    refine V_aload_n 0 Z rfl rfl (show decode cX6_text 75 = .ok (.aload_n 0, 1) by decide +kernel) ?_
    refine V_getI 11 Z zc5 (by decide) rfl (by decide) rfl ⟨rfl, rfl, rfl⟩ w777 (show decode cX6_text 76 = .ok (.getfield 252, 3) by decide +kernel) ?_
    refine V_if_ne 86 Z (by decide) (show decode cX6_text 79 = .ok (.ifCond .ne 7, 3) by decide +kernel) (fun c19 => ?_) (fun c19 => ?_)
    · have h := zB_neg c19 h
      refine V_iconst 0 (by decide) Z (show decode cX6_text 86 = .ok (.iconst 0, 1) by decide +kernel) ?_
      exact J87 _ _ h
    · have h := zB_pos c19 h
      refine V_iconst 1 (by decide) Z (show decode cX6_text 82 = .ok (.iconst 1, 1) by decide +kernel) ?_
      refine V_goto 87 Z (by decide) (show decode cX6_text 83 = .ok (.goto 4, 3) by decide +kernel) ?_
      exact J87 _ _ h
  refine V_aload_n 0 Z rfl rfl (show decode cX6_text 0 = .ok (.aload_n 0, 1) by decide +kernel) ?_
  refine V_iconst 0 (by decide) Z (show decode cX6_text 1 = .ok (.iconst 0, 1) by decide +kernel) ?_
  obtain ⟨M20, e21, h⟩ := zB_let h
  refine V_putI 10 Z zc5 (by decide) rfl (by decide) rfl ⟨rfl, rfl, rfl⟩ rfl rfl w776 (show decode cX6_text 2 = .ok (.putfield 240, 3) by decide +kernel) ?_
  refine V_nmM e21 ?_
  refine V_aload_n 0 Z rfl rfl (show decode cX6_text 5 = .ok (.aload_n 0, 1) by decide +kernel) ?_
  refine V_iconst 0 (by decide) Z (show decode cX6_text 6 = .ok (.iconst 0, 1) by decide +kernel) ?_
  obtain ⟨M22, e23, h⟩ := zB_let h
  refine V_putZ 13 Z zc5 (by decide) rfl (by decide) rfl ⟨rfl, rfl, rfl⟩ rfl rfl rfl w779 (show decode cX6_text 7 = .ok (.putfield 262, 3) by decide +kernel) ?_
  refine V_nmM e23 ?_
  refine V_aload_n 0 Z rfl rfl (show decode cX6_text 10 = .ok (.aload_n 0, 1) by decide +kernel) ?_
  refine V_iconst 0 (by decide) Z (show decode cX6_text 11 = .ok (.iconst 0, 1) by decide +kernel) ?_
  obtain ⟨M24, e25, h⟩ := zB_let h
  refine V_putI 16 Z zc5 (by decide) rfl (by decide) rfl ⟨rfl, rfl, rfl⟩ rfl rfl w782 (show decode cX6_text 12 = .ok (.putfield 273, 3) by decide +kernel) ?_
  refine V_nmM e25 ?_
  refine V_aload_n 0 Z rfl rfl (show decode cX6_text 15 = .ok (.aload_n 0, 1) by decide +kernel) ?_
  refine V_aload_n 0 Z rfl rfl (show decode cX6_text 16 = .ok (.aload_n 0, 1) by decide +kernel) ?_
  refine V_getR 0 48 Z zc5 (by decide) rfl (by decide) rfl (by decide) ⟨rfl, rfl, rfl⟩ w766 (show decode cX6_text 17 = .ok (.getfield 9, 3) by decide +kernel) ?_
  refine V_iconst 1 (by decide) Z (show decode cX6_text 20 = .ok (.iconst 1, 1) by decide +kernel) ?_
  obtain ⟨v26, e27, h⟩ := zB_bind h
  refine V_iald Z e27 (show decode cX6_text 21 = .ok (.iaload, 1) by decide +kernel) ?_
  obtain ⟨M28, e29, h⟩ := zB_let h
  refine V_putI 17 Z zc5 (by decide) rfl (by decide) rfl ⟨rfl, rfl, rfl⟩ rfl rfl w783 (show decode cX6_text 22 = .ok (.putfield 286, 3) by decide +kernel) ?_
  refine V_nmM e29 ?_
  refine V_aload_n 0 Z rfl rfl (show decode cX6_text 25 = .ok (.aload_n 0, 1) by decide +kernel) ?_
  obtain ⟨M31, e30, h⟩ := zB_bind h
  refine V_callV (rest := []) 0 Z (ok_X6_next  e30) cd_X6_next zc5 (by decide) rfl w1164 w1166 w53 rfl (show decode cX6_text 26 = .ok (.invokevirtual 266, 3) by decide +kernel) rfl ?_
  refine V_aload_n 0 Z rfl rfl (show decode cX6_text 29 = .ok (.aload_n 0, 1) by decide +kernel) ?_
  obtain ⟨M33, e32, h⟩ := zB_bind h
  refine V_callV (rest := []) 0 Z (ok_X6_readItem  e32) cd_X6_readItem zc5 (by decide) rfl w1172 w1174 w55 rfl (show decode cX6_text 30 = .ok (.invokevirtual 309, 3) by decide +kernel) rfl ?_
  refine zIter_loop' (K := some) (fun s : zM => VV E 3 33 [(0, Value.ref 47)] [] s) (fun K1 M c1_i c1_r h => ?_) _ _ h
  refine V_aload_n 0 Z rfl rfl (show decode cX6_text 33 = .ok (.aload_n 0, 1) by decide +kernel) ?_
  refine V_getI 13 Z zc5 (by decide) rfl (by decide) rfl ⟨rfl, rfl, rfl⟩ w779 (show decode cX6_text 34 = .ok (.getfield 262, 3) by decide +kernel) ?_
  refine V_if_ne 74 Z (by decide) (show decode cX6_text 37 = .ok (.ifCond .ne 37, 3) by decide +kernel) (fun c34 => ?_) (fun c34 => ?_)
  · have h := zB_neg c34 h
    have h := zB_lift c1_r h
    exact J74 _ h
  · have h := zB_pos c34 h
    refine V_aload_n 0 Z rfl rfl (show decode cX6_text 40 = .ok (.aload_n 0, 1) by decide +kernel) ?_
    refine V_getI 11 Z zc5 (by decide) rfl (by decide) rfl ⟨rfl, rfl, rfl⟩ w777 (show decode cX6_text 41 = .ok (.getfield 252, 3) by decide +kernel) ?_
    refine V_iconst 3 (by decide) Z (show decode cX6_text 44 = .ok (.iconst 3, 1) by decide +kernel) ?_
    refine V_icmp_ne 74 Z (by decide) (show decode cX6_text 45 = .ok (.if_icmp .ne 29, 3) by decide +kernel) (fun c35 => ?_) (fun c35 => ?_)
    · have h := zB_neg c35 h
      have h := zB_lift c1_r h
      exact J74 _ h
    · have h := zB_pos c35 h
      refine V_aload_n 0 Z rfl rfl (show decode cX6_text 48 = .ok (.aload_n 0, 1) by decide +kernel) ?_
      refine V_getR 7 54 Z zc5 (by decide) rfl (by decide) rfl (by decide) ⟨rfl, rfl, rfl⟩ w773 (show decode cX6_text 49 = .ok (.getfield 28, 3) by decide +kernel) ?_
      refine V_aload_n 0 Z rfl rfl (show decode cX6_text 52 = .ok (.aload_n 0, 1) by decide +kernel) ?_
      refine V_getI 9 Z zc5 (by decide) rfl (by decide) rfl ⟨rfl, rfl, rfl⟩ w775 (show decode cX6_text 53 = .ok (.getfield 243, 3) by decide +kernel) ?_
      obtain ⟨v36, e37, h⟩ := zB_bind h
      refine V_iald Z e37 (show decode cX6_text 56 = .ok (.iaload, 1) by decide +kernel) ?_
      refine V_bipush 59 (by decide) Z (show decode cX6_text 57 = .ok (.bipush 59, 2) by decide +kernel) ?_
      refine V_icmp_ne 74 Z (by decide) (show decode cX6_text 59 = .ok (.if_icmp .ne 15, 3) by decide +kernel) (fun c38 => ?_) (fun c38 => ?_)
      · have h := zB_neg c38 h
        have h := zB_lift c1_r h
        exact J74 _ h
      · have h := zB_pos c38 h
        refine V_aload_n 0 Z rfl rfl (show decode cX6_text 62 = .ok (.aload_n 0, 1) by decide +kernel) ?_
        refine V_iconst 1 (by decide) Z (show decode cX6_text 63 = .ok (.iconst 1, 1) by decide +kernel) ?_
        obtain ⟨M40, e39, h⟩ := zB_bind h
        refine V_callV (rest := []) 1 Z (ok_X6_must  e39) cd_X6_must zc5 (by decide) rfl w1186 w1188 w58 rfl (show decode cX6_text 64 = .ok (.invokevirtual 269, 3) by decide +kernel) rfl ?_
        refine V_aload_n 0 Z rfl rfl (show decode cX6_text 67 = .ok (.aload_n 0, 1) by decide +kernel) ?_
        obtain ⟨M42, e41, h⟩ := zB_bind h
        refine V_callV (rest := []) 0 Z (ok_X6_readItem  e41) cd_X6_readItem zc5 (by decide) rfl w1172 w1174 w55 rfl (show decode cX6_text 68 = .ok (.invokevirtual 309, 3) by decide +kernel) rfl ?_
        refine V_goto 33 Z (by decide) (show decode cX6_text 71 = .ok (.goto (-38), 3) by decide +kernel) ?_
        exact c1_i _ h
def f_X6_isSpot (x0 : Int32) (M : zM) : Option (Int32) :=
  (f_X6_within x0 0 9 M).bind fun (v2 : Int32) =>
  (zbo v2).bind fun (b3 : Int32) =>
  some (b3)
theorem cd_X6_isSpot : zCd yX6_isSpot cX6_isSpot 1 (some .boolean) 1 := ⟨w1218, w69, ⟨by decide, by decide⟩, by decide +kernel⟩
set_option maxHeartbeats 4000000 in
set_option maxRecDepth 20000 in
theorem ok_X6_isSpot {x0 : Int32} {M : zM} {y : Int32}  (h : f_X6_isSpot x0 M = some y) : zRuns yX6_isSpot cX6_isSpot 1 (some .boolean) 1 22 [.int x0] M (some (.int y)) M := by
  refine zRuns_of (by decide +kernel) (Nat.le_of_ble_eq_true rfl) (fun E Z hE => ?_)
  have h := zB_top h
  change VV E 1 0 [(0, Value.int x0)] [] M
  refine V_iload_n 0 Z rfl rfl (show decode cX6_isSpot 0 = .ok (.iload_n 0, 1) by decide +kernel) ?_
  refine V_iconst 0 (by decide) Z (show decode cX6_isSpot 1 = .ok (.iconst 0, 1) by decide +kernel) ?_
  refine V_bipush 9 (by decide) Z (show decode cX6_isSpot 2 = .ok (.bipush 9, 2) by decide +kernel) ?_
  obtain ⟨v2, e1, h⟩ := zB_bind h
  refine V_callS (rest := []) 3 Z (ok_X6_within  e1) cd_X6_within w840 w841 rfl (show decode cX6_isSpot 4 = .ok (.invokestatic 76, 3) by decide +kernel) rfl ?_
  obtain ⟨b3, e4, h⟩ := zB_bind h
  refine V_nm (zbo_v e4).1 ?_
  exact V_zretP Z hE h (zbo_v e4).2 (show decode cX6_isSpot 7 = .ok (.ireturn, 1) by decide +kernel)
def f_X6_hold_j27 (y1 : Int32) (y2 : Int32) (M : zM) : Option (Int32 × zM) :=
  (zwr M 48 (5 + y1) y2).bind fun (M1 : zM) =>
  some ((1, M1))
def f_X6_hold_j20 (M : zM) : Option (Int32 × zM) :=
  (f_X6_finding (-1000001) M).bind fun ((v4, M5) : Int32 × zM) =>
  some ((v4, M5))
def f_X6_hold (x1 : Int32) (x2 : Int32) (M : zM) : Option (Int32 × zM) :=
  (f_X6_isSpot x1 M).bind fun (v7 : Int32) =>
  if v7 = 0 then
    f_X6_hold_j20  M
  else
    if x2 = (-1) then
      f_X6_hold_j27 x1 x2 M
    else
      (f_X6_isName x2 M).bind fun (v11 : Int32) =>
      if v11 = 0 then
        f_X6_hold_j20  M
      else
        f_X6_hold_j27 x1 x2 M
theorem cd_X6_hold : zCd yX6_hold cX6_hold 3 (some .int) 2 := ⟨w1215, w69, ⟨by decide, by decide⟩, by decide +kernel⟩
set_option maxHeartbeats 4000000 in
set_option maxRecDepth 20000 in
theorem ok_X6_hold {x1 : Int32} {x2 : Int32} {M : zM} {y : Int32 × zM}  (h : f_X6_hold x1 x2 M = some y) : zRuns yX6_hold cX6_hold 3 (some .int) 2 43 [.ref 47, .int x1, .int x2] M (some (.int y.1)) y.2 := by
  refine zRuns_of (by decide +kernel) (Nat.le_of_ble_eq_true rfl) (fun E Z hE => ?_)
  have h := zB_top h
  change VV E 3 0 [(0, Value.ref 47), (1, Value.int x1), (2, Value.int x2)] [] M
  have J27 : ∀ (y1 : Int32) (y2 : Int32) (M : zM), (f_X6_hold_j27 y1 y2 M).bind some = some y → VV E 3 27 [(0, Value.ref 47), (1, Value.int y1), (2, Value.int y2)] [] M := by
    intro y1 y2 M h
    refine V_aload_n 0 Z rfl rfl (show decode cX6_hold 27 = .ok (.aload_n 0, 1) by decide +kernel) ?_
    refine V_getR 0 48 Z zc5 (by decide) rfl (by decide) rfl (by decide) ⟨rfl, rfl, rfl⟩ w766 (show decode cX6_hold 28 = .ok (.getfield 9, 3) by decide +kernel) ?_
    refine V_iconst 5 (by decide) Z (show decode cX6_hold 31 = .ok (.iconst 5, 1) by decide +kernel) ?_
    refine V_iload_n 1 Z rfl rfl (show decode cX6_hold 32 = .ok (.iload_n 1, 1) by decide +kernel) ?_
    refine V_iadd Z (show decode cX6_hold 33 = .ok (.iadd, 1) by decide +kernel) ?_
    refine V_iload_n 2 Z rfl rfl (show decode cX6_hold 34 = .ok (.iload_n 2, 1) by decide +kernel) ?_
    obtain ⟨M1, e2, h⟩ := zB_bind h
    refine V_iast Z e2 (show decode cX6_hold 35 = .ok (.iastore, 1) by decide +kernel) ?_
    refine V_iconst 1 (by decide) Z (show decode cX6_hold 36 = .ok (.iconst 1, 1) by decide +kernel) ?_
    exact V_iretM Z hE h (show decode cX6_hold 37 = .ok (.ireturn, 1) by decide +kernel)
  have J20 : ∀ (M : zM), (f_X6_hold_j20  M).bind some = some y → VV E 3 20 [(0, Value.ref 47)] [] M := by
    intro  M h
    refine V_aload_n 0 Z rfl rfl (show decode cX6_hold 20 = .ok (.aload_n 0, 1) by decide +kernel) ?_
    refine V_ldc (-1000001) Z w843 (show decode cX6_hold 21 = .ok (.ldc 66, 2) by decide +kernel) ?_
    obtain ⟨⟨v4, M5⟩, e3, h⟩ := zB_bind h
    refine V_callV (rest := []) 1 Z (ok_X6_finding  e3) cd_X6_finding zc5 (by decide) rfl w844 w846 w17 rfl (show decode cX6_hold 23 = .ok (.invokevirtual 72, 3) by decide +kernel) rfl ?_
    exact V_iretM Z hE h (show decode cX6_hold 26 = .ok (.ireturn, 1) by decide +kernel)
  refine V_iload_n 1 Z rfl rfl (show decode cX6_hold 0 = .ok (.iload_n 1, 1) by decide +kernel) ?_
  obtain ⟨v7, e6, h⟩ := zB_bind h
  refine V_callS (rest := []) 1 Z (ok_X6_isSpot  e6) cd_X6_isSpot w1216 w1217 rfl (show decode cX6_hold 1 = .ok (.invokestatic 315, 3) by decide +kernel) rfl ?_
  refine V_if_eq 20 Z (by decide) (show decode cX6_hold 4 = .ok (.ifCond .eq 16, 3) by decide +kernel) (fun c8 => ?_) (fun c8 => ?_)
  · have h := zB_pos c8 h
    refine V_sub [0] rfl ?_
    exact J20 _ h
  · have h := zB_neg c8 h
    refine V_iload_n 2 Z rfl rfl (show decode cX6_hold 7 = .ok (.iload_n 2, 1) by decide +kernel) ?_
    refine V_iconst (-1) (by decide) Z (show decode cX6_hold 8 = .ok (.iconst (-1), 1) by decide +kernel) ?_
    refine V_icmp_eq 27 Z (by decide) (show decode cX6_hold 9 = .ok (.if_icmp .eq 18, 3) by decide +kernel) (fun c9 => ?_) (fun c9 => ?_)
    · have h := zB_pos c9 h
      exact J27 _ _ _ h
    · have h := zB_neg c9 h
      refine V_aload_n 0 Z rfl rfl (show decode cX6_hold 12 = .ok (.aload_n 0, 1) by decide +kernel) ?_
      refine V_iload_n 2 Z rfl rfl (show decode cX6_hold 13 = .ok (.iload_n 2, 1) by decide +kernel) ?_
      obtain ⟨v11, e10, h⟩ := zB_bind h
      refine V_callV (rest := []) 1 Z (ok_X6_isName  e10) cd_X6_isName zc5 (by decide) rfl w860 w862 w19 rfl (show decode cX6_hold 14 = .ok (.invokevirtual 100, 3) by decide +kernel) rfl ?_
      refine V_if_ne 27 Z (by decide) (show decode cX6_hold 17 = .ok (.ifCond .ne 10, 3) by decide +kernel) (fun c12 => ?_) (fun c12 => ?_)
      · have h := zB_neg c12 h
        exact J27 _ _ _ h
      · have h := zB_pos c12 h
        refine V_sub [0] rfl ?_
        exact J20 _ h
def f_X6_above (x0 : Int32) (M : zM) : Option (Int32) :=
  if x0 = 0 then
    some (((-1) : Int32))
  else
    if x0 = 3 then
      some ((2 : Int32))
    else
      if x0 = 4 then
        some ((3 : Int32))
      else
        if x0 = 6 then
          some ((1 : Int32))
        else
          some ((0 : Int32))
theorem cd_X6_above : zCd yX6_above cX6_above 1 (some .int) 1 := ⟨w1228, w69, ⟨by decide, by decide⟩, by decide +kernel⟩
set_option maxHeartbeats 4000000 in
set_option maxRecDepth 20000 in
theorem ok_X6_above {x0 : Int32} {M : zM} {y : Int32}  (h : f_X6_above x0 M = some y) : zRuns yX6_above cX6_above 1 (some .int) 0 0 [.int x0] M (some (.int y)) M := by
  refine zRuns_of (by decide +kernel) (Nat.le_of_ble_eq_true rfl) (fun E Z hE => ?_)
  have h := zB_top h
  change VV E 1 0 [(0, Value.int x0)] [] M
  refine V_iload_n 0 Z rfl rfl (show decode cX6_above 0 = .ok (.iload_n 0, 1) by decide +kernel) ?_
  refine V_if_ne 8 Z (by decide) (show decode cX6_above 1 = .ok (.ifCond .ne 7, 3) by decide +kernel) (fun c1 => ?_) (fun c1 => ?_)
  · have h := zB_neg c1 h
    refine V_iload_n 0 Z rfl rfl (show decode cX6_above 8 = .ok (.iload_n 0, 1) by decide +kernel) ?_
    refine V_iconst 3 (by decide) Z (show decode cX6_above 9 = .ok (.iconst 3, 1) by decide +kernel) ?_
    refine V_icmp_ne 17 Z (by decide) (show decode cX6_above 10 = .ok (.if_icmp .ne 7, 3) by decide +kernel) (fun c2 => ?_) (fun c2 => ?_)
    · have h := zB_neg c2 h
      refine V_iload_n 0 Z rfl rfl (show decode cX6_above 17 = .ok (.iload_n 0, 1) by decide +kernel) ?_
      refine V_iconst 4 (by decide) Z (show decode cX6_above 18 = .ok (.iconst 4, 1) by decide +kernel) ?_
      refine V_icmp_ne 26 Z (by decide) (show decode cX6_above 19 = .ok (.if_icmp .ne 7, 3) by decide +kernel) (fun c3 => ?_) (fun c3 => ?_)
      · have h := zB_neg c3 h
        refine V_iload_n 0 Z rfl rfl (show decode cX6_above 26 = .ok (.iload_n 0, 1) by decide +kernel) ?_
        refine V_bipush 6 (by decide) Z (show decode cX6_above 27 = .ok (.bipush 6, 2) by decide +kernel) ?_
        refine V_icmp_ne 36 Z (by decide) (show decode cX6_above 29 = .ok (.if_icmp .ne 7, 3) by decide +kernel) (fun c4 => ?_) (fun c4 => ?_)
        · have h := zB_neg c4 h
          refine V_iconst 0 (by decide) Z (show decode cX6_above 36 = .ok (.iconst 0, 1) by decide +kernel) ?_
          exact V_iretP Z hE h (show decode cX6_above 37 = .ok (.ireturn, 1) by decide +kernel)
        · have h := zB_pos c4 h
          refine V_iconst 1 (by decide) Z (show decode cX6_above 32 = .ok (.iconst 1, 1) by decide +kernel) ?_
          refine V_goto 37 Z (by decide) (show decode cX6_above 33 = .ok (.goto 4, 3) by decide +kernel) ?_
          exact V_iretP Z hE h (show decode cX6_above 37 = .ok (.ireturn, 1) by decide +kernel)
      · have h := zB_pos c3 h
        refine V_iconst 3 (by decide) Z (show decode cX6_above 22 = .ok (.iconst 3, 1) by decide +kernel) ?_
        refine V_goto 37 Z (by decide) (show decode cX6_above 23 = .ok (.goto 14, 3) by decide +kernel) ?_
        exact V_iretP Z hE h (show decode cX6_above 37 = .ok (.ireturn, 1) by decide +kernel)
    · have h := zB_pos c2 h
      refine V_iconst 2 (by decide) Z (show decode cX6_above 13 = .ok (.iconst 2, 1) by decide +kernel) ?_
      refine V_goto 37 Z (by decide) (show decode cX6_above 14 = .ok (.goto 23, 3) by decide +kernel) ?_
      exact V_iretP Z hE h (show decode cX6_above 37 = .ok (.ireturn, 1) by decide +kernel)
  · have h := zB_pos c1 h
    refine V_iconst (-1) (by decide) Z (show decode cX6_above 4 = .ok (.iconst (-1), 1) by decide +kernel) ?_
    refine V_goto 37 Z (by decide) (show decode cX6_above 5 = .ok (.goto 32, 3) by decide +kernel) ?_
    exact V_iretP Z hE h (show decode cX6_above 37 = .ok (.ireturn, 1) by decide +kernel)
def f_X6_isUnder_j19 (y2 : Int32) (M : zM) : Option (Int32) :=
  if y2 < 0 then
    some ((0 : Int32))
  else
    some ((1 : Int32))
def f_X6_isUnder_l2 (y1 : Int32) (M : zM) : Int32 → Option ((Int32) ⊕ (Int32))
  | y2 =>
    if y2 < 0 then
      (f_X6_isUnder_j19 y2 M).bind fun z => some (Sum.inr z)
    else
      if y2 = y1 then
        (f_X6_isUnder_j19 y2 M).bind fun z => some (Sum.inr z)
      else
        (f_X6_above y2 M).bind fun (v5 : Int32) =>
        some (.inl (v5))
def f_X6_isUnder (x0 : Int32) (x1 : Int32) (M : zM) : Option (Int32) :=
  zIter (f_X6_isUnder_l2 x1 M) 1000 (x0)
theorem cd_X6_isUnder : zCd yX6_isUnder cX6_isUnder 3 (some .boolean) 2 := ⟨w1225, w69, ⟨by decide, by decide⟩, by decide +kernel⟩
set_option maxHeartbeats 4000000 in
set_option maxRecDepth 20000 in
theorem ok_X6_isUnder {x0 : Int32} {x1 : Int32} {M : zM} {y : Int32}  (h : f_X6_isUnder x0 x1 M = some y) : zRuns yX6_isUnder cX6_isUnder 3 (some .boolean) 1 20 [.int x0, .int x1] M (some (.int y)) M := by
  refine zRuns_of (by decide +kernel) (Nat.le_of_ble_eq_true rfl) (fun E Z hE => ?_)
  have h := zB_top h
  change VV E 3 0 [(0, Value.int x0), (1, Value.int x1)] [] M
  have J19 : ∀ (y2 : Int32), (f_X6_isUnder_j19 y2 M).bind some = some y → VV E 3 19 [(2, Value.int y2)] [] M := by
    intro y2 h
    refine V_iload_n 0 Z rfl rfl (show decode cX6_isUnder 19 = .ok (.iload_n 2, 1) by decide +kernel) ?_
    refine V_if_lt 27 Z (by decide) (show decode cX6_isUnder 20 = .ok (.ifCond .lt 7, 3) by decide +kernel) (fun c1 => ?_) (fun c1 => ?_)
    · have h := zB_pos c1 h
      refine V_iconst 0 (by decide) Z (show decode cX6_isUnder 27 = .ok (.iconst 0, 1) by decide +kernel) ?_
      exact V_zretP Z hE h rfl (show decode cX6_isUnder 28 = .ok (.ireturn, 1) by decide +kernel)
    · have h := zB_neg c1 h
      refine V_iconst 1 (by decide) Z (show decode cX6_isUnder 23 = .ok (.iconst 1, 1) by decide +kernel) ?_
      refine V_goto 28 Z (by decide) (show decode cX6_isUnder 24 = .ok (.goto 4, 3) by decide +kernel) ?_
      exact V_zretP Z hE h rfl (show decode cX6_isUnder 28 = .ok (.ireturn, 1) by decide +kernel)
  refine V_iload_n 0 Z rfl rfl (show decode cX6_isUnder 0 = .ok (.iload_n 0, 1) by decide +kernel) ?_
  refine V_istore_n [(2, Value.int x0), (0, Value.int x0), (1, Value.int x1)] Z (by decide) rfl rfl (show decode cX6_isUnder 1 = .ok (.istore_n 2, 1) by decide +kernel) ?_
  refine V_sub [2, 0] rfl ?_
  refine zIter_loop' (K := some) (fun s : Int32 => VV E 3 2 [(1, Value.int x1), (2, Value.int s)] [] M) (fun K1 y2 c1_i c1_r h => ?_) _ _ h
  refine V_iload_n 1 Z rfl rfl (show decode cX6_isUnder 2 = .ok (.iload_n 2, 1) by decide +kernel) ?_
  refine V_if_lt 19 Z (by decide) (show decode cX6_isUnder 3 = .ok (.ifCond .lt 16, 3) by decide +kernel) (fun c2 => ?_) (fun c2 => ?_)
  · have h := zB_pos c2 h
    refine V_sub [1] rfl ?_
    have h := zB_lift c1_r h
    exact J19 _ h
  · have h := zB_neg c2 h
    refine V_iload_n 1 Z rfl rfl (show decode cX6_isUnder 6 = .ok (.iload_n 2, 1) by decide +kernel) ?_
    refine V_iload_n 0 Z rfl rfl (show decode cX6_isUnder 7 = .ok (.iload_n 1, 1) by decide +kernel) ?_
    refine V_icmp_eq 19 Z (by decide) (show decode cX6_isUnder 8 = .ok (.if_icmp .eq 11, 3) by decide +kernel) (fun c3 => ?_) (fun c3 => ?_)
    · have h := zB_pos c3 h
      refine V_sub [1] rfl ?_
      have h := zB_lift c1_r h
      exact J19 _ h
    · have h := zB_neg c3 h
      refine V_iload_n 1 Z rfl rfl (show decode cX6_isUnder 11 = .ok (.iload_n 2, 1) by decide +kernel) ?_
      obtain ⟨v5, e4, h⟩ := zB_bind h
      refine V_callS (rest := []) 1 Z (ok_X6_above  e4) cd_X6_above w1226 w1227 rfl (show decode cX6_isUnder 12 = .ok (.invokestatic 326, 3) by decide +kernel) rfl ?_
      refine V_istore_n [(2, Value.int v5), (1, Value.int x1)] Z (by decide) rfl rfl (show decode cX6_isUnder 15 = .ok (.istore_n 2, 1) by decide +kernel) ?_
      refine V_goto 2 Z (by decide) (show decode cX6_isUnder 16 = .ok (.goto (-14), 3) by decide +kernel) ?_
      refine V_sub [1, 0] rfl ?_
      exact c1_i _ h
def f_X6_as_j14 (M : zM) : Option (Int32 × zM) :=
  (f_X6_finding (-1000001) M).bind fun ((v2, M3) : Int32 × zM) =>
  some ((v2, M3))
def f_X6_as (x1 : Int32) (x2 : Int32) (M : zM) : Option (Int32 × zM) :=
  (f_X6_isSpot x1 M).bind fun (v5 : Int32) =>
  if v5 = 0 then
    f_X6_as_j14  M
  else
    (f_X6_isKind x2 M).bind fun (v8 : Int32) =>
    if v8 = 0 then
      f_X6_as_j14  M
    else
      (zrd M 48 (5 + x1)).bind fun (v10 : Int32) =>
      if 0 ≤ v10 then
        (f_X6_nameIs v10 0 M).bind fun (v14 : Int32) =>
        (f_X6_isUnder v14 x2 M).bind fun (v16 : Int32) =>
        if v16 = 0 then
          (f_X6_finding (-1000003) M).bind fun ((v19, M20) : Int32 × zM) =>
          some ((v19, M20))
        else
          some ((v10, M))
      else
        (f_X6_finding (-1000006) M).bind fun ((v22, M23) : Int32 × zM) =>
        some ((v22, M23))
theorem cd_X6_as : zCd yX6_as cX6_as 4 (some .int) 2 := ⟨w1222, w69, ⟨by decide, by decide⟩, by decide +kernel⟩
set_option maxHeartbeats 4000000 in
set_option maxRecDepth 20000 in
theorem ok_X6_as {x1 : Int32} {x2 : Int32} {M : zM} {y : Int32 × zM}  (h : f_X6_as x1 x2 M = some y) : zRuns yX6_as cX6_as 4 (some .int) 2 43 [.ref 47, .int x1, .int x2] M (some (.int y.1)) y.2 := by
  refine zRuns_of (by decide +kernel) (Nat.le_of_ble_eq_true rfl) (fun E Z hE => ?_)
  have h := zB_top h
  change VV E 4 0 [(0, Value.ref 47), (1, Value.int x1), (2, Value.int x2)] [] M
  have J14 : ∀ (M : zM), (f_X6_as_j14  M).bind some = some y → VV E 4 14 [(0, Value.ref 47)] [] M := by
    intro  M h
    refine V_aload_n 0 Z rfl rfl (show decode cX6_as 14 = .ok (.aload_n 0, 1) by decide +kernel) ?_
    refine V_ldc (-1000001) Z w843 (show decode cX6_as 15 = .ok (.ldc 66, 2) by decide +kernel) ?_
    obtain ⟨⟨v2, M3⟩, e1, h⟩ := zB_bind h
    refine V_callV (rest := []) 1 Z (ok_X6_finding  e1) cd_X6_finding zc5 (by decide) rfl w844 w846 w17 rfl (show decode cX6_as 17 = .ok (.invokevirtual 72, 3) by decide +kernel) rfl ?_
    exact V_iretM Z hE h (show decode cX6_as 20 = .ok (.ireturn, 1) by decide +kernel)
  refine V_iload_n 1 Z rfl rfl (show decode cX6_as 0 = .ok (.iload_n 1, 1) by decide +kernel) ?_
  obtain ⟨v5, e4, h⟩ := zB_bind h
  refine V_callS (rest := []) 1 Z (ok_X6_isSpot  e4) cd_X6_isSpot w1216 w1217 rfl (show decode cX6_as 1 = .ok (.invokestatic 315, 3) by decide +kernel) rfl ?_
  refine V_if_eq 14 Z (by decide) (show decode cX6_as 4 = .ok (.ifCond .eq 10, 3) by decide +kernel) (fun c6 => ?_) (fun c6 => ?_)
  · have h := zB_pos c6 h
    refine V_sub [0] rfl ?_
    exact J14 _ h
  · have h := zB_neg c6 h
    refine V_iload_n 2 Z rfl rfl (show decode cX6_as 7 = .ok (.iload_n 2, 1) by decide +kernel) ?_
    obtain ⟨v8, e7, h⟩ := zB_bind h
    refine V_callS (rest := []) 1 Z (ok_X6_isKind  e7) cd_X6_isKind w837 w838 rfl (show decode cX6_as 8 = .ok (.invokestatic 84, 3) by decide +kernel) rfl ?_
    refine V_if_ne 21 Z (by decide) (show decode cX6_as 11 = .ok (.ifCond .ne 10, 3) by decide +kernel) (fun c9 => ?_) (fun c9 => ?_)
    · have h := zB_neg c9 h
      refine V_aload_n 0 Z rfl rfl (show decode cX6_as 21 = .ok (.aload_n 0, 1) by decide +kernel) ?_
      refine V_getR 0 48 Z zc5 (by decide) rfl (by decide) rfl (by decide) ⟨rfl, rfl, rfl⟩ w766 (show decode cX6_as 22 = .ok (.getfield 9, 3) by decide +kernel) ?_
      refine V_iconst 5 (by decide) Z (show decode cX6_as 25 = .ok (.iconst 5, 1) by decide +kernel) ?_
      refine V_iload_n 1 Z rfl rfl (show decode cX6_as 26 = .ok (.iload_n 1, 1) by decide +kernel) ?_
      refine V_iadd Z (show decode cX6_as 27 = .ok (.iadd, 1) by decide +kernel) ?_
      obtain ⟨v10, e11, h⟩ := zB_bind h
      refine V_iald Z e11 (show decode cX6_as 28 = .ok (.iaload, 1) by decide +kernel) ?_
      refine V_istore_n [(3, Value.int v10), (0, Value.ref 47), (1, Value.int x1), (2, Value.int x2)] Z (by decide) rfl rfl (show decode cX6_as 29 = .ok (.istore_n 3, 1) by decide +kernel) ?_
      refine V_iload_n 0 Z rfl rfl (show decode cX6_as 30 = .ok (.iload_n 3, 1) by decide +kernel) ?_
      refine V_if_ge 41 Z (by decide) (show decode cX6_as 31 = .ok (.ifCond .ge 10, 3) by decide +kernel) (fun c12 => ?_) (fun c12 => ?_)
      · have h := zB_pos c12 h
        refine V_aload_n 1 Z rfl rfl (show decode cX6_as 41 = .ok (.aload_n 0, 1) by decide +kernel) ?_
        refine V_iload_n 0 Z rfl rfl (show decode cX6_as 42 = .ok (.iload_n 3, 1) by decide +kernel) ?_
        refine V_iconst 0 (by decide) Z (show decode cX6_as 43 = .ok (.iconst 0, 1) by decide +kernel) ?_
        obtain ⟨v14, e13, h⟩ := zB_bind h
        refine V_callV (rest := []) 2 Z (ok_X6_nameIs  e13) cd_X6_nameIs zc5 (by decide) rfl w868 w870 w21 rfl (show decode cX6_as 44 = .ok (.invokevirtual 93, 3) by decide +kernel) rfl ?_
        refine V_iload_n 3 Z rfl rfl (show decode cX6_as 47 = .ok (.iload_n 2, 1) by decide +kernel) ?_
        obtain ⟨v16, e15, h⟩ := zB_bind h
        refine V_callS (rest := []) 2 Z (ok_X6_isUnder  e15) cd_X6_isUnder w1223 w1224 rfl (show decode cX6_as 48 = .ok (.invokestatic 318, 3) by decide +kernel) rfl ?_
        refine V_if_eq 58 Z (by decide) (show decode cX6_as 51 = .ok (.ifCond .eq 7, 3) by decide +kernel) (fun c17 => ?_) (fun c17 => ?_)
        · have h := zB_pos c17 h
          refine V_aload_n 1 Z rfl rfl (show decode cX6_as 58 = .ok (.aload_n 0, 1) by decide +kernel) ?_
          refine V_ldcw (-1000003) Z w1229 (show decode cX6_as 59 = .ok (.ldc_w 321, 3) by decide +kernel) ?_
          obtain ⟨⟨v19, M20⟩, e18, h⟩ := zB_bind h
          refine V_callV (rest := []) 1 Z (ok_X6_finding  e18) cd_X6_finding zc5 (by decide) rfl w844 w846 w17 rfl (show decode cX6_as 62 = .ok (.invokevirtual 72, 3) by decide +kernel) rfl ?_
          exact V_iretM Z hE h (show decode cX6_as 65 = .ok (.ireturn, 1) by decide +kernel)
        · have h := zB_neg c17 h
          refine V_iload_n 0 Z rfl rfl (show decode cX6_as 54 = .ok (.iload_n 3, 1) by decide +kernel) ?_
          refine V_goto 65 Z (by decide) (show decode cX6_as 55 = .ok (.goto 10, 3) by decide +kernel) ?_
          exact V_iretM Z hE h (show decode cX6_as 65 = .ok (.ireturn, 1) by decide +kernel)
      · have h := zB_neg c12 h
        refine V_aload_n 1 Z rfl rfl (show decode cX6_as 34 = .ok (.aload_n 0, 1) by decide +kernel) ?_
        refine V_ldc (-1000006) Z w1122 (show decode cX6_as 35 = .ok (.ldc 222, 2) by decide +kernel) ?_
        obtain ⟨⟨v22, M23⟩, e21, h⟩ := zB_bind h
        refine V_callV (rest := []) 1 Z (ok_X6_finding  e21) cd_X6_finding zc5 (by decide) rfl w844 w846 w17 rfl (show decode cX6_as 37 = .ok (.invokevirtual 72, 3) by decide +kernel) rfl ?_
        exact V_iretM Z hE h (show decode cX6_as 40 = .ok (.ireturn, 1) by decide +kernel)
    · have h := zB_pos c9 h
      refine V_sub [0] rfl ?_
      exact J14 _ h
def f_X6_cutTo (x0 : Int32) (x1 : Int32) (M : zM) : Option (Int32) :=
  if x1 = 8 then
    some (((x0 : Int32).toInt8.toInt32))
  else
    if x1 = 16 then
      some (((x0 : Int32).toInt16.toInt32))
    else
      some (x0)
theorem cd_X6_cutTo : zCd yX6_cutTo cX6_cutTo 2 (some .int) 2 := ⟨w1241, w69, ⟨by decide, by decide⟩, by decide +kernel⟩
set_option maxHeartbeats 4000000 in
set_option maxRecDepth 20000 in
theorem ok_X6_cutTo {x0 : Int32} {x1 : Int32} {M : zM} {y : Int32}  (h : f_X6_cutTo x0 x1 M = some y) : zRuns yX6_cutTo cX6_cutTo 2 (some .int) 0 0 [.int x0, .int x1] M (some (.int y)) M := by
  refine zRuns_of (by decide +kernel) (Nat.le_of_ble_eq_true rfl) (fun E Z hE => ?_)
  have h := zB_top h
  change VV E 2 0 [(0, Value.int x0), (1, Value.int x1)] [] M
  refine V_iload_n 1 Z rfl rfl (show decode cX6_cutTo 0 = .ok (.iload_n 1, 1) by decide +kernel) ?_
  refine V_bipush 8 (by decide) Z (show decode cX6_cutTo 1 = .ok (.bipush 8, 2) by decide +kernel) ?_
  refine V_icmp_ne 11 Z (by decide) (show decode cX6_cutTo 3 = .ok (.if_icmp .ne 8, 3) by decide +kernel) (fun c1 => ?_) (fun c1 => ?_)
  · have h := zB_neg c1 h
    refine V_iload_n 1 Z rfl rfl (show decode cX6_cutTo 11 = .ok (.iload_n 1, 1) by decide +kernel) ?_
    refine V_bipush 16 (by decide) Z (show decode cX6_cutTo 12 = .ok (.bipush 16, 2) by decide +kernel) ?_
    refine V_icmp_ne 22 Z (by decide) (show decode cX6_cutTo 14 = .ok (.if_icmp .ne 8, 3) by decide +kernel) (fun c2 => ?_) (fun c2 => ?_)
    · have h := zB_neg c2 h
      refine V_iload_n 0 Z rfl rfl (show decode cX6_cutTo 22 = .ok (.iload_n 0, 1) by decide +kernel) ?_
      exact V_iretP Z hE h (show decode cX6_cutTo 23 = .ok (.ireturn, 1) by decide +kernel)
    · have h := zB_pos c2 h
      refine V_iload_n 0 Z rfl rfl (show decode cX6_cutTo 17 = .ok (.iload_n 0, 1) by decide +kernel) ?_
      refine V_i2s Z (show decode cX6_cutTo 18 = .ok (.i2s, 1) by decide +kernel) ?_
      refine V_goto 23 Z (by decide) (show decode cX6_cutTo 19 = .ok (.goto 4, 3) by decide +kernel) ?_
      exact V_iretP Z hE h (show decode cX6_cutTo 23 = .ok (.ireturn, 1) by decide +kernel)
  · have h := zB_pos c1 h
    refine V_iload_n 0 Z rfl rfl (show decode cX6_cutTo 6 = .ok (.iload_n 0, 1) by decide +kernel) ?_
    refine V_i2b Z (show decode cX6_cutTo 7 = .ok (.i2b, 1) by decide +kernel) ?_
    refine V_goto 23 Z (by decide) (show decode cX6_cutTo 8 = .ok (.goto 15, 3) by decide +kernel) ?_
    exact V_iretP Z hE h (show decode cX6_cutTo 23 = .ok (.ireturn, 1) by decide +kernel)
