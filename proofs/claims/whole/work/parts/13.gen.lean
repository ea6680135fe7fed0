/-! Generated walks: X1_isUnder X4_byteAt X2_isLetter X2_stepWord X2_isDigit X2_stepNumber X2_step X2_isWord X2_kindTold X2_isNumberTo -/
def f_X1_isUnder_j26 (y1 : Int32) (y2 : Int32) (M : zM) : Option (Int32) :=
  if y2 = y1 then
    some ((1 : Int32))
  else
    some ((0 : Int32))
def f_X1_isUnder_l4 (y1 : Int32) (M : zM) : Int32 × Int32 → Option ((Int32 × Int32) ⊕ (Int32))
  | (y2, y3) =>
    if 7 ≤ y3 then
      (f_X1_isUnder_j26 y1 y2 M).bind fun z => some (Sum.inr z)
    else
      if y2 = y1 then
        (f_X1_isUnder_j26 y1 y2 M).bind fun z => some (Sum.inr z)
      else
        (f_X1_above y2 M).bind fun (v5 : Int32) =>
        (some (y3 + 1)).bind fun (n6 : Int32) =>
        some (.inl ((v5, n6)))
def f_X1_isUnder (x0 : Int32) (x1 : Int32) (M : zM) : Option (Int32) :=
  zIter (f_X1_isUnder_l4 x1 M) 1000 (x0, 0)
theorem cd_X1_isUnder : zCd yX1_isUnder cX1_isUnder 4 (some .boolean) 2 := ⟨w690, w70, ⟨by decide, by decide⟩, by decide +kernel⟩
set_option maxHeartbeats 4000000 in
set_option maxRecDepth 20000 in
theorem ok_X1_isUnder {x0 : Int32} {x1 : Int32} {M : zM} {y : Int32}  (h : f_X1_isUnder x0 x1 M = some y) : zRuns yX1_isUnder cX1_isUnder 4 (some .boolean) 1 20 [.int x0, .int x1] M (some (.int y)) M := by
  refine zRuns_of (by decide +kernel) (Nat.le_of_ble_eq_true rfl) (fun E Z hE => ?_)
  have h := zB_top h
  change VV E 4 0 [(0, Value.int x0), (1, Value.int x1)] [] M
  have J26 : ∀ (y1 : Int32) (y2 : Int32), (f_X1_isUnder_j26 y1 y2 M).bind some = some y → VV E 4 26 [(1, Value.int y1), (2, Value.int y2)] [] M := by
    intro y1 y2 h
    refine V_iload_n 1 Z rfl rfl (show decode cX1_isUnder 26 = .ok (.iload_n 2, 1) by decide +kernel) ?_
    refine V_iload_n 0 Z rfl rfl (show decode cX1_isUnder 27 = .ok (.iload_n 1, 1) by decide +kernel) ?_
    refine V_icmp_ne 35 Z (by decide) (show decode cX1_isUnder 28 = .ok (.if_icmp .ne 7, 3) by decide +kernel) (fun c1 => ?_) (fun c1 => ?_)
    · have h := zB_neg c1 h
      refine V_iconst 0 (by decide) Z (show decode cX1_isUnder 35 = .ok (.iconst 0, 1) by decide +kernel) ?_
      exact V_zretP Z hE h rfl (show decode cX1_isUnder 36 = .ok (.ireturn, 1) by decide +kernel)
    · have h := zB_pos c1 h
      refine V_iconst 1 (by decide) Z (show decode cX1_isUnder 31 = .ok (.iconst 1, 1) by decide +kernel) ?_
      refine V_goto 36 Z (by decide) (show decode cX1_isUnder 32 = .ok (.goto 4, 3) by decide +kernel) ?_
      exact V_zretP Z hE h rfl (show decode cX1_isUnder 36 = .ok (.ireturn, 1) by decide +kernel)
  refine V_iload_n 0 Z rfl rfl (show decode cX1_isUnder 0 = .ok (.iload_n 0, 1) by decide +kernel) ?_
  refine V_istore_n [(2, Value.int x0), (0, Value.int x0), (1, Value.int x1)] Z (by decide) rfl rfl (show decode cX1_isUnder 1 = .ok (.istore_n 2, 1) by decide +kernel) ?_
  refine V_iconst 0 (by decide) Z (show decode cX1_isUnder 2 = .ok (.iconst 0, 1) by decide +kernel) ?_
  refine V_istore_n [(3, Value.int 0), (2, Value.int x0), (0, Value.int x0), (1, Value.int x1)] Z (by decide) rfl rfl (show decode cX1_isUnder 3 = .ok (.istore_n 3, 1) by decide +kernel) ?_
  refine V_sub [3, 1, 0] rfl ?_
  refine zIter_loop' (K := some) (fun s : Int32 × Int32 => VV E 4 4 [(1, Value.int x1), (2, Value.int s.1), (3, Value.int s.2)] [] M) (fun K1 s c1_i c1_r h => ?_) _ _ h
  obtain ⟨y2, y3⟩ := s
  change VV E 4 4 [(1, Value.int x1), (2, Value.int y2), (3, Value.int y3)] [] M
  refine V_iload_n 2 Z rfl rfl (show decode cX1_isUnder 4 = .ok (.iload_n 3, 1) by decide +kernel) ?_
  refine V_bipush 7 (by decide) Z (show decode cX1_isUnder 5 = .ok (.bipush 7, 2) by decide +kernel) ?_
  refine V_icmp_ge 26 Z (by decide) (show decode cX1_isUnder 7 = .ok (.if_icmp .ge 19, 3) by decide +kernel) (fun c2 => ?_) (fun c2 => ?_)
  · have h := zB_pos c2 h
    refine V_sub [0, 1] rfl ?_
    have h := zB_lift c1_r h
    exact J26 _ _ h
  · have h := zB_neg c2 h
    refine V_iload_n 1 Z rfl rfl (show decode cX1_isUnder 10 = .ok (.iload_n 2, 1) by decide +kernel) ?_
    refine V_iload_n 0 Z rfl rfl (show decode cX1_isUnder 11 = .ok (.iload_n 1, 1) by decide +kernel) ?_
    refine V_icmp_eq 26 Z (by decide) (show decode cX1_isUnder 12 = .ok (.if_icmp .eq 14, 3) by decide +kernel) (fun c3 => ?_) (fun c3 => ?_)
    · have h := zB_pos c3 h
      refine V_sub [0, 1] rfl ?_
      have h := zB_lift c1_r h
      exact J26 _ _ h
    · have h := zB_neg c3 h
      refine V_iload_n 1 Z rfl rfl (show decode cX1_isUnder 15 = .ok (.iload_n 2, 1) by decide +kernel) ?_
      obtain ⟨v5, e4, h⟩ := zB_bind h
      refine V_callS (rest := []) 1 Z (ok_X1_above  e4) cd_X1_above w691 w692 rfl (show decode cX1_isUnder 16 = .ok (.invokestatic 11, 3) by decide +kernel) rfl ?_
      refine V_istore_n [(2, Value.int v5), (1, Value.int x1), (3, Value.int y3)] Z (by decide) rfl rfl (show decode cX1_isUnder 19 = .ok (.istore_n 2, 1) by decide +kernel) ?_
      obtain ⟨n6, e7, h⟩ := zB_let h
      refine V_iinck 1 1 2 n6 [(3, Value.int n6), (2, Value.int v5), (1, Value.int x1)] Z (by decide) (by decide) rfl e7 rfl (show decode cX1_isUnder 20 = .ok (.iinc 3 1, 3) by decide +kernel) ?_
      refine V_goto 4 Z (by decide) (show decode cX1_isUnder 23 = .ok (.goto (-19), 3) by decide +kernel) ?_
      refine V_sub [2, 1, 0] rfl ?_
      exact c1_i _ h
def f_X4_byteAt (x1 : Int32) (M : zM) : Option (Int32) :=
  if x1 < 0 then
    some (((-1) : Int32))
  else
    if (M 34 1) ≤ x1 then
      some (((-1) : Int32))
    else
      (zrd M 35 x1).bind fun (v3 : Int32) =>
      some (v3)
theorem cd_X4_byteAt : zCd yX4_byteAt cX4_byteAt 2 (some .int) 1 := ⟨w573, w66, ⟨by decide, by decide⟩, by decide +kernel⟩
set_option maxHeartbeats 4000000 in
set_option maxRecDepth 20000 in
theorem ok_X4_byteAt {x1 : Int32} {M : zM} {y : Int32}  (h : f_X4_byteAt x1 M = some y) : zRuns yX4_byteAt cX4_byteAt 2 (some .int) 0 0 [.ref 34, .int x1] M (some (.int y)) M := by
  refine zRuns_of (by decide +kernel) (Nat.le_of_ble_eq_true rfl) (fun E Z hE => ?_)
  have h := zB_top h
  change VV E 2 0 [(0, Value.ref 34), (1, Value.int x1)] [] M
  refine V_iload_n 1 Z rfl rfl (show decode cX4_byteAt 0 = .ok (.iload_n 1, 1) by decide +kernel) ?_
  refine V_if_lt 21 Z (by decide) (show decode cX4_byteAt 1 = .ok (.ifCond .lt 20, 3) by decide +kernel) (fun c1 => ?_) (fun c1 => ?_)
  · have h := zB_pos c1 h
    refine V_iconst (-1) (by decide) Z (show decode cX4_byteAt 21 = .ok (.iconst (-1), 1) by decide +kernel) ?_
    exact V_iretP Z hE h (show decode cX4_byteAt 22 = .ok (.ireturn, 1) by decide +kernel)
  · have h := zB_neg c1 h
    refine V_iload_n 1 Z rfl rfl (show decode cX4_byteAt 4 = .ok (.iload_n 1, 1) by decide +kernel) ?_
    refine V_aload_n 0 Z rfl rfl (show decode cX4_byteAt 5 = .ok (.aload_n 0, 1) by decide +kernel) ?_
    refine V_getI 1 Z zc3 (by decide) rfl (by decide) rfl ⟨rfl, rfl, rfl⟩ w165 (show decode cX4_byteAt 6 = .ok (.getfield 15, 3) by decide +kernel) ?_
    refine V_icmp_ge 21 Z (by decide) (show decode cX4_byteAt 9 = .ok (.if_icmp .ge 12, 3) by decide +kernel) (fun c2 => ?_) (fun c2 => ?_)
    · have h := zB_pos c2 h
      refine V_iconst (-1) (by decide) Z (show decode cX4_byteAt 21 = .ok (.iconst (-1), 1) by decide +kernel) ?_
      exact V_iretP Z hE h (show decode cX4_byteAt 22 = .ok (.ireturn, 1) by decide +kernel)
    · have h := zB_neg c2 h
      refine V_aload_n 0 Z rfl rfl (show decode cX4_byteAt 12 = .ok (.aload_n 0, 1) by decide +kernel) ?_
      refine V_getR 0 35 Z zc3 (by decide) rfl (by decide) rfl (by decide) ⟨rfl, rfl, rfl⟩ w164 (show decode cX4_byteAt 13 = .ok (.getfield 9, 3) by decide +kernel) ?_
      refine V_iload_n 1 Z rfl rfl (show decode cX4_byteAt 16 = .ok (.iload_n 1, 1) by decide +kernel) ?_
      obtain ⟨v3, e4, h⟩ := zB_bind h
      refine V_iald Z e4 (show decode cX4_byteAt 17 = .ok (.iaload, 1) by decide +kernel) ?_
      refine V_goto 22 Z (by decide) (show decode cX4_byteAt 18 = .ok (.goto 4, 3) by decide +kernel) ?_
      exact V_iretP Z hE h (show decode cX4_byteAt 22 = .ok (.ireturn, 1) by decide +kernel)
def f_X2_isLetter (x0 : Int32) (M : zM) : Option (Int32) :=
  if x0 < 97 then
    some ((0 : Int32))
  else
    if 122 < x0 then
      some ((0 : Int32))
    else
      some ((1 : Int32))
theorem cd_X2_isLetter : zCd yX2_isLetter cX2_isLetter 1 (some .boolean) 1 := ⟨w576, w67, ⟨by decide, by decide⟩, by decide +kernel⟩
set_option maxHeartbeats 4000000 in
set_option maxRecDepth 20000 in
theorem ok_X2_isLetter {x0 : Int32} {M : zM} {y : Int32}  (h : f_X2_isLetter x0 M = some y) : zRuns yX2_isLetter cX2_isLetter 1 (some .boolean) 0 0 [.int x0] M (some (.int y)) M := by
  refine zRuns_of (by decide +kernel) (Nat.le_of_ble_eq_true rfl) (fun E Z hE => ?_)
  have h := zB_top h
  change VV E 1 0 [(0, Value.int x0)] [] M
  refine V_iload_n 0 Z rfl rfl (show decode cX2_isLetter 0 = .ok (.iload_n 0, 1) by decide +kernel) ?_
  refine V_bipush 97 (by decide) Z (show decode cX2_isLetter 1 = .ok (.bipush 97, 2) by decide +kernel) ?_
  refine V_icmp_lt 16 Z (by decide) (show decode cX2_isLetter 3 = .ok (.if_icmp .lt 13, 3) by decide +kernel) (fun c1 => ?_) (fun c1 => ?_)
  · have h := zB_pos c1 h
    refine V_iconst 0 (by decide) Z (show decode cX2_isLetter 16 = .ok (.iconst 0, 1) by decide +kernel) ?_
    exact V_zretP Z hE h rfl (show decode cX2_isLetter 17 = .ok (.ireturn, 1) by decide +kernel)
  · have h := zB_neg c1 h
    refine V_iload_n 0 Z rfl rfl (show decode cX2_isLetter 6 = .ok (.iload_n 0, 1) by decide +kernel) ?_
    refine V_bipush 122 (by decide) Z (show decode cX2_isLetter 7 = .ok (.bipush 122, 2) by decide +kernel) ?_
    refine V_icmp_gt 16 Z (by decide) (show decode cX2_isLetter 9 = .ok (.if_icmp .gt 7, 3) by decide +kernel) (fun c2 => ?_) (fun c2 => ?_)
    · have h := zB_pos c2 h
      refine V_iconst 0 (by decide) Z (show decode cX2_isLetter 16 = .ok (.iconst 0, 1) by decide +kernel) ?_
      exact V_zretP Z hE h rfl (show decode cX2_isLetter 17 = .ok (.ireturn, 1) by decide +kernel)
    · have h := zB_neg c2 h
      refine V_iconst 1 (by decide) Z (show decode cX2_isLetter 12 = .ok (.iconst 1, 1) by decide +kernel) ?_
      refine V_goto 17 Z (by decide) (show decode cX2_isLetter 13 = .ok (.goto 4, 3) by decide +kernel) ?_
      exact V_zretP Z hE h rfl (show decode cX2_isLetter 17 = .ok (.ireturn, 1) by decide +kernel)
def f_X2_stepWord_l0  : zM → Option ((zM) ⊕ (zM))
  | M =>
    if 120 ≤ (M 36 3) then
      some (.inr (M))
    else
      if M 36 0 = 0 then none else
      (f_X4_byteAt (M 36 3) M).bind fun (v4 : Int32) =>
      (f_X2_isLetter v4 M).bind fun (v6 : Int32) =>
      if v6 = 0 then
        some (.inr (M))
      else
        (some (zU M 36 3 (((M 36 3) + 1)))).bind fun (M8 : zM) =>
        some (.inl (M8))
def f_X2_stepWord (M : zM) : Option (zM) :=
  zIter (f_X2_stepWord_l0 ) 1000 (M)
theorem cd_X2_stepWord : zCd yX2_stepWord cX2_stepWord 1 none 0 := ⟨w580, w67, ⟨by decide, by decide⟩, by decide +kernel⟩
set_option maxHeartbeats 4000000 in
set_option maxRecDepth 20000 in
theorem ok_X2_stepWord {M : zM} {y : zM}  (h : f_X2_stepWord  M = some y) : zRuns yX2_stepWord cX2_stepWord 1 none 1 21 [.ref 36] M none y := by
  refine zRuns_of (by decide +kernel) (Nat.le_of_ble_eq_true rfl) (fun E Z hE => ?_)
  have h := zB_top h
  change VV E 1 0 [(0, Value.ref 36)] [] M
  refine zIter_loop' (K := some) (fun s : zM => VV E 1 0 [(0, Value.ref 36)] [] s) (fun K1 M c1_i c1_r h => ?_) _ _ h
  refine V_aload_n 0 Z rfl rfl (show decode cX2_stepWord 0 = .ok (.aload_n 0, 1) by decide +kernel) ?_
  refine V_getI 3 Z zc1 (by decide) rfl (by decide) rfl ⟨rfl, rfl, rfl⟩ w181 (show decode cX2_stepWord 1 = .ok (.getfield 15, 3) by decide +kernel) ?_
  refine V_bipush 120 (by decide) Z (show decode cX2_stepWord 4 = .ok (.bipush 120, 2) by decide +kernel) ?_
  refine V_icmp_ge 39 Z (by decide) (show decode cX2_stepWord 6 = .ok (.if_icmp .ge 33, 3) by decide +kernel) (fun c1 => ?_) (fun c1 => ?_)
  · have h := zB_pos c1 h
    have h := c1_r _ h
    exact V_vretM Z hE h (show decode cX2_stepWord 39 = .ok (.return_, 1) by decide +kernel)
  · have h := zB_neg c1 h
    refine V_aload_n 0 Z rfl rfl (show decode cX2_stepWord 9 = .ok (.aload_n 0, 1) by decide +kernel) ?_
    obtain ⟨c2, h⟩ := zB_chk h
    refine V_getD 0 Z zc1 (by decide) rfl (by decide) rfl c2 ⟨rfl, rfl, rfl⟩ w178 (show decode cX2_stepWord 10 = .ok (.getfield 9, 3) by decide +kernel) ?_
    refine V_aload_n 0 Z rfl rfl (show decode cX2_stepWord 13 = .ok (.aload_n 0, 1) by decide +kernel) ?_
    refine V_getI 3 Z zc1 (by decide) rfl (by decide) rfl ⟨rfl, rfl, rfl⟩ w181 (show decode cX2_stepWord 14 = .ok (.getfield 15, 3) by decide +kernel) ?_
    obtain ⟨v4, e3, h⟩ := zB_bind h
    refine V_callV (rest := []) 1 Z (ok_X4_byteAt  e3) cd_X4_byteAt zc3 (by decide) rfl w570 w571 w572 rfl (show decode cX2_stepWord 17 = .ok (.invokevirtual 32, 3) by decide +kernel) rfl ?_
    obtain ⟨v6, e5, h⟩ := zB_bind h
    refine V_callS (rest := []) 1 Z (ok_X2_isLetter  e5) cd_X2_isLetter w574 w575 rfl (show decode cX2_stepWord 20 = .ok (.invokestatic 38, 3) by decide +kernel) rfl ?_
    refine V_if_eq 39 Z (by decide) (show decode cX2_stepWord 23 = .ok (.ifCond .eq 16, 3) by decide +kernel) (fun c7 => ?_) (fun c7 => ?_)
    · have h := zB_pos c7 h
      have h := c1_r _ h
      exact V_vretM Z hE h (show decode cX2_stepWord 39 = .ok (.return_, 1) by decide +kernel)
    · have h := zB_neg c7 h
      refine V_aload_n 0 Z rfl rfl (show decode cX2_stepWord 26 = .ok (.aload_n 0, 1) by decide +kernel) ?_
      refine V_dup rfl Z (show decode cX2_stepWord 27 = .ok (.dup, 1) by decide +kernel) ?_
      refine V_getI 3 Z zc1 (by decide) rfl (by decide) rfl ⟨rfl, rfl, rfl⟩ w181 (show decode cX2_stepWord 28 = .ok (.getfield 15, 3) by decide +kernel) ?_
      refine V_iconst 1 (by decide) Z (show decode cX2_stepWord 31 = .ok (.iconst 1, 1) by decide +kernel) ?_
      refine V_iadd Z (show decode cX2_stepWord 32 = .ok (.iadd, 1) by decide +kernel) ?_
      obtain ⟨M8, e9, h⟩ := zB_let h
      refine V_putI 3 Z zc1 (by decide) rfl (by decide) rfl ⟨rfl, rfl, rfl⟩ rfl rfl w181 (show decode cX2_stepWord 33 = .ok (.putfield 15, 3) by decide +kernel) ?_
      refine V_nmM e9 ?_
      refine V_goto 0 Z (by decide) (show decode cX2_stepWord 36 = .ok (.goto (-36), 3) by decide +kernel) ?_
      exact c1_i _ h
def f_X2_isDigit (x0 : Int32) (M : zM) : Option (Int32) :=
  if x0 < 48 then
    some ((0 : Int32))
  else
    if 57 < x0 then
      some ((0 : Int32))
    else
      some ((1 : Int32))
theorem cd_X2_isDigit : zCd yX2_isDigit cX2_isDigit 1 (some .boolean) 1 := ⟨w583, w67, ⟨by decide, by decide⟩, by decide +kernel⟩
set_option maxHeartbeats 4000000 in
set_option maxRecDepth 20000 in
theorem ok_X2_isDigit {x0 : Int32} {M : zM} {y : Int32}  (h : f_X2_isDigit x0 M = some y) : zRuns yX2_isDigit cX2_isDigit 1 (some .boolean) 0 0 [.int x0] M (some (.int y)) M := by
  refine zRuns_of (by decide +kernel) (Nat.le_of_ble_eq_true rfl) (fun E Z hE => ?_)
  have h := zB_top h
  change VV E 1 0 [(0, Value.int x0)] [] M
  refine V_iload_n 0 Z rfl rfl (show decode cX2_isDigit 0 = .ok (.iload_n 0, 1) by decide +kernel) ?_
  refine V_bipush 48 (by decide) Z (show decode cX2_isDigit 1 = .ok (.bipush 48, 2) by decide +kernel) ?_
  refine V_icmp_lt 16 Z (by decide) (show decode cX2_isDigit 3 = .ok (.if_icmp .lt 13, 3) by decide +kernel) (fun c1 => ?_) (fun c1 => ?_)
  · have h := zB_pos c1 h
    refine V_iconst 0 (by decide) Z (show decode cX2_isDigit 16 = .ok (.iconst 0, 1) by decide +kernel) ?_
    exact V_zretP Z hE h rfl (show decode cX2_isDigit 17 = .ok (.ireturn, 1) by decide +kernel)
  · have h := zB_neg c1 h
    refine V_iload_n 0 Z rfl rfl (show decode cX2_isDigit 6 = .ok (.iload_n 0, 1) by decide +kernel) ?_
    refine V_bipush 57 (by decide) Z (show decode cX2_isDigit 7 = .ok (.bipush 57, 2) by decide +kernel) ?_
    refine V_icmp_gt 16 Z (by decide) (show decode cX2_isDigit 9 = .ok (.if_icmp .gt 7, 3) by decide +kernel) (fun c2 => ?_) (fun c2 => ?_)
    · have h := zB_pos c2 h
      refine V_iconst 0 (by decide) Z (show decode cX2_isDigit 16 = .ok (.iconst 0, 1) by decide +kernel) ?_
      exact V_zretP Z hE h rfl (show decode cX2_isDigit 17 = .ok (.ireturn, 1) by decide +kernel)
    · have h := zB_neg c2 h
      refine V_iconst 1 (by decide) Z (show decode cX2_isDigit 12 = .ok (.iconst 1, 1) by decide +kernel) ?_
      refine V_goto 17 Z (by decide) (show decode cX2_isDigit 13 = .ok (.goto 4, 3) by decide +kernel) ?_
      exact V_zretP Z hE h rfl (show decode cX2_isDigit 17 = .ok (.ireturn, 1) by decide +kernel)
def f_X2_stepNumber_l5  : zM → Option ((zM) ⊕ (zM))
  | M =>
    if 120 ≤ (M 36 3) then
      some (.inr (M))
    else
      if M 36 0 = 0 then none else
      (f_X4_byteAt (M 36 3) M).bind fun (v6 : Int32) =>
      (f_X2_isDigit v6 M).bind fun (v8 : Int32) =>
      if v8 = 0 then
        some (.inr (M))
      else
        if M 36 0 = 0 then none else
        (f_X4_byteAt (M 36 3) M).bind fun (v12 : Int32) =>
        (some (zU M 36 4 ((if ((((M 36 4) * 10) + v12) - 48) < 10000 then ((((M 36 4) * 10) + v12) - 48) else 10000)))).bind fun (M13 : zM) =>
        (some (zU M13 36 3 (((M13 36 3) + 1)))).bind fun (M15 : zM) =>
        some (.inl (M15))
def f_X2_stepNumber (M : zM) : Option (zM) :=
  (some (zU M 36 4 0)).bind fun (M1 : zM) =>
  zIter (f_X2_stepNumber_l5 ) 1000 (M1)
theorem cd_X2_stepNumber : zCd yX2_stepNumber cX2_stepNumber 1 none 0 := ⟨w587, w67, ⟨by decide, by decide⟩, by decide +kernel⟩
set_option maxHeartbeats 4000000 in
set_option maxRecDepth 20000 in
theorem ok_X2_stepNumber {M : zM} {y : zM}  (h : f_X2_stepNumber  M = some y) : zRuns yX2_stepNumber cX2_stepNumber 1 none 1 21 [.ref 36] M none y := by
  refine zRuns_of (by decide +kernel) (Nat.le_of_ble_eq_true rfl) (fun E Z hE => ?_)
  have h := zB_top h
  change VV E 1 0 [(0, Value.ref 36)] [] M
  refine V_aload_n 0 Z rfl rfl (show decode cX2_stepNumber 0 = .ok (.aload_n 0, 1) by decide +kernel) ?_
  refine V_iconst 0 (by decide) Z (show decode cX2_stepNumber 1 = .ok (.iconst 0, 1) by decide +kernel) ?_
  obtain ⟨M1, e2, h⟩ := zB_let h
  refine V_putI 4 Z zc1 (by decide) rfl (by decide) rfl ⟨rfl, rfl, rfl⟩ rfl rfl w182 (show decode cX2_stepNumber 2 = .ok (.putfield 51, 3) by decide +kernel) ?_
  refine V_nmM e2 ?_
  refine zIter_loop' (K := some) (fun s : zM => VV E 1 5 [(0, Value.ref 36)] [] s) (fun K1 M c1_i c1_r h => ?_) _ _ h
  refine V_aload_n 0 Z rfl rfl (show decode cX2_stepNumber 5 = .ok (.aload_n 0, 1) by decide +kernel) ?_
  refine V_getI 3 Z zc1 (by decide) rfl (by decide) rfl ⟨rfl, rfl, rfl⟩ w181 (show decode cX2_stepNumber 6 = .ok (.getfield 15, 3) by decide +kernel) ?_
  refine V_bipush 120 (by decide) Z (show decode cX2_stepNumber 9 = .ok (.bipush 120, 2) by decide +kernel) ?_
  refine V_icmp_ge 76 Z (by decide) (show decode cX2_stepNumber 11 = .ok (.if_icmp .ge 65, 3) by decide +kernel) (fun c3 => ?_) (fun c3 => ?_)
  · have h := zB_pos c3 h
    have h := c1_r _ h
    exact V_vretM Z hE h (show decode cX2_stepNumber 76 = .ok (.return_, 1) by decide +kernel)
  · have h := zB_neg c3 h
    refine V_aload_n 0 Z rfl rfl (show decode cX2_stepNumber 14 = .ok (.aload_n 0, 1) by decide +kernel) ?_
    obtain ⟨c4, h⟩ := zB_chk h
    refine V_getD 0 Z zc1 (by decide) rfl (by decide) rfl c4 ⟨rfl, rfl, rfl⟩ w178 (show decode cX2_stepNumber 15 = .ok (.getfield 9, 3) by decide +kernel) ?_
    refine V_aload_n 0 Z rfl rfl (show decode cX2_stepNumber 18 = .ok (.aload_n 0, 1) by decide +kernel) ?_
    refine V_getI 3 Z zc1 (by decide) rfl (by decide) rfl ⟨rfl, rfl, rfl⟩ w181 (show decode cX2_stepNumber 19 = .ok (.getfield 15, 3) by decide +kernel) ?_
    obtain ⟨v6, e5, h⟩ := zB_bind h
    refine V_callV (rest := []) 1 Z (ok_X4_byteAt  e5) cd_X4_byteAt zc3 (by decide) rfl w570 w571 w572 rfl (show decode cX2_stepNumber 22 = .ok (.invokevirtual 32, 3) by decide +kernel) rfl ?_
    obtain ⟨v8, e7, h⟩ := zB_bind h
    refine V_callS (rest := []) 1 Z (ok_X2_isDigit  e7) cd_X2_isDigit w581 w582 rfl (show decode cX2_stepNumber 25 = .ok (.invokestatic 45, 3) by decide +kernel) rfl ?_
    refine V_if_eq 76 Z (by decide) (show decode cX2_stepNumber 28 = .ok (.ifCond .eq 48, 3) by decide +kernel) (fun c9 => ?_) (fun c9 => ?_)
    · have h := zB_pos c9 h
      have h := c1_r _ h
      exact V_vretM Z hE h (show decode cX2_stepNumber 76 = .ok (.return_, 1) by decide +kernel)
    · have h := zB_neg c9 h
      refine V_aload_n 0 Z rfl rfl (show decode cX2_stepNumber 31 = .ok (.aload_n 0, 1) by decide +kernel) ?_
      refine V_sipush 10000 (by decide) Z (show decode cX2_stepNumber 32 = .ok (.sipush 10000, 3) by decide +kernel) ?_
      refine V_aload_n 0 Z rfl rfl (show decode cX2_stepNumber 35 = .ok (.aload_n 0, 1) by decide +kernel) ?_
      refine V_getI 4 Z zc1 (by decide) rfl (by decide) rfl ⟨rfl, rfl, rfl⟩ w182 (show decode cX2_stepNumber 36 = .ok (.getfield 51, 3) by decide +kernel) ?_
      refine V_bipush 10 (by decide) Z (show decode cX2_stepNumber 39 = .ok (.bipush 10, 2) by decide +kernel) ?_
      refine V_imul Z (show decode cX2_stepNumber 41 = .ok (.imul, 1) by decide +kernel) ?_
      refine V_aload_n 0 Z rfl rfl (show decode cX2_stepNumber 42 = .ok (.aload_n 0, 1) by decide +kernel) ?_
      obtain ⟨c10, h⟩ := zB_chk h
      refine V_getD 0 Z zc1 (by decide) rfl (by decide) rfl c10 ⟨rfl, rfl, rfl⟩ w178 (show decode cX2_stepNumber 43 = .ok (.getfield 9, 3) by decide +kernel) ?_
      refine V_aload_n 0 Z rfl rfl (show decode cX2_stepNumber 46 = .ok (.aload_n 0, 1) by decide +kernel) ?_
      refine V_getI 3 Z zc1 (by decide) rfl (by decide) rfl ⟨rfl, rfl, rfl⟩ w181 (show decode cX2_stepNumber 47 = .ok (.getfield 15, 3) by decide +kernel) ?_
      obtain ⟨v12, e11, h⟩ := zB_bind h
      refine V_callV (rest := [_, _, _]) 1 Z (ok_X4_byteAt  e11) cd_X4_byteAt zc3 (by decide) rfl w570 w571 w572 rfl (show decode cX2_stepNumber 50 = .ok (.invokevirtual 32, 3) by decide +kernel) rfl ?_
      refine V_iadd Z (show decode cX2_stepNumber 53 = .ok (.iadd, 1) by decide +kernel) ?_
      refine V_bipush 48 (by decide) Z (show decode cX2_stepNumber 54 = .ok (.bipush 48, 2) by decide +kernel) ?_
      refine V_isub Z (show decode cX2_stepNumber 56 = .ok (.isub, 1) by decide +kernel) ?_
      refine V_min Z w588 w367 w71 w368 (show decode cX2_stepNumber 57 = .ok (.invokestatic 54, 3) by decide +kernel) rfl ?_
      obtain ⟨M13, e14, h⟩ := zB_let h
      refine V_putI 4 Z zc1 (by decide) rfl (by decide) rfl ⟨rfl, rfl, rfl⟩ rfl rfl w182 (show decode cX2_stepNumber 60 = .ok (.putfield 51, 3) by decide +kernel) ?_
      refine V_nmM e14 ?_
      refine V_aload_n 0 Z rfl rfl (show decode cX2_stepNumber 63 = .ok (.aload_n 0, 1) by decide +kernel) ?_
      refine V_dup rfl Z (show decode cX2_stepNumber 64 = .ok (.dup, 1) by decide +kernel) ?_
      refine V_getI 3 Z zc1 (by decide) rfl (by decide) rfl ⟨rfl, rfl, rfl⟩ w181 (show decode cX2_stepNumber 65 = .ok (.getfield 15, 3) by decide +kernel) ?_
      refine V_iconst 1 (by decide) Z (show decode cX2_stepNumber 68 = .ok (.iconst 1, 1) by decide +kernel) ?_
      refine V_iadd Z (show decode cX2_stepNumber 69 = .ok (.iadd, 1) by decide +kernel) ?_
      obtain ⟨M15, e16, h⟩ := zB_let h
      refine V_putI 3 Z zc1 (by decide) rfl (by decide) rfl ⟨rfl, rfl, rfl⟩ rfl rfl w181 (show decode cX2_stepNumber 70 = .ok (.putfield 15, 3) by decide +kernel) ?_
      refine V_nmM e16 ?_
      refine V_goto 5 Z (by decide) (show decode cX2_stepNumber 73 = .ok (.goto (-68), 3) by decide +kernel) ?_
      exact c1_i _ h
def f_X2_step_j129 (s0 : Int32) (M : zM) : Option (zM) :=
  (some (zU M 36 1 s0)).bind fun (M1 : zM) =>
  (some (zU M1 36 3 (((M1 36 2) + 1)))).bind fun (M3 : zM) =>
  some (M3)
def f_X2_step_j46 (M : zM) : Option (zM) :=
  (some (zU M 36 3 ((M 36 2)))).bind fun (M5 : zM) =>
  if M5 36 0 = 0 then none else
  (f_X4_byteAt (M5 36 2) M5).bind fun (v9 : Int32) =>
  if v9 = (-1) then
    (some (zU M5 36 1 0)).bind fun (M26 : zM) =>
    some (M26)
  else
    (f_X2_isLetter v9 M5).bind fun (v12 : Int32) =>
    if v12 = 0 then
      (f_X2_isDigit v9 M5).bind fun (v15 : Int32) =>
      if v15 = 0 then
        if v9 = 59 then
          f_X2_step_j129 3 M5
        else
          f_X2_step_j129 4 M5
      else
        (some (zU M5 36 1 2)).bind fun (M18 : zM) =>
        (f_X2_stepNumber  M18).bind fun (M21 : zM) =>
        some (M21)
    else
      (some (zU M5 36 1 1)).bind fun (M22 : zM) =>
      (f_X2_stepWord  M22).bind fun (M25 : zM) =>
      some (M25)
def f_X2_step_l8  : zM → Option ((zM) ⊕ (zM))
  | M =>
    if 120 ≤ (M 36 2) then
      (f_X2_step_j46  M).bind fun z => some (Sum.inr z)
    else
      if M 36 0 = 0 then none else
      (f_X4_byteAt (M 36 2) M).bind fun (v33 : Int32) =>
      if v33 = 32 then
        (some (zU M 36 2 (((M 36 2) + 1)))).bind fun (M35 : zM) =>
        some (.inl (M35))
      else
        (f_X2_step_j46  M).bind fun z => some (Sum.inr z)
def f_X2_step (M : zM) : Option (zM) :=
  (some (zU M 36 2 ((M 36 3)))).bind fun (M28 : zM) =>
  zIter (f_X2_step_l8 ) 1000 (M28)
theorem cd_X2_step : zCd yX2_step cX2_step 2 none 0 := ⟨w569, w67, ⟨by decide, by decide⟩, by decide +kernel⟩
set_option maxHeartbeats 4000000 in
set_option maxRecDepth 20000 in
theorem ok_X2_step {M : zM} {y : zM}  (h : f_X2_step  M = some y) : zRuns yX2_step cX2_step 2 none 2 41 [.ref 36] M none y := by
  refine zRuns_of (by decide +kernel) (Nat.le_of_ble_eq_true rfl) (fun E Z hE => ?_)
  have h := zB_top h
  change VV E 2 0 [(0, Value.ref 36)] [] M
  have J129 : ∀ (s0 : Int32) (M : zM), (f_X2_step_j129 s0 M).bind some = some y → VV E 2 129 [(0, Value.ref 36)] [Value.int s0, Value.ref 36] M := by
    intro s0 M h
    obtain ⟨M1, e2, h⟩ := zB_let h
    refine V_putI 1 Z zc1 (by decide) rfl (by decide) rfl ⟨rfl, rfl, rfl⟩ rfl rfl w179 (show decode cX2_step 129 = .ok (.putfield 29, 3) by decide +kernel) ?_
    refine V_nmM e2 ?_
    refine V_aload_n 0 Z rfl rfl (show decode cX2_step 132 = .ok (.aload_n 0, 1) by decide +kernel) ?_
    refine V_aload_n 0 Z rfl rfl (show decode cX2_step 133 = .ok (.aload_n 0, 1) by decide +kernel) ?_
    refine V_getI 2 Z zc1 (by decide) rfl (by decide) rfl ⟨rfl, rfl, rfl⟩ w180 (show decode cX2_step 134 = .ok (.getfield 26, 3) by decide +kernel) ?_
    refine V_iconst 1 (by decide) Z (show decode cX2_step 137 = .ok (.iconst 1, 1) by decide +kernel) ?_
    refine V_iadd Z (show decode cX2_step 138 = .ok (.iadd, 1) by decide +kernel) ?_
    obtain ⟨M3, e4, h⟩ := zB_let h
    refine V_putI 3 Z zc1 (by decide) rfl (by decide) rfl ⟨rfl, rfl, rfl⟩ rfl rfl w181 (show decode cX2_step 139 = .ok (.putfield 15, 3) by decide +kernel) ?_
    refine V_nmM e4 ?_
    exact V_vretM Z hE h (show decode cX2_step 142 = .ok (.return_, 1) by decide +kernel)
  have J46 : ∀ (M : zM), (f_X2_step_j46  M).bind some = some y → VV E 2 46 [(0, Value.ref 36)] [] M := by
    intro  M h
    refine V_aload_n 0 Z rfl rfl (show decode cX2_step 46 = .ok (.aload_n 0, 1) by decide +kernel) ?_
    refine V_aload_n 0 Z rfl rfl (show decode cX2_step 47 = .ok (.aload_n 0, 1) by decide +kernel) ?_
    refine V_getI 2 Z zc1 (by decide) rfl (by decide) rfl ⟨rfl, rfl, rfl⟩ w180 (show decode cX2_step 48 = .ok (.getfield 26, 3) by decide +kernel) ?_
    obtain ⟨M5, e6, h⟩ := zB_let h
    refine V_putI 3 Z zc1 (by decide) rfl (by decide) rfl ⟨rfl, rfl, rfl⟩ rfl rfl w181 (show decode cX2_step 51 = .ok (.putfield 15, 3) by decide +kernel) ?_
    refine V_nmM e6 ?_
    refine V_aload_n 0 Z rfl rfl (show decode cX2_step 54 = .ok (.aload_n 0, 1) by decide +kernel) ?_
    obtain ⟨c7, h⟩ := zB_chk h
    refine V_getD 0 Z zc1 (by decide) rfl (by decide) rfl c7 ⟨rfl, rfl, rfl⟩ w178 (show decode cX2_step 55 = .ok (.getfield 9, 3) by decide +kernel) ?_
    refine V_aload_n 0 Z rfl rfl (show decode cX2_step 58 = .ok (.aload_n 0, 1) by decide +kernel) ?_
    refine V_getI 2 Z zc1 (by decide) rfl (by decide) rfl ⟨rfl, rfl, rfl⟩ w180 (show decode cX2_step 59 = .ok (.getfield 26, 3) by decide +kernel) ?_
    obtain ⟨v9, e8, h⟩ := zB_bind h
    refine V_callV (rest := []) 1 Z (ok_X4_byteAt  e8) cd_X4_byteAt zc3 (by decide) rfl w570 w571 w572 rfl (show decode cX2_step 62 = .ok (.invokevirtual 32, 3) by decide +kernel) rfl ?_
    refine V_istore_n [(1, Value.int v9), (0, Value.ref 36)] Z (by decide) rfl rfl (show decode cX2_step 65 = .ok (.istore_n 1, 1) by decide +kernel) ?_
    refine V_iload_n 0 Z rfl rfl (show decode cX2_step 66 = .ok (.iload_n 1, 1) by decide +kernel) ?_
    refine V_iconst (-1) (by decide) Z (show decode cX2_step 67 = .ok (.iconst (-1), 1) by decide +kernel) ?_
    refine V_icmp_ne 79 Z (by decide) (show decode cX2_step 68 = .ok (.if_icmp .ne 11, 3) by decide +kernel) (fun c10 => ?_) (fun c10 => ?_)
    · have h := zB_neg c10 h
      refine V_iload_n 0 Z rfl rfl (show decode cX2_step 79 = .ok (.iload_n 1, 1) by decide +kernel) ?_
      obtain ⟨v12, e11, h⟩ := zB_bind h
      refine V_callS (rest := []) 1 Z (ok_X2_isLetter  e11) cd_X2_isLetter w574 w575 rfl (show decode cX2_step 80 = .ok (.invokestatic 38, 3) by decide +kernel) rfl ?_
      refine V_if_eq 98 Z (by decide) (show decode cX2_step 83 = .ok (.ifCond .eq 15, 3) by decide +kernel) (fun c13 => ?_) (fun c13 => ?_)
      · have h := zB_pos c13 h
        refine V_iload_n 0 Z rfl rfl (show decode cX2_step 98 = .ok (.iload_n 1, 1) by decide +kernel) ?_
        obtain ⟨v15, e14, h⟩ := zB_bind h
        refine V_callS (rest := []) 1 Z (ok_X2_isDigit  e14) cd_X2_isDigit w581 w582 rfl (show decode cX2_step 99 = .ok (.invokestatic 45, 3) by decide +kernel) rfl ?_
        refine V_if_eq 117 Z (by decide) (show decode cX2_step 102 = .ok (.ifCond .eq 15, 3) by decide +kernel) (fun c16 => ?_) (fun c16 => ?_)
        · have h := zB_pos c16 h
          refine V_aload_n 1 Z rfl rfl (show decode cX2_step 117 = .ok (.aload_n 0, 1) by decide +kernel) ?_
          refine V_iload_n 0 Z rfl rfl (show decode cX2_step 118 = .ok (.iload_n 1, 1) by decide +kernel) ?_
          refine V_bipush 59 (by decide) Z (show decode cX2_step 119 = .ok (.bipush 59, 2) by decide +kernel) ?_
          refine V_icmp_ne 128 Z (by decide) (show decode cX2_step 121 = .ok (.if_icmp .ne 7, 3) by decide +kernel) (fun c17 => ?_) (fun c17 => ?_)
          · have h := zB_neg c17 h
            refine V_iconst 4 (by decide) Z (show decode cX2_step 128 = .ok (.iconst 4, 1) by decide +kernel) ?_
            refine V_sub [1] rfl ?_
            exact J129 _ _ h
          · have h := zB_pos c17 h
            refine V_iconst 3 (by decide) Z (show decode cX2_step 124 = .ok (.iconst 3, 1) by decide +kernel) ?_
            refine V_goto 129 Z (by decide) (show decode cX2_step 125 = .ok (.goto 4, 3) by decide +kernel) ?_
            refine V_sub [1] rfl ?_
            exact J129 _ _ h
        · have h := zB_neg c16 h
          refine V_aload_n 1 Z rfl rfl (show decode cX2_step 105 = .ok (.aload_n 0, 1) by decide +kernel) ?_
          refine V_iconst 2 (by decide) Z (show decode cX2_step 106 = .ok (.iconst 2, 1) by decide +kernel) ?_
          obtain ⟨M18, e19, h⟩ := zB_let h
          refine V_putI 1 Z zc1 (by decide) rfl (by decide) rfl ⟨rfl, rfl, rfl⟩ rfl rfl w179 (show decode cX2_step 107 = .ok (.putfield 29, 3) by decide +kernel) ?_
          refine V_nmM e19 ?_
          refine V_aload_n 1 Z rfl rfl (show decode cX2_step 110 = .ok (.aload_n 0, 1) by decide +kernel) ?_
          obtain ⟨M21, e20, h⟩ := zB_bind h
          refine V_callV (rest := []) 0 Z (ok_X2_stepNumber  e20) cd_X2_stepNumber zc1 (by decide) rfl w584 w586 w9 rfl (show decode cX2_step 111 = .ok (.invokevirtual 48, 3) by decide +kernel) rfl ?_
          refine V_goto 142 Z (by decide) (show decode cX2_step 114 = .ok (.goto 28, 3) by decide +kernel) ?_
          exact V_vretM Z hE h (show decode cX2_step 142 = .ok (.return_, 1) by decide +kernel)
      · have h := zB_neg c13 h
        refine V_aload_n 1 Z rfl rfl (show decode cX2_step 86 = .ok (.aload_n 0, 1) by decide +kernel) ?_
        refine V_iconst 1 (by decide) Z (show decode cX2_step 87 = .ok (.iconst 1, 1) by decide +kernel) ?_
        obtain ⟨M22, e23, h⟩ := zB_let h
        refine V_putI 1 Z zc1 (by decide) rfl (by decide) rfl ⟨rfl, rfl, rfl⟩ rfl rfl w179 (show decode cX2_step 88 = .ok (.putfield 29, 3) by decide +kernel) ?_
        refine V_nmM e23 ?_
        refine V_aload_n 1 Z rfl rfl (show decode cX2_step 91 = .ok (.aload_n 0, 1) by decide +kernel) ?_
        obtain ⟨M25, e24, h⟩ := zB_bind h
        refine V_callV (rest := []) 0 Z (ok_X2_stepWord  e24) cd_X2_stepWord zc1 (by decide) rfl w577 w579 w8 rfl (show decode cX2_step 92 = .ok (.invokevirtual 42, 3) by decide +kernel) rfl ?_
        refine V_goto 142 Z (by decide) (show decode cX2_step 95 = .ok (.goto 47, 3) by decide +kernel) ?_
        exact V_vretM Z hE h (show decode cX2_step 142 = .ok (.return_, 1) by decide +kernel)
    · have h := zB_pos c10 h
      refine V_aload_n 1 Z rfl rfl (show decode cX2_step 71 = .ok (.aload_n 0, 1) by decide +kernel) ?_
      refine V_iconst 0 (by decide) Z (show decode cX2_step 72 = .ok (.iconst 0, 1) by decide +kernel) ?_
      obtain ⟨M26, e27, h⟩ := zB_let h
      refine V_putI 1 Z zc1 (by decide) rfl (by decide) rfl ⟨rfl, rfl, rfl⟩ rfl rfl w179 (show decode cX2_step 73 = .ok (.putfield 29, 3) by decide +kernel) ?_
      refine V_nmM e27 ?_
      refine V_goto 142 Z (by decide) (show decode cX2_step 76 = .ok (.goto 66, 3) by decide +kernel) ?_
      exact V_vretM Z hE h (show decode cX2_step 142 = .ok (.return_, 1) by decide +kernel)
  refine V_aload_n 0 Z rfl rfl (show decode cX2_step 0 = .ok (.aload_n 0, 1) by decide +kernel) ?_
  refine V_aload_n 0 Z rfl rfl (show decode cX2_step 1 = .ok (.aload_n 0, 1) by decide +kernel) ?_
  refine V_getI 3 Z zc1 (by decide) rfl (by decide) rfl ⟨rfl, rfl, rfl⟩ w181 (show decode cX2_step 2 = .ok (.getfield 15, 3) by decide +kernel) ?_
  obtain ⟨M28, e29, h⟩ := zB_let h
  refine V_putI 2 Z zc1 (by decide) rfl (by decide) rfl ⟨rfl, rfl, rfl⟩ rfl rfl w180 (show decode cX2_step 5 = .ok (.putfield 26, 3) by decide +kernel) ?_
  refine V_nmM e29 ?_
  refine zIter_loop' (K := some) (fun s : zM => VV E 2 8 [(0, Value.ref 36)] [] s) (fun K1 M c1_i c1_r h => ?_) _ _ h
  refine V_aload_n 0 Z rfl rfl (show decode cX2_step 8 = .ok (.aload_n 0, 1) by decide +kernel) ?_
  refine V_getI 2 Z zc1 (by decide) rfl (by decide) rfl ⟨rfl, rfl, rfl⟩ w180 (show decode cX2_step 9 = .ok (.getfield 26, 3) by decide +kernel) ?_
  refine V_bipush 120 (by decide) Z (show decode cX2_step 12 = .ok (.bipush 120, 2) by decide +kernel) ?_
  refine V_icmp_ge 46 Z (by decide) (show decode cX2_step 14 = .ok (.if_icmp .ge 32, 3) by decide +kernel) (fun c30 => ?_) (fun c30 => ?_)
  · have h := zB_pos c30 h
    have h := zB_lift c1_r h
    exact J46 _ h
  · have h := zB_neg c30 h
    refine V_aload_n 0 Z rfl rfl (show decode cX2_step 17 = .ok (.aload_n 0, 1) by decide +kernel) ?_
    obtain ⟨c31, h⟩ := zB_chk h
    refine V_getD 0 Z zc1 (by decide) rfl (by decide) rfl c31 ⟨rfl, rfl, rfl⟩ w178 (show decode cX2_step 18 = .ok (.getfield 9, 3) by decide +kernel) ?_
    refine V_aload_n 0 Z rfl rfl (show decode cX2_step 21 = .ok (.aload_n 0, 1) by decide +kernel) ?_
    refine V_getI 2 Z zc1 (by decide) rfl (by decide) rfl ⟨rfl, rfl, rfl⟩ w180 (show decode cX2_step 22 = .ok (.getfield 26, 3) by decide +kernel) ?_
    obtain ⟨v33, e32, h⟩ := zB_bind h
    refine V_callV (rest := []) 1 Z (ok_X4_byteAt  e32) cd_X4_byteAt zc3 (by decide) rfl w570 w571 w572 rfl (show decode cX2_step 25 = .ok (.invokevirtual 32, 3) by decide +kernel) rfl ?_
    refine V_bipush 32 (by decide) Z (show decode cX2_step 28 = .ok (.bipush 32, 2) by decide +kernel) ?_
    refine V_icmp_ne 46 Z (by decide) (show decode cX2_step 30 = .ok (.if_icmp .ne 16, 3) by decide +kernel) (fun c34 => ?_) (fun c34 => ?_)
    · have h := zB_neg c34 h
      have h := zB_lift c1_r h
      exact J46 _ h
    · have h := zB_pos c34 h
      refine V_aload_n 0 Z rfl rfl (show decode cX2_step 33 = .ok (.aload_n 0, 1) by decide +kernel) ?_
      refine V_dup rfl Z (show decode cX2_step 34 = .ok (.dup, 1) by decide +kernel) ?_
      refine V_getI 2 Z zc1 (by decide) rfl (by decide) rfl ⟨rfl, rfl, rfl⟩ w180 (show decode cX2_step 35 = .ok (.getfield 26, 3) by decide +kernel) ?_
      refine V_iconst 1 (by decide) Z (show decode cX2_step 38 = .ok (.iconst 1, 1) by decide +kernel) ?_
      refine V_iadd Z (show decode cX2_step 39 = .ok (.iadd, 1) by decide +kernel) ?_
      obtain ⟨M35, e36, h⟩ := zB_let h
      refine V_putI 2 Z zc1 (by decide) rfl (by decide) rfl ⟨rfl, rfl, rfl⟩ rfl rfl w180 (show decode cX2_step 40 = .ok (.putfield 26, 3) by decide +kernel) ?_
      refine V_nmM e36 ?_
      refine V_goto 8 Z (by decide) (show decode cX2_step 43 = .ok (.goto (-35), 3) by decide +kernel) ?_
      exact c1_i _ h
def f_X2_isWord_l28 (w : Nat) (M : zM) : Int32 → Option ((Int32) ⊕ (Int32))
  | y2 =>
    if (zsl w) ≤ y2 then
      some (.inr ((1 : Int32)))
    else
      if M 36 0 = 0 then none else
      (f_X4_byteAt ((M 36 2) + y2) M).bind fun (v6 : Int32) =>
      (zsc w y2).bind fun (v7 : Int32) =>
      if v6 = v7 then
        (some (y2 + 1)).bind fun (n10 : Int32) =>
        some (.inl (n10))
      else
        some (.inr ((0 : Int32)))
def f_X2_isWord (w : Nat) (M : zM) : Option (Int32) :=
  if (M 36 1) = 1 then
    if ((M 36 3) - (M 36 2)) = (zsl w) then
      zIter (f_X2_isWord_l28 w M) 1000 (0 : Int32)
    else
      some ((0 : Int32))
  else
    some ((0 : Int32))
theorem cd_X2_isWord : zCd yX2_isWord cX2_isWord 3 (some .boolean) 1 := ⟨w601, w67, ⟨by decide, by decide⟩, by decide +kernel⟩
set_option maxHeartbeats 4000000 in
set_option maxRecDepth 20000 in
theorem ok_X2_isWord {w : Nat} {M : zM} {y : Int32} (hw : w < 13) (h : f_X2_isWord w M = some y) : zRuns yX2_isWord cX2_isWord 3 (some .boolean) 6 161 [.ref 36, .ref (1000 + w)] M (some (.int y)) M := by
  refine zRuns_of (by decide +kernel) (Nat.le_of_ble_eq_true rfl) (fun E Z hE => ?_)
  have h := zB_top h
  change VV E 3 0 [(0, Value.ref 36), (1, Value.ref (1000 + w))] [] M
  refine V_aload_n 0 Z rfl rfl (show decode cX2_isWord 0 = .ok (.aload_n 0, 1) by decide +kernel) ?_
  refine V_getI 1 Z zc1 (by decide) rfl (by decide) rfl ⟨rfl, rfl, rfl⟩ w179 (show decode cX2_isWord 1 = .ok (.getfield 29, 3) by decide +kernel) ?_
  refine V_iconst 1 (by decide) Z (show decode cX2_isWord 4 = .ok (.iconst 1, 1) by decide +kernel) ?_
  refine V_icmp_ne 24 Z (by decide) (show decode cX2_isWord 5 = .ok (.if_icmp .ne 19, 3) by decide +kernel) (fun c1 => ?_) (fun c1 => ?_)
  · have h := zB_neg c1 h
    refine V_iconst 0 (by decide) Z (show decode cX2_isWord 24 = .ok (.iconst 0, 1) by decide +kernel) ?_
    exact V_zretP Z hE h rfl (show decode cX2_isWord 25 = .ok (.ireturn, 1) by decide +kernel)
  · have h := zB_pos c1 h
    refine V_aload_n 0 Z rfl rfl (show decode cX2_isWord 8 = .ok (.aload_n 0, 1) by decide +kernel) ?_
    refine V_getI 3 Z zc1 (by decide) rfl (by decide) rfl ⟨rfl, rfl, rfl⟩ w181 (show decode cX2_isWord 9 = .ok (.getfield 15, 3) by decide +kernel) ?_
    refine V_aload_n 0 Z rfl rfl (show decode cX2_isWord 12 = .ok (.aload_n 0, 1) by decide +kernel) ?_
    refine V_getI 2 Z zc1 (by decide) rfl (by decide) rfl ⟨rfl, rfl, rfl⟩ w180 (show decode cX2_isWord 13 = .ok (.getfield 26, 3) by decide +kernel) ?_
    refine V_isub Z (show decode cX2_isWord 16 = .ok (.isub, 1) by decide +kernel) ?_
    refine V_aload_n 1 Z rfl rfl (show decode cX2_isWord 17 = .ok (.aload_n 1, 1) by decide +kernel) ?_
    refine V_strlen Z hw w602 (show decode cX2_isWord 18 = .ok (.invokevirtual 60, 3) by decide +kernel) rfl ?_
    refine V_icmp_eq 26 Z (by decide) (show decode cX2_isWord 21 = .ok (.if_icmp .eq 5, 3) by decide +kernel) (fun c2 => ?_) (fun c2 => ?_)
    · have h := zB_pos c2 h
      refine V_iconst 0 (by decide) Z (show decode cX2_isWord 26 = .ok (.iconst 0, 1) by decide +kernel) ?_
      refine V_istore_n [(2, Value.int 0), (0, Value.ref 36), (1, Value.ref (1000 + w))] Z (by decide) rfl rfl (show decode cX2_isWord 27 = .ok (.istore_n 2, 1) by decide +kernel) ?_
      refine V_sub [1, 2, 0] rfl ?_
      refine zIter_loop' (K := some) (fun s : Int32 => VV E 3 28 [(0, Value.ref 36), (1, Value.ref (1000 + w)), (2, Value.int s)] [] M) (fun K1 y2 c1_i c1_r h => ?_) _ _ h
      refine V_iload_n 2 Z rfl rfl (show decode cX2_isWord 28 = .ok (.iload_n 2, 1) by decide +kernel) ?_
      refine V_aload_n 1 Z rfl rfl (show decode cX2_isWord 29 = .ok (.aload_n 1, 1) by decide +kernel) ?_
      refine V_strlen Z hw w602 (show decode cX2_isWord 30 = .ok (.invokevirtual 60, 3) by decide +kernel) rfl ?_
      refine V_icmp_ge 65 Z (by decide) (show decode cX2_isWord 33 = .ok (.if_icmp .ge 32, 3) by decide +kernel) (fun c3 => ?_) (fun c3 => ?_)
      · have h := zB_pos c3 h
        refine V_iconst 1 (by decide) Z (show decode cX2_isWord 65 = .ok (.iconst 1, 1) by decide +kernel) ?_
        have h := c1_r _ h
        exact V_zretP Z hE h rfl (show decode cX2_isWord 66 = .ok (.ireturn, 1) by decide +kernel)
      · have h := zB_neg c3 h
        refine V_aload_n 0 Z rfl rfl (show decode cX2_isWord 36 = .ok (.aload_n 0, 1) by decide +kernel) ?_
        obtain ⟨c4, h⟩ := zB_chk h
        refine V_getD 0 Z zc1 (by decide) rfl (by decide) rfl c4 ⟨rfl, rfl, rfl⟩ w178 (show decode cX2_isWord 37 = .ok (.getfield 9, 3) by decide +kernel) ?_
        refine V_aload_n 0 Z rfl rfl (show decode cX2_isWord 40 = .ok (.aload_n 0, 1) by decide +kernel) ?_
        refine V_getI 2 Z zc1 (by decide) rfl (by decide) rfl ⟨rfl, rfl, rfl⟩ w180 (show decode cX2_isWord 41 = .ok (.getfield 26, 3) by decide +kernel) ?_
        refine V_iload_n 2 Z rfl rfl (show decode cX2_isWord 44 = .ok (.iload_n 2, 1) by decide +kernel) ?_
        refine V_iadd Z (show decode cX2_isWord 45 = .ok (.iadd, 1) by decide +kernel) ?_
        obtain ⟨v6, e5, h⟩ := zB_bind h
        refine V_callV (rest := []) 1 Z (ok_X4_byteAt  e5) cd_X4_byteAt zc3 (by decide) rfl w570 w571 w572 rfl (show decode cX2_isWord 46 = .ok (.invokevirtual 32, 3) by decide +kernel) rfl ?_
        refine V_aload_n 1 Z rfl rfl (show decode cX2_isWord 49 = .ok (.aload_n 1, 1) by decide +kernel) ?_
        refine V_iload_n 2 Z rfl rfl (show decode cX2_isWord 50 = .ok (.iload_n 2, 1) by decide +kernel) ?_
        obtain ⟨v7, e8, h⟩ := zB_bind h
        refine V_strchar Z hw e8 w612 (show decode cX2_isWord 51 = .ok (.invokevirtual 66, 3) by decide +kernel) rfl ?_
        refine V_icmp_eq 59 Z (by decide) (show decode cX2_isWord 54 = .ok (.if_icmp .eq 5, 3) by decide +kernel) (fun c9 => ?_) (fun c9 => ?_)
        · have h := zB_pos c9 h
          obtain ⟨n10, e11, h⟩ := zB_let h
          refine V_iinck 1 1 2 n10 [(2, Value.int n10), (0, Value.ref 36), (1, Value.ref (1000 + w))] Z (by decide) (by decide) rfl e11 rfl (show decode cX2_isWord 59 = .ok (.iinc 2 1, 3) by decide +kernel) ?_
          refine V_goto 28 Z (by decide) (show decode cX2_isWord 62 = .ok (.goto (-34), 3) by decide +kernel) ?_
          refine V_sub [1, 2, 0] rfl ?_
          exact c1_i _ h
        · have h := zB_neg c9 h
          refine V_iconst 0 (by decide) Z (show decode cX2_isWord 57 = .ok (.iconst 0, 1) by decide +kernel) ?_
          have h := c1_r _ h
          exact V_zretP Z hE h rfl (show decode cX2_isWord 58 = .ok (.ireturn, 1) by decide +kernel)
    · have h := zB_neg c2 h
      refine V_iconst 0 (by decide) Z (show decode cX2_isWord 24 = .ok (.iconst 0, 1) by decide +kernel) ?_
      exact V_zretP Z hE h rfl (show decode cX2_isWord 25 = .ok (.ireturn, 1) by decide +kernel)
def f_X2_kindTold (M : zM) : Option (Int32) :=
  (f_X2_isWord 0 M).bind fun (v2 : Int32) =>
  if v2 = 0 then
    (f_X2_isWord 1 M).bind fun (v5 : Int32) =>
    if v5 = 0 then
      (f_X2_isWord 2 M).bind fun (v8 : Int32) =>
      if v8 = 0 then
        (f_X2_isWord 3 M).bind fun (v11 : Int32) =>
        if v11 = 0 then
          (f_X2_isWord 4 M).bind fun (v14 : Int32) =>
          if v14 = 0 then
            (f_X2_isWord 5 M).bind fun (v17 : Int32) =>
            if v17 = 0 then
              (f_X2_isWord 6 M).bind fun (v20 : Int32) =>
              if v20 = 0 then
                some (((-1) : Int32))
              else
                some ((6 : Int32))
            else
              some ((5 : Int32))
          else
            some ((4 : Int32))
        else
          some ((3 : Int32))
      else
        some ((2 : Int32))
    else
      some ((1 : Int32))
  else
    some ((0 : Int32))
theorem cd_X2_kindTold : zCd yX2_kindTold cX2_kindTold 1 (some .int) 0 := ⟨w596, w67, ⟨by decide, by decide⟩, by decide +kernel⟩
set_option maxHeartbeats 4000000 in
set_option maxRecDepth 20000 in
theorem ok_X2_kindTold {M : zM} {y : Int32}  (h : f_X2_kindTold  M = some y) : zRuns yX2_kindTold cX2_kindTold 1 (some .int) 7 183 [.ref 36] M (some (.int y)) M := by
  refine zRuns_of (by decide +kernel) (Nat.le_of_ble_eq_true rfl) (fun E Z hE => ?_)
  have h := zB_top h
  change VV E 1 0 [(0, Value.ref 36)] [] M
  refine V_aload_n 0 Z rfl rfl (show decode cX2_kindTold 0 = .ok (.aload_n 0, 1) by decide +kernel) ?_
  refine V_ldcS "name" 0 Z (by decide +kernel) (show decode cX2_kindTold 1 = .ok (.ldc 70, 2) by decide +kernel) ?_
  obtain ⟨v2, e1, h⟩ := zB_bind h
  refine V_callV (rest := []) 1 Z (ok_X2_isWord (by decide) e1) cd_X2_isWord zc1 (by decide) rfl w598 w600 w12 rfl (show decode cX2_kindTold 3 = .ok (.invokevirtual 72, 3) by decide +kernel) rfl ?_
  refine V_if_eq 11 Z (by decide) (show decode cX2_kindTold 6 = .ok (.ifCond .eq 5, 3) by decide +kernel) (fun c3 => ?_) (fun c3 => ?_)
  · have h := zB_pos c3 h
    refine V_aload_n 0 Z rfl rfl (show decode cX2_kindTold 11 = .ok (.aload_n 0, 1) by decide +kernel) ?_
    refine V_ldcS "stretched" 1 Z (by decide +kernel) (show decode cX2_kindTold 12 = .ok (.ldc 78, 2) by decide +kernel) ?_
    obtain ⟨v5, e4, h⟩ := zB_bind h
    refine V_callV (rest := []) 1 Z (ok_X2_isWord (by decide) e4) cd_X2_isWord zc1 (by decide) rfl w598 w600 w12 rfl (show decode cX2_kindTold 14 = .ok (.invokevirtual 72, 3) by decide +kernel) rfl ?_
    refine V_if_eq 22 Z (by decide) (show decode cX2_kindTold 17 = .ok (.ifCond .eq 5, 3) by decide +kernel) (fun c6 => ?_) (fun c6 => ?_)
    · have h := zB_pos c6 h
      refine V_aload_n 0 Z rfl rfl (show decode cX2_kindTold 22 = .ok (.aload_n 0, 1) by decide +kernel) ?_
      refine V_ldcS "double" 2 Z (by decide +kernel) (show decode cX2_kindTold 23 = .ok (.ldc 80, 2) by decide +kernel) ?_
      obtain ⟨v8, e7, h⟩ := zB_bind h
      refine V_callV (rest := []) 1 Z (ok_X2_isWord (by decide) e7) cd_X2_isWord zc1 (by decide) rfl w598 w600 w12 rfl (show decode cX2_kindTold 25 = .ok (.invokevirtual 72, 3) by decide +kernel) rfl ?_
      refine V_if_eq 33 Z (by decide) (show decode cX2_kindTold 28 = .ok (.ifCond .eq 5, 3) by decide +kernel) (fun c9 => ?_) (fun c9 => ?_)
      · have h := zB_pos c9 h
        refine V_aload_n 0 Z rfl rfl (show decode cX2_kindTold 33 = .ok (.aload_n 0, 1) by decide +kernel) ?_
        refine V_ldcS "left" 3 Z (by decide +kernel) (show decode cX2_kindTold 34 = .ok (.ldc 82, 2) by decide +kernel) ?_
        obtain ⟨v11, e10, h⟩ := zB_bind h
        refine V_callV (rest := []) 1 Z (ok_X2_isWord (by decide) e10) cd_X2_isWord zc1 (by decide) rfl w598 w600 w12 rfl (show decode cX2_kindTold 36 = .ok (.invokevirtual 72, 3) by decide +kernel) rfl ?_
        refine V_if_eq 44 Z (by decide) (show decode cX2_kindTold 39 = .ok (.ifCond .eq 5, 3) by decide +kernel) (fun c12 => ?_) (fun c12 => ?_)
        · have h := zB_pos c12 h
          refine V_aload_n 0 Z rfl rfl (show decode cX2_kindTold 44 = .ok (.aload_n 0, 1) by decide +kernel) ?_
          refine V_ldcS "nobodys" 4 Z (by decide +kernel) (show decode cX2_kindTold 45 = .ok (.ldc 84, 2) by decide +kernel) ?_
          obtain ⟨v14, e13, h⟩ := zB_bind h
          refine V_callV (rest := []) 1 Z (ok_X2_isWord (by decide) e13) cd_X2_isWord zc1 (by decide) rfl w598 w600 w12 rfl (show decode cX2_kindTold 47 = .ok (.invokevirtual 72, 3) by decide +kernel) rfl ?_
          refine V_if_eq 55 Z (by decide) (show decode cX2_kindTold 50 = .ok (.ifCond .eq 5, 3) by decide +kernel) (fun c15 => ?_) (fun c15 => ?_)
          · have h := zB_pos c15 h
            refine V_aload_n 0 Z rfl rfl (show decode cX2_kindTold 55 = .ok (.aload_n 0, 1) by decide +kernel) ?_
            refine V_ldcS "mothy" 5 Z (by decide +kernel) (show decode cX2_kindTold 56 = .ok (.ldc 86, 2) by decide +kernel) ?_
            obtain ⟨v17, e16, h⟩ := zB_bind h
            refine V_callV (rest := []) 1 Z (ok_X2_isWord (by decide) e16) cd_X2_isWord zc1 (by decide) rfl w598 w600 w12 rfl (show decode cX2_kindTold 58 = .ok (.invokevirtual 72, 3) by decide +kernel) rfl ?_
            refine V_if_eq 66 Z (by decide) (show decode cX2_kindTold 61 = .ok (.ifCond .eq 5, 3) by decide +kernel) (fun c18 => ?_) (fun c18 => ?_)
            · have h := zB_pos c18 h
              refine V_aload_n 0 Z rfl rfl (show decode cX2_kindTold 66 = .ok (.aload_n 0, 1) by decide +kernel) ?_
              refine V_ldcS "torn" 6 Z (by decide +kernel) (show decode cX2_kindTold 67 = .ok (.ldc 88, 2) by decide +kernel) ?_
              obtain ⟨v20, e19, h⟩ := zB_bind h
              refine V_callV (rest := []) 1 Z (ok_X2_isWord (by decide) e19) cd_X2_isWord zc1 (by decide) rfl w598 w600 w12 rfl (show decode cX2_kindTold 69 = .ok (.invokevirtual 72, 3) by decide +kernel) rfl ?_
              refine V_if_eq 80 Z (by decide) (show decode cX2_kindTold 72 = .ok (.ifCond .eq 8, 3) by decide +kernel) (fun c21 => ?_) (fun c21 => ?_)
              · have h := zB_pos c21 h
                refine V_iconst (-1) (by decide) Z (show decode cX2_kindTold 80 = .ok (.iconst (-1), 1) by decide +kernel) ?_
                exact V_iretP Z hE h (show decode cX2_kindTold 81 = .ok (.ireturn, 1) by decide +kernel)
              · have h := zB_neg c21 h
                refine V_bipush 6 (by decide) Z (show decode cX2_kindTold 75 = .ok (.bipush 6, 2) by decide +kernel) ?_
                refine V_goto 81 Z (by decide) (show decode cX2_kindTold 77 = .ok (.goto 4, 3) by decide +kernel) ?_
                exact V_iretP Z hE h (show decode cX2_kindTold 81 = .ok (.ireturn, 1) by decide +kernel)
            · have h := zB_neg c18 h
              refine V_iconst 5 (by decide) Z (show decode cX2_kindTold 64 = .ok (.iconst 5, 1) by decide +kernel) ?_
              exact V_iretP Z hE h (show decode cX2_kindTold 65 = .ok (.ireturn, 1) by decide +kernel)
          · have h := zB_neg c15 h
            refine V_iconst 4 (by decide) Z (show decode cX2_kindTold 53 = .ok (.iconst 4, 1) by decide +kernel) ?_
            exact V_iretP Z hE h (show decode cX2_kindTold 54 = .ok (.ireturn, 1) by decide +kernel)
        · have h := zB_neg c12 h
          refine V_iconst 3 (by decide) Z (show decode cX2_kindTold 42 = .ok (.iconst 3, 1) by decide +kernel) ?_
          exact V_iretP Z hE h (show decode cX2_kindTold 43 = .ok (.ireturn, 1) by decide +kernel)
      · have h := zB_neg c9 h
        refine V_iconst 2 (by decide) Z (show decode cX2_kindTold 31 = .ok (.iconst 2, 1) by decide +kernel) ?_
        exact V_iretP Z hE h (show decode cX2_kindTold 32 = .ok (.ireturn, 1) by decide +kernel)
    · have h := zB_neg c6 h
      refine V_iconst 1 (by decide) Z (show decode cX2_kindTold 20 = .ok (.iconst 1, 1) by decide +kernel) ?_
      exact V_iretP Z hE h (show decode cX2_kindTold 21 = .ok (.ireturn, 1) by decide +kernel)
  · have h := zB_neg c3 h
    refine V_iconst 0 (by decide) Z (show decode cX2_kindTold 9 = .ok (.iconst 0, 1) by decide +kernel) ?_
    exact V_iretP Z hE h (show decode cX2_kindTold 10 = .ok (.ireturn, 1) by decide +kernel)
def f_X2_isNumberTo (x1 : Int32) (M : zM) : Option (Int32) :=
  if (M 36 1) = 2 then
    if x1 < (M 36 4) then
      some ((0 : Int32))
    else
      some ((1 : Int32))
  else
    some ((0 : Int32))
theorem cd_X2_isNumberTo : zCd yX2_isNumberTo cX2_isNumberTo 2 (some .boolean) 1 := ⟨w663, w67, ⟨by decide, by decide⟩, by decide +kernel⟩
set_option maxHeartbeats 4000000 in
set_option maxRecDepth 20000 in
theorem ok_X2_isNumberTo {x1 : Int32} {M : zM} {y : Int32}  (h : f_X2_isNumberTo x1 M = some y) : zRuns yX2_isNumberTo cX2_isNumberTo 2 (some .boolean) 0 0 [.ref 36, .int x1] M (some (.int y)) M := by
  refine zRuns_of (by decide +kernel) (Nat.le_of_ble_eq_true rfl) (fun E Z hE => ?_)
  have h := zB_top h
  change VV E 2 0 [(0, Value.ref 36), (1, Value.int x1)] [] M
  refine V_aload_n 0 Z rfl rfl (show decode cX2_isNumberTo 0 = .ok (.aload_n 0, 1) by decide +kernel) ?_
  refine V_getI 1 Z zc1 (by decide) rfl (by decide) rfl ⟨rfl, rfl, rfl⟩ w179 (show decode cX2_isNumberTo 1 = .ok (.getfield 29, 3) by decide +kernel) ?_
  refine V_iconst 2 (by decide) Z (show decode cX2_isNumberTo 4 = .ok (.iconst 2, 1) by decide +kernel) ?_
  refine V_icmp_ne 20 Z (by decide) (show decode cX2_isNumberTo 5 = .ok (.if_icmp .ne 15, 3) by decide +kernel) (fun c1 => ?_) (fun c1 => ?_)
  · have h := zB_neg c1 h
    refine V_iconst 0 (by decide) Z (show decode cX2_isNumberTo 20 = .ok (.iconst 0, 1) by decide +kernel) ?_
    exact V_zretP Z hE h rfl (show decode cX2_isNumberTo 21 = .ok (.ireturn, 1) by decide +kernel)
  · have h := zB_pos c1 h
    refine V_aload_n 0 Z rfl rfl (show decode cX2_isNumberTo 8 = .ok (.aload_n 0, 1) by decide +kernel) ?_
    refine V_getI 4 Z zc1 (by decide) rfl (by decide) rfl ⟨rfl, rfl, rfl⟩ w182 (show decode cX2_isNumberTo 9 = .ok (.getfield 51, 3) by decide +kernel) ?_
    refine V_iload_n 1 Z rfl rfl (show decode cX2_isNumberTo 12 = .ok (.iload_n 1, 1) by decide +kernel) ?_
    refine V_icmp_gt 20 Z (by decide) (show decode cX2_isNumberTo 13 = .ok (.if_icmp .gt 7, 3) by decide +kernel) (fun c2 => ?_) (fun c2 => ?_)
    · have h := zB_pos c2 h
      refine V_iconst 0 (by decide) Z (show decode cX2_isNumberTo 20 = .ok (.iconst 0, 1) by decide +kernel) ?_
      exact V_zretP Z hE h rfl (show decode cX2_isNumberTo 21 = .ok (.ireturn, 1) by decide +kernel)
    · have h := zB_neg c2 h
      refine V_iconst 1 (by decide) Z (show decode cX2_isNumberTo 16 = .ok (.iconst 1, 1) by decide +kernel) ?_
      refine V_goto 21 Z (by decide) (show decode cX2_isNumberTo 17 = .ok (.goto 4, 3) by decide +kernel) ?_
      exact V_zretP Z hE h rfl (show decode cX2_isNumberTo 21 = .ok (.ireturn, 1) by decide +kernel)
