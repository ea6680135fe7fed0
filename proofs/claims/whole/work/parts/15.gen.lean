/-! Generated walks: X2_read X3_layOut X3_put X3_has X4_append X5_within X5_finding X5_name X5_isName X5_of X5_changed -/
def f_X2_read_j71 (t : Nat) (M : zM) : Option (Int32 × zM) :=
  some ((((-1) - (M 36 2)), M))
def f_X2_read_j54 (t : Nat) (M : zM) : Option (Int32 × zM) :=
  some ((((-1) - (M 36 2)), M))
def f_X2_read_j30 (t : Nat) (M : zM) : Option (Int32 × zM) :=
  some ((((-1) - (M 36 2)), M))
def f_X2_read_l16 (t : Nat) : Int32 × zM → Option ((Int32 × zM) ⊕ (Int32 × zM))
  | (y3, M) =>
    if 120 < y3 then
      (f_X2_read_j71 t M).bind fun z => some (Sum.inr z)
    else
      (f_X2_item t M).bind fun ((v9, M10) : Int32 × zM) =>
      if v9 = 0 then
        (f_X2_read_j30 t M10).bind fun z => some (Sum.inr z)
      else
        if (M10 36 1) = 0 then
          some (.inr ((y3, M10)))
        else
          if (M10 36 1) = 3 then
            (f_X2_step  M10).bind fun (M15 : zM) =>
            (some (y3 + 1)).bind fun (x16 : Int32) =>
            some (.inl ((x16, M15)))
          else
            (f_X2_read_j54 t M10).bind fun z => some (Sum.inr z)
def f_X2_read (t : Nat) (M : zM) : Option (Int32 × zM) :=
  (some (zU M 36 0 1)).bind fun (M1 : zM) =>
  (some (zU M1 36 3 0)).bind fun (M3 : zM) =>
  (f_X2_step  M3).bind fun (M6 : zM) =>
  zIter (f_X2_read_l16 t) 1000 (1, M6)
theorem cd_X2_read : zCd yX2_read cX2_read 4 (some .int) 2 := ⟨w565, w67, ⟨by decide, by decide⟩, by decide +kernel⟩
set_option maxHeartbeats 4000000 in
set_option maxRecDepth 20000 in
theorem ok_X2_read {t : Nat} {M : zM} {y : Int32 × zM} (ht : isH t) (h : f_X2_read t M = some y) : zRuns yX2_read cX2_read 4 (some .int) 9 230 [.ref 36, .ref 34, .ref t] M (some (.int y.1)) y.2 := by
  refine zRuns_of (by decide +kernel) (Nat.le_of_ble_eq_true rfl) (fun E Z hE => ?_)
  have h := zB_top h
  change VV E 4 0 [(0, Value.ref 36), (1, Value.ref 34), (2, Value.ref t)] [] M
  have J71 : ∀ (M : zM), (f_X2_read_j71 t M).bind some = some y → VV E 4 71 [(0, Value.ref 36)] [] M := by
    intro  M h
    refine V_iconst (-1) (by decide) Z (show decode cX2_read 71 = .ok (.iconst (-1), 1) by decide +kernel) ?_
    refine V_aload_n 0 Z rfl rfl (show decode cX2_read 72 = .ok (.aload_n 0, 1) by decide +kernel) ?_
    refine V_getI 2 Z zc1 (by decide) rfl (by decide) rfl ⟨rfl, rfl, rfl⟩ w180 (show decode cX2_read 73 = .ok (.getfield 26, 3) by decide +kernel) ?_
    refine V_isub Z (show decode cX2_read 76 = .ok (.isub, 1) by decide +kernel) ?_
    exact V_iretM Z hE h (show decode cX2_read 77 = .ok (.ireturn, 1) by decide +kernel)
  have J54 : ∀ (M : zM), (f_X2_read_j54 t M).bind some = some y → VV E 4 54 [(0, Value.ref 36)] [] M := by
    intro  M h
    refine V_iconst (-1) (by decide) Z (show decode cX2_read 54 = .ok (.iconst (-1), 1) by decide +kernel) ?_
    refine V_aload_n 0 Z rfl rfl (show decode cX2_read 55 = .ok (.aload_n 0, 1) by decide +kernel) ?_
    refine V_getI 2 Z zc1 (by decide) rfl (by decide) rfl ⟨rfl, rfl, rfl⟩ w180 (show decode cX2_read 56 = .ok (.getfield 26, 3) by decide +kernel) ?_
    refine V_isub Z (show decode cX2_read 59 = .ok (.isub, 1) by decide +kernel) ?_
    exact V_iretM Z hE h (show decode cX2_read 60 = .ok (.ireturn, 1) by decide +kernel)
  have J30 : ∀ (M : zM), (f_X2_read_j30 t M).bind some = some y → VV E 4 30 [(0, Value.ref 36)] [] M := by
    intro  M h
    refine V_iconst (-1) (by decide) Z (show decode cX2_read 30 = .ok (.iconst (-1), 1) by decide +kernel) ?_
    refine V_aload_n 0 Z rfl rfl (show decode cX2_read 31 = .ok (.aload_n 0, 1) by decide +kernel) ?_
    refine V_getI 2 Z zc1 (by decide) rfl (by decide) rfl ⟨rfl, rfl, rfl⟩ w180 (show decode cX2_read 32 = .ok (.getfield 26, 3) by decide +kernel) ?_
    refine V_isub Z (show decode cX2_read 35 = .ok (.isub, 1) by decide +kernel) ?_
    exact V_iretM Z hE h (show decode cX2_read 36 = .ok (.ireturn, 1) by decide +kernel)
  refine V_aload_n 0 Z rfl rfl (show decode cX2_read 0 = .ok (.aload_n 0, 1) by decide +kernel) ?_
  refine V_aload_n 1 Z rfl rfl (show decode cX2_read 1 = .ok (.aload_n 1, 1) by decide +kernel) ?_
  obtain ⟨M1, e2, h⟩ := zB_let h
  refine V_putD 0 Z zc1 (by decide) rfl (by decide) rfl ⟨rfl, rfl, rfl⟩ rfl rfl w178 (show decode cX2_read 2 = .ok (.putfield 9, 3) by decide +kernel) ?_
  refine V_nmM e2 ?_
  refine V_aload_n 0 Z rfl rfl (show decode cX2_read 5 = .ok (.aload_n 0, 1) by decide +kernel) ?_
  refine V_iconst 0 (by decide) Z (show decode cX2_read 6 = .ok (.iconst 0, 1) by decide +kernel) ?_
  obtain ⟨M3, e4, h⟩ := zB_let h
  refine V_putI 3 Z zc1 (by decide) rfl (by decide) rfl ⟨rfl, rfl, rfl⟩ rfl rfl w181 (show decode cX2_read 7 = .ok (.putfield 15, 3) by decide +kernel) ?_
  refine V_nmM e4 ?_
  refine V_aload_n 0 Z rfl rfl (show decode cX2_read 10 = .ok (.aload_n 0, 1) by decide +kernel) ?_
  obtain ⟨M6, e5, h⟩ := zB_bind h
  refine V_callV (rest := []) 0 Z (ok_X2_step  e5) cd_X2_step zc1 (by decide) rfl w566 w568 w7 rfl (show decode cX2_read 11 = .ok (.invokevirtual 19, 3) by decide +kernel) rfl ?_
  refine V_iconst 1 (by decide) Z (show decode cX2_read 14 = .ok (.iconst 1, 1) by decide +kernel) ?_
  refine V_istore_n [(3, Value.int 1), (0, Value.ref 36), (1, Value.ref 34), (2, Value.ref t)] Z (by decide) rfl rfl (show decode cX2_read 15 = .ok (.istore_n 3, 1) by decide +kernel) ?_
  refine V_sub [1, 3, 0] rfl ?_
  refine zIter_loop' (K := some) (fun s : Int32 × zM => VV E 4 16 [(0, Value.ref 36), (2, Value.ref t), (3, Value.int s.1)] [] s.2) (fun K1 s c1_i c1_r h => ?_) _ _ h
  obtain ⟨y3, M⟩ := s
  change VV E 4 16 [(0, Value.ref 36), (2, Value.ref t), (3, Value.int y3)] [] M
  refine V_iload_n 2 Z rfl rfl (show decode cX2_read 16 = .ok (.iload_n 3, 1) by decide +kernel) ?_
  refine V_bipush 120 (by decide) Z (show decode cX2_read 17 = .ok (.bipush 120, 2) by decide +kernel) ?_
  refine V_icmp_gt 71 Z (by decide) (show decode cX2_read 19 = .ok (.if_icmp .gt 52, 3) by decide +kernel) (fun c7 => ?_) (fun c7 => ?_)
  · have h := zB_pos c7 h
    refine V_sub [0] rfl ?_
    have h := zB_lift c1_r h
    exact J71 _ h
  · have h := zB_neg c7 h
    refine V_aload_n 0 Z rfl rfl (show decode cX2_read 22 = .ok (.aload_n 0, 1) by decide +kernel) ?_
    refine V_aload_n 1 Z rfl rfl (show decode cX2_read 23 = .ok (.aload_n 2, 1) by decide +kernel) ?_
    obtain ⟨⟨v9, M10⟩, e8, h⟩ := zB_bind h
    refine V_callV (rest := []) 1 Z (ok_X2_item ht e8) cd_X2_item zc1 (by decide) rfl w589 w591 w10 rfl (show decode cX2_read 24 = .ok (.invokevirtual 22, 3) by decide +kernel) rfl ?_
    refine V_if_ne 37 Z (by decide) (show decode cX2_read 27 = .ok (.ifCond .ne 10, 3) by decide +kernel) (fun c11 => ?_) (fun c11 => ?_)
    · have h := zB_neg c11 h
      refine V_aload_n 0 Z rfl rfl (show decode cX2_read 37 = .ok (.aload_n 0, 1) by decide +kernel) ?_
      refine V_getI 1 Z zc1 (by decide) rfl (by decide) rfl ⟨rfl, rfl, rfl⟩ w179 (show decode cX2_read 38 = .ok (.getfield 29, 3) by decide +kernel) ?_
      refine V_if_ne 46 Z (by decide) (show decode cX2_read 41 = .ok (.ifCond .ne 5, 3) by decide +kernel) (fun c12 => ?_) (fun c12 => ?_)
      · have h := zB_neg c12 h
        refine V_aload_n 0 Z rfl rfl (show decode cX2_read 46 = .ok (.aload_n 0, 1) by decide +kernel) ?_
        refine V_getI 1 Z zc1 (by decide) rfl (by decide) rfl ⟨rfl, rfl, rfl⟩ w179 (show decode cX2_read 47 = .ok (.getfield 29, 3) by decide +kernel) ?_
        refine V_iconst 3 (by decide) Z (show decode cX2_read 50 = .ok (.iconst 3, 1) by decide +kernel) ?_
        refine V_icmp_eq 61 Z (by decide) (show decode cX2_read 51 = .ok (.if_icmp .eq 10, 3) by decide +kernel) (fun c13 => ?_) (fun c13 => ?_)
        · have h := zB_pos c13 h
          refine V_aload_n 0 Z rfl rfl (show decode cX2_read 61 = .ok (.aload_n 0, 1) by decide +kernel) ?_
          obtain ⟨M15, e14, h⟩ := zB_bind h
          refine V_callV (rest := []) 0 Z (ok_X2_step  e14) cd_X2_step zc1 (by decide) rfl w566 w568 w7 rfl (show decode cX2_read 62 = .ok (.invokevirtual 19, 3) by decide +kernel) rfl ?_
          obtain ⟨x16, e17, h⟩ := zB_let h
          refine V_iinc (n := 1) 2 x16 [(3, Value.int x16), (0, Value.ref 36), (2, Value.ref t)] Z (by decide) rfl e17 rfl (show decode cX2_read 65 = .ok (.iinc 3 1, 3) by decide +kernel) ?_
          refine V_goto 16 Z (by decide) (show decode cX2_read 68 = .ok (.goto (-52), 3) by decide +kernel) ?_
          refine V_sub [1, 2, 0] rfl ?_
          exact c1_i _ h
        · have h := zB_neg c13 h
          refine V_sub [0] rfl ?_
          have h := zB_lift c1_r h
          exact J54 _ h
      · have h := zB_pos c12 h
        refine V_iload_n 2 Z rfl rfl (show decode cX2_read 44 = .ok (.iload_n 3, 1) by decide +kernel) ?_
        have h := c1_r _ h
        exact V_iretM Z hE h (show decode cX2_read 45 = .ok (.ireturn, 1) by decide +kernel)
    · have h := zB_pos c11 h
      refine V_sub [0] rfl ?_
      have h := zB_lift c1_r h
      exact J30 _ h
def f_X3_layOut_l20 (q : Nat) : Int32 × zM → Option ((Int32 × zM) ⊕ (zM))
  | (y3, M) =>
    if 40 ≤ y3 then
      some (.inr (M))
    else
      (zwr M (q + 1) y3 0).bind fun (M4 : zM) =>
      (some (y3 + 1)).bind fun (x6 : Int32) =>
      some (.inl ((x6, M4)))
def f_X3_layOut_j15 (q : Nat) (s0 : Int32) (M : zM) : Option (zM) :=
  (some (zU M q 2 s0)).bind fun (M1 : zM) =>
  zIter (f_X3_layOut_l20 q) 1000 (0, M1)
def f_X3_layOut (q : Nat) (x1 : Int32) (x2 : Int32) (M : zM) : Option (zM) :=
  (some (zU M q 1 x1)).bind fun (M8 : zM) =>
  if x1 = 0 then
    f_X3_layOut_j15 q 0 M8
  else
    f_X3_layOut_j15 q x2 M8
theorem cd_X3_layOut : zCd yX3_layOut cX3_layOut 4 none 2 := ⟨w701, w68, ⟨by decide, by decide⟩, by decide +kernel⟩
set_option maxHeartbeats 4000000 in
set_option maxRecDepth 20000 in
theorem ok_X3_layOut {q : Nat} {x1 : Int32} {x2 : Int32} {M : zM} {y : zM} (hq : isS q) (h : f_X3_layOut q x1 x2 M = some y) : zRuns yX3_layOut cX3_layOut 4 none 0 0 [.ref q, .int x1, .int x2] M none y := by
  refine zRuns_of (by decide +kernel) (Nat.le_of_ble_eq_true rfl) (fun E Z hE => ?_)
  have h := zB_top h
  change VV E 4 0 [(0, Value.ref q), (1, Value.int x1), (2, Value.int x2)] [] M
  have J15 : ∀ (s0 : Int32) (M : zM), (f_X3_layOut_j15 q s0 M).bind some = some y → VV E 4 15 [(0, Value.ref q)] [Value.int s0, Value.ref q] M := by
    intro s0 M h
    obtain ⟨M1, e2, h⟩ := zB_let h
    refine V_putI 2 Z zc2 (isS_lt hq) (shS hq) (by decide) rfl ⟨rfl, rfl, rfl⟩ rfl rfl w206 (show decode cX3_layOut 15 = .ok (.putfield 19, 3) by decide +kernel) ?_
    refine V_nmM e2 ?_
    refine V_iconst 0 (by decide) Z (show decode cX3_layOut 18 = .ok (.iconst 0, 1) by decide +kernel) ?_
    refine V_istore_n [(3, Value.int 0), (0, Value.ref q)] Z (by decide) rfl rfl (show decode cX3_layOut 19 = .ok (.istore_n 3, 1) by decide +kernel) ?_
    refine V_sub [1, 0] rfl ?_
    refine zIter_loop' (K := some) (fun s : Int32 × zM => VV E 4 20 [(0, Value.ref q), (3, Value.int s.1)] [] s.2) (fun K1 s c1_i c1_r h => ?_) _ _ h
    obtain ⟨y3, M⟩ := s
    change VV E 4 20 [(0, Value.ref q), (3, Value.int y3)] [] M
    refine V_iload_n 1 Z rfl rfl (show decode cX3_layOut 20 = .ok (.iload_n 3, 1) by decide +kernel) ?_
    refine V_bipush 40 (by decide) Z (show decode cX3_layOut 21 = .ok (.bipush 40, 2) by decide +kernel) ?_
    refine V_icmp_ge 39 Z (by decide) (show decode cX3_layOut 23 = .ok (.if_icmp .ge 16, 3) by decide +kernel) (fun c3 => ?_) (fun c3 => ?_)
    · have h := zB_pos c3 h
      have h := c1_r _ h
      exact V_vretM Z hE h (show decode cX3_layOut 39 = .ok (.return_, 1) by decide +kernel)
    · have h := zB_neg c3 h
      refine V_aload_n 0 Z rfl rfl (show decode cX3_layOut 26 = .ok (.aload_n 0, 1) by decide +kernel) ?_
      refine V_getR 0 (q + 1) Z zc2 (isS_lt hq) (shS hq) (by decide) rfl (isS_ne hq 1) ⟨rfl, rfl, rfl⟩ w201 (show decode cX3_layOut 27 = .ok (.getfield 9, 3) by decide +kernel) ?_
      refine V_iload_n 1 Z rfl rfl (show decode cX3_layOut 30 = .ok (.iload_n 3, 1) by decide +kernel) ?_
      refine V_iconst 0 (by decide) Z (show decode cX3_layOut 31 = .ok (.iconst 0, 1) by decide +kernel) ?_
      obtain ⟨M4, e5, h⟩ := zB_bind h
      refine V_iast Z e5 (show decode cX3_layOut 32 = .ok (.iastore, 1) by decide +kernel) ?_
      obtain ⟨x6, e7, h⟩ := zB_let h
      refine V_iinc (n := 1) 1 x6 [(3, Value.int x6), (0, Value.ref q)] Z (by decide) rfl e7 rfl (show decode cX3_layOut 33 = .ok (.iinc 3 1, 3) by decide +kernel) ?_
      refine V_goto 20 Z (by decide) (show decode cX3_layOut 36 = .ok (.goto (-16), 3) by decide +kernel) ?_
      refine V_sub [1, 0] rfl ?_
      exact c1_i _ h
  refine V_aload_n 0 Z rfl rfl (show decode cX3_layOut 0 = .ok (.aload_n 0, 1) by decide +kernel) ?_
  refine V_iload_n 1 Z rfl rfl (show decode cX3_layOut 1 = .ok (.iload_n 1, 1) by decide +kernel) ?_
  obtain ⟨M8, e9, h⟩ := zB_let h
  refine V_putI 1 Z zc2 (isS_lt hq) (shS hq) (by decide) rfl ⟨rfl, rfl, rfl⟩ rfl rfl w204 (show decode cX3_layOut 2 = .ok (.putfield 15, 3) by decide +kernel) ?_
  refine V_nmM e9 ?_
  refine V_aload_n 0 Z rfl rfl (show decode cX3_layOut 5 = .ok (.aload_n 0, 1) by decide +kernel) ?_
  refine V_iload_n 1 Z rfl rfl (show decode cX3_layOut 6 = .ok (.iload_n 1, 1) by decide +kernel) ?_
  refine V_if_ne 14 Z (by decide) (show decode cX3_layOut 7 = .ok (.ifCond .ne 7, 3) by decide +kernel) (fun c10 => ?_) (fun c10 => ?_)
  · have h := zB_neg c10 h
    refine V_iload_n 2 Z rfl rfl (show decode cX3_layOut 14 = .ok (.iload_n 2, 1) by decide +kernel) ?_
    refine V_sub [0] rfl ?_
    exact J15 _ _ h
  · have h := zB_pos c10 h
    refine V_iconst 0 (by decide) Z (show decode cX3_layOut 10 = .ok (.iconst 0, 1) by decide +kernel) ?_
    refine V_goto 15 Z (by decide) (show decode cX3_layOut 11 = .ok (.goto 4, 3) by decide +kernel) ?_
    refine V_sub [0] rfl ?_
    exact J15 _ _ h
def f_X3_put (q : Nat) (x1 : Int32) (x2 : Int32) (M : zM) : Option (zM) :=
  if (M q 1) = 8 then
    (zwr M (q + 1) x1 ((x2 : Int32).toInt8.toInt32)).bind fun (M2 : zM) =>
    some (M2)
  else
    if (M q 1) = 16 then
      (zwr M (q + 1) x1 ((x2 : Int32).toInt16.toInt32)).bind fun (M5 : zM) =>
      some (M5)
    else
      (zwr M (q + 1) x1 x2).bind fun (M7 : zM) =>
      some (M7)
theorem cd_X3_put : zCd yX3_put cX3_put 3 none 2 := ⟨w709, w68, ⟨by decide, by decide⟩, by decide +kernel⟩
set_option maxHeartbeats 4000000 in
set_option maxRecDepth 20000 in
theorem ok_X3_put {q : Nat} {x1 : Int32} {x2 : Int32} {M : zM} {y : zM} (hq : isS q) (h : f_X3_put q x1 x2 M = some y) : zRuns yX3_put cX3_put 3 none 0 0 [.ref q, .int x1, .int x2] M none y := by
  refine zRuns_of (by decide +kernel) (Nat.le_of_ble_eq_true rfl) (fun E Z hE => ?_)
  have h := zB_top h
  change VV E 3 0 [(0, Value.ref q), (1, Value.int x1), (2, Value.int x2)] [] M
  refine V_aload_n 0 Z rfl rfl (show decode cX3_put 0 = .ok (.aload_n 0, 1) by decide +kernel) ?_
  refine V_getI 1 Z zc2 (isS_lt hq) (shS hq) (by decide) rfl ⟨rfl, rfl, rfl⟩ w204 (show decode cX3_put 1 = .ok (.getfield 15, 3) by decide +kernel) ?_
  rcases zB_ite h with ⟨c1, h⟩ | ⟨c1, h⟩
  · refine V_lookE 8 32 Z c1 (show decode cX3_put 4 = .ok (.lookupswitch 50 #[(8, 28), (16, 39)], 28) by decide +kernel) (by decide) ?_
    refine V_aload_n 0 Z rfl rfl (show decode cX3_put 32 = .ok (.aload_n 0, 1) by decide +kernel) ?_
    refine V_getR 0 (q + 1) Z zc2 (isS_lt hq) (shS hq) (by decide) rfl (isS_ne hq 1) ⟨rfl, rfl, rfl⟩ w201 (show decode cX3_put 33 = .ok (.getfield 9, 3) by decide +kernel) ?_
    refine V_iload_n 1 Z rfl rfl (show decode cX3_put 36 = .ok (.iload_n 1, 1) by decide +kernel) ?_
    refine V_iload_n 2 Z rfl rfl (show decode cX3_put 37 = .ok (.iload_n 2, 1) by decide +kernel) ?_
    refine V_i2b Z (show decode cX3_put 38 = .ok (.i2b, 1) by decide +kernel) ?_
    obtain ⟨M2, e3, h⟩ := zB_bind h
    refine V_iast Z e3 (show decode cX3_put 39 = .ok (.iastore, 1) by decide +kernel) ?_
    refine V_goto 61 Z (by decide) (show decode cX3_put 40 = .ok (.goto 21, 3) by decide +kernel) ?_
    exact V_vretM Z hE h (show decode cX3_put 61 = .ok (.return_, 1) by decide +kernel)
  · skip
    rcases zB_ite h with ⟨c4, h⟩ | ⟨c4, h⟩
    · refine V_lookE 16 43 Z c4 (show decode cX3_put 4 = .ok (.lookupswitch 50 #[(8, 28), (16, 39)], 28) by decide +kernel) (by decide) ?_
      refine V_aload_n 0 Z rfl rfl (show decode cX3_put 43 = .ok (.aload_n 0, 1) by decide +kernel) ?_
      refine V_getR 0 (q + 1) Z zc2 (isS_lt hq) (shS hq) (by decide) rfl (isS_ne hq 1) ⟨rfl, rfl, rfl⟩ w201 (show decode cX3_put 44 = .ok (.getfield 9, 3) by decide +kernel) ?_
      refine V_iload_n 1 Z rfl rfl (show decode cX3_put 47 = .ok (.iload_n 1, 1) by decide +kernel) ?_
      refine V_iload_n 2 Z rfl rfl (show decode cX3_put 48 = .ok (.iload_n 2, 1) by decide +kernel) ?_
      refine V_i2s Z (show decode cX3_put 49 = .ok (.i2s, 1) by decide +kernel) ?_
      obtain ⟨M5, e6, h⟩ := zB_bind h
      refine V_iast Z e6 (show decode cX3_put 50 = .ok (.iastore, 1) by decide +kernel) ?_
      refine V_goto 61 Z (by decide) (show decode cX3_put 51 = .ok (.goto 10, 3) by decide +kernel) ?_
      exact V_vretM Z hE h (show decode cX3_put 61 = .ok (.return_, 1) by decide +kernel)
    · skip
      refine V_lookD 54 Z (show decode cX3_put 4 = .ok (.lookupswitch 50 #[(8, 28), (16, 39)], 28) by decide +kernel) (by
          intro p hp e
          simp only [List.mem_cons, List.not_mem_nil, or_false] at hp
          rcases hp with rfl | rfl
          · exact c1 e
          · exact c4 e) (by decide) ?_
      refine V_aload_n 0 Z rfl rfl (show decode cX3_put 54 = .ok (.aload_n 0, 1) by decide +kernel) ?_
      refine V_getR 0 (q + 1) Z zc2 (isS_lt hq) (shS hq) (by decide) rfl (isS_ne hq 1) ⟨rfl, rfl, rfl⟩ w201 (show decode cX3_put 55 = .ok (.getfield 9, 3) by decide +kernel) ?_
      refine V_iload_n 1 Z rfl rfl (show decode cX3_put 58 = .ok (.iload_n 1, 1) by decide +kernel) ?_
      refine V_iload_n 2 Z rfl rfl (show decode cX3_put 59 = .ok (.iload_n 2, 1) by decide +kernel) ?_
      obtain ⟨M7, e8, h⟩ := zB_bind h
      refine V_iast Z e8 (show decode cX3_put 60 = .ok (.iastore, 1) by decide +kernel) ?_
      exact V_vretM Z hE h (show decode cX3_put 61 = .ok (.return_, 1) by decide +kernel)
def f_X3_has (q : Nat) (x1 : Int32) (x2 : Int32) (M : zM) : Option (Int32) :=
  if x1 < 0 then
    some ((0 : Int32))
  else
    if x2 < 0 then
      some ((0 : Int32))
    else
      if (M q 2) < x1 then
        some ((0 : Int32))
      else
        if ((M q 2) - x1) < x2 then
          some ((0 : Int32))
        else
          some ((1 : Int32))
theorem cd_X3_has : zCd yX3_has cX3_has 3 (some .boolean) 2 := ⟨w717, w68, ⟨by decide, by decide⟩, by decide +kernel⟩
set_option maxHeartbeats 4000000 in
set_option maxRecDepth 20000 in
theorem ok_X3_has {q : Nat} {x1 : Int32} {x2 : Int32} {M : zM} {y : Int32} (hq : isS q) (h : f_X3_has q x1 x2 M = some y) : zRuns yX3_has cX3_has 3 (some .boolean) 0 0 [.ref q, .int x1, .int x2] M (some (.int y)) M := by
  refine zRuns_of (by decide +kernel) (Nat.le_of_ble_eq_true rfl) (fun E Z hE => ?_)
  have h := zB_top h
  change VV E 3 0 [(0, Value.ref q), (1, Value.int x1), (2, Value.int x2)] [] M
  refine V_iload_n 1 Z rfl rfl (show decode cX3_has 0 = .ok (.iload_n 1, 1) by decide +kernel) ?_
  refine V_if_lt 30 Z (by decide) (show decode cX3_has 1 = .ok (.ifCond .lt 29, 3) by decide +kernel) (fun c1 => ?_) (fun c1 => ?_)
  · have h := zB_pos c1 h
    refine V_iconst 0 (by decide) Z (show decode cX3_has 30 = .ok (.iconst 0, 1) by decide +kernel) ?_
    exact V_zretP Z hE h rfl (show decode cX3_has 31 = .ok (.ireturn, 1) by decide +kernel)
  · have h := zB_neg c1 h
    refine V_iload_n 2 Z rfl rfl (show decode cX3_has 4 = .ok (.iload_n 2, 1) by decide +kernel) ?_
    refine V_if_lt 30 Z (by decide) (show decode cX3_has 5 = .ok (.ifCond .lt 25, 3) by decide +kernel) (fun c2 => ?_) (fun c2 => ?_)
    · have h := zB_pos c2 h
      refine V_iconst 0 (by decide) Z (show decode cX3_has 30 = .ok (.iconst 0, 1) by decide +kernel) ?_
      exact V_zretP Z hE h rfl (show decode cX3_has 31 = .ok (.ireturn, 1) by decide +kernel)
    · have h := zB_neg c2 h
      refine V_iload_n 1 Z rfl rfl (show decode cX3_has 8 = .ok (.iload_n 1, 1) by decide +kernel) ?_
      refine V_aload_n 0 Z rfl rfl (show decode cX3_has 9 = .ok (.aload_n 0, 1) by decide +kernel) ?_
      refine V_getI 2 Z zc2 (isS_lt hq) (shS hq) (by decide) rfl ⟨rfl, rfl, rfl⟩ w206 (show decode cX3_has 10 = .ok (.getfield 19, 3) by decide +kernel) ?_
      refine V_icmp_gt 30 Z (by decide) (show decode cX3_has 13 = .ok (.if_icmp .gt 17, 3) by decide +kernel) (fun c3 => ?_) (fun c3 => ?_)
      · have h := zB_pos c3 h
        refine V_iconst 0 (by decide) Z (show decode cX3_has 30 = .ok (.iconst 0, 1) by decide +kernel) ?_
        exact V_zretP Z hE h rfl (show decode cX3_has 31 = .ok (.ireturn, 1) by decide +kernel)
      · have h := zB_neg c3 h
        refine V_iload_n 2 Z rfl rfl (show decode cX3_has 16 = .ok (.iload_n 2, 1) by decide +kernel) ?_
        refine V_aload_n 0 Z rfl rfl (show decode cX3_has 17 = .ok (.aload_n 0, 1) by decide +kernel) ?_
        refine V_getI 2 Z zc2 (isS_lt hq) (shS hq) (by decide) rfl ⟨rfl, rfl, rfl⟩ w206 (show decode cX3_has 18 = .ok (.getfield 19, 3) by decide +kernel) ?_
        refine V_iload_n 1 Z rfl rfl (show decode cX3_has 21 = .ok (.iload_n 1, 1) by decide +kernel) ?_
        refine V_isub Z (show decode cX3_has 22 = .ok (.isub, 1) by decide +kernel) ?_
        refine V_icmp_gt 30 Z (by decide) (show decode cX3_has 23 = .ok (.if_icmp .gt 7, 3) by decide +kernel) (fun c4 => ?_) (fun c4 => ?_)
        · have h := zB_pos c4 h
          refine V_iconst 0 (by decide) Z (show decode cX3_has 30 = .ok (.iconst 0, 1) by decide +kernel) ?_
          exact V_zretP Z hE h rfl (show decode cX3_has 31 = .ok (.ireturn, 1) by decide +kernel)
        · have h := zB_neg c4 h
          refine V_iconst 1 (by decide) Z (show decode cX3_has 26 = .ok (.iconst 1, 1) by decide +kernel) ?_
          refine V_goto 31 Z (by decide) (show decode cX3_has 27 = .ok (.goto 4, 3) by decide +kernel) ?_
          exact V_zretP Z hE h rfl (show decode cX3_has 31 = .ok (.ireturn, 1) by decide +kernel)
def f_X4_append (x1 : Int32) (M : zM) : Option (zM) :=
  if 120 ≤ (M 34 1) then
    some (M)
  else
    (zwr M 35 (M 34 1) x1).bind fun (M2 : zM) =>
    (some (zU M2 34 1 (((M2 34 1) + 1)))).bind fun (M4 : zM) =>
    some (M4)
theorem cd_X4_append : zCd yX4_append cX4_append 2 none 1 := ⟨w553, w66, ⟨by decide, by decide⟩, by decide +kernel⟩
set_option maxHeartbeats 4000000 in
set_option maxRecDepth 20000 in
theorem ok_X4_append {x1 : Int32} {M : zM} {y : zM}  (h : f_X4_append x1 M = some y) : zRuns yX4_append cX4_append 2 none 0 0 [.ref 34, .int x1] M none y := by
  refine zRuns_of (by decide +kernel) (Nat.le_of_ble_eq_true rfl) (fun E Z hE => ?_)
  have h := zB_top h
  change VV E 2 0 [(0, Value.ref 34), (1, Value.int x1)] [] M
  refine V_aload_n 0 Z rfl rfl (show decode cX4_append 0 = .ok (.aload_n 0, 1) by decide +kernel) ?_
  refine V_getI 1 Z zc3 (by decide) rfl (by decide) rfl ⟨rfl, rfl, rfl⟩ w165 (show decode cX4_append 1 = .ok (.getfield 15, 3) by decide +kernel) ?_
  refine V_bipush 120 (by decide) Z (show decode cX4_append 4 = .ok (.bipush 120, 2) by decide +kernel) ?_
  refine V_icmp_ge 29 Z (by decide) (show decode cX4_append 6 = .ok (.if_icmp .ge 23, 3) by decide +kernel) (fun c1 => ?_) (fun c1 => ?_)
  · have h := zB_pos c1 h
    exact V_vretM Z hE h (show decode cX4_append 29 = .ok (.return_, 1) by decide +kernel)
  · have h := zB_neg c1 h
    refine V_aload_n 0 Z rfl rfl (show decode cX4_append 9 = .ok (.aload_n 0, 1) by decide +kernel) ?_
    refine V_getR 0 35 Z zc3 (by decide) rfl (by decide) rfl (by decide) ⟨rfl, rfl, rfl⟩ w164 (show decode cX4_append 10 = .ok (.getfield 9, 3) by decide +kernel) ?_
    refine V_aload_n 0 Z rfl rfl (show decode cX4_append 13 = .ok (.aload_n 0, 1) by decide +kernel) ?_
    refine V_getI 1 Z zc3 (by decide) rfl (by decide) rfl ⟨rfl, rfl, rfl⟩ w165 (show decode cX4_append 14 = .ok (.getfield 15, 3) by decide +kernel) ?_
    refine V_iload_n 1 Z rfl rfl (show decode cX4_append 17 = .ok (.iload_n 1, 1) by decide +kernel) ?_
    obtain ⟨M2, e3, h⟩ := zB_bind h
    refine V_iast Z e3 (show decode cX4_append 18 = .ok (.iastore, 1) by decide +kernel) ?_
    refine V_aload_n 0 Z rfl rfl (show decode cX4_append 19 = .ok (.aload_n 0, 1) by decide +kernel) ?_
    refine V_dup rfl Z (show decode cX4_append 20 = .ok (.dup, 1) by decide +kernel) ?_
    refine V_getI 1 Z zc3 (by decide) rfl (by decide) rfl ⟨rfl, rfl, rfl⟩ w165 (show decode cX4_append 21 = .ok (.getfield 15, 3) by decide +kernel) ?_
    refine V_iconst 1 (by decide) Z (show decode cX4_append 24 = .ok (.iconst 1, 1) by decide +kernel) ?_
    refine V_iadd Z (show decode cX4_append 25 = .ok (.iadd, 1) by decide +kernel) ?_
    obtain ⟨M4, e5, h⟩ := zB_let h
    refine V_putI 1 Z zc3 (by decide) rfl (by decide) rfl ⟨rfl, rfl, rfl⟩ rfl rfl w165 (show decode cX4_append 26 = .ok (.putfield 15, 3) by decide +kernel) ?_
    refine V_nmM e5 ?_
    exact V_vretM Z hE h (show decode cX4_append 29 = .ok (.return_, 1) by decide +kernel)
def f_X5_within (x0 : Int32) (x1 : Int32) (x2 : Int32) (M : zM) : Option (Int32) :=
  if x0 < x1 then
    some ((0 : Int32))
  else
    if x2 < x0 then
      some ((0 : Int32))
    else
      some ((1 : Int32))
theorem cd_X5_within : zCd yX5_within cX5_within 3 (some .boolean) 3 := ⟨w247, w64, ⟨by decide, by decide⟩, by decide +kernel⟩
set_option maxHeartbeats 4000000 in
set_option maxRecDepth 20000 in
theorem ok_X5_within {x0 : Int32} {x1 : Int32} {x2 : Int32} {M : zM} {y : Int32}  (h : f_X5_within x0 x1 x2 M = some y) : zRuns yX5_within cX5_within 3 (some .boolean) 0 0 [.int x0, .int x1, .int x2] M (some (.int y)) M := by
  refine zRuns_of (by decide +kernel) (Nat.le_of_ble_eq_true rfl) (fun E Z hE => ?_)
  have h := zB_top h
  change VV E 3 0 [(0, Value.int x0), (1, Value.int x1), (2, Value.int x2)] [] M
  refine V_iload_n 0 Z rfl rfl (show decode cX5_within 0 = .ok (.iload_n 0, 1) by decide +kernel) ?_
  refine V_iload_n 1 Z rfl rfl (show decode cX5_within 1 = .ok (.iload_n 1, 1) by decide +kernel) ?_
  refine V_icmp_lt 14 Z (by decide) (show decode cX5_within 2 = .ok (.if_icmp .lt 12, 3) by decide +kernel) (fun c1 => ?_) (fun c1 => ?_)
  · have h := zB_pos c1 h
    refine V_iconst 0 (by decide) Z (show decode cX5_within 14 = .ok (.iconst 0, 1) by decide +kernel) ?_
    exact V_zretP Z hE h rfl (show decode cX5_within 15 = .ok (.ireturn, 1) by decide +kernel)
  · have h := zB_neg c1 h
    refine V_iload_n 0 Z rfl rfl (show decode cX5_within 5 = .ok (.iload_n 0, 1) by decide +kernel) ?_
    refine V_iload_n 2 Z rfl rfl (show decode cX5_within 6 = .ok (.iload_n 2, 1) by decide +kernel) ?_
    refine V_icmp_gt 14 Z (by decide) (show decode cX5_within 7 = .ok (.if_icmp .gt 7, 3) by decide +kernel) (fun c2 => ?_) (fun c2 => ?_)
    · have h := zB_pos c2 h
      refine V_iconst 0 (by decide) Z (show decode cX5_within 14 = .ok (.iconst 0, 1) by decide +kernel) ?_
      exact V_zretP Z hE h rfl (show decode cX5_within 15 = .ok (.ireturn, 1) by decide +kernel)
    · have h := zB_neg c2 h
      refine V_iconst 1 (by decide) Z (show decode cX5_within 10 = .ok (.iconst 1, 1) by decide +kernel) ?_
      refine V_goto 15 Z (by decide) (show decode cX5_within 11 = .ok (.goto 4, 3) by decide +kernel) ?_
      exact V_zretP Z hE h rfl (show decode cX5_within 15 = .ok (.ireturn, 1) by decide +kernel)
def f_X5_finding (x1 : Int32) (M : zM) : Option (Int32 × zM) :=
  (zrd M 38 x1).bind fun (v1 : Int32) =>
  (zwr M 38 x1 (v1 + 1)).bind fun (M3 : zM) =>
  some ((((-1000001) - x1), M3))
theorem cd_X5_finding : zCd yX5_finding cX5_finding 2 (some .int) 1 := ⟨w251, w64, ⟨by decide, by decide⟩, by decide +kernel⟩
set_option maxHeartbeats 4000000 in
set_option maxRecDepth 20000 in
theorem ok_X5_finding {x1 : Int32} {M : zM} {y : Int32 × zM}  (h : f_X5_finding x1 M = some y) : zRuns yX5_finding cX5_finding 2 (some .int) 0 0 [.ref 0, .int x1] M (some (.int y.1)) y.2 := by
  refine zRuns_of (by decide +kernel) (Nat.le_of_ble_eq_true rfl) (fun E Z hE => ?_)
  have h := zB_top h
  change VV E 2 0 [(0, Value.ref 0), (1, Value.int x1)] [] M
  refine V_aload_n 0 Z rfl rfl (show decode cX5_finding 0 = .ok (.aload_n 0, 1) by decide +kernel) ?_
  refine V_getR 6 38 Z zc4 (by decide) rfl (by decide) rfl (by decide) ⟨rfl, rfl, rfl⟩ w222 (show decode cX5_finding 1 = .ok (.getfield 42, 3) by decide +kernel) ?_
  refine V_iload_n 1 Z rfl rfl (show decode cX5_finding 4 = .ok (.iload_n 1, 1) by decide +kernel) ?_
  refine V_dup2 rfl rfl Z (show decode cX5_finding 5 = .ok (.dup2, 1) by decide +kernel) ?_
  obtain ⟨v1, e2, h⟩ := zB_bind h
  refine V_iald Z e2 (show decode cX5_finding 6 = .ok (.iaload, 1) by decide +kernel) ?_
  refine V_iconst 1 (by decide) Z (show decode cX5_finding 7 = .ok (.iconst 1, 1) by decide +kernel) ?_
  refine V_iadd Z (show decode cX5_finding 8 = .ok (.iadd, 1) by decide +kernel) ?_
  obtain ⟨M3, e4, h⟩ := zB_bind h
  refine V_iast Z e4 (show decode cX5_finding 9 = .ok (.iastore, 1) by decide +kernel) ?_
  refine V_ldcw (-1000001) Z w252 (show decode cX5_finding 10 = .ok (.ldc_w 259, 3) by decide +kernel) ?_
  refine V_iload_n 1 Z rfl rfl (show decode cX5_finding 13 = .ok (.iload_n 1, 1) by decide +kernel) ?_
  refine V_isub Z (show decode cX5_finding 14 = .ok (.isub, 1) by decide +kernel) ?_
  exact V_iretM Z hE h (show decode cX5_finding 15 = .ok (.ireturn, 1) by decide +kernel)
def f_X5_name_j20 (M : zM) : Option (Int32 × zM) :=
  (f_X5_finding 0 M).bind fun ((v2, M3) : Int32 × zM) =>
  some ((v2, M3))
def f_X5_name (x1 : Int32) (x2 : Int32) (M : zM) : Option (Int32 × zM) :=
  (f_X5_within x1 0 6 M).bind fun (v5 : Int32) =>
  if v5 = 0 then
    f_X5_name_j20  M
  else
    (f_X5_within x2 0 99 M).bind fun (v8 : Int32) =>
    if v8 = 0 then
      f_X5_name_j20  M
    else
      if (M 1 0) < 8 then
        (f_X0_hangUp 1 x1 x2 0 (-1) M).bind fun ((v12, M13) : Int32 × zM) =>
        some ((v12, M13))
      else
        (f_X5_finding 1 M).bind fun ((v15, M16) : Int32 × zM) =>
        some ((v15, M16))
theorem cd_X5_name : zCd yX5_name cX5_name 3 (some .int) 2 := ⟨w244, w64, ⟨by decide, by decide⟩, by decide +kernel⟩
set_option maxHeartbeats 4000000 in
set_option maxRecDepth 20000 in
theorem ok_X5_name {x1 : Int32} {x2 : Int32} {M : zM} {y : Int32 × zM}  (h : f_X5_name x1 x2 M = some y) : zRuns yX5_name cX5_name 3 (some .int) 1 24 [.ref 0, .int x1, .int x2] M (some (.int y.1)) y.2 := by
  refine zRuns_of (by decide +kernel) (Nat.le_of_ble_eq_true rfl) (fun E Z hE => ?_)
  have h := zB_top h
  change VV E 3 0 [(0, Value.ref 0), (1, Value.int x1), (2, Value.int x2)] [] M
  have J20 : ∀ (M : zM), (f_X5_name_j20  M).bind some = some y → VV E 3 20 [(0, Value.ref 0)] [] M := by
    intro  M h
    refine V_aload_n 0 Z rfl rfl (show decode cX5_name 20 = .ok (.aload_n 0, 1) by decide +kernel) ?_
    refine V_iconst 0 (by decide) Z (show decode cX5_name 21 = .ok (.iconst 0, 1) by decide +kernel) ?_
    obtain ⟨⟨v2, M3⟩, e1, h⟩ := zB_bind h
    refine V_callV (rest := []) 1 Z (ok_X5_finding  e1) cd_X5_finding zc4 (by decide) rfl w248 w250 w0 rfl (show decode cX5_name 22 = .ok (.invokevirtual 55, 3) by decide +kernel) rfl ?_
    exact V_iretM Z hE h (show decode cX5_name 25 = .ok (.ireturn, 1) by decide +kernel)
  refine V_iload_n 1 Z rfl rfl (show decode cX5_name 0 = .ok (.iload_n 1, 1) by decide +kernel) ?_
  refine V_iconst 0 (by decide) Z (show decode cX5_name 1 = .ok (.iconst 0, 1) by decide +kernel) ?_
  refine V_bipush 6 (by decide) Z (show decode cX5_name 2 = .ok (.bipush 6, 2) by decide +kernel) ?_
  obtain ⟨v5, e4, h⟩ := zB_bind h
  refine V_callS (rest := []) 3 Z (ok_X5_within  e4) cd_X5_within w245 w246 rfl (show decode cX5_name 4 = .ok (.invokestatic 51, 3) by decide +kernel) rfl ?_
  refine V_if_eq 20 Z (by decide) (show decode cX5_name 7 = .ok (.ifCond .eq 13, 3) by decide +kernel) (fun c6 => ?_) (fun c6 => ?_)
  · have h := zB_pos c6 h
    refine V_sub [0] rfl ?_
    exact J20 _ h
  · have h := zB_neg c6 h
    refine V_iload_n 2 Z rfl rfl (show decode cX5_name 10 = .ok (.iload_n 2, 1) by decide +kernel) ?_
    refine V_iconst 0 (by decide) Z (show decode cX5_name 11 = .ok (.iconst 0, 1) by decide +kernel) ?_
    refine V_bipush 99 (by decide) Z (show decode cX5_name 12 = .ok (.bipush 99, 2) by decide +kernel) ?_
    obtain ⟨v8, e7, h⟩ := zB_bind h
    refine V_callS (rest := []) 3 Z (ok_X5_within  e7) cd_X5_within w245 w246 rfl (show decode cX5_name 14 = .ok (.invokestatic 51, 3) by decide +kernel) rfl ?_
    refine V_if_ne 26 Z (by decide) (show decode cX5_name 17 = .ok (.ifCond .ne 9, 3) by decide +kernel) (fun c9 => ?_) (fun c9 => ?_)
    · have h := zB_neg c9 h
      refine V_aload_n 0 Z rfl rfl (show decode cX5_name 26 = .ok (.aload_n 0, 1) by decide +kernel) ?_
      refine V_getR 0 1 Z zc4 (by decide) rfl (by decide) rfl (by decide) ⟨rfl, rfl, rfl⟩ w216 (show decode cX5_name 27 = .ok (.getfield 10, 3) by decide +kernel) ?_
      refine V_getI 0 Z zc0 (isH_lt isH_1) (shH isH_1) (by decide) rfl ⟨rfl, rfl, rfl⟩ w93 (show decode cX5_name 30 = .ok (.getfield 59, 3) by decide +kernel) ?_
      refine V_bipush 8 (by decide) Z (show decode cX5_name 33 = .ok (.bipush 8, 2) by decide +kernel) ?_
      refine V_icmp_lt 44 Z (by decide) (show decode cX5_name 35 = .ok (.if_icmp .lt 9, 3) by decide +kernel) (fun c10 => ?_) (fun c10 => ?_)
      · have h := zB_pos c10 h
        refine V_aload_n 0 Z rfl rfl (show decode cX5_name 44 = .ok (.aload_n 0, 1) by decide +kernel) ?_
        refine V_getR 0 1 Z zc4 (by decide) rfl (by decide) rfl (by decide) ⟨rfl, rfl, rfl⟩ w216 (show decode cX5_name 45 = .ok (.getfield 10, 3) by decide +kernel) ?_
        refine V_iload_n 1 Z rfl rfl (show decode cX5_name 48 = .ok (.iload_n 1, 1) by decide +kernel) ?_
        refine V_iload_n 2 Z rfl rfl (show decode cX5_name 49 = .ok (.iload_n 2, 1) by decide +kernel) ?_
        refine V_iconst 0 (by decide) Z (show decode cX5_name 50 = .ok (.iconst 0, 1) by decide +kernel) ?_
        refine V_iconst (-1) (by decide) Z (show decode cX5_name 51 = .ok (.iconst (-1), 1) by decide +kernel) ?_
        obtain ⟨⟨v12, M13⟩, e11, h⟩ := zB_bind h
        refine V_callV (rest := []) 4 Z (ok_X0_hangUp isH_1 e11) cd_X0_hangUp zc0 (isH_lt isH_1) (shH isH_1) w253 w254 w255 rfl (show decode cX5_name 52 = .ok (.invokevirtual 63, 3) by decide +kernel) rfl ?_
        exact V_iretM Z hE h (show decode cX5_name 55 = .ok (.ireturn, 1) by decide +kernel)
      · have h := zB_neg c10 h
        refine V_aload_n 0 Z rfl rfl (show decode cX5_name 38 = .ok (.aload_n 0, 1) by decide +kernel) ?_
        refine V_iconst 1 (by decide) Z (show decode cX5_name 39 = .ok (.iconst 1, 1) by decide +kernel) ?_
        obtain ⟨⟨v15, M16⟩, e14, h⟩ := zB_bind h
        refine V_callV (rest := []) 1 Z (ok_X5_finding  e14) cd_X5_finding zc4 (by decide) rfl w248 w250 w0 rfl (show decode cX5_name 40 = .ok (.invokevirtual 55, 3) by decide +kernel) rfl ?_
        exact V_iretM Z hE h (show decode cX5_name 43 = .ok (.ireturn, 1) by decide +kernel)
    · have h := zB_pos c9 h
      refine V_sub [0] rfl ?_
      exact J20 _ h
def f_X5_isName (x1 : Int32) (M : zM) : Option (Int32) :=
  (f_X5_within x1 0 ((M 1 0) - 1) M).bind fun (v2 : Int32) =>
  (zbo v2).bind fun (b3 : Int32) =>
  some (b3)
theorem cd_X5_isName : zCd yX5_isName cX5_isName 2 (some .boolean) 1 := ⟨w264, w64, ⟨by decide, by decide⟩, by decide +kernel⟩
set_option maxHeartbeats 4000000 in
set_option maxRecDepth 20000 in
theorem ok_X5_isName {x1 : Int32} {M : zM} {y : Int32}  (h : f_X5_isName x1 M = some y) : zRuns yX5_isName cX5_isName 2 (some .boolean) 1 22 [.ref 0, .int x1] M (some (.int y)) M := by
  refine zRuns_of (by decide +kernel) (Nat.le_of_ble_eq_true rfl) (fun E Z hE => ?_)
  have h := zB_top h
  change VV E 2 0 [(0, Value.ref 0), (1, Value.int x1)] [] M
  refine V_iload_n 1 Z rfl rfl (show decode cX5_isName 0 = .ok (.iload_n 1, 1) by decide +kernel) ?_
  refine V_iconst 0 (by decide) Z (show decode cX5_isName 1 = .ok (.iconst 0, 1) by decide +kernel) ?_
  refine V_aload_n 0 Z rfl rfl (show decode cX5_isName 2 = .ok (.aload_n 0, 1) by decide +kernel) ?_
  refine V_getR 0 1 Z zc4 (by decide) rfl (by decide) rfl (by decide) ⟨rfl, rfl, rfl⟩ w216 (show decode cX5_isName 3 = .ok (.getfield 10, 3) by decide +kernel) ?_
  refine V_getI 0 Z zc0 (isH_lt isH_1) (shH isH_1) (by decide) rfl ⟨rfl, rfl, rfl⟩ w93 (show decode cX5_isName 6 = .ok (.getfield 59, 3) by decide +kernel) ?_
  refine V_iconst 1 (by decide) Z (show decode cX5_isName 9 = .ok (.iconst 1, 1) by decide +kernel) ?_
  refine V_isub Z (show decode cX5_isName 10 = .ok (.isub, 1) by decide +kernel) ?_
  obtain ⟨v2, e1, h⟩ := zB_bind h
  refine V_callS (rest := []) 3 Z (ok_X5_within  e1) cd_X5_within w245 w246 rfl (show decode cX5_isName 11 = .ok (.invokestatic 51, 3) by decide +kernel) rfl ?_
  obtain ⟨b3, e4, h⟩ := zB_bind h
  refine V_nm (zbo_v e4).1 ?_
  exact V_zretP Z hE h (zbo_v e4).2 (show decode cX5_isName 14 = .ok (.ireturn, 1) by decide +kernel)
def f_X5_of (x1 : Int32) (x2 : Int32) (M : zM) : Option (Int32 × zM) :=
  (f_X5_isName x1 M).bind fun (v2 : Int32) =>
  if v2 = 0 then
    (f_X5_finding 0 M).bind fun ((v38, M39) : Int32 × zM) =>
    some ((v38, M39))
  else
    if x2 = 0 then
      (zrd M 2 x1).bind fun (v5 : Int32) =>
      some ((v5, M))
    else
      if x2 = 1 then
        (zrd M 3 x1).bind fun (v8 : Int32) =>
        some ((v8, M))
      else
        if x2 = 2 then
          (zrd M 4 x1).bind fun (v11 : Int32) =>
          some ((v11, M))
        else
          if x2 = 3 then
            (zrd M 5 x1).bind fun (v14 : Int32) =>
            some ((v14, M))
          else
            if x2 = 4 then
              (zrd M 6 x1).bind fun (v17 : Int32) =>
              some ((v17, M))
            else
              if x2 = 5 then
                (f_X0_due 1 x1 M).bind fun (v21 : Int32) =>
                some ((v21, M))
              else
                if x2 = 6 then
                  (zrd M 2 x1).bind fun (v23 : Int32) =>
                  (f_X1_fades v23 M).bind fun (v26 : Int32) =>
                  some ((v26, M))
                else
                  if x2 = 7 then
                    (f_X0_hangs 1 x1 M).bind fun (v29 : Int32) =>
                    if v29 = 0 then
                      some ((0, M))
                    else
                      some ((1, M))
                  else
                    if x2 = 8 then
                      (f_X0_foesOf 1 x1 M).bind fun (v33 : Int32) =>
                      some ((v33, M))
                    else
                      (f_X5_finding 0 M).bind fun ((v35, M36) : Int32 × zM) =>
                      some ((v35, M36))
theorem cd_X5_of : zCd yX5_of cX5_of 3 (some .int) 2 := ⟨w260, w64, ⟨by decide, by decide⟩, by decide +kernel⟩
set_option maxHeartbeats 4000000 in
set_option maxRecDepth 20000 in
theorem ok_X5_of {x1 : Int32} {x2 : Int32} {M : zM} {y : Int32 × zM}  (h : f_X5_of x1 x2 M = some y) : zRuns yX5_of cX5_of 3 (some .int) 2 46 [.ref 0, .int x1, .int x2] M (some (.int y.1)) y.2 := by
  refine zRuns_of (by decide +kernel) (Nat.le_of_ble_eq_true rfl) (fun E Z hE => ?_)
  have h := zB_top h
  change VV E 3 0 [(0, Value.ref 0), (1, Value.int x1), (2, Value.int x2)] [] M
  refine V_aload_n 0 Z rfl rfl (show decode cX5_of 0 = .ok (.aload_n 0, 1) by decide +kernel) ?_
  refine V_iload_n 1 Z rfl rfl (show decode cX5_of 1 = .ok (.iload_n 1, 1) by decide +kernel) ?_
  obtain ⟨v2, e1, h⟩ := zB_bind h
  refine V_callV (rest := []) 1 Z (ok_X5_isName  e1) cd_X5_isName zc4 (by decide) rfl w261 w263 w1 rfl (show decode cX5_of 2 = .ok (.invokevirtual 67, 3) by decide +kernel) rfl ?_
  refine V_if_ne 14 Z (by decide) (show decode cX5_of 5 = .ok (.ifCond .ne 9, 3) by decide +kernel) (fun c3 => ?_) (fun c3 => ?_)
  · have h := zB_neg c3 h
    refine V_iload_n 2 Z rfl rfl (show decode cX5_of 14 = .ok (.iload_n 2, 1) by decide +kernel) ?_
    rcases zB_ite h with ⟨c4, h⟩ | ⟨c4, h⟩
    · refine V_tabE (off := 49) 0 64 Z c4 (show decode cX5_of 15 = .ok (.tableswitch 147 0 8 #[49, 59, 69, 79, 89, 99, 108, 121, 138], 49) by decide +kernel) (by decide) ?_
      refine V_aload_n 0 Z rfl rfl (show decode cX5_of 64 = .ok (.aload_n 0, 1) by decide +kernel) ?_
      refine V_getR 0 1 Z zc4 (by decide) rfl (by decide) rfl (by decide) ⟨rfl, rfl, rfl⟩ w216 (show decode cX5_of 65 = .ok (.getfield 10, 3) by decide +kernel) ?_
      refine V_getR 1 2 Z zc0 (isH_lt isH_1) (shH isH_1) (by decide) rfl (by decide) ⟨rfl, rfl, rfl⟩ w96 (show decode cX5_of 68 = .ok (.getfield 71, 3) by decide +kernel) ?_
      refine V_iload_n 1 Z rfl rfl (show decode cX5_of 71 = .ok (.iload_n 1, 1) by decide +kernel) ?_
      obtain ⟨v5, e6, h⟩ := zB_bind h
      refine V_iald Z e6 (show decode cX5_of 72 = .ok (.iaload, 1) by decide +kernel) ?_
      exact V_iretM Z hE h (show decode cX5_of 73 = .ok (.ireturn, 1) by decide +kernel)
    · skip
      rcases zB_ite h with ⟨c7, h⟩ | ⟨c7, h⟩
      · refine V_tabE (off := 59) 1 74 Z c7 (show decode cX5_of 15 = .ok (.tableswitch 147 0 8 #[49, 59, 69, 79, 89, 99, 108, 121, 138], 49) by decide +kernel) (by decide) ?_
        refine V_aload_n 0 Z rfl rfl (show decode cX5_of 74 = .ok (.aload_n 0, 1) by decide +kernel) ?_
        refine V_getR 0 1 Z zc4 (by decide) rfl (by decide) rfl (by decide) ⟨rfl, rfl, rfl⟩ w216 (show decode cX5_of 75 = .ok (.getfield 10, 3) by decide +kernel) ?_
        refine V_getR 2 3 Z zc0 (isH_lt isH_1) (shH isH_1) (by decide) rfl (by decide) ⟨rfl, rfl, rfl⟩ w98 (show decode cX5_of 78 = .ok (.getfield 74, 3) by decide +kernel) ?_
        refine V_iload_n 1 Z rfl rfl (show decode cX5_of 81 = .ok (.iload_n 1, 1) by decide +kernel) ?_
        obtain ⟨v8, e9, h⟩ := zB_bind h
        refine V_iald Z e9 (show decode cX5_of 82 = .ok (.iaload, 1) by decide +kernel) ?_
        exact V_iretM Z hE h (show decode cX5_of 83 = .ok (.ireturn, 1) by decide +kernel)
      · skip
        rcases zB_ite h with ⟨c10, h⟩ | ⟨c10, h⟩
        · refine V_tabE (off := 69) 2 84 Z c10 (show decode cX5_of 15 = .ok (.tableswitch 147 0 8 #[49, 59, 69, 79, 89, 99, 108, 121, 138], 49) by decide +kernel) (by decide) ?_
          refine V_aload_n 0 Z rfl rfl (show decode cX5_of 84 = .ok (.aload_n 0, 1) by decide +kernel) ?_
          refine V_getR 0 1 Z zc4 (by decide) rfl (by decide) rfl (by decide) ⟨rfl, rfl, rfl⟩ w216 (show decode cX5_of 85 = .ok (.getfield 10, 3) by decide +kernel) ?_
          refine V_getR 3 4 Z zc0 (isH_lt isH_1) (shH isH_1) (by decide) rfl (by decide) ⟨rfl, rfl, rfl⟩ w100 (show decode cX5_of 88 = .ok (.getfield 77, 3) by decide +kernel) ?_
          refine V_iload_n 1 Z rfl rfl (show decode cX5_of 91 = .ok (.iload_n 1, 1) by decide +kernel) ?_
          obtain ⟨v11, e12, h⟩ := zB_bind h
          refine V_iald Z e12 (show decode cX5_of 92 = .ok (.iaload, 1) by decide +kernel) ?_
          exact V_iretM Z hE h (show decode cX5_of 93 = .ok (.ireturn, 1) by decide +kernel)
        · skip
          rcases zB_ite h with ⟨c13, h⟩ | ⟨c13, h⟩
          · refine V_tabE (off := 79) 3 94 Z c13 (show decode cX5_of 15 = .ok (.tableswitch 147 0 8 #[49, 59, 69, 79, 89, 99, 108, 121, 138], 49) by decide +kernel) (by decide) ?_
            refine V_aload_n 0 Z rfl rfl (show decode cX5_of 94 = .ok (.aload_n 0, 1) by decide +kernel) ?_
            refine V_getR 0 1 Z zc4 (by decide) rfl (by decide) rfl (by decide) ⟨rfl, rfl, rfl⟩ w216 (show decode cX5_of 95 = .ok (.getfield 10, 3) by decide +kernel) ?_
            refine V_getR 4 5 Z zc0 (isH_lt isH_1) (shH isH_1) (by decide) rfl (by decide) ⟨rfl, rfl, rfl⟩ w102 (show decode cX5_of 98 = .ok (.getfield 80, 3) by decide +kernel) ?_
            refine V_iload_n 1 Z rfl rfl (show decode cX5_of 101 = .ok (.iload_n 1, 1) by decide +kernel) ?_
            obtain ⟨v14, e15, h⟩ := zB_bind h
            refine V_iald Z e15 (show decode cX5_of 102 = .ok (.iaload, 1) by decide +kernel) ?_
            exact V_iretM Z hE h (show decode cX5_of 103 = .ok (.ireturn, 1) by decide +kernel)
          · skip
            rcases zB_ite h with ⟨c16, h⟩ | ⟨c16, h⟩
            · refine V_tabE (off := 89) 4 104 Z c16 (show decode cX5_of 15 = .ok (.tableswitch 147 0 8 #[49, 59, 69, 79, 89, 99, 108, 121, 138], 49) by decide +kernel) (by decide) ?_
              refine V_aload_n 0 Z rfl rfl (show decode cX5_of 104 = .ok (.aload_n 0, 1) by decide +kernel) ?_
              refine V_getR 0 1 Z zc4 (by decide) rfl (by decide) rfl (by decide) ⟨rfl, rfl, rfl⟩ w216 (show decode cX5_of 105 = .ok (.getfield 10, 3) by decide +kernel) ?_
              refine V_getR 5 6 Z zc0 (isH_lt isH_1) (shH isH_1) (by decide) rfl (by decide) ⟨rfl, rfl, rfl⟩ w104 (show decode cX5_of 108 = .ok (.getfield 83, 3) by decide +kernel) ?_
              refine V_iload_n 1 Z rfl rfl (show decode cX5_of 111 = .ok (.iload_n 1, 1) by decide +kernel) ?_
              obtain ⟨v17, e18, h⟩ := zB_bind h
              refine V_iald Z e18 (show decode cX5_of 112 = .ok (.iaload, 1) by decide +kernel) ?_
              exact V_iretM Z hE h (show decode cX5_of 113 = .ok (.ireturn, 1) by decide +kernel)
            · skip
              rcases zB_ite h with ⟨c19, h⟩ | ⟨c19, h⟩
              · refine V_tabE (off := 99) 5 114 Z c19 (show decode cX5_of 15 = .ok (.tableswitch 147 0 8 #[49, 59, 69, 79, 89, 99, 108, 121, 138], 49) by decide +kernel) (by decide) ?_
                refine V_aload_n 0 Z rfl rfl (show decode cX5_of 114 = .ok (.aload_n 0, 1) by decide +kernel) ?_
                refine V_getR 0 1 Z zc4 (by decide) rfl (by decide) rfl (by decide) ⟨rfl, rfl, rfl⟩ w216 (show decode cX5_of 115 = .ok (.getfield 10, 3) by decide +kernel) ?_
                refine V_iload_n 1 Z rfl rfl (show decode cX5_of 118 = .ok (.iload_n 1, 1) by decide +kernel) ?_
                obtain ⟨v21, e20, h⟩ := zB_bind h
                refine V_callV (rest := []) 1 Z (ok_X0_due isH_1 e20) cd_X0_due zc0 (isH_lt isH_1) (shH isH_1) w265 w266 w267 rfl (show decode cX5_of 119 = .ok (.invokevirtual 86, 3) by decide +kernel) rfl ?_
                exact V_iretM Z hE h (show decode cX5_of 122 = .ok (.ireturn, 1) by decide +kernel)
              · skip
                rcases zB_ite h with ⟨c22, h⟩ | ⟨c22, h⟩
                · refine V_tabE (off := 108) 6 123 Z c22 (show decode cX5_of 15 = .ok (.tableswitch 147 0 8 #[49, 59, 69, 79, 89, 99, 108, 121, 138], 49) by decide +kernel) (by decide) ?_
                  refine V_aload_n 0 Z rfl rfl (show decode cX5_of 123 = .ok (.aload_n 0, 1) by decide +kernel) ?_
                  refine V_getR 0 1 Z zc4 (by decide) rfl (by decide) rfl (by decide) ⟨rfl, rfl, rfl⟩ w216 (show decode cX5_of 124 = .ok (.getfield 10, 3) by decide +kernel) ?_
                  refine V_getR 1 2 Z zc0 (isH_lt isH_1) (shH isH_1) (by decide) rfl (by decide) ⟨rfl, rfl, rfl⟩ w96 (show decode cX5_of 127 = .ok (.getfield 71, 3) by decide +kernel) ?_
                  refine V_iload_n 1 Z rfl rfl (show decode cX5_of 130 = .ok (.iload_n 1, 1) by decide +kernel) ?_
                  obtain ⟨v23, e24, h⟩ := zB_bind h
                  refine V_iald Z e24 (show decode cX5_of 131 = .ok (.iaload, 1) by decide +kernel) ?_
                  obtain ⟨v26, e25, h⟩ := zB_bind h
                  refine V_callS (rest := []) 1 Z (ok_X1_fades  e25) cd_X1_fades w272 w273 rfl (show decode cX5_of 132 = .ok (.invokestatic 89, 3) by decide +kernel) rfl ?_
                  exact V_iretM Z hE h (show decode cX5_of 135 = .ok (.ireturn, 1) by decide +kernel)
                · skip
                  rcases zB_ite h with ⟨c27, h⟩ | ⟨c27, h⟩
                  · refine V_tabE (off := 121) 7 136 Z c27 (show decode cX5_of 15 = .ok (.tableswitch 147 0 8 #[49, 59, 69, 79, 89, 99, 108, 121, 138], 49) by decide +kernel) (by decide) ?_
                    refine V_aload_n 0 Z rfl rfl (show decode cX5_of 136 = .ok (.aload_n 0, 1) by decide +kernel) ?_
                    refine V_getR 0 1 Z zc4 (by decide) rfl (by decide) rfl (by decide) ⟨rfl, rfl, rfl⟩ w216 (show decode cX5_of 137 = .ok (.getfield 10, 3) by decide +kernel) ?_
                    refine V_iload_n 1 Z rfl rfl (show decode cX5_of 140 = .ok (.iload_n 1, 1) by decide +kernel) ?_
                    obtain ⟨v29, e28, h⟩ := zB_bind h
                    refine V_callV (rest := []) 1 Z (ok_X0_hangs isH_1 e28) cd_X0_hangs zc0 (isH_lt isH_1) (shH isH_1) w275 w276 w277 rfl (show decode cX5_of 141 = .ok (.invokevirtual 94, 3) by decide +kernel) rfl ?_
                    refine V_if_eq 151 Z (by decide) (show decode cX5_of 144 = .ok (.ifCond .eq 7, 3) by decide +kernel) (fun c30 => ?_) (fun c30 => ?_)
                    · have h := zB_pos c30 h
                      refine V_iconst 0 (by decide) Z (show decode cX5_of 151 = .ok (.iconst 0, 1) by decide +kernel) ?_
                      exact V_iretM Z hE h (show decode cX5_of 152 = .ok (.ireturn, 1) by decide +kernel)
                    · have h := zB_neg c30 h
                      refine V_iconst 1 (by decide) Z (show decode cX5_of 147 = .ok (.iconst 1, 1) by decide +kernel) ?_
                      refine V_goto 152 Z (by decide) (show decode cX5_of 148 = .ok (.goto 4, 3) by decide +kernel) ?_
                      exact V_iretM Z hE h (show decode cX5_of 152 = .ok (.ireturn, 1) by decide +kernel)
                  · skip
                    rcases zB_ite h with ⟨c31, h⟩ | ⟨c31, h⟩
                    · refine V_tabE (off := 138) 8 153 Z c31 (show decode cX5_of 15 = .ok (.tableswitch 147 0 8 #[49, 59, 69, 79, 89, 99, 108, 121, 138], 49) by decide +kernel) (by decide) ?_
                      refine V_aload_n 0 Z rfl rfl (show decode cX5_of 153 = .ok (.aload_n 0, 1) by decide +kernel) ?_
                      refine V_getR 0 1 Z zc4 (by decide) rfl (by decide) rfl (by decide) ⟨rfl, rfl, rfl⟩ w216 (show decode cX5_of 154 = .ok (.getfield 10, 3) by decide +kernel) ?_
                      refine V_iload_n 1 Z rfl rfl (show decode cX5_of 157 = .ok (.iload_n 1, 1) by decide +kernel) ?_
                      obtain ⟨v33, e32, h⟩ := zB_bind h
                      refine V_callV (rest := []) 1 Z (ok_X0_foesOf isH_1 e32) cd_X0_foesOf zc0 (isH_lt isH_1) (shH isH_1) w279 w280 w281 rfl (show decode cX5_of 158 = .ok (.invokevirtual 97, 3) by decide +kernel) rfl ?_
                      exact V_iretM Z hE h (show decode cX5_of 161 = .ok (.ireturn, 1) by decide +kernel)
                    · skip
                      refine V_tabOut 162 Z (show decode cX5_of 15 = .ok (.tableswitch 147 0 8 #[49, 59, 69, 79, 89, 99, 108, 121, 138], 49) by decide +kernel) (z_out (fun i h1 h2 e => by
                          rcases (show i = 0 ∨ i = 1 ∨ i = 2 ∨ i = 3 ∨ i = 4 ∨ i = 5 ∨ i = 6 ∨ i = 7 ∨ i = 8 by omega) with rfl | rfl | rfl | rfl | rfl | rfl | rfl | rfl | rfl
                          · exact c4 e
                          · exact c7 e
                          · exact c10 e
                          · exact c13 e
                          · exact c16 e
                          · exact c19 e
                          · exact c22 e
                          · exact c27 e
                          · exact c31 e)) (by decide) ?_
                      refine V_aload_n 0 Z rfl rfl (show decode cX5_of 162 = .ok (.aload_n 0, 1) by decide +kernel) ?_
                      refine V_iconst 0 (by decide) Z (show decode cX5_of 163 = .ok (.iconst 0, 1) by decide +kernel) ?_
                      obtain ⟨⟨v35, M36⟩, e34, h⟩ := zB_bind h
                      refine V_callV (rest := []) 1 Z (ok_X5_finding  e34) cd_X5_finding zc4 (by decide) rfl w248 w250 w0 rfl (show decode cX5_of 164 = .ok (.invokevirtual 55, 3) by decide +kernel) rfl ?_
                      exact V_iretM Z hE h (show decode cX5_of 167 = .ok (.ireturn, 1) by decide +kernel)
  · have h := zB_pos c3 h
    refine V_aload_n 0 Z rfl rfl (show decode cX5_of 8 = .ok (.aload_n 0, 1) by decide +kernel) ?_
    refine V_iconst 0 (by decide) Z (show decode cX5_of 9 = .ok (.iconst 0, 1) by decide +kernel) ?_
    obtain ⟨⟨v38, M39⟩, e37, h⟩ := zB_bind h
    refine V_callV (rest := []) 1 Z (ok_X5_finding  e37) cd_X5_finding zc4 (by decide) rfl w248 w250 w0 rfl (show decode cX5_of 10 = .ok (.invokevirtual 55, 3) by decide +kernel) rfl ?_
    exact V_iretM Z hE h (show decode cX5_of 13 = .ok (.ireturn, 1) by decide +kernel)
def f_X5_changed (a : Nat) (x2 : Int32) (x3 : Int32) (x4 : Int32) (M : zM) : Option (Int32 × zM) :=
  if x4 = 0 then
    (f_X5_finding 0 M).bind fun ((v7, M8) : Int32 × zM) =>
    some ((v7, M8))
  else
    (zrd M a x2).bind fun (v2 : Int32) =>
    (zwr M a x2 x3).bind fun (M4 : zM) =>
    some ((v2, M4))
theorem cd_X5_changed : zCd yX5_changed cX5_changed 6 (some .int) 4 := ⟨w290, w64, ⟨by decide, by decide⟩, by decide +kernel⟩
set_option maxHeartbeats 4000000 in
set_option maxRecDepth 20000 in
theorem ok_X5_changed {a : Nat} {x2 : Int32} {x3 : Int32} {x4 : Int32} {M : zM} {y : Int32 × zM}  (h : f_X5_changed a x2 x3 x4 M = some y) : zRuns yX5_changed cX5_changed 6 (some .int) 1 21 [.ref 0, .ref a, .int x2, .int x3, .int x4] M (some (.int y.1)) y.2 := by
  refine zRuns_of (by decide +kernel) (Nat.le_of_ble_eq_true rfl) (fun E Z hE => ?_)
  have h := zB_top h
  change VV E 6 0 [(0, Value.ref 0), (1, Value.ref a), (2, Value.int x2), (3, Value.int x3), (4, Value.int x4)] [] M
  refine V_iload 4 Z rfl (show decode cX5_changed 0 = .ok (.iload 4, 2) by decide +kernel) ?_
  refine V_if_ne 11 Z (by decide) (show decode cX5_changed 2 = .ok (.ifCond .ne 9, 3) by decide +kernel) (fun c1 => ?_) (fun c1 => ?_)
  · have h := zB_neg c1 h
    refine V_aload_n 1 Z rfl rfl (show decode cX5_changed 11 = .ok (.aload_n 1, 1) by decide +kernel) ?_
    refine V_iload_n 2 Z rfl rfl (show decode cX5_changed 12 = .ok (.iload_n 2, 1) by decide +kernel) ?_
    obtain ⟨v2, e3, h⟩ := zB_bind h
    refine V_iald Z e3 (show decode cX5_changed 13 = .ok (.iaload, 1) by decide +kernel) ?_
    refine V_istore [(5, Value.int v2), (0, Value.ref 0), (1, Value.ref a), (2, Value.int x2), (3, Value.int x3), (4, Value.int x4)] Z (by decide) rfl (show decode cX5_changed 14 = .ok (.istore 5, 2) by decide +kernel) ?_
    refine V_aload_n 2 Z rfl rfl (show decode cX5_changed 16 = .ok (.aload_n 1, 1) by decide +kernel) ?_
    refine V_iload_n 3 Z rfl rfl (show decode cX5_changed 17 = .ok (.iload_n 2, 1) by decide +kernel) ?_
    refine V_iload_n 4 Z rfl rfl (show decode cX5_changed 18 = .ok (.iload_n 3, 1) by decide +kernel) ?_
    obtain ⟨M4, e5, h⟩ := zB_bind h
    refine V_iast Z e5 (show decode cX5_changed 19 = .ok (.iastore, 1) by decide +kernel) ?_
    refine V_iload 0 Z rfl (show decode cX5_changed 20 = .ok (.iload 5, 2) by decide +kernel) ?_
    exact V_iretM Z hE h (show decode cX5_changed 22 = .ok (.ireturn, 1) by decide +kernel)
  · have h := zB_pos c1 h
    refine V_aload_n 0 Z rfl rfl (show decode cX5_changed 5 = .ok (.aload_n 0, 1) by decide +kernel) ?_
    refine V_iconst 0 (by decide) Z (show decode cX5_changed 6 = .ok (.iconst 0, 1) by decide +kernel) ?_
    obtain ⟨⟨v7, M8⟩, e6, h⟩ := zB_bind h
    refine V_callV (rest := []) 1 Z (ok_X5_finding  e6) cd_X5_finding zc4 (by decide) rfl w248 w250 w0 rfl (show decode cX5_changed 7 = .ok (.invokevirtual 55, 3) by decide +kernel) rfl ?_
    exact V_iretM Z hE h (show decode cX5_changed 10 = .ok (.ireturn, 1) by decide +kernel)
