/-! Generated walks: X0_pays X0_moth X1_above X1_isUnder X4_byteAt X2_isLetter X2_stepWord X2_isDigit X2_stepNumber X2_step -/
def f_X0_pays_j18 (t : Nat) (q : Nat) (y2 : Int32) (y3 : Int32) (M : zM) : Option ((Int32 × zM) ⊕ (Int32 × zM)) :=
  (zrd M (q + 1) y3).bind fun (v1 : Int32) =>
  if v1 = (-1) then
    (some (y3 + 1)).bind fun (x4 : Int32) =>
    some (.inl ((x4, M)))
  else
    (zrd M (q + 1) y3).bind fun (v6 : Int32) =>
    (zrd M (t + 6) y2).bind fun (v8 : Int32) =>
    if v6 = v8 then
      (some (y3 + 1)).bind fun (x11 : Int32) =>
      some (.inl ((x11, M)))
    else
      some (.inr ((0, M)))
def f_X0_pays_l2 (t : Nat) (q : Nat) (y2 : Int32) : Int32 × zM → Option ((Int32 × zM) ⊕ (Int32 × zM))
  | (y3, M) =>
    if (M q 2) ≤ y3 then
      some (.inr ((1, M)))
    else
      if y3 ≤ 0 then
        f_X0_pays_j18 t q y2 y3 M
      else
        (f_X0_passDay t M).bind fun (M16 : zM) =>
        f_X0_pays_j18 t q y2 y3 M16
def f_X0_pays (t : Nat) (q : Nat) (x2 : Int32) (M : zM) : Option (Int32 × zM) :=
  zIter (f_X0_pays_l2 t q x2) 1000 (0, M)
theorem cd_X0_pays : zCd yX0_pays cX0_pays 4 (some .boolean) 2 := ⟨w523, w65, ⟨by decide, by decide⟩, by decide +kernel⟩
set_option maxHeartbeats 4000000 in
set_option maxRecDepth 20000 in
theorem ok_X0_pays {t : Nat} {q : Nat} {x2 : Int32} {M : zM} {y : Int32 × zM} (ht : isH t) (hq : isS q) (h : f_X0_pays t q x2 M = some y) : zRuns yX0_pays cX0_pays 4 (some .boolean) 4 91 [.ref t, .ref q, .int x2] M (some (.int y.1)) y.2 := by
  refine zRuns_of (by decide +kernel) (Nat.le_of_ble_eq_true rfl) (fun E Z hE => ?_)
  have h := zB_top h
  change VV E 4 0 [(0, Value.ref t), (1, Value.ref q), (2, Value.int x2)] [] M
  refine V_iconst 0 (by decide) Z (show decode cX0_pays 0 = .ok (.iconst 0, 1) by decide +kernel) ?_
  refine V_istore_n [(3, Value.int 0), (0, Value.ref t), (1, Value.ref q), (2, Value.int x2)] Z (by decide) rfl rfl (show decode cX0_pays 1 = .ok (.istore_n 3, 1) by decide +kernel) ?_
  refine V_sub [1, 2, 3, 0] rfl ?_
  refine zIter_loop' (K := some) (fun s : Int32 × zM => VV E 4 2 [(0, Value.ref t), (1, Value.ref q), (2, Value.int x2), (3, Value.int s.1)] [] s.2) (fun K1 s c1_i c1_r h => ?_) _ _ h
  obtain ⟨y3, M⟩ := s
  change VV E 4 2 [(0, Value.ref t), (1, Value.ref q), (2, Value.int x2), (3, Value.int y3)] [] M
  have J18 : ∀ (y2 : Int32) (y3 : Int32) (M : zM), (f_X0_pays_j18 t q y2 y3 M).bind K1 = some y → VV E 4 18 [(0, Value.ref t), (1, Value.ref q), (2, Value.int y2), (3, Value.int y3)] [] M := by
    intro y2 y3 M h
    refine V_aload_n 1 Z rfl rfl (show decode cX0_pays 18 = .ok (.aload_n 1, 1) by decide +kernel) ?_
    refine V_getR 0 (q + 1) Z zc2 (isS_lt hq) (shS hq) (by decide) rfl (isS_ne hq 1) ⟨rfl, rfl, rfl⟩ w202 (show decode cX0_pays 19 = .ok (.getfield 125, 3) by decide +kernel) ?_
    refine V_iload_n 3 Z rfl rfl (show decode cX0_pays 22 = .ok (.iload_n 3, 1) by decide +kernel) ?_
    obtain ⟨v1, e2, h⟩ := zB_bind h
    refine V_iald Z e2 (show decode cX0_pays 23 = .ok (.iaload, 1) by decide +kernel) ?_
    refine V_iconst (-1) (by decide) Z (show decode cX0_pays 24 = .ok (.iconst (-1), 1) by decide +kernel) ?_
    refine V_icmp_eq 45 Z (by decide) (show decode cX0_pays 25 = .ok (.if_icmp .eq 20, 3) by decide +kernel) (fun c3 => ?_) (fun c3 => ?_)
    · have h := zB_pos c3 h
      obtain ⟨x4, e5, h⟩ := zB_let h
      refine V_iinc (n := 1) 3 x4 [(3, Value.int x4), (0, Value.ref t), (1, Value.ref q), (2, Value.int y2)] Z (by decide) rfl e5 rfl (show decode cX0_pays 45 = .ok (.iinc 3 1, 3) by decide +kernel) ?_
      refine V_goto 2 Z (by decide) (show decode cX0_pays 48 = .ok (.goto (-46), 3) by decide +kernel) ?_
      refine V_sub [1, 2, 3, 0] rfl ?_
      exact c1_i _ h
    · have h := zB_neg c3 h
      refine V_aload_n 1 Z rfl rfl (show decode cX0_pays 28 = .ok (.aload_n 1, 1) by decide +kernel) ?_
      refine V_getR 0 (q + 1) Z zc2 (isS_lt hq) (shS hq) (by decide) rfl (isS_ne hq 1) ⟨rfl, rfl, rfl⟩ w202 (show decode cX0_pays 29 = .ok (.getfield 125, 3) by decide +kernel) ?_
      refine V_iload_n 3 Z rfl rfl (show decode cX0_pays 32 = .ok (.iload_n 3, 1) by decide +kernel) ?_
      obtain ⟨v6, e7, h⟩ := zB_bind h
      refine V_iald Z e7 (show decode cX0_pays 33 = .ok (.iaload, 1) by decide +kernel) ?_
      refine V_aload_n 0 Z rfl rfl (show decode cX0_pays 34 = .ok (.aload_n 0, 1) by decide +kernel) ?_
      refine V_getR 6 (t + 6) Z zc0 (isH_lt ht) (shH ht) (by decide) rfl (isH_ne ht 6) ⟨rfl, rfl, rfl⟩ w105 (show decode cX0_pays 35 = .ok (.getfield 31, 3) by decide +kernel) ?_
      refine V_iload_n 2 Z rfl rfl (show decode cX0_pays 38 = .ok (.iload_n 2, 1) by decide +kernel) ?_
      obtain ⟨v8, e9, h⟩ := zB_bind h
      refine V_iald Z e9 (show decode cX0_pays 39 = .ok (.iaload, 1) by decide +kernel) ?_
      refine V_icmp_eq 45 Z (by decide) (show decode cX0_pays 40 = .ok (.if_icmp .eq 5, 3) by decide +kernel) (fun c10 => ?_) (fun c10 => ?_)
      · have h := zB_pos c10 h
        obtain ⟨x11, e12, h⟩ := zB_let h
        refine V_iinc (n := 1) 3 x11 [(3, Value.int x11), (0, Value.ref t), (1, Value.ref q), (2, Value.int y2)] Z (by decide) rfl e12 rfl (show decode cX0_pays 45 = .ok (.iinc 3 1, 3) by decide +kernel) ?_
        refine V_goto 2 Z (by decide) (show decode cX0_pays 48 = .ok (.goto (-46), 3) by decide +kernel) ?_
        refine V_sub [1, 2, 3, 0] rfl ?_
        exact c1_i _ h
      · have h := zB_neg c10 h
        refine V_iconst 0 (by decide) Z (show decode cX0_pays 43 = .ok (.iconst 0, 1) by decide +kernel) ?_
        have h := c1_r _ h
        exact V_zretM Z hE h rfl (show decode cX0_pays 44 = .ok (.ireturn, 1) by decide +kernel)
  refine V_iload_n 3 Z rfl rfl (show decode cX0_pays 2 = .ok (.iload_n 3, 1) by decide +kernel) ?_
  refine V_aload_n 1 Z rfl rfl (show decode cX0_pays 3 = .ok (.aload_n 1, 1) by decide +kernel) ?_
  refine V_getI 2 Z zc2 (isS_lt hq) (shS hq) (by decide) rfl ⟨rfl, rfl, rfl⟩ w207 (show decode cX0_pays 4 = .ok (.getfield 120, 3) by decide +kernel) ?_
  refine V_icmp_ge 51 Z (by decide) (show decode cX0_pays 7 = .ok (.if_icmp .ge 44, 3) by decide +kernel) (fun c13 => ?_) (fun c13 => ?_)
  · have h := zB_pos c13 h
    refine V_iconst 1 (by decide) Z (show decode cX0_pays 51 = .ok (.iconst 1, 1) by decide +kernel) ?_
    have h := c1_r _ h
    exact V_zretM Z hE h rfl (show decode cX0_pays 52 = .ok (.ireturn, 1) by decide +kernel)
  · have h := zB_neg c13 h
    refine V_iload_n 3 Z rfl rfl (show decode cX0_pays 10 = .ok (.iload_n 3, 1) by decide +kernel) ?_
    refine V_if_le 18 Z (by decide) (show decode cX0_pays 11 = .ok (.ifCond .le 7, 3) by decide +kernel) (fun c14 => ?_) (fun c14 => ?_)
    · have h := zB_pos c14 h
      exact J18 _ _ _ h
    · have h := zB_neg c14 h
      refine V_aload_n 0 Z rfl rfl (show decode cX0_pays 14 = .ok (.aload_n 0, 1) by decide +kernel) ?_
      obtain ⟨M16, e15, h⟩ := zB_bind h
      refine V_callV (rest := []) 0 Z (ok_X0_passDay ht e15) cd_X0_passDay zc0 (isH_lt ht) (shH ht) w335 w336 w337 rfl (show decode cX0_pays 15 = .ok (.invokevirtual 117, 3) by decide +kernel) rfl ?_
      exact J18 _ _ _ h
def f_X0_moth (t : Nat) (M : zM) : Option (zM) :=
  (some (zU M t 12 ((((M t 12) * 1103515245) + 12345)))).bind fun (M1 : zM) =>
  (some ((((((M1 t 12) : Int32).toUInt32 >>> ((8 : Int32).toUInt32 &&& Int32.toUInt32 31)).toInt32) - ((((M1 t 12) : Int32).toUInt32 >>> ((8 : Int32).toUInt32 &&& Int32.toUInt32 31)).toInt32) / 16 * 16))).bind fun (x3 : Int32) =>
  if (M1 t 0) ≤ x3 then
    some (M1)
  else
    (zrd M1 (t + 3) x3).bind fun (v6 : Int32) =>
    (zwr M1 (t + 3) x3 (if (v6 + 10) < 99 then (v6 + 10) else 99)).bind fun (M8 : zM) =>
    some (M8)
theorem cd_X0_moth : zCd yX0_moth cX0_moth 2 none 0 := ⟨w536, w65, ⟨by decide, by decide⟩, by decide +kernel⟩
set_option maxHeartbeats 4000000 in
set_option maxRecDepth 20000 in
theorem ok_X0_moth {t : Nat} {M : zM} {y : zM} (ht : isH t) (h : f_X0_moth t M = some y) : zRuns yX0_moth cX0_moth 2 none 1 15 [.ref t] M none y := by
  refine zRuns_of (by decide +kernel) (Nat.le_of_ble_eq_true rfl) (fun E Z hE => ?_)
  have h := zB_top h
  change VV E 2 0 [(0, Value.ref t)] [] M
  refine V_aload_n 0 Z rfl rfl (show decode cX0_moth 0 = .ok (.aload_n 0, 1) by decide +kernel) ?_
  refine V_aload_n 0 Z rfl rfl (show decode cX0_moth 1 = .ok (.aload_n 0, 1) by decide +kernel) ?_
  refine V_getI 12 Z zc0 (isH_lt ht) (shH ht) (by decide) rfl ⟨rfl, rfl, rfl⟩ w120 (show decode cX0_moth 2 = .ok (.getfield 49, 3) by decide +kernel) ?_
  refine V_ldc 1103515245 Z w537 (show decode cX0_moth 5 = .ok (.ldc 128, 2) by decide +kernel) ?_
  refine V_imul Z (show decode cX0_moth 7 = .ok (.imul, 1) by decide +kernel) ?_
  refine V_sipush 12345 (by decide) Z (show decode cX0_moth 8 = .ok (.sipush 12345, 3) by decide +kernel) ?_
  refine V_iadd Z (show decode cX0_moth 11 = .ok (.iadd, 1) by decide +kernel) ?_
  obtain ⟨M1, e2, h⟩ := zB_let h
  refine V_putI 12 Z zc0 (isH_lt ht) (shH ht) (by decide) rfl ⟨rfl, rfl, rfl⟩ rfl rfl w120 (show decode cX0_moth 12 = .ok (.putfield 49, 3) by decide +kernel) ?_
  refine V_nmM e2 ?_
  refine V_aload_n 0 Z rfl rfl (show decode cX0_moth 15 = .ok (.aload_n 0, 1) by decide +kernel) ?_
  refine V_getI 12 Z zc0 (isH_lt ht) (shH ht) (by decide) rfl ⟨rfl, rfl, rfl⟩ w120 (show decode cX0_moth 16 = .ok (.getfield 49, 3) by decide +kernel) ?_
  refine V_bipush 8 (by decide) Z (show decode cX0_moth 19 = .ok (.bipush 8, 2) by decide +kernel) ?_
  refine V_iushr Z (show decode cX0_moth 21 = .ok (.iushr, 1) by decide +kernel) ?_
  refine V_bipush 16 (by decide) Z (show decode cX0_moth 22 = .ok (.bipush 16, 2) by decide +kernel) ?_
  refine V_iremc (by decide) Z (show decode cX0_moth 24 = .ok (.irem, 1) by decide +kernel) ?_
  obtain ⟨x3, e4, h⟩ := zB_let h
  refine V_nm e4 ?_
  refine V_istore_n [(1, Value.int x3), (0, Value.ref t)] Z (by decide) rfl rfl (show decode cX0_moth 25 = .ok (.istore_n 1, 1) by decide +kernel) ?_
  refine V_iload_n 0 Z rfl rfl (show decode cX0_moth 26 = .ok (.iload_n 1, 1) by decide +kernel) ?_
  refine V_aload_n 1 Z rfl rfl (show decode cX0_moth 27 = .ok (.aload_n 0, 1) by decide +kernel) ?_
  refine V_getI 0 Z zc0 (isH_lt ht) (shH ht) (by decide) rfl ⟨rfl, rfl, rfl⟩ w92 (show decode cX0_moth 28 = .ok (.getfield 9, 3) by decide +kernel) ?_
  refine V_icmp_ge 54 Z (by decide) (show decode cX0_moth 31 = .ok (.if_icmp .ge 23, 3) by decide +kernel) (fun c5 => ?_) (fun c5 => ?_)
  · have h := zB_pos c5 h
    exact V_vretM Z hE h (show decode cX0_moth 54 = .ok (.return_, 1) by decide +kernel)
  · have h := zB_neg c5 h
    refine V_aload_n 1 Z rfl rfl (show decode cX0_moth 34 = .ok (.aload_n 0, 1) by decide +kernel) ?_
    refine V_getR 3 (t + 3) Z zc0 (isH_lt ht) (shH ht) (by decide) rfl (isH_ne ht 3) ⟨rfl, rfl, rfl⟩ w99 (show decode cX0_moth 35 = .ok (.getfield 22, 3) by decide +kernel) ?_
    refine V_iload_n 0 Z rfl rfl (show decode cX0_moth 38 = .ok (.iload_n 1, 1) by decide +kernel) ?_
    refine V_bipush 99 (by decide) Z (show decode cX0_moth 39 = .ok (.bipush 99, 2) by decide +kernel) ?_
    refine V_aload_n 1 Z rfl rfl (show decode cX0_moth 41 = .ok (.aload_n 0, 1) by decide +kernel) ?_
    refine V_getR 3 (t + 3) Z zc0 (isH_lt ht) (shH ht) (by decide) rfl (isH_ne ht 3) ⟨rfl, rfl, rfl⟩ w99 (show decode cX0_moth 42 = .ok (.getfield 22, 3) by decide +kernel) ?_
    refine V_iload_n 0 Z rfl rfl (show decode cX0_moth 45 = .ok (.iload_n 1, 1) by decide +kernel) ?_
    obtain ⟨v6, e7, h⟩ := zB_bind h
    refine V_iald Z e7 (show decode cX0_moth 46 = .ok (.iaload, 1) by decide +kernel) ?_
    refine V_bipush 10 (by decide) Z (show decode cX0_moth 47 = .ok (.bipush 10, 2) by decide +kernel) ?_
    refine V_iadd Z (show decode cX0_moth 49 = .ok (.iadd, 1) by decide +kernel) ?_
    refine V_min Z w366 w367 w71 w368 (show decode cX0_moth 50 = .ok (.invokestatic 108, 3) by decide +kernel) rfl ?_
    obtain ⟨M8, e9, h⟩ := zB_bind h
    refine V_iast Z e9 (show decode cX0_moth 53 = .ok (.iastore, 1) by decide +kernel) ?_
    exact V_vretM Z hE h (show decode cX0_moth 54 = .ok (.return_, 1) by decide +kernel)
def f_X1_above (x0 : Int32) (M : zM) : Option (Int32) :=
  if x0 = 1 then
    some ((0 : Int32))
  else
    if x0 = 2 then
      some ((0 : Int32))
    else
      if x0 = 3 then
        some ((2 : Int32))
      else
        if x0 = 4 then
          some ((3 : Int32))
        else
          if x0 = 5 then
            some ((0 : Int32))
          else
            if x0 = 6 then
              some ((1 : Int32))
            else
              some (((-1) : Int32))
theorem cd_X1_above : zCd yX1_above cX1_above 1 (some .int) 1 := ⟨w693, w70, ⟨by decide, by decide⟩, by decide +kernel⟩
set_option maxHeartbeats 4000000 in
set_option maxRecDepth 20000 in
theorem ok_X1_above {x0 : Int32} {M : zM} {y : Int32}  (h : f_X1_above x0 M = some y) : zRuns yX1_above cX1_above 1 (some .int) 0 0 [.int x0] M (some (.int y)) M := by
  refine zRuns_of (by decide +kernel) (Nat.le_of_ble_eq_true rfl) (fun E Z hE => ?_)
  have h := zB_top h
  change VV E 1 0 [(0, Value.int x0)] [] M
  refine V_iload_n 0 Z rfl rfl (show decode cX1_above 0 = .ok (.iload_n 0, 1) by decide +kernel) ?_
  rcases zB_ite h with ⟨c1, h⟩ | ⟨c1, h⟩
  · refine V_tabE (off := 39) 1 40 Z c1 (show decode cX1_above 1 = .ok (.tableswitch 51 1 6 #[39, 41, 43, 45, 47, 49], 39) by decide +kernel) (by decide) ?_
    refine V_iconst 0 (by decide) Z (show decode cX1_above 40 = .ok (.iconst 0, 1) by decide +kernel) ?_
    exact V_iretP Z hE h (show decode cX1_above 41 = .ok (.ireturn, 1) by decide +kernel)
  · skip
    rcases zB_ite h with ⟨c2, h⟩ | ⟨c2, h⟩
    · refine V_tabE (off := 41) 2 42 Z c2 (show decode cX1_above 1 = .ok (.tableswitch 51 1 6 #[39, 41, 43, 45, 47, 49], 39) by decide +kernel) (by decide) ?_
      refine V_iconst 0 (by decide) Z (show decode cX1_above 42 = .ok (.iconst 0, 1) by decide +kernel) ?_
      exact V_iretP Z hE h (show decode cX1_above 43 = .ok (.ireturn, 1) by decide +kernel)
    · skip
      rcases zB_ite h with ⟨c3, h⟩ | ⟨c3, h⟩
      · refine V_tabE (off := 43) 3 44 Z c3 (show decode cX1_above 1 = .ok (.tableswitch 51 1 6 #[39, 41, 43, 45, 47, 49], 39) by decide +kernel) (by decide) ?_
        refine V_iconst 2 (by decide) Z (show decode cX1_above 44 = .ok (.iconst 2, 1) by decide +kernel) ?_
        exact V_iretP Z hE h (show decode cX1_above 45 = .ok (.ireturn, 1) by decide +kernel)
      · skip
        rcases zB_ite h with ⟨c4, h⟩ | ⟨c4, h⟩
        · refine V_tabE (off := 45) 4 46 Z c4 (show decode cX1_above 1 = .ok (.tableswitch 51 1 6 #[39, 41, 43, 45, 47, 49], 39) by decide +kernel) (by decide) ?_
          refine V_iconst 3 (by decide) Z (show decode cX1_above 46 = .ok (.iconst 3, 1) by decide +kernel) ?_
          exact V_iretP Z hE h (show decode cX1_above 47 = .ok (.ireturn, 1) by decide +kernel)
        · skip
          rcases zB_ite h with ⟨c5, h⟩ | ⟨c5, h⟩
          · refine V_tabE (off := 47) 5 48 Z c5 (show decode cX1_above 1 = .ok (.tableswitch 51 1 6 #[39, 41, 43, 45, 47, 49], 39) by decide +kernel) (by decide) ?_
            refine V_iconst 0 (by decide) Z (show decode cX1_above 48 = .ok (.iconst 0, 1) by decide +kernel) ?_
            exact V_iretP Z hE h (show decode cX1_above 49 = .ok (.ireturn, 1) by decide +kernel)
          · skip
            rcases zB_ite h with ⟨c6, h⟩ | ⟨c6, h⟩
            · refine V_tabE (off := 49) 6 50 Z c6 (show decode cX1_above 1 = .ok (.tableswitch 51 1 6 #[39, 41, 43, 45, 47, 49], 39) by decide +kernel) (by decide) ?_
              refine V_iconst 1 (by decide) Z (show decode cX1_above 50 = .ok (.iconst 1, 1) by decide +kernel) ?_
              exact V_iretP Z hE h (show decode cX1_above 51 = .ok (.ireturn, 1) by decide +kernel)
            · skip
              refine V_tabOut 52 Z (show decode cX1_above 1 = .ok (.tableswitch 51 1 6 #[39, 41, 43, 45, 47, 49], 39) by decide +kernel) (z_out (fun i h1 h2 e => by
                  rcases (show i = 1 ∨ i = 2 ∨ i = 3 ∨ i = 4 ∨ i = 5 ∨ i = 6 by omega) with rfl | rfl | rfl | rfl | rfl | rfl
                  · exact c1 e
                  · exact c2 e
                  · exact c3 e
                  · exact c4 e
                  · exact c5 e
                  · exact c6 e)) (by decide) ?_
              refine V_iconst (-1) (by decide) Z (show decode cX1_above 52 = .ok (.iconst (-1), 1) by decide +kernel) ?_
              exact V_iretP Z hE h (show decode cX1_above 53 = .ok (.ireturn, 1) by decide +kernel)
def f_X1_isUnder_j26 (y1 : Int32) (y2 : Int32) (M : zM) : Option (Int32) :=
  if y2 = y1 then
    some ((1 : Int32))
  else
    some ((0 : Int32))
def f_X1_isUnder_l4 (y1 : Int32) (M : zM) : Int32 × Int32 → Option ((Int32 × Int32) ⊕ (Int32))
  | (y2, y3) =>
    if 7 ≤ y3 then
      (f_X1_isUnder_j26 y1 y2 M).bind fun z => some (Sum.inr z)
    else
      if y2 = y1 then
        (f_X1_isUnder_j26 y1 y2 M).bind fun z => some (Sum.inr z)
      else
        (f_X1_above y2 M).bind fun (v5 : Int32) =>
        (some (y3 + 1)).bind fun (x6 : Int32) =>
        some (.inl ((v5, x6)))
def f_X1_isUnder (x0 : Int32) (x1 : Int32) (M : zM) : Option (Int32) :=
  zIter (f_X1_isUnder_l4 x1 M) 1000 (x0, 0)
theorem cd_X1_isUnder : zCd yX1_isUnder cX1_isUnder 4 (some .boolean) 2 := ⟨w690, w70, ⟨by decide, by decide⟩, by decide +kernel⟩
set_option maxHeartbeats 4000000 in
set_option maxRecDepth 20000 in
theorem ok_X1_isUnder {x0 : Int32} {x1 : Int32} {M : zM} {y : Int32}  (h : f_X1_isUnder x0 x1 M = some y) : zRuns yX1_isUnder cX1_isUnder 4 (some .boolean) 1 20 [.int x0, .int x1] M (some (.int y)) M := by
  refine zRuns_of (by decide +kernel) (Nat.le_of_ble_eq_true rfl) (fun E Z hE => ?_)
  have h := zB_top h
  change VV E 4 0 [(0, Value.int x0), (1, Value.int x1)] [] M
  have J26 : ∀ (y1 : Int32) (y2 : Int32), (f_X1_isUnder_j26 y1 y2 M).bind some = some y → VV E 4 26 [(1, Value.int y1), (2, Value.int y2)] [] M := by
    intro y1 y2 h
    refine V_iload_n 1 Z rfl rfl (show decode cX1_isUnder 26 = .ok (.iload_n 2, 1) by decide +kernel) ?_
    refine V_iload_n 0 Z rfl rfl (show decode cX1_isUnder 27 = .ok (.iload_n 1, 1) by decide +kernel) ?_
    refine V_icmp_ne 35 Z (by decide) (show decode cX1_isUnder 28 = .ok (.if_icmp .ne 7, 3) by decide +kernel) (fun c1 => ?_) (fun c1 => ?_)
    · have h := zB_neg c1 h
      refine V_iconst 0 (by decide) Z (show decode cX1_isUnder 35 = .ok (.iconst 0, 1) by decide +kernel) ?_
      exact V_zretP Z hE h rfl (show decode cX1_isUnder 36 = .ok (.ireturn, 1) by decide +kernel)
    · have h := zB_pos c1 h
      refine V_iconst 1 (by decide) Z (show decode cX1_isUnder 31 = .ok (.iconst 1, 1) by decide +kernel) ?_
      refine V_goto 36 Z (by decide) (show decode cX1_isUnder 32 = .ok (.goto 4, 3) by decide +kernel) ?_
      exact V_zretP Z hE h rfl (show decode cX1_isUnder 36 = .ok (.ireturn, 1) by decide +kernel)
  refine V_iload_n 0 Z rfl rfl (show decode cX1_isUnder 0 = .ok (.iload_n 0, 1) by decide +kernel) ?_
  refine V_istore_n [(2, Value.int x0), (0, Value.int x0), (1, Value.int x1)] Z (by decide) rfl rfl (show decode cX1_isUnder 1 = .ok (.istore_n 2, 1) by decide +kernel) ?_
  refine V_iconst 0 (by decide) Z (show decode cX1_isUnder 2 = .ok (.iconst 0, 1) by decide +kernel) ?_
  refine V_istore_n [(3, Value.int 0), (2, Value.int x0), (0, Value.int x0), (1, Value.int x1)] Z (by decide) rfl rfl (show decode cX1_isUnder 3 = .ok (.istore_n 3, 1) by decide +kernel) ?_
  refine V_sub [3, 1, 0] rfl ?_
  refine zIter_loop' (K := some) (fun s : Int32 × Int32 => VV E 4 4 [(1, Value.int x1), (2, Value.int s.1), (3, Value.int s.2)] [] M) (fun K1 s c1_i c1_r h => ?_) _ _ h
  obtain ⟨y2, y3⟩ := s
  change VV E 4 4 [(1, Value.int x1), (2, Value.int y2), (3, Value.int y3)] [] M
  refine V_iload_n 2 Z rfl rfl (show decode cX1_isUnder 4 = .ok (.iload_n 3, 1) by decide +kernel) ?_
  refine V_bipush 7 (by decide) Z (show decode cX1_isUnder 5 = .ok (.bipush 7, 2) by decide +kernel) ?_
  refine V_icmp_ge 26 Z (by decide) (show decode cX1_isUnder 7 = .ok (.if_icmp .ge 19, 3) by decide +kernel) (fun c2 => ?_) (fun c2 => ?_)
  · have h := zB_pos c2 h
    refine V_sub [0, 1] rfl ?_
    have h := zB_lift c1_r h
    exact J26 _ _ h
  · have h := zB_neg c2 h
    refine V_iload_n 1 Z rfl rfl (show decode cX1_isUnder 10 = .ok (.iload_n 2, 1) by decide +kernel) ?_
    refine V_iload_n 0 Z rfl rfl (show decode cX1_isUnder 11 = .ok (.iload_n 1, 1) by decide +kernel) ?_
    refine V_icmp_eq 26 Z (by decide) (show decode cX1_isUnder 12 = .ok (.if_icmp .eq 14, 3) by decide +kernel) (fun c3 => ?_) (fun c3 => ?_)
    · have h := zB_pos c3 h
      refine V_sub [0, 1] rfl ?_
      have h := zB_lift c1_r h
      exact J26 _ _ h
    · have h := zB_neg c3 h
      refine V_iload_n 1 Z rfl rfl (show decode cX1_isUnder 15 = .ok (.iload_n 2, 1) by decide +kernel) ?_
      obtain ⟨v5, e4, h⟩ := zB_bind h
      refine V_callS (rest := []) 1 Z (ok_X1_above  e4) cd_X1_above w691 w692 rfl (show decode cX1_isUnder 16 = .ok (.invokestatic 11, 3) by decide +kernel) rfl ?_
      refine V_istore_n [(2, Value.int v5), (1, Value.int x1), (3, Value.int y3)] Z (by decide) rfl rfl (show decode cX1_isUnder 19 = .ok (.istore_n 2, 1) by decide +kernel) ?_
      obtain ⟨x6, e7, h⟩ := zB_let h
      refine V_iinc (n := 1) 2 x6 [(3, Value.int x6), (2, Value.int v5), (1, Value.int x1)] Z (by decide) rfl e7 rfl (show decode cX1_isUnder 20 = .ok (.iinc 3 1, 3) by decide +kernel) ?_
      refine V_goto 4 Z (by decide) (show decode cX1_isUnder 23 = .ok (.goto (-19), 3) by decide +kernel) ?_
      refine V_sub [2, 1, 0] rfl ?_
      exact c1_i _ h
def f_X4_byteAt (x1 : Int32) (M : zM) : Option (Int32) :=
  if x1 < 0 then
    some (((-1) : Int32))
  else
    if (M 34 1) ≤ x1 then
      some (((-1) : Int32))
    else
      (zrd M 35 x1).bind fun (v3 : Int32) =>
      some (v3)
theorem cd_X4_byteAt : zCd yX4_byteAt cX4_byteAt 2 (some .int) 1 := ⟨w573, w66, ⟨by decide, by decide⟩, by decide +kernel⟩
set_option maxHeartbeats 4000000 in
set_option maxRecDepth 20000 in
theorem ok_X4_byteAt {x1 : Int32} {M : zM} {y : Int32}  (h : f_X4_byteAt x1 M = some y) : zRuns yX4_byteAt cX4_byteAt 2 (some .int) 0 0 [.ref 34, .int x1] M (some (.int y)) M := by
  refine zRuns_of (by decide +kernel) (Nat.le_of_ble_eq_true rfl) (fun E Z hE => ?_)
  have h := zB_top h
  change VV E 2 0 [(0, Value.ref 34), (1, Value.int x1)] [] M
  refine V_iload_n 1 Z rfl rfl (show decode cX4_byteAt 0 = .ok (.iload_n 1, 1) by decide +kernel) ?_
  refine V_if_lt 21 Z (by decide) (show decode cX4_byteAt 1 = .ok (.ifCond .lt 20, 3) by decide +kernel) (fun c1 => ?_) (fun c1 => ?_)
  · have h := zB_pos c1 h
    refine V_iconst (-1) (by decide) Z (show decode cX4_byteAt 21 = .ok (.iconst (-1), 1) by decide +kernel) ?_
    exact V_iretP Z hE h (show decode cX4_byteAt 22 = .ok (.ireturn, 1) by decide +kernel)
  · have h := zB_neg c1 h
    refine V_iload_n 1 Z rfl rfl (show decode cX4_byteAt 4 = .ok (.iload_n 1, 1) by decide +kernel) ?_
    refine V_aload_n 0 Z rfl rfl (show decode cX4_byteAt 5 = .ok (.aload_n 0, 1) by decide +kernel) ?_
    refine V_getI 1 Z zc3 (by decide) rfl (by decide) rfl ⟨rfl, rfl, rfl⟩ w165 (show decode cX4_byteAt 6 = .ok (.getfield 15, 3) by decide +kernel) ?_
    refine V_icmp_ge 21 Z (by decide) (show decode cX4_byteAt 9 = .ok (.if_icmp .ge 12, 3) by decide +kernel) (fun c2 => ?_) (fun c2 => ?_)
    · have h := zB_pos c2 h
      refine V_iconst (-1) (by decide) Z (show decode cX4_byteAt 21 = .ok (.iconst (-1), 1) by decide +kernel) ?_
      exact V_iretP Z hE h (show decode cX4_byteAt 22 = .ok (.ireturn, 1) by decide +kernel)
    · have h := zB_neg c2 h
      refine V_aload_n 0 Z rfl rfl (show decode cX4_byteAt 12 = .ok (.aload_n 0, 1) by decide +kernel) ?_
      refine V_getR 0 35 Z zc3 (by decide) rfl (by decide) rfl (by decide) ⟨rfl, rfl, rfl⟩ w164 (show decode cX4_byteAt 13 = .ok (.getfield 9, 3) by decide +kernel) ?_
      refine V_iload_n 1 Z rfl rfl (show decode cX4_byteAt 16 = .ok (.iload_n 1, 1) by decide +kernel) ?_
      obtain ⟨v3, e4, h⟩ := zB_bind h
      refine V_iald Z e4 (show decode cX4_byteAt 17 = .ok (.iaload, 1) by decide +kernel) ?_
      refine V_goto 22 Z (by decide) (show decode cX4_byteAt 18 = .ok (.goto 4, 3) by decide +kernel) ?_
      exact V_iretP Z hE h (show decode cX4_byteAt 22 = .ok (.ireturn, 1) by decide +kernel)
def f_X2_isLetter (x0 : Int32) (M : zM) : Option (Int32) :=
  if x0 < 97 then
    some ((0 : Int32))
  else
    if 122 < x0 then
      some ((0 : Int32))
    else
      some ((1 : Int32))
theorem cd_X2_isLetter : zCd yX2_isLetter cX2_isLetter 1 (some .boolean) 1 := ⟨w576, w67, ⟨by decide, by decide⟩, by decide +kernel⟩
set_option maxHeartbeats 4000000 in
set_option maxRecDepth 20000 in
theorem ok_X2_isLetter {x0 : Int32} {M : zM} {y : Int32}  (h : f_X2_isLetter x0 M = some y) : zRuns yX2_isLetter cX2_isLetter 1 (some .boolean) 0 0 [.int x0] M (some (.int y)) M := by
  refine zRuns_of (by decide +kernel) (Nat.le_of_ble_eq_true rfl) (fun E Z hE => ?_)
  have h := zB_top h
  change VV E 1 0 [(0, Value.int x0)] [] M
  refine V_iload_n 0 Z rfl rfl (show decode cX2_isLetter 0 = .ok (.iload_n 0, 1) by decide +kernel) ?_
  refine V_bipush 97 (by decide) Z (show decode cX2_isLetter 1 = .ok (.bipush 97, 2) by decide +kernel) ?_
  refine V_icmp_lt 16 Z (by decide) (show decode cX2_isLetter 3 = .ok (.if_icmp .lt 13, 3) by decide +kernel) (fun c1 => ?_) (fun c1 => ?_)
  · have h := zB_pos c1 h
    refine V_iconst 0 (by decide) Z (show decode cX2_isLetter 16 = .ok (.iconst 0, 1) by decide +kernel) ?_
    exact V_zretP Z hE h rfl (show decode cX2_isLetter 17 = .ok (.ireturn, 1) by decide +kernel)
  · have h := zB_neg c1 h
    refine V_iload_n 0 Z rfl rfl (show decode cX2_isLetter 6 = .ok (.iload_n 0, 1) by decide +kernel) ?_
    refine V_bipush 122 (by decide) Z (show decode cX2_isLetter 7 = .ok (.bipush 122, 2) by decide +kernel) ?_
    refine V_icmp_gt 16 Z (by decide) (show decode cX2_isLetter 9 = .ok (.if_icmp .gt 7, 3) by decide +kernel) (fun c2 => ?_) (fun c2 => ?_)
    · have h := zB_pos c2 h
      refine V_iconst 0 (by decide) Z (show decode cX2_isLetter 16 = .ok (.iconst 0, 1) by decide +kernel) ?_
      exact V_zretP Z hE h rfl (show decode cX2_isLetter 17 = .ok (.ireturn, 1) by decide +kernel)
    · have h := zB_neg c2 h
      refine V_iconst 1 (by decide) Z (show decode cX2_isLetter 12 = .ok (.iconst 1, 1) by decide +kernel) ?_
      refine V_goto 17 Z (by decide) (show decode cX2_isLetter 13 = .ok (.goto 4, 3) by decide +kernel) ?_
      exact V_zretP Z hE h rfl (show decode cX2_isLetter 17 = .ok (.ireturn, 1) by decide +kernel)
def f_X2_stepWord_l0  : zM → Option ((zM) ⊕ (zM))
  | M =>
    if 120 ≤ (M 36 3) then
      some (.inr (M))
    else
      if M 36 0 = 0 then none else
      (f_X4_byteAt (M 36 3) M).bind fun (v4 : Int32) =>
      (f_X2_isLetter v4 M).bind fun (v6 : Int32) =>
      if v6 = 0 then
        some (.inr (M))
      else
        (some (zU M 36 3 (((M 36 3) + 1)))).bind fun (M8 : zM) =>
        some (.inl (M8))
def f_X2_stepWord (M : zM) : Option (zM) :=
  zIter (f_X2_stepWord_l0 ) 1000 (M)
theorem cd_X2_stepWord : zCd yX2_stepWord cX2_stepWord 1 none 0 := ⟨w580, w67, ⟨by decide, by decide⟩, by decide +kernel⟩
set_option maxHeartbeats 4000000 in
set_option maxRecDepth 20000 in
theorem ok_X2_stepWord {M : zM} {y : zM}  (h : f_X2_stepWord  M = some y) : zRuns yX2_stepWord cX2_stepWord 1 none 1 21 [.ref 36] M none y := by
  refine zRuns_of (by decide +kernel) (Nat.le_of_ble_eq_true rfl) (fun E Z hE => ?_)
  have h := zB_top h
  change VV E 1 0 [(0, Value.ref 36)] [] M
  refine zIter_loop' (K := some) (fun s : zM => VV E 1 0 [(0, Value.ref 36)] [] s) (fun K1 M c1_i c1_r h => ?_) _ _ h
  refine V_aload_n 0 Z rfl rfl (show decode cX2_stepWord 0 = .ok (.aload_n 0, 1) by decide +kernel) ?_
  refine V_getI 3 Z zc1 (by decide) rfl (by decide) rfl ⟨rfl, rfl, rfl⟩ w181 (show decode cX2_stepWord 1 = .ok (.getfield 15, 3) by decide +kernel) ?_
  refine V_bipush 120 (by decide) Z (show decode cX2_stepWord 4 = .ok (.bipush 120, 2) by decide +kernel) ?_
  refine V_icmp_ge 39 Z (by decide) (show decode cX2_stepWord 6 = .ok (.if_icmp .ge 33, 3) by decide +kernel) (fun c1 => ?_) (fun c1 => ?_)
  · have h := zB_pos c1 h
    have h := c1_r _ h
    exact V_vretM Z hE h (show decode cX2_stepWord 39 = .ok (.return_, 1) by decide +kernel)
  · have h := zB_neg c1 h
    refine V_aload_n 0 Z rfl rfl (show decode cX2_stepWord 9 = .ok (.aload_n 0, 1) by decide +kernel) ?_
    obtain ⟨c2, h⟩ := zB_chk h
    refine V_getD 0 Z zc1 (by decide) rfl (by decide) rfl c2 ⟨rfl, rfl, rfl⟩ w178 (show decode cX2_stepWord 10 = .ok (.getfield 9, 3) by decide +kernel) ?_
    refine V_aload_n 0 Z rfl rfl (show decode cX2_stepWord 13 = .ok (.aload_n 0, 1) by decide +kernel) ?_
    refine V_getI 3 Z zc1 (by decide) rfl (by decide) rfl ⟨rfl, rfl, rfl⟩ w181 (show decode cX2_stepWord 14 = .ok (.getfield 15, 3) by decide +kernel) ?_
    obtain ⟨v4, e3, h⟩ := zB_bind h
    refine V_callV (rest := []) 1 Z (ok_X4_byteAt  e3) cd_X4_byteAt zc3 (by decide) rfl w570 w571 w572 rfl (show decode cX2_stepWord 17 = .ok (.invokevirtual 32, 3) by decide +kernel) rfl ?_
    obtain ⟨v6, e5, h⟩ := zB_bind h
    refine V_callS (rest := []) 1 Z (ok_X2_isLetter  e5) cd_X2_isLetter w574 w575 rfl (show decode cX2_stepWord 20 = .ok (.invokestatic 38, 3) by decide +kernel) rfl ?_
    refine V_if_eq 39 Z (by decide) (show decode cX2_stepWord 23 = .ok (.ifCond .eq 16, 3) by decide +kernel) (fun c7 => ?_) (fun c7 => ?_)
    · have h := zB_pos c7 h
      have h := c1_r _ h
      exact V_vretM Z hE h (show decode cX2_stepWord 39 = .ok (.return_, 1) by decide +kernel)
    · have h := zB_neg c7 h
      refine V_aload_n 0 Z rfl rfl (show decode cX2_stepWord 26 = .ok (.aload_n 0, 1) by decide +kernel) ?_
      refine V_dup rfl Z (show decode cX2_stepWord 27 = .ok (.dup, 1) by decide +kernel) ?_
      refine V_getI 3 Z zc1 (by decide) rfl (by decide) rfl ⟨rfl, rfl, rfl⟩ w181 (show decode cX2_stepWord 28 = .ok (.getfield 15, 3) by decide +kernel) ?_
      refine V_iconst 1 (by decide) Z (show decode cX2_stepWord 31 = .ok (.iconst 1, 1) by decide +kernel) ?_
      refine V_iadd Z (show decode cX2_stepWord 32 = .ok (.iadd, 1) by decide +kernel) ?_
      obtain ⟨M8, e9, h⟩ := zB_let h
      refine V_putI 3 Z zc1 (by decide) rfl (by decide) rfl ⟨rfl, rfl, rfl⟩ rfl rfl w181 (show decode cX2_stepWord 33 = .ok (.putfield 15, 3) by decide +kernel) ?_
      refine V_nmM e9 ?_
      refine V_goto 0 Z (by decide) (show decode cX2_stepWord 36 = .ok (.goto (-36), 3) by decide +kernel) ?_
      exact c1_i _ h
def f_X2_isDigit (x0 : Int32) (M : zM) : Option (Int32) :=
  if x0 < 48 then
    some ((0 : Int32))
  else
    if 57 < x0 then
      some ((0 : Int32))
    else
      some ((1 : Int32))
theorem cd_X2_isDigit : zCd yX2_isDigit cX2_isDigit 1 (some .boolean) 1 := ⟨w583, w67, ⟨by decide, by decide⟩, by decide +kernel⟩
set_option maxHeartbeats 4000000 in
set_option maxRecDepth 20000 in
theorem ok_X2_isDigit {x0 : Int32} {M : zM} {y : Int32}  (h : f_X2_isDigit x0 M = some y) : zRuns yX2_isDigit cX2_isDigit 1 (some .boolean) 0 0 [.int x0] M (some (.int y)) M := by
  refine zRuns_of (by decide +kernel) (Nat.le_of_ble_eq_true rfl) (fun E Z hE => ?_)
  have h := zB_top h
  change VV E 1 0 [(0, Value.int x0)] [] M
  refine V_iload_n 0 Z rfl rfl (show decode cX2_isDigit 0 = .ok (.iload_n 0, 1) by decide +kernel) ?_
  refine V_bipush 48 (by decide) Z (show decode cX2_isDigit 1 = .ok (.bipush 48, 2) by decide +kernel) ?_
  refine V_icmp_lt 16 Z (by decide) (show decode cX2_isDigit 3 = .ok (.if_icmp .lt 13, 3) by decide +kernel) (fun c1 => ?_) (fun c1 => ?_)
  · have h := zB_pos c1 h
    refine V_iconst 0 (by decide) Z (show decode cX2_isDigit 16 = .ok (.iconst 0, 1) by decide +kernel) ?_
    exact V_zretP Z hE h rfl (show decode cX2_isDigit 17 = .ok (.ireturn, 1) by decide +kernel)
  · have h := zB_neg c1 h
    refine V_iload_n 0 Z rfl rfl (show decode cX2_isDigit 6 = .ok (.iload_n 0, 1) by decide +kernel) ?_
    refine V_bipush 57 (by decide) Z (show decode cX2_isDigit 7 = .ok (.bipush 57, 2) by decide +kernel) ?_
    refine V_icmp_gt 16 Z (by decide) (show decode cX2_isDigit 9 = .ok (.if_icmp .gt 7, 3) by decide +kernel) (fun c2 => ?_) (fun c2 => ?_)
    · have h := zB_pos c2 h
      refine V_iconst 0 (by decide) Z (show decode cX2_isDigit 16 = .ok (.iconst 0, 1) by decide +kernel) ?_
      exact V_zretP Z hE h rfl (show decode cX2_isDigit 17 = .ok (.ireturn, 1) by decide +kernel)
    · have h := zB_neg c2 h
      refine V_iconst 1 (by decide) Z (show decode cX2_isDigit 12 = .ok (.iconst 1, 1) by decide +kernel) ?_
      refine V_goto 17 Z (by decide) (show decode cX2_isDigit 13 = .ok (.goto 4, 3) by decide +kernel) ?_
      exact V_zretP Z hE h rfl (show decode cX2_isDigit 17 = .ok (.ireturn, 1) by decide +kernel)
def f_X2_stepNumber_l5  : zM → Option ((zM) ⊕ (zM))
  | M =>
    if 120 ≤ (M 36 3) then
      some (.inr (M))
    else
      if M 36 0 = 0 then none else
      (f_X4_byteAt (M 36 3) M).bind fun (v6 : Int32) =>
      (f_X2_isDigit v6 M).bind fun (v8 : Int32) =>
      if v8 = 0 then
        some (.inr (M))
      else
        if M 36 0 = 0 then none else
        (f_X4_byteAt (M 36 3) M).bind fun (v12 : Int32) =>
        (some (zU M 36 4 ((if ((((M 36 4) * 10) + v12) - 48) < 10000 then ((((M 36 4) * 10) + v12) - 48) else 10000)))).bind fun (M13 : zM) =>
        (some (zU M13 36 3 (((M13 36 3) + 1)))).bind fun (M15 : zM) =>
        some (.inl (M15))
def f_X2_stepNumber (M : zM) : Option (zM) :=
  (some (zU M 36 4 0)).bind fun (M1 : zM) =>
  zIter (f_X2_stepNumber_l5 ) 1000 (M1)
theorem cd_X2_stepNumber : zCd yX2_stepNumber cX2_stepNumber 1 none 0 := ⟨w587, w67, ⟨by decide, by decide⟩, by decide +kernel⟩
set_option maxHeartbeats 4000000 in
set_option maxRecDepth 20000 in
theorem ok_X2_stepNumber {M : zM} {y : zM}  (h : f_X2_stepNumber  M = some y) : zRuns yX2_stepNumber cX2_stepNumber 1 none 1 21 [.ref 36] M none y := by
  refine zRuns_of (by decide +kernel) (Nat.le_of_ble_eq_true rfl) (fun E Z hE => ?_)
  have h := zB_top h
  change VV E 1 0 [(0, Value.ref 36)] [] M
  refine V_aload_n 0 Z rfl rfl (show decode cX2_stepNumber 0 = .ok (.aload_n 0, 1) by decide +kernel) ?_
  refine V_iconst 0 (by decide) Z (show decode cX2_stepNumber 1 = .ok (.iconst 0, 1) by decide +kernel) ?_
  obtain ⟨M1, e2, h⟩ := zB_let h
  refine V_putI 4 Z zc1 (by decide) rfl (by decide) rfl ⟨rfl, rfl, rfl⟩ rfl rfl w182 (show decode cX2_stepNumber 2 = .ok (.putfield 51, 3) by decide +kernel) ?_
  refine V_nmM e2 ?_
  refine zIter_loop' (K := some) (fun s : zM => VV E 1 5 [(0, Value.ref 36)] [] s) (fun K1 M c1_i c1_r h => ?_) _ _ h
  refine V_aload_n 0 Z rfl rfl (show decode cX2_stepNumber 5 = .ok (.aload_n 0, 1) by decide +kernel) ?_
  refine V_getI 3 Z zc1 (by decide) rfl (by decide) rfl ⟨rfl, rfl, rfl⟩ w181 (show decode cX2_stepNumber 6 = .ok (.getfield 15, 3) by decide +kernel) ?_
  refine V_bipush 120 (by decide) Z (show decode cX2_stepNumber 9 = .ok (.bipush 120, 2) by decide +kernel) ?_
  refine V_icmp_ge 76 Z (by decide) (show decode cX2_stepNumber 11 = .ok (.if_icmp .ge 65, 3) by decide +kernel) (fun c3 => ?_) (fun c3 => ?_)
  · have h := zB_pos c3 h
    have h := c1_r _ h
    exact V_vretM Z hE h (show decode cX2_stepNumber 76 = .ok (.return_, 1) by decide +kernel)
  · have h := zB_neg c3 h
    refine V_aload_n 0 Z rfl rfl (show decode cX2_stepNumber 14 = .ok (.aload_n 0, 1) by decide +kernel) ?_
    obtain ⟨c4, h⟩ := zB_chk h
    refine V_getD 0 Z zc1 (by decide) rfl (by decide) rfl c4 ⟨rfl, rfl, rfl⟩ w178 (show decode cX2_stepNumber 15 = .ok (.getfield 9, 3) by decide +kernel) ?_
    refine V_aload_n 0 Z rfl rfl (show decode cX2_stepNumber 18 = .ok (.aload_n 0, 1) by decide +kernel) ?_
    refine V_getI 3 Z zc1 (by decide) rfl (by decide) rfl ⟨rfl, rfl, rfl⟩ w181 (show decode cX2_stepNumber 19 = .ok (.getfield 15, 3) by decide +kernel) ?_
    obtain ⟨v6, e5, h⟩ := zB_bind h
    refine V_callV (rest := []) 1 Z (ok_X4_byteAt  e5) cd_X4_byteAt zc3 (by decide) rfl w570 w571 w572 rfl (show decode cX2_stepNumber 22 = .ok (.invokevirtual 32, 3) by decide +kernel) rfl ?_
    obtain ⟨v8, e7, h⟩ := zB_bind h
    refine V_callS (rest := []) 1 Z (ok_X2_isDigit  e7) cd_X2_isDigit w581 w582 rfl (show decode cX2_stepNumber 25 = .ok (.invokestatic 45, 3) by decide +kernel) rfl ?_
    refine V_if_eq 76 Z (by decide) (show decode cX2_stepNumber 28 = .ok (.ifCond .eq 48, 3) by decide +kernel) (fun c9 => ?_) (fun c9 => ?_)
    · have h := zB_pos c9 h
      have h := c1_r _ h
      exact V_vretM Z hE h (show decode cX2_stepNumber 76 = .ok (.return_, 1) by decide +kernel)
    · have h := zB_neg c9 h
      refine V_aload_n 0 Z rfl rfl (show decode cX2_stepNumber 31 = .ok (.aload_n 0, 1) by decide +kernel) ?_
      refine V_sipush 10000 (by decide) Z (show decode cX2_stepNumber 32 = .ok (.sipush 10000, 3) by decide +kernel) ?_
      refine V_aload_n 0 Z rfl rfl (show decode cX2_stepNumber 35 = .ok (.aload_n 0, 1) by decide +kernel) ?_
      refine V_getI 4 Z zc1 (by decide) rfl (by decide) rfl ⟨rfl, rfl, rfl⟩ w182 (show decode cX2_stepNumber 36 = .ok (.getfield 51, 3) by decide +kernel) ?_
      refine V_bipush 10 (by decide) Z (show decode cX2_stepNumber 39 = .ok (.bipush 10, 2) by decide +kernel) ?_
      refine V_imul Z (show decode cX2_stepNumber 41 = .ok (.imul, 1) by decide +kernel) ?_
      refine V_aload_n 0 Z rfl rfl (show decode cX2_stepNumber 42 = .ok (.aload_n 0, 1) by decide +kernel) ?_
      obtain ⟨c10, h⟩ := zB_chk h
      refine V_getD 0 Z zc1 (by decide) rfl (by decide) rfl c10 ⟨rfl, rfl, rfl⟩ w178 (show decode cX2_stepNumber 43 = .ok (.getfield 9, 3) by decide +kernel) ?_
      refine V_aload_n 0 Z rfl rfl (show decode cX2_stepNumber 46 = .ok (.aload_n 0, 1) by decide +kernel) ?_
      refine V_getI 3 Z zc1 (by decide) rfl (by decide) rfl ⟨rfl, rfl, rfl⟩ w181 (show decode cX2_stepNumber 47 = .ok (.getfield 15, 3) by decide +kernel) ?_
      obtain ⟨v12, e11, h⟩ := zB_bind h
      refine V_callV (rest := [_, _, _]) 1 Z (ok_X4_byteAt  e11) cd_X4_byteAt zc3 (by decide) rfl w570 w571 w572 rfl (show decode cX2_stepNumber 50 = .ok (.invokevirtual 32, 3) by decide +kernel) rfl ?_
      refine V_iadd Z (show decode cX2_stepNumber 53 = .ok (.iadd, 1) by decide +kernel) ?_
      refine V_bipush 48 (by decide) Z (show decode cX2_stepNumber 54 = .ok (.bipush 48, 2) by decide +kernel) ?_
      refine V_isub Z (show decode cX2_stepNumber 56 = .ok (.isub, 1) by decide +kernel) ?_
      refine V_min Z w588 w367 w71 w368 (show decode cX2_stepNumber 57 = .ok (.invokestatic 54, 3) by decide +kernel) rfl ?_
      obtain ⟨M13, e14, h⟩ := zB_let h
      refine V_putI 4 Z zc1 (by decide) rfl (by decide) rfl ⟨rfl, rfl, rfl⟩ rfl rfl w182 (show decode cX2_stepNumber 60 = .ok (.putfield 51, 3) by decide +kernel) ?_
      refine V_nmM e14 ?_
      refine V_aload_n 0 Z rfl rfl (show decode cX2_stepNumber 63 = .ok (.aload_n 0, 1) by decide +kernel) ?_
      refine V_dup rfl Z (show decode cX2_stepNumber 64 = .ok (.dup, 1) by decide +kernel) ?_
      refine V_getI 3 Z zc1 (by decide) rfl (by decide) rfl ⟨rfl, rfl, rfl⟩ w181 (show decode cX2_stepNumber 65 = .ok (.getfield 15, 3) by decide +kernel) ?_
      refine V_iconst 1 (by decide) Z (show decode cX2_stepNumber 68 = .ok (.iconst 1, 1) by decide +kernel) ?_
      refine V_iadd Z (show decode cX2_stepNumber 69 = .ok (.iadd, 1) by decide +kernel) ?_
      obtain ⟨M15, e16, h⟩ := zB_let h
      refine V_putI 3 Z zc1 (by decide) rfl (by decide) rfl ⟨rfl, rfl, rfl⟩ rfl rfl w181 (show decode cX2_stepNumber 70 = .ok (.putfield 15, 3) by decide +kernel) ?_
      refine V_nmM e16 ?_
      refine V_goto 5 Z (by decide) (show decode cX2_stepNumber 73 = .ok (.goto (-68), 3) by decide +kernel) ?_
      exact c1_i _ h
def f_X2_step_j129 (s0 : Int32) (M : zM) : Option (zM) :=
  (some (zU M 36 1 s0)).bind fun (M1 : zM) =>
  (some (zU M1 36 3 (((M1 36 2) + 1)))).bind fun (M3 : zM) =>
  some (M3)
def f_X2_step_j46 (M : zM) : Option (zM) :=
  (some (zU M 36 3 ((M 36 2)))).bind fun (M5 : zM) =>
  if M5 36 0 = 0 then none else
  (f_X4_byteAt (M5 36 2) M5).bind fun (v9 : Int32) =>
  if v9 = (-1) then
    (some (zU M5 36 1 0)).bind fun (M26 : zM) =>
    some (M26)
  else
    (f_X2_isLetter v9 M5).bind fun (v12 : Int32) =>
    if v12 = 0 then
      (f_X2_isDigit v9 M5).bind fun (v15 : Int32) =>
      if v15 = 0 then
        if v9 = 59 then
          f_X2_step_j129 3 M5
        else
          f_X2_step_j129 4 M5
      else
        (some (zU M5 36 1 2)).bind fun (M18 : zM) =>
        (f_X2_stepNumber  M18).bind fun (M21 : zM) =>
        some (M21)
    else
      (some (zU M5 36 1 1)).bind fun (M22 : zM) =>
      (f_X2_stepWord  M22).bind fun (M25 : zM) =>
      some (M25)
def f_X2_step_l8  : zM → Option ((zM) ⊕ (zM))
  | M =>
    if 120 ≤ (M 36 2) then
      (f_X2_step_j46  M).bind fun z => some (Sum.inr z)
    else
      if M 36 0 = 0 then none else
      (f_X4_byteAt (M 36 2) M).bind fun (v33 : Int32) =>
      if v33 = 32 then
        (some (zU M 36 2 (((M 36 2) + 1)))).bind fun (M35 : zM) =>
        some (.inl (M35))
      else
        (f_X2_step_j46  M).bind fun z => some (Sum.inr z)
def f_X2_step (M : zM) : Option (zM) :=
  (some (zU M 36 2 ((M 36 3)))).bind fun (M28 : zM) =>
  zIter (f_X2_step_l8 ) 1000 (M28)
theorem cd_X2_step : zCd yX2_step cX2_step 2 none 0 := ⟨w569, w67, ⟨by decide, by decide⟩, by decide +kernel⟩
set_option maxHeartbeats 4000000 in
set_option maxRecDepth 20000 in
theorem ok_X2_step {M : zM} {y : zM}  (h : f_X2_step  M = some y) : zRuns yX2_step cX2_step 2 none 2 41 [.ref 36] M none y := by
  refine zRuns_of (by decide +kernel) (Nat.le_of_ble_eq_true rfl) (fun E Z hE => ?_)
  have h := zB_top h
  change VV E 2 0 [(0, Value.ref 36)] [] M
  have J129 : ∀ (s0 : Int32) (M : zM), (f_X2_step_j129 s0 M).bind some = some y → VV E 2 129 [(0, Value.ref 36)] [Value.int s0, Value.ref 36] M := by
    intro s0 M h
    obtain ⟨M1, e2, h⟩ := zB_let h
    refine V_putI 1 Z zc1 (by decide) rfl (by decide) rfl ⟨rfl, rfl, rfl⟩ rfl rfl w179 (show decode cX2_step 129 = .ok (.putfield 29, 3) by decide +kernel) ?_
    refine V_nmM e2 ?_
    refine V_aload_n 0 Z rfl rfl (show decode cX2_step 132 = .ok (.aload_n 0, 1) by decide +kernel) ?_
    refine V_aload_n 0 Z rfl rfl (show decode cX2_step 133 = .ok (.aload_n 0, 1) by decide +kernel) ?_
    refine V_getI 2 Z zc1 (by decide) rfl (by decide) rfl ⟨rfl, rfl, rfl⟩ w180 (show decode cX2_step 134 = .ok (.getfield 26, 3) by decide +kernel) ?_
    refine V_iconst 1 (by decide) Z (show decode cX2_step 137 = .ok (.iconst 1, 1) by decide +kernel) ?_
    refine V_iadd Z (show decode cX2_step 138 = .ok (.iadd, 1) by decide +kernel) ?_
    obtain ⟨M3, e4, h⟩ := zB_let h
    refine V_putI 3 Z zc1 (by decide) rfl (by decide) rfl ⟨rfl, rfl, rfl⟩ rfl rfl w181 (show decode cX2_step 139 = .ok (.putfield 15, 3) by decide +kernel) ?_
    refine V_nmM e4 ?_
    exact V_vretM Z hE h (show decode cX2_step 142 = .ok (.return_, 1) by decide +kernel)
  have J46 : ∀ (M : zM), (f_X2_step_j46  M).bind some = some y → VV E 2 46 [(0, Value.ref 36)] [] M := by
    intro  M h
    refine V_aload_n 0 Z rfl rfl (show decode cX2_step 46 = .ok (.aload_n 0, 1) by decide +kernel) ?_
    refine V_aload_n 0 Z rfl rfl (show decode cX2_step 47 = .ok (.aload_n 0, 1) by decide +kernel) ?_
    refine V_getI 2 Z zc1 (by decide) rfl (by decide) rfl ⟨rfl, rfl, rfl⟩ w180 (show decode cX2_step 48 = .ok (.getfield 26, 3) by decide +kernel) ?_
    obtain ⟨M5, e6, h⟩ := zB_let h
    refine V_putI 3 Z zc1 (by decide) rfl (by decide) rfl ⟨rfl, rfl, rfl⟩ rfl rfl w181 (show decode cX2_step 51 = .ok (.putfield 15, 3) by decide +kernel) ?_
    refine V_nmM e6 ?_
    refine V_aload_n 0 Z rfl rfl (show decode cX2_step 54 = .ok (.aload_n 0, 1) by decide +kernel) ?_
    obtain ⟨c7, h⟩ := zB_chk h
    refine V_getD 0 Z zc1 (by decide) rfl (by decide) rfl c7 ⟨rfl, rfl, rfl⟩ w178 (show decode cX2_step 55 = .ok (.getfield 9, 3) by decide +kernel) ?_
    refine V_aload_n 0 Z rfl rfl (show decode cX2_step 58 = .ok (.aload_n 0, 1) by decide +kernel) ?_
    refine V_getI 2 Z zc1 (by decide) rfl (by decide) rfl ⟨rfl, rfl, rfl⟩ w180 (show decode cX2_step 59 = .ok (.getfield 26, 3) by decide +kernel) ?_
    obtain ⟨v9, e8, h⟩ := zB_bind h
    refine V_callV (rest := []) 1 Z (ok_X4_byteAt  e8) cd_X4_byteAt zc3 (by decide) rfl w570 w571 w572 rfl (show decode cX2_step 62 = .ok (.invokevirtual 32, 3) by decide +kernel) rfl ?_
    refine V_istore_n [(1, Value.int v9), (0, Value.ref 36)] Z (by decide) rfl rfl (show decode cX2_step 65 = .ok (.istore_n 1, 1) by decide +kernel) ?_
    refine V_iload_n 0 Z rfl rfl (show decode cX2_step 66 = .ok (.iload_n 1, 1) by decide +kernel) ?_
    refine V_iconst (-1) (by decide) Z (show decode cX2_step 67 = .ok (.iconst (-1), 1) by decide +kernel) ?_
    refine V_icmp_ne 79 Z (by decide) (show decode cX2_step 68 = .ok (.if_icmp .ne 11, 3) by decide +kernel) (fun c10 => ?_) (fun c10 => ?_)
    · have h := zB_neg c10 h
      refine V_iload_n 0 Z rfl rfl (show decode cX2_step 79 = .ok (.iload_n 1, 1) by decide +kernel) ?_
      obtain ⟨v12, e11, h⟩ := zB_bind h
      refine V_callS (rest := []) 1 Z (ok_X2_isLetter  e11) cd_X2_isLetter w574 w575 rfl (show decode cX2_step 80 = .ok (.invokestatic 38, 3) by decide +kernel) rfl ?_
      refine V_if_eq 98 Z (by decide) (show decode cX2_step 83 = .ok (.ifCond .eq 15, 3) by decide +kernel) (fun c13 => ?_) (fun c13 => ?_)
      · have h := zB_pos c13 h
        refine V_iload_n 0 Z rfl rfl (show decode cX2_step 98 = .ok (.iload_n 1, 1) by decide +kernel) ?_
        obtain ⟨v15, e14, h⟩ := zB_bind h
        refine V_callS (rest := []) 1 Z (ok_X2_isDigit  e14) cd_X2_isDigit w581 w582 rfl (show decode cX2_step 99 = .ok (.invokestatic 45, 3) by decide +kernel) rfl ?_
        refine V_if_eq 117 Z (by decide) (show decode cX2_step 102 = .ok (.ifCond .eq 15, 3) by decide +kernel) (fun c16 => ?_) (fun c16 => ?_)
        · have h := zB_pos c16 h
          refine V_aload_n 1 Z rfl rfl (show decode cX2_step 117 = .ok (.aload_n 0, 1) by decide +kernel) ?_
          refine V_iload_n 0 Z rfl rfl (show decode cX2_step 118 = .ok (.iload_n 1, 1) by decide +kernel) ?_
          refine V_bipush 59 (by decide) Z (show decode cX2_step 119 = .ok (.bipush 59, 2) by decide +kernel) ?_
          refine V_icmp_ne 128 Z (by decide) (show decode cX2_step 121 = .ok (.if_icmp .ne 7, 3) by decide +kernel) (fun c17 => ?_) (fun c17 => ?_)
          · have h := zB_neg c17 h
            refine V_iconst 4 (by decide) Z (show decode cX2_step 128 = .ok (.iconst 4, 1) by decide +kernel) ?_
            refine V_sub [1] rfl ?_
            exact J129 _ _ h
          · have h := zB_pos c17 h
            refine V_iconst 3 (by decide) Z (show decode cX2_step 124 = .ok (.iconst 3, 1) by decide +kernel) ?_
            refine V_goto 129 Z (by decide) (show decode cX2_step 125 = .ok (.goto 4, 3) by decide +kernel) ?_
            refine V_sub [1] rfl ?_
            exact J129 _ _ h
        · have h := zB_neg c16 h
          refine V_aload_n 1 Z rfl rfl (show decode cX2_step 105 = .ok (.aload_n 0, 1) by decide +kernel) ?_
          refine V_iconst 2 (by decide) Z (show decode cX2_step 106 = .ok (.iconst 2, 1) by decide +kernel) ?_
          obtain ⟨M18, e19, h⟩ := zB_let h
          refine V_putI 1 Z zc1 (by decide) rfl (by decide) rfl ⟨rfl, rfl, rfl⟩ rfl rfl w179 (show decode cX2_step 107 = .ok (.putfield 29, 3) by decide +kernel) ?_
          refine V_nmM e19 ?_
          refine V_aload_n 1 Z rfl rfl (show decode cX2_step 110 = .ok (.aload_n 0, 1) by decide +kernel) ?_
          obtain ⟨M21, e20, h⟩ := zB_bind h
          refine V_callV (rest := []) 0 Z (ok_X2_stepNumber  e20) cd_X2_stepNumber zc1 (by decide) rfl w584 w586 w9 rfl (show decode cX2_step 111 = .ok (.invokevirtual 48, 3) by decide +kernel) rfl ?_
          refine V_goto 142 Z (by decide) (show decode cX2_step 114 = .ok (.goto 28, 3) by decide +kernel) ?_
          exact V_vretM Z hE h (show decode cX2_step 142 = .ok (.return_, 1) by decide +kernel)
      · have h := zB_neg c13 h
        refine V_aload_n 1 Z rfl rfl (show decode cX2_step 86 = .ok (.aload_n 0, 1) by decide +kernel) ?_
        refine V_iconst 1 (by decide) Z (show decode cX2_step 87 = .ok (.iconst 1, 1) by decide +kernel) ?_
        obtain ⟨M22, e23, h⟩ := zB_let h
        refine V_putI 1 Z zc1 (by decide) rfl (by decide) rfl ⟨rfl, rfl, rfl⟩ rfl rfl w179 (show decode cX2_step 88 = .ok (.putfield 29, 3) by decide +kernel) ?_
        refine V_nmM e23 ?_
        refine V_aload_n 1 Z rfl rfl (show decode cX2_step 91 = .ok (.aload_n 0, 1) by decide +kernel) ?_
        obtain ⟨M25, e24, h⟩ := zB_bind h
        refine V_callV (rest := []) 0 Z (ok_X2_stepWord  e24) cd_X2_stepWord zc1 (by decide) rfl w577 w579 w8 rfl (show decode cX2_step 92 = .ok (.invokevirtual 42, 3) by decide +kernel) rfl ?_
        refine V_goto 142 Z (by decide) (show decode cX2_step 95 = .ok (.goto 47, 3) by decide +kernel) ?_
        exact V_vretM Z hE h (show decode cX2_step 142 = .ok (.return_, 1) by decide +kernel)
    · have h := zB_pos c10 h
      refine V_aload_n 1 Z rfl rfl (show decode cX2_step 71 = .ok (.aload_n 0, 1) by decide +kernel) ?_
      refine V_iconst 0 (by decide) Z (show decode cX2_step 72 = .ok (.iconst 0, 1) by decide +kernel) ?_
      obtain ⟨M26, e27, h⟩ := zB_let h
      refine V_putI 1 Z zc1 (by decide) rfl (by decide) rfl ⟨rfl, rfl, rfl⟩ rfl rfl w179 (show decode cX2_step 73 = .ok (.putfield 29, 3) by decide +kernel) ?_
      refine V_nmM e27 ?_
      refine V_goto 142 Z (by decide) (show decode cX2_step 76 = .ok (.goto 66, 3) by decide +kernel) ?_
      exact V_vretM Z hE h (show decode cX2_step 142 = .ok (.return_, 1) by decide +kernel)
  refine V_aload_n 0 Z rfl rfl (show decode cX2_step 0 = .ok (.aload_n 0, 1) by decide +kernel) ?_
  refine V_aload_n 0 Z rfl rfl (show decode cX2_step 1 = .ok (.aload_n 0, 1) by decide +kernel) ?_
  refine V_getI 3 Z zc1 (by decide) rfl (by decide) rfl ⟨rfl, rfl, rfl⟩ w181 (show decode cX2_step 2 = .ok (.getfield 15, 3) by decide +kernel) ?_
  obtain ⟨M28, e29, h⟩ := zB_let h
  refine V_putI 2 Z zc1 (by decide) rfl (by decide) rfl ⟨rfl, rfl, rfl⟩ rfl rfl w180 (show decode cX2_step 5 = .ok (.putfield 26, 3) by decide +kernel) ?_
  refine V_nmM e29 ?_
  refine zIter_loop' (K := some) (fun s : zM => VV E 2 8 [(0, Value.ref 36)] [] s) (fun K1 M c1_i c1_r h => ?_) _ _ h
  refine V_aload_n 0 Z rfl rfl (show decode cX2_step 8 = .ok (.aload_n 0, 1) by decide +kernel) ?_
  refine V_getI 2 Z zc1 (by decide) rfl (by decide) rfl ⟨rfl, rfl, rfl⟩ w180 (show decode cX2_step 9 = .ok (.getfield 26, 3) by decide +kernel) ?_
  refine V_bipush 120 (by decide) Z (show decode cX2_step 12 = .ok (.bipush 120, 2) by decide +kernel) ?_
  refine V_icmp_ge 46 Z (by decide) (show decode cX2_step 14 = .ok (.if_icmp .ge 32, 3) by decide +kernel) (fun c30 => ?_) (fun c30 => ?_)
  · have h := zB_pos c30 h
    have h := zB_lift c1_r h
    exact J46 _ h
  · have h := zB_neg c30 h
    refine V_aload_n 0 Z rfl rfl (show decode cX2_step 17 = .ok (.aload_n 0, 1) by decide +kernel) ?_
    obtain ⟨c31, h⟩ := zB_chk h
    refine V_getD 0 Z zc1 (by decide) rfl (by decide) rfl c31 ⟨rfl, rfl, rfl⟩ w178 (show decode cX2_step 18 = .ok (.getfield 9, 3) by decide +kernel) ?_
    refine V_aload_n 0 Z rfl rfl (show decode cX2_step 21 = .ok (.aload_n 0, 1) by decide +kernel) ?_
    refine V_getI 2 Z zc1 (by decide) rfl (by decide) rfl ⟨rfl, rfl, rfl⟩ w180 (show decode cX2_step 22 = .ok (.getfield 26, 3) by decide +kernel) ?_
    obtain ⟨v33, e32, h⟩ := zB_bind h
    refine V_callV (rest := []) 1 Z (ok_X4_byteAt  e32) cd_X4_byteAt zc3 (by decide) rfl w570 w571 w572 rfl (show decode cX2_step 25 = .ok (.invokevirtual 32, 3) by decide +kernel) rfl ?_
    refine V_bipush 32 (by decide) Z (show decode cX2_step 28 = .ok (.bipush 32, 2) by decide +kernel) ?_
    refine V_icmp_ne 46 Z (by decide) (show decode cX2_step 30 = .ok (.if_icmp .ne 16, 3) by decide +kernel) (fun c34 => ?_) (fun c34 => ?_)
    · have h := zB_neg c34 h
      have h := zB_lift c1_r h
      exact J46 _ h
    · have h := zB_pos c34 h
      refine V_aload_n 0 Z rfl rfl (show decode cX2_step 33 = .ok (.aload_n 0, 1) by decide +kernel) ?_
      refine V_dup rfl Z (show decode cX2_step 34 = .ok (.dup, 1) by decide +kernel) ?_
      refine V_getI 2 Z zc1 (by decide) rfl (by decide) rfl ⟨rfl, rfl, rfl⟩ w180 (show decode cX2_step 35 = .ok (.getfield 26, 3) by decide +kernel) ?_
      refine V_iconst 1 (by decide) Z (show decode cX2_step 38 = .ok (.iconst 1, 1) by decide +kernel) ?_
      refine V_iadd Z (show decode cX2_step 39 = .ok (.iadd, 1) by decide +kernel) ?_
      obtain ⟨M35, e36, h⟩ := zB_let h
      refine V_putI 2 Z zc1 (by decide) rfl (by decide) rfl ⟨rfl, rfl, rfl⟩ rfl rfl w180 (show decode cX2_step 40 = .ok (.putfield 26, 3) by decide +kernel) ?_
      refine V_nmM e36 ?_
      refine V_goto 8 Z (by decide) (show decode cX2_step 43 = .ok (.goto (-35), 3) by decide +kernel) ?_
      exact c1_i _ h
