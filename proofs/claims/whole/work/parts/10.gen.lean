/-! Generated walks: X0_become X0_hangUp X1_due X0_due X0_hangs X0_hanging X0_foesOf X0_pairsIn X0_isPeaceful -/
def f_X0_become (t : Nat) (u : Nat) (M : zM) : Option (zM) :=
  (some (zU M t 0 ((M u 0)))).bind fun (M1 : zM) =>
  (zcp M1 (u + 1) 0 (t + 1) 0 8).bind fun (M3 : zM) =>
  (zcp M3 (u + 2) 0 (t + 2) 0 8).bind fun (M5 : zM) =>
  (zcp M5 (u + 3) 0 (t + 3) 0 8).bind fun (M7 : zM) =>
  (zcp M7 (u + 4) 0 (t + 4) 0 8).bind fun (M9 : zM) =>
  (zcp M9 (u + 5) 0 (t + 5) 0 8).bind fun (M11 : zM) =>
  (zcp M11 (u + 6) 0 (t + 6) 0 6).bind fun (M13 : zM) =>
  (zcp M13 (u + 7) 0 (t + 7) 0 6).bind fun (M15 : zM) =>
  (zcp M15 (u + 8) 0 (t + 8) 0 10).bind fun (M17 : zM) =>
  (some (zU M17 t 9 ((M17 u 9)))).bind fun (M19 : zM) =>
  (some (zU M19 t 10 ((M19 u 10)))).bind fun (M21 : zM) =>
  (some (zU M21 t 11 ((M21 u 11)))).bind fun (M23 : zM) =>
  (some (zU M23 t 12 ((M23 u 12)))).bind fun (M25 : zM) =>
  some (M25)
theorem cd_X0_become : zCd yX0_become cX0_become 2 none 1 := ⟨w415, w65, ⟨by decide, by decide⟩, by decide +kernel⟩
set_option maxHeartbeats 4000000 in
set_option maxRecDepth 20000 in
theorem ok_X0_become {t : Nat} {u : Nat} {M : zM} {y : zM} (ht : isH t) (hu : isH u) (h : f_X0_become t u M = some y) : zRuns yX0_become cX0_become 2 none 1 40 [.ref t, .ref u] M none y := by
  refine zRuns_of (by decide +kernel) (Nat.le_of_ble_eq_true rfl) (fun E Z hE => ?_)
  have h := zB_top h
  change VV E 2 0 [(0, Value.ref t), (1, Value.ref u)] [] M
  refine V_aload_n 0 Z rfl rfl (show decode cX0_become 0 = .ok (.aload_n 0, 1) by decide +kernel) ?_
  refine V_aload_n 1 Z rfl rfl (show decode cX0_become 1 = .ok (.aload_n 1, 1) by decide +kernel) ?_
  refine V_getI 0 Z zc0 (isH_lt hu) (shH hu) (by decide) rfl ⟨rfl, rfl, rfl⟩ w92 (show decode cX0_become 2 = .ok (.getfield 9, 3) by decide +kernel) ?_
  obtain ⟨M1, e2, h⟩ := zB_let h
  refine V_putI 0 Z zc0 (isH_lt ht) (shH ht) (by decide) rfl ⟨rfl, rfl, rfl⟩ rfl rfl w92 (show decode cX0_become 5 = .ok (.putfield 9, 3) by decide +kernel) ?_
  refine V_nmM e2 ?_
  refine V_aload_n 1 Z rfl rfl (show decode cX0_become 8 = .ok (.aload_n 1, 1) by decide +kernel) ?_
  refine V_getR 1 (u + 1) Z zc0 (isH_lt hu) (shH hu) (by decide) rfl (isH_ne hu 1) ⟨rfl, rfl, rfl⟩ w95 (show decode cX0_become 9 = .ok (.getfield 15, 3) by decide +kernel) ?_
  refine V_iconst 0 (by decide) Z (show decode cX0_become 12 = .ok (.iconst 0, 1) by decide +kernel) ?_
  refine V_aload_n 0 Z rfl rfl (show decode cX0_become 13 = .ok (.aload_n 0, 1) by decide +kernel) ?_
  refine V_getR 1 (t + 1) Z zc0 (isH_lt ht) (shH ht) (by decide) rfl (isH_ne ht 1) ⟨rfl, rfl, rfl⟩ w95 (show decode cX0_become 14 = .ok (.getfield 15, 3) by decide +kernel) ?_
  refine V_iconst 0 (by decide) Z (show decode cX0_become 17 = .ok (.iconst 0, 1) by decide +kernel) ?_
  refine V_bipush 8 (by decide) Z (show decode cX0_become 18 = .ok (.bipush 8, 2) by decide +kernel) ?_
  obtain ⟨M3, e4, h⟩ := zB_bind h
  refine V_copy Z e4 (isH_ltp hu 1) (isH_ltp ht 1) w416 w418 w417 w73 (show decode cX0_become 20 = .ok (.invokestatic 58, 3) by decide +kernel) rfl ?_
  refine V_aload_n 1 Z rfl rfl (show decode cX0_become 23 = .ok (.aload_n 1, 1) by decide +kernel) ?_
  refine V_getR 2 (u + 2) Z zc0 (isH_lt hu) (shH hu) (by decide) rfl (isH_ne hu 2) ⟨rfl, rfl, rfl⟩ w97 (show decode cX0_become 24 = .ok (.getfield 19, 3) by decide +kernel) ?_
  refine V_iconst 0 (by decide) Z (show decode cX0_become 27 = .ok (.iconst 0, 1) by decide +kernel) ?_
  refine V_aload_n 0 Z rfl rfl (show decode cX0_become 28 = .ok (.aload_n 0, 1) by decide +kernel) ?_
  refine V_getR 2 (t + 2) Z zc0 (isH_lt ht) (shH ht) (by decide) rfl (isH_ne ht 2) ⟨rfl, rfl, rfl⟩ w97 (show decode cX0_become 29 = .ok (.getfield 19, 3) by decide +kernel) ?_
  refine V_iconst 0 (by decide) Z (show decode cX0_become 32 = .ok (.iconst 0, 1) by decide +kernel) ?_
  refine V_bipush 8 (by decide) Z (show decode cX0_become 33 = .ok (.bipush 8, 2) by decide +kernel) ?_
  obtain ⟨M5, e6, h⟩ := zB_bind h
  refine V_copy Z e6 (isH_ltp hu 2) (isH_ltp ht 2) w416 w418 w417 w73 (show decode cX0_become 35 = .ok (.invokestatic 58, 3) by decide +kernel) rfl ?_
  refine V_aload_n 1 Z rfl rfl (show decode cX0_become 38 = .ok (.aload_n 1, 1) by decide +kernel) ?_
  refine V_getR 3 (u + 3) Z zc0 (isH_lt hu) (shH hu) (by decide) rfl (isH_ne hu 3) ⟨rfl, rfl, rfl⟩ w99 (show decode cX0_become 39 = .ok (.getfield 22, 3) by decide +kernel) ?_
  refine V_iconst 0 (by decide) Z (show decode cX0_become 42 = .ok (.iconst 0, 1) by decide +kernel) ?_
  refine V_aload_n 0 Z rfl rfl (show decode cX0_become 43 = .ok (.aload_n 0, 1) by decide +kernel) ?_
  refine V_getR 3 (t + 3) Z zc0 (isH_lt ht) (shH ht) (by decide) rfl (isH_ne ht 3) ⟨rfl, rfl, rfl⟩ w99 (show decode cX0_become 44 = .ok (.getfield 22, 3) by decide +kernel) ?_
  refine V_iconst 0 (by decide) Z (show decode cX0_become 47 = .ok (.iconst 0, 1) by decide +kernel) ?_
  refine V_bipush 8 (by decide) Z (show decode cX0_become 48 = .ok (.bipush 8, 2) by decide +kernel) ?_
  obtain ⟨M7, e8, h⟩ := zB_bind h
  refine V_copy Z e8 (isH_ltp hu 3) (isH_ltp ht 3) w416 w418 w417 w73 (show decode cX0_become 50 = .ok (.invokestatic 58, 3) by decide +kernel) rfl ?_
  refine V_aload_n 1 Z rfl rfl (show decode cX0_become 53 = .ok (.aload_n 1, 1) by decide +kernel) ?_
  refine V_getR 4 (u + 4) Z zc0 (isH_lt hu) (shH hu) (by decide) rfl (isH_ne hu 4) ⟨rfl, rfl, rfl⟩ w101 (show decode cX0_become 54 = .ok (.getfield 25, 3) by decide +kernel) ?_
  refine V_iconst 0 (by decide) Z (show decode cX0_become 57 = .ok (.iconst 0, 1) by decide +kernel) ?_
  refine V_aload_n 0 Z rfl rfl (show decode cX0_become 58 = .ok (.aload_n 0, 1) by decide +kernel) ?_
  refine V_getR 4 (t + 4) Z zc0 (isH_lt ht) (shH ht) (by decide) rfl (isH_ne ht 4) ⟨rfl, rfl, rfl⟩ w101 (show decode cX0_become 59 = .ok (.getfield 25, 3) by decide +kernel) ?_
  refine V_iconst 0 (by decide) Z (show decode cX0_become 62 = .ok (.iconst 0, 1) by decide +kernel) ?_
  refine V_bipush 8 (by decide) Z (show decode cX0_become 63 = .ok (.bipush 8, 2) by decide +kernel) ?_
  obtain ⟨M9, e10, h⟩ := zB_bind h
  refine V_copy Z e10 (isH_ltp hu 4) (isH_ltp ht 4) w416 w418 w417 w73 (show decode cX0_become 65 = .ok (.invokestatic 58, 3) by decide +kernel) rfl ?_
  refine V_aload_n 1 Z rfl rfl (show decode cX0_become 68 = .ok (.aload_n 1, 1) by decide +kernel) ?_
  refine V_getR 5 (u + 5) Z zc0 (isH_lt hu) (shH hu) (by decide) rfl (isH_ne hu 5) ⟨rfl, rfl, rfl⟩ w103 (show decode cX0_become 69 = .ok (.getfield 28, 3) by decide +kernel) ?_
  refine V_iconst 0 (by decide) Z (show decode cX0_become 72 = .ok (.iconst 0, 1) by decide +kernel) ?_
  refine V_aload_n 0 Z rfl rfl (show decode cX0_become 73 = .ok (.aload_n 0, 1) by decide +kernel) ?_
  refine V_getR 5 (t + 5) Z zc0 (isH_lt ht) (shH ht) (by decide) rfl (isH_ne ht 5) ⟨rfl, rfl, rfl⟩ w103 (show decode cX0_become 74 = .ok (.getfield 28, 3) by decide +kernel) ?_
  refine V_iconst 0 (by decide) Z (show decode cX0_become 77 = .ok (.iconst 0, 1) by decide +kernel) ?_
  refine V_bipush 8 (by decide) Z (show decode cX0_become 78 = .ok (.bipush 8, 2) by decide +kernel) ?_
  obtain ⟨M11, e12, h⟩ := zB_bind h
  refine V_copy Z e12 (isH_ltp hu 5) (isH_ltp ht 5) w416 w418 w417 w73 (show decode cX0_become 80 = .ok (.invokestatic 58, 3) by decide +kernel) rfl ?_
  refine V_aload_n 1 Z rfl rfl (show decode cX0_become 83 = .ok (.aload_n 1, 1) by decide +kernel) ?_
  refine V_getR 6 (u + 6) Z zc0 (isH_lt hu) (shH hu) (by decide) rfl (isH_ne hu 6) ⟨rfl, rfl, rfl⟩ w105 (show decode cX0_become 84 = .ok (.getfield 31, 3) by decide +kernel) ?_
  refine V_iconst 0 (by decide) Z (show decode cX0_become 87 = .ok (.iconst 0, 1) by decide +kernel) ?_
  refine V_aload_n 0 Z rfl rfl (show decode cX0_become 88 = .ok (.aload_n 0, 1) by decide +kernel) ?_
  refine V_getR 6 (t + 6) Z zc0 (isH_lt ht) (shH ht) (by decide) rfl (isH_ne ht 6) ⟨rfl, rfl, rfl⟩ w105 (show decode cX0_become 89 = .ok (.getfield 31, 3) by decide +kernel) ?_
  refine V_iconst 0 (by decide) Z (show decode cX0_become 92 = .ok (.iconst 0, 1) by decide +kernel) ?_
  refine V_bipush 6 (by decide) Z (show decode cX0_become 93 = .ok (.bipush 6, 2) by decide +kernel) ?_
  obtain ⟨M13, e14, h⟩ := zB_bind h
  refine V_copy Z e14 (isH_ltp hu 6) (isH_ltp ht 6) w416 w418 w417 w73 (show decode cX0_become 95 = .ok (.invokestatic 58, 3) by decide +kernel) rfl ?_
  refine V_aload_n 1 Z rfl rfl (show decode cX0_become 98 = .ok (.aload_n 1, 1) by decide +kernel) ?_
  refine V_getR 7 (u + 7) Z zc0 (isH_lt hu) (shH hu) (by decide) rfl (isH_ne hu 7) ⟨rfl, rfl, rfl⟩ w108 (show decode cX0_become 99 = .ok (.getfield 34, 3) by decide +kernel) ?_
  refine V_iconst 0 (by decide) Z (show decode cX0_become 102 = .ok (.iconst 0, 1) by decide +kernel) ?_
  refine V_aload_n 0 Z rfl rfl (show decode cX0_become 103 = .ok (.aload_n 0, 1) by decide +kernel) ?_
  refine V_getR 7 (t + 7) Z zc0 (isH_lt ht) (shH ht) (by decide) rfl (isH_ne ht 7) ⟨rfl, rfl, rfl⟩ w108 (show decode cX0_become 104 = .ok (.getfield 34, 3) by decide +kernel) ?_
  refine V_iconst 0 (by decide) Z (show decode cX0_become 107 = .ok (.iconst 0, 1) by decide +kernel) ?_
  refine V_bipush 6 (by decide) Z (show decode cX0_become 108 = .ok (.bipush 6, 2) by decide +kernel) ?_
  obtain ⟨M15, e16, h⟩ := zB_bind h
  refine V_copy Z e16 (isH_ltp hu 7) (isH_ltp ht 7) w416 w418 w417 w73 (show decode cX0_become 110 = .ok (.invokestatic 58, 3) by decide +kernel) rfl ?_
  refine V_aload_n 1 Z rfl rfl (show decode cX0_become 113 = .ok (.aload_n 1, 1) by decide +kernel) ?_
  refine V_getR 8 (u + 8) Z zc0 (isH_lt hu) (shH hu) (by decide) rfl (isH_ne hu 8) ⟨rfl, rfl, rfl⟩ w111 (show decode cX0_become 114 = .ok (.getfield 37, 3) by decide +kernel) ?_
  refine V_iconst 0 (by decide) Z (show decode cX0_become 117 = .ok (.iconst 0, 1) by decide +kernel) ?_
  refine V_aload_n 0 Z rfl rfl (show decode cX0_become 118 = .ok (.aload_n 0, 1) by decide +kernel) ?_
  refine V_getR 8 (t + 8) Z zc0 (isH_lt ht) (shH ht) (by decide) rfl (isH_ne ht 8) ⟨rfl, rfl, rfl⟩ w111 (show decode cX0_become 119 = .ok (.getfield 37, 3) by decide +kernel) ?_
  refine V_iconst 0 (by decide) Z (show decode cX0_become 122 = .ok (.iconst 0, 1) by decide +kernel) ?_
  refine V_bipush 10 (by decide) Z (show decode cX0_become 123 = .ok (.bipush 10, 2) by decide +kernel) ?_
  obtain ⟨M17, e18, h⟩ := zB_bind h
  refine V_copy Z e18 (isH_ltp hu 8) (isH_ltp ht 8) w416 w418 w417 w73 (show decode cX0_become 125 = .ok (.invokestatic 58, 3) by decide +kernel) rfl ?_
  refine V_aload_n 0 Z rfl rfl (show decode cX0_become 128 = .ok (.aload_n 0, 1) by decide +kernel) ?_
  refine V_aload_n 1 Z rfl rfl (show decode cX0_become 129 = .ok (.aload_n 1, 1) by decide +kernel) ?_
  refine V_getI 9 Z zc0 (isH_lt hu) (shH hu) (by decide) rfl ⟨rfl, rfl, rfl⟩ w113 (show decode cX0_become 130 = .ok (.getfield 40, 3) by decide +kernel) ?_
  obtain ⟨M19, e20, h⟩ := zB_let h
  refine V_putI 9 Z zc0 (isH_lt ht) (shH ht) (by decide) rfl ⟨rfl, rfl, rfl⟩ rfl rfl w113 (show decode cX0_become 133 = .ok (.putfield 40, 3) by decide +kernel) ?_
  refine V_nmM e20 ?_
  refine V_aload_n 0 Z rfl rfl (show decode cX0_become 136 = .ok (.aload_n 0, 1) by decide +kernel) ?_
  refine V_aload_n 1 Z rfl rfl (show decode cX0_become 137 = .ok (.aload_n 1, 1) by decide +kernel) ?_
  refine V_getI 10 Z zc0 (isH_lt hu) (shH hu) (by decide) rfl ⟨rfl, rfl, rfl⟩ w116 (show decode cX0_become 138 = .ok (.getfield 43, 3) by decide +kernel) ?_
  obtain ⟨M21, e22, h⟩ := zB_let h
  refine V_putI 10 Z zc0 (isH_lt ht) (shH ht) (by decide) rfl ⟨rfl, rfl, rfl⟩ rfl rfl w116 (show decode cX0_become 141 = .ok (.putfield 43, 3) by decide +kernel) ?_
  refine V_nmM e22 ?_
  refine V_aload_n 0 Z rfl rfl (show decode cX0_become 144 = .ok (.aload_n 0, 1) by decide +kernel) ?_
  refine V_aload_n 1 Z rfl rfl (show decode cX0_become 145 = .ok (.aload_n 1, 1) by decide +kernel) ?_
  refine V_getI 11 Z zc0 (isH_lt hu) (shH hu) (by decide) rfl ⟨rfl, rfl, rfl⟩ w118 (show decode cX0_become 146 = .ok (.getfield 46, 3) by decide +kernel) ?_
  obtain ⟨M23, e24, h⟩ := zB_let h
  refine V_putI 11 Z zc0 (isH_lt ht) (shH ht) (by decide) rfl ⟨rfl, rfl, rfl⟩ rfl rfl w118 (show decode cX0_become 149 = .ok (.putfield 46, 3) by decide +kernel) ?_
  refine V_nmM e24 ?_
  refine V_aload_n 0 Z rfl rfl (show decode cX0_become 152 = .ok (.aload_n 0, 1) by decide +kernel) ?_
  refine V_aload_n 1 Z rfl rfl (show decode cX0_become 153 = .ok (.aload_n 1, 1) by decide +kernel) ?_
  refine V_getI 12 Z zc0 (isH_lt hu) (shH hu) (by decide) rfl ⟨rfl, rfl, rfl⟩ w120 (show decode cX0_become 154 = .ok (.getfield 49, 3) by decide +kernel) ?_
  obtain ⟨M25, e26, h⟩ := zB_let h
  refine V_putI 12 Z zc0 (isH_lt ht) (shH ht) (by decide) rfl ⟨rfl, rfl, rfl⟩ rfl rfl w120 (show decode cX0_become 157 = .ok (.putfield 49, 3) by decide +kernel) ?_
  refine V_nmM e26 ?_
  exact V_vretM Z hE h (show decode cX0_become 160 = .ok (.return_, 1) by decide +kernel)
def f_X0_hangUp (t : Nat) (x1 : Int32) (x2 : Int32) (x3 : Int32) (x4 : Int32) (M : zM) : Option (Int32 × zM) :=
  if (M t 0) < 8 then
    (zwr M (t + 1) (M t 0) x1).bind fun (M2 : zM) =>
    (zwr M2 (t + 2) (M2 t 0) x2).bind fun (M4 : zM) =>
    (zwr M4 (t + 3) (M4 t 0) x3).bind fun (M6 : zM) =>
    (zwr M6 (t + 4) (M6 t 0) 0).bind fun (M8 : zM) =>
    (zwr M8 (t + 5) (M8 t 0) x4).bind fun (M10 : zM) =>
    (some (zU M10 t 0 (((M10 t 0) + 1)))).bind fun (M12 : zM) =>
    some ((((M12 t 0) - 1), M12))
  else
    some (((-1), M))
theorem cd_X0_hangUp : zCd yX0_hangUp cX0_hangUp 5 (some .int) 4 := ⟨w256, w65, ⟨by decide, by decide⟩, by decide +kernel⟩
set_option maxHeartbeats 4000000 in
set_option maxRecDepth 20000 in
theorem ok_X0_hangUp {t : Nat} {x1 : Int32} {x2 : Int32} {x3 : Int32} {x4 : Int32} {M : zM} {y : Int32 × zM} (ht : isH t) (h : f_X0_hangUp t x1 x2 x3 x4 M = some y) : zRuns yX0_hangUp cX0_hangUp 5 (some .int) 0 0 [.ref t, .int x1, .int x2, .int x3, .int x4] M (some (.int y.1)) y.2 := by
  refine zRuns_of (by decide +kernel) (Nat.le_of_ble_eq_true rfl) (fun E Z hE => ?_)
  have h := zB_top h
  change VV E 5 0 [(0, Value.ref t), (1, Value.int x1), (2, Value.int x2), (3, Value.int x3), (4, Value.int x4)] [] M
  refine V_aload_n 0 Z rfl rfl (show decode cX0_hangUp 0 = .ok (.aload_n 0, 1) by decide +kernel) ?_
  refine V_getI 0 Z zc0 (isH_lt ht) (shH ht) (by decide) rfl ⟨rfl, rfl, rfl⟩ w92 (show decode cX0_hangUp 1 = .ok (.getfield 9, 3) by decide +kernel) ?_
  refine V_bipush 8 (by decide) Z (show decode cX0_hangUp 4 = .ok (.bipush 8, 2) by decide +kernel) ?_
  refine V_icmp_lt 11 Z (by decide) (show decode cX0_hangUp 6 = .ok (.if_icmp .lt 5, 3) by decide +kernel) (fun c1 => ?_) (fun c1 => ?_)
  · have h := zB_pos c1 h
    refine V_aload_n 0 Z rfl rfl (show decode cX0_hangUp 11 = .ok (.aload_n 0, 1) by decide +kernel) ?_
    refine V_getR 1 (t + 1) Z zc0 (isH_lt ht) (shH ht) (by decide) rfl (isH_ne ht 1) ⟨rfl, rfl, rfl⟩ w95 (show decode cX0_hangUp 12 = .ok (.getfield 15, 3) by decide +kernel) ?_
    refine V_aload_n 0 Z rfl rfl (show decode cX0_hangUp 15 = .ok (.aload_n 0, 1) by decide +kernel) ?_
    refine V_getI 0 Z zc0 (isH_lt ht) (shH ht) (by decide) rfl ⟨rfl, rfl, rfl⟩ w92 (show decode cX0_hangUp 16 = .ok (.getfield 9, 3) by decide +kernel) ?_
    refine V_iload_n 1 Z rfl rfl (show decode cX0_hangUp 19 = .ok (.iload_n 1, 1) by decide +kernel) ?_
    obtain ⟨M2, e3, h⟩ := zB_bind h
    refine V_iast Z e3 (show decode cX0_hangUp 20 = .ok (.iastore, 1) by decide +kernel) ?_
    refine V_aload_n 0 Z rfl rfl (show decode cX0_hangUp 21 = .ok (.aload_n 0, 1) by decide +kernel) ?_
    refine V_getR 2 (t + 2) Z zc0 (isH_lt ht) (shH ht) (by decide) rfl (isH_ne ht 2) ⟨rfl, rfl, rfl⟩ w97 (show decode cX0_hangUp 22 = .ok (.getfield 19, 3) by decide +kernel) ?_
    refine V_aload_n 0 Z rfl rfl (show decode cX0_hangUp 25 = .ok (.aload_n 0, 1) by decide +kernel) ?_
    refine V_getI 0 Z zc0 (isH_lt ht) (shH ht) (by decide) rfl ⟨rfl, rfl, rfl⟩ w92 (show decode cX0_hangUp 26 = .ok (.getfield 9, 3) by decide +kernel) ?_
    refine V_iload_n 2 Z rfl rfl (show decode cX0_hangUp 29 = .ok (.iload_n 2, 1) by decide +kernel) ?_
    obtain ⟨M4, e5, h⟩ := zB_bind h
    refine V_iast Z e5 (show decode cX0_hangUp 30 = .ok (.iastore, 1) by decide +kernel) ?_
    refine V_aload_n 0 Z rfl rfl (show decode cX0_hangUp 31 = .ok (.aload_n 0, 1) by decide +kernel) ?_
    refine V_getR 3 (t + 3) Z zc0 (isH_lt ht) (shH ht) (by decide) rfl (isH_ne ht 3) ⟨rfl, rfl, rfl⟩ w99 (show decode cX0_hangUp 32 = .ok (.getfield 22, 3) by decide +kernel) ?_
    refine V_aload_n 0 Z rfl rfl (show decode cX0_hangUp 35 = .ok (.aload_n 0, 1) by decide +kernel) ?_
    refine V_getI 0 Z zc0 (isH_lt ht) (shH ht) (by decide) rfl ⟨rfl, rfl, rfl⟩ w92 (show decode cX0_hangUp 36 = .ok (.getfield 9, 3) by decide +kernel) ?_
    refine V_iload_n 3 Z rfl rfl (show decode cX0_hangUp 39 = .ok (.iload_n 3, 1) by decide +kernel) ?_
    obtain ⟨M6, e7, h⟩ := zB_bind h
    refine V_iast Z e7 (show decode cX0_hangUp 40 = .ok (.iastore, 1) by decide +kernel) ?_
    refine V_aload_n 0 Z rfl rfl (show decode cX0_hangUp 41 = .ok (.aload_n 0, 1) by decide +kernel) ?_
    refine V_getR 4 (t + 4) Z zc0 (isH_lt ht) (shH ht) (by decide) rfl (isH_ne ht 4) ⟨rfl, rfl, rfl⟩ w101 (show decode cX0_hangUp 42 = .ok (.getfield 25, 3) by decide +kernel) ?_
    refine V_aload_n 0 Z rfl rfl (show decode cX0_hangUp 45 = .ok (.aload_n 0, 1) by decide +kernel) ?_
    refine V_getI 0 Z zc0 (isH_lt ht) (shH ht) (by decide) rfl ⟨rfl, rfl, rfl⟩ w92 (show decode cX0_hangUp 46 = .ok (.getfield 9, 3) by decide +kernel) ?_
    refine V_iconst 0 (by decide) Z (show decode cX0_hangUp 49 = .ok (.iconst 0, 1) by decide +kernel) ?_
    obtain ⟨M8, e9, h⟩ := zB_bind h
    refine V_iast Z e9 (show decode cX0_hangUp 50 = .ok (.iastore, 1) by decide +kernel) ?_
    refine V_aload_n 0 Z rfl rfl (show decode cX0_hangUp 51 = .ok (.aload_n 0, 1) by decide +kernel) ?_
    refine V_getR 5 (t + 5) Z zc0 (isH_lt ht) (shH ht) (by decide) rfl (isH_ne ht 5) ⟨rfl, rfl, rfl⟩ w103 (show decode cX0_hangUp 52 = .ok (.getfield 28, 3) by decide +kernel) ?_
    refine V_aload_n 0 Z rfl rfl (show decode cX0_hangUp 55 = .ok (.aload_n 0, 1) by decide +kernel) ?_
    refine V_getI 0 Z zc0 (isH_lt ht) (shH ht) (by decide) rfl ⟨rfl, rfl, rfl⟩ w92 (show decode cX0_hangUp 56 = .ok (.getfield 9, 3) by decide +kernel) ?_
    refine V_iload 4 Z rfl (show decode cX0_hangUp 59 = .ok (.iload 4, 2) by decide +kernel) ?_
    obtain ⟨M10, e11, h⟩ := zB_bind h
    refine V_iast Z e11 (show decode cX0_hangUp 61 = .ok (.iastore, 1) by decide +kernel) ?_
    refine V_aload_n 0 Z rfl rfl (show decode cX0_hangUp 62 = .ok (.aload_n 0, 1) by decide +kernel) ?_
    refine V_dup rfl Z (show decode cX0_hangUp 63 = .ok (.dup, 1) by decide +kernel) ?_
    refine V_getI 0 Z zc0 (isH_lt ht) (shH ht) (by decide) rfl ⟨rfl, rfl, rfl⟩ w92 (show decode cX0_hangUp 64 = .ok (.getfield 9, 3) by decide +kernel) ?_
    refine V_iconst 1 (by decide) Z (show decode cX0_hangUp 67 = .ok (.iconst 1, 1) by decide +kernel) ?_
    refine V_iadd Z (show decode cX0_hangUp 68 = .ok (.iadd, 1) by decide +kernel) ?_
    obtain ⟨M12, e13, h⟩ := zB_let h
    refine V_putI 0 Z zc0 (isH_lt ht) (shH ht) (by decide) rfl ⟨rfl, rfl, rfl⟩ rfl rfl w92 (show decode cX0_hangUp 69 = .ok (.putfield 9, 3) by decide +kernel) ?_
    refine V_nmM e13 ?_
    refine V_aload_n 0 Z rfl rfl (show decode cX0_hangUp 72 = .ok (.aload_n 0, 1) by decide +kernel) ?_
    refine V_getI 0 Z zc0 (isH_lt ht) (shH ht) (by decide) rfl ⟨rfl, rfl, rfl⟩ w92 (show decode cX0_hangUp 73 = .ok (.getfield 9, 3) by decide +kernel) ?_
    refine V_iconst 1 (by decide) Z (show decode cX0_hangUp 76 = .ok (.iconst 1, 1) by decide +kernel) ?_
    refine V_isub Z (show decode cX0_hangUp 77 = .ok (.isub, 1) by decide +kernel) ?_
    exact V_iretM Z hE h (show decode cX0_hangUp 78 = .ok (.ireturn, 1) by decide +kernel)
  · have h := zB_neg c1 h
    refine V_iconst (-1) (by decide) Z (show decode cX0_hangUp 9 = .ok (.iconst (-1), 1) by decide +kernel) ?_
    exact V_iretM Z hE h (show decode cX0_hangUp 10 = .ok (.ireturn, 1) by decide +kernel)
def f_X1_due_j19 (y0 : Int32) (y1 : Int32) (y4 : Int32) (s0 : Int32) (M : zM) : Option (Int32) :=
  if y0 = 1 then
    some (y4)
  else
    if y0 = 2 then
      some ((2 * y1))
    else
      if y0 = 3 then
        some (s0)
      else
        if y0 = 4 then
          some ((s0 / 2))
        else
          if y0 = 5 then
            some ((y1 / 2))
          else
            if y0 = 6 then
              some ((y4 + 5))
            else
              some (y1)
def f_X1_due (x0 : Int32) (x1 : Int32) (x2 : Int32) (x3 : Int32) (M : zM) : Option (Int32) :=
  (some ((x1 + (x2 / 10)))).bind fun (n7 : Int32) =>
  if x3 ≤ 0 then
    f_X1_due_j19 x0 x1 n7 (2 * x1) M
  else
    f_X1_due_j19 x0 x1 n7 0 M
theorem cd_X1_due : zCd yX1_due cX1_due 6 (some .int) 4 := ⟨w271, w70, ⟨by decide, by decide⟩, by decide +kernel⟩
set_option maxHeartbeats 4000000 in
set_option maxRecDepth 20000 in
theorem ok_X1_due {x0 : Int32} {x1 : Int32} {x2 : Int32} {x3 : Int32} {M : zM} {y : Int32}  (h : f_X1_due x0 x1 x2 x3 M = some y) : zRuns yX1_due cX1_due 6 (some .int) 0 0 [.int x0, .int x1, .int x2, .int x3] M (some (.int y)) M := by
  refine zRuns_of (by decide +kernel) (Nat.le_of_ble_eq_true rfl) (fun E Z hE => ?_)
  have h := zB_top h
  change VV E 6 0 [(0, Value.int x0), (1, Value.int x1), (2, Value.int x2), (3, Value.int x3)] [] M
  have J19 : ∀ (y0 : Int32) (y1 : Int32) (y4 : Int32) (s0 : Int32), (f_X1_due_j19 y0 y1 y4 s0 M).bind some = some y → VV E 6 19 [(0, Value.int y0), (1, Value.int y1), (4, Value.int y4)] [Value.int s0] M := by
    intro y0 y1 y4 s0 h
    refine V_istore [(5, Value.int s0), (0, Value.int y0), (1, Value.int y1), (4, Value.int y4)] Z (by decide) rfl (show decode cX1_due 19 = .ok (.istore 5, 2) by decide +kernel) ?_
    refine V_iload_n 1 Z rfl rfl (show decode cX1_due 21 = .ok (.iload_n 0, 1) by decide +kernel) ?_
    rcases zB_ite h with ⟨c1, h⟩ | ⟨c1, h⟩
    · refine V_tabE (off := 38) 1 60 Z c1 (show decode cX1_due 22 = .ok (.tableswitch 62 1 6 #[38, 46, 50, 53, 58, 41], 38) by decide +kernel) (by decide) ?_
      refine V_iload 3 Z rfl (show decode cX1_due 60 = .ok (.iload 4, 2) by decide +kernel) ?_
      exact V_iretP Z hE h (show decode cX1_due 62 = .ok (.ireturn, 1) by decide +kernel)
    · skip
      rcases zB_ite h with ⟨c2, h⟩ | ⟨c2, h⟩
      · refine V_tabE (off := 46) 2 68 Z c2 (show decode cX1_due 22 = .ok (.tableswitch 62 1 6 #[38, 46, 50, 53, 58, 41], 38) by decide +kernel) (by decide) ?_
        refine V_iconst 2 (by decide) Z (show decode cX1_due 68 = .ok (.iconst 2, 1) by decide +kernel) ?_
        refine V_iload_n 2 Z rfl rfl (show decode cX1_due 69 = .ok (.iload_n 1, 1) by decide +kernel) ?_
        refine V_imul Z (show decode cX1_due 70 = .ok (.imul, 1) by decide +kernel) ?_
        exact V_iretP Z hE h (show decode cX1_due 71 = .ok (.ireturn, 1) by decide +kernel)
      · skip
        rcases zB_ite h with ⟨c3, h⟩ | ⟨c3, h⟩
        · refine V_tabE (off := 50) 3 72 Z c3 (show decode cX1_due 22 = .ok (.tableswitch 62 1 6 #[38, 46, 50, 53, 58, 41], 38) by decide +kernel) (by decide) ?_
          refine V_iload 0 Z rfl (show decode cX1_due 72 = .ok (.iload 5, 2) by decide +kernel) ?_
          exact V_iretP Z hE h (show decode cX1_due 74 = .ok (.ireturn, 1) by decide +kernel)
        · skip
          rcases zB_ite h with ⟨c4, h⟩ | ⟨c4, h⟩
          · refine V_tabE (off := 53) 4 75 Z c4 (show decode cX1_due 22 = .ok (.tableswitch 62 1 6 #[38, 46, 50, 53, 58, 41], 38) by decide +kernel) (by decide) ?_
            refine V_iload 0 Z rfl (show decode cX1_due 75 = .ok (.iload 5, 2) by decide +kernel) ?_
            refine V_iconst 2 (by decide) Z (show decode cX1_due 77 = .ok (.iconst 2, 1) by decide +kernel) ?_
            refine V_idivc (by decide) Z (show decode cX1_due 78 = .ok (.idiv, 1) by decide +kernel) ?_
            exact V_iretP Z hE h (show decode cX1_due 79 = .ok (.ireturn, 1) by decide +kernel)
          · skip
            rcases zB_ite h with ⟨c5, h⟩ | ⟨c5, h⟩
            · refine V_tabE (off := 58) 5 80 Z c5 (show decode cX1_due 22 = .ok (.tableswitch 62 1 6 #[38, 46, 50, 53, 58, 41], 38) by decide +kernel) (by decide) ?_
              refine V_iload_n 2 Z rfl rfl (show decode cX1_due 80 = .ok (.iload_n 1, 1) by decide +kernel) ?_
              refine V_iconst 2 (by decide) Z (show decode cX1_due 81 = .ok (.iconst 2, 1) by decide +kernel) ?_
              refine V_idivc (by decide) Z (show decode cX1_due 82 = .ok (.idiv, 1) by decide +kernel) ?_
              exact V_iretP Z hE h (show decode cX1_due 83 = .ok (.ireturn, 1) by decide +kernel)
            · skip
              rcases zB_ite h with ⟨c6, h⟩ | ⟨c6, h⟩
              · refine V_tabE (off := 41) 6 63 Z c6 (show decode cX1_due 22 = .ok (.tableswitch 62 1 6 #[38, 46, 50, 53, 58, 41], 38) by decide +kernel) (by decide) ?_
                refine V_iload 3 Z rfl (show decode cX1_due 63 = .ok (.iload 4, 2) by decide +kernel) ?_
                refine V_iconst 5 (by decide) Z (show decode cX1_due 65 = .ok (.iconst 5, 1) by decide +kernel) ?_
                refine V_iadd Z (show decode cX1_due 66 = .ok (.iadd, 1) by decide +kernel) ?_
                exact V_iretP Z hE h (show decode cX1_due 67 = .ok (.ireturn, 1) by decide +kernel)
              · skip
                refine V_tabOut 84 Z (show decode cX1_due 22 = .ok (.tableswitch 62 1 6 #[38, 46, 50, 53, 58, 41], 38) by decide +kernel) (z_out (fun i h1 h2 e => by
                    rcases (show i = 1 ∨ i = 2 ∨ i = 3 ∨ i = 4 ∨ i = 5 ∨ i = 6 by omega) with rfl | rfl | rfl | rfl | rfl | rfl
                    · exact c1 e
                    · exact c2 e
                    · exact c3 e
                    · exact c4 e
                    · exact c5 e
                    · exact c6 e)) (by decide) ?_
                refine V_iload_n 2 Z rfl rfl (show decode cX1_due 84 = .ok (.iload_n 1, 1) by decide +kernel) ?_
                exact V_iretP Z hE h (show decode cX1_due 85 = .ok (.ireturn, 1) by decide +kernel)
  refine V_iload_n 1 Z rfl rfl (show decode cX1_due 0 = .ok (.iload_n 1, 1) by decide +kernel) ?_
  refine V_iload_n 2 Z rfl rfl (show decode cX1_due 1 = .ok (.iload_n 2, 1) by decide +kernel) ?_
  refine V_bipush 10 (by decide) Z (show decode cX1_due 2 = .ok (.bipush 10, 2) by decide +kernel) ?_
  refine V_idivc (by decide) Z (show decode cX1_due 4 = .ok (.idiv, 1) by decide +kernel) ?_
  refine V_iadd Z (show decode cX1_due 5 = .ok (.iadd, 1) by decide +kernel) ?_
  obtain ⟨n7, e8, h⟩ := zB_let h
  refine V_nm e8 ?_
  refine V_istore [(4, Value.int n7), (0, Value.int x0), (1, Value.int x1), (2, Value.int x2), (3, Value.int x3)] Z (by decide) rfl (show decode cX1_due 6 = .ok (.istore 4, 2) by decide +kernel) ?_
  refine V_iload_n 4 Z rfl rfl (show decode cX1_due 8 = .ok (.iload_n 3, 1) by decide +kernel) ?_
  refine V_if_le 16 Z (by decide) (show decode cX1_due 9 = .ok (.ifCond .le 7, 3) by decide +kernel) (fun c9 => ?_) (fun c9 => ?_)
  · have h := zB_pos c9 h
    refine V_iconst 2 (by decide) Z (show decode cX1_due 16 = .ok (.iconst 2, 1) by decide +kernel) ?_
    refine V_iload_n 2 Z rfl rfl (show decode cX1_due 17 = .ok (.iload_n 1, 1) by decide +kernel) ?_
    refine V_imul Z (show decode cX1_due 18 = .ok (.imul, 1) by decide +kernel) ?_
    refine V_sub [1, 2, 0] rfl ?_
    exact J19 _ _ _ _ h
  · have h := zB_neg c9 h
    refine V_iconst 0 (by decide) Z (show decode cX1_due 12 = .ok (.iconst 0, 1) by decide +kernel) ?_
    refine V_goto 19 Z (by decide) (show decode cX1_due 13 = .ok (.goto 6, 3) by decide +kernel) ?_
    refine V_sub [1, 2, 0] rfl ?_
    exact J19 _ _ _ _ h
def f_X0_due (t : Nat) (x1 : Int32) (M : zM) : Option (Int32) :=
  (zrd M (t + 1) x1).bind fun (v1 : Int32) =>
  (zrd M (t + 2) x1).bind fun (v3 : Int32) =>
  (zrd M (t + 3) x1).bind fun (v5 : Int32) =>
  (zrd M (t + 4) x1).bind fun (v7 : Int32) =>
  (f_X1_due v1 v3 v5 v7 M).bind fun (v10 : Int32) =>
  some (v10)
theorem cd_X0_due : zCd yX0_due cX0_due 2 (some .int) 1 := ⟨w268, w65, ⟨by decide, by decide⟩, by decide +kernel⟩
set_option maxHeartbeats 4000000 in
set_option maxRecDepth 20000 in
theorem ok_X0_due {t : Nat} {x1 : Int32} {M : zM} {y : Int32} (ht : isH t) (h : f_X0_due t x1 M = some y) : zRuns yX0_due cX0_due 2 (some .int) 1 25 [.ref t, .int x1] M (some (.int y)) M := by
  refine zRuns_of (by decide +kernel) (Nat.le_of_ble_eq_true rfl) (fun E Z hE => ?_)
  have h := zB_top h
  change VV E 2 0 [(0, Value.ref t), (1, Value.int x1)] [] M
  refine V_aload_n 0 Z rfl rfl (show decode cX0_due 0 = .ok (.aload_n 0, 1) by decide +kernel) ?_
  refine V_getR 1 (t + 1) Z zc0 (isH_lt ht) (shH ht) (by decide) rfl (isH_ne ht 1) ⟨rfl, rfl, rfl⟩ w95 (show decode cX0_due 1 = .ok (.getfield 15, 3) by decide +kernel) ?_
  refine V_iload_n 1 Z rfl rfl (show decode cX0_due 4 = .ok (.iload_n 1, 1) by decide +kernel) ?_
  obtain ⟨v1, e2, h⟩ := zB_bind h
  refine V_iald Z e2 (show decode cX0_due 5 = .ok (.iaload, 1) by decide +kernel) ?_
  refine V_aload_n 0 Z rfl rfl (show decode cX0_due 6 = .ok (.aload_n 0, 1) by decide +kernel) ?_
  refine V_getR 2 (t + 2) Z zc0 (isH_lt ht) (shH ht) (by decide) rfl (isH_ne ht 2) ⟨rfl, rfl, rfl⟩ w97 (show decode cX0_due 7 = .ok (.getfield 19, 3) by decide +kernel) ?_
  refine V_iload_n 1 Z rfl rfl (show decode cX0_due 10 = .ok (.iload_n 1, 1) by decide +kernel) ?_
  obtain ⟨v3, e4, h⟩ := zB_bind h
  refine V_iald Z e4 (show decode cX0_due 11 = .ok (.iaload, 1) by decide +kernel) ?_
  refine V_aload_n 0 Z rfl rfl (show decode cX0_due 12 = .ok (.aload_n 0, 1) by decide +kernel) ?_
  refine V_getR 3 (t + 3) Z zc0 (isH_lt ht) (shH ht) (by decide) rfl (isH_ne ht 3) ⟨rfl, rfl, rfl⟩ w99 (show decode cX0_due 13 = .ok (.getfield 22, 3) by decide +kernel) ?_
  refine V_iload_n 1 Z rfl rfl (show decode cX0_due 16 = .ok (.iload_n 1, 1) by decide +kernel) ?_
  obtain ⟨v5, e6, h⟩ := zB_bind h
  refine V_iald Z e6 (show decode cX0_due 17 = .ok (.iaload, 1) by decide +kernel) ?_
  refine V_aload_n 0 Z rfl rfl (show decode cX0_due 18 = .ok (.aload_n 0, 1) by decide +kernel) ?_
  refine V_getR 4 (t + 4) Z zc0 (isH_lt ht) (shH ht) (by decide) rfl (isH_ne ht 4) ⟨rfl, rfl, rfl⟩ w101 (show decode cX0_due 19 = .ok (.getfield 25, 3) by decide +kernel) ?_
  refine V_iload_n 1 Z rfl rfl (show decode cX0_due 22 = .ok (.iload_n 1, 1) by decide +kernel) ?_
  obtain ⟨v7, e8, h⟩ := zB_bind h
  refine V_iald Z e8 (show decode cX0_due 23 = .ok (.iaload, 1) by decide +kernel) ?_
  obtain ⟨v10, e9, h⟩ := zB_bind h
  refine V_callS (rest := []) 4 Z (ok_X1_due  e9) cd_X1_due w269 w270 rfl (show decode cX0_due 24 = .ok (.invokestatic 64, 3) by decide +kernel) rfl ?_
  exact V_iretP Z hE h (show decode cX0_due 27 = .ok (.ireturn, 1) by decide +kernel)
def f_X0_hangs (t : Nat) (x1 : Int32) (M : zM) : Option (Int32) :=
  (zrd M (t + 3) x1).bind fun (v1 : Int32) =>
  if 50 ≤ v1 then
    some ((0 : Int32))
  else
    some ((1 : Int32))
theorem cd_X0_hangs : zCd yX0_hangs cX0_hangs 2 (some .boolean) 1 := ⟨w278, w65, ⟨by decide, by decide⟩, by decide +kernel⟩
set_option maxHeartbeats 4000000 in
set_option maxRecDepth 20000 in
theorem ok_X0_hangs {t : Nat} {x1 : Int32} {M : zM} {y : Int32} (ht : isH t) (h : f_X0_hangs t x1 M = some y) : zRuns yX0_hangs cX0_hangs 2 (some .boolean) 0 0 [.ref t, .int x1] M (some (.int y)) M := by
  refine zRuns_of (by decide +kernel) (Nat.le_of_ble_eq_true rfl) (fun E Z hE => ?_)
  have h := zB_top h
  change VV E 2 0 [(0, Value.ref t), (1, Value.int x1)] [] M
  refine V_aload_n 0 Z rfl rfl (show decode cX0_hangs 0 = .ok (.aload_n 0, 1) by decide +kernel) ?_
  refine V_getR 3 (t + 3) Z zc0 (isH_lt ht) (shH ht) (by decide) rfl (isH_ne ht 3) ⟨rfl, rfl, rfl⟩ w99 (show decode cX0_hangs 1 = .ok (.getfield 22, 3) by decide +kernel) ?_
  refine V_iload_n 1 Z rfl rfl (show decode cX0_hangs 4 = .ok (.iload_n 1, 1) by decide +kernel) ?_
  obtain ⟨v1, e2, h⟩ := zB_bind h
  refine V_iald Z e2 (show decode cX0_hangs 5 = .ok (.iaload, 1) by decide +kernel) ?_
  refine V_bipush 50 (by decide) Z (show decode cX0_hangs 6 = .ok (.bipush 50, 2) by decide +kernel) ?_
  refine V_icmp_ge 15 Z (by decide) (show decode cX0_hangs 8 = .ok (.if_icmp .ge 7, 3) by decide +kernel) (fun c3 => ?_) (fun c3 => ?_)
  · have h := zB_pos c3 h
    refine V_iconst 0 (by decide) Z (show decode cX0_hangs 15 = .ok (.iconst 0, 1) by decide +kernel) ?_
    exact V_zretP Z hE h rfl (show decode cX0_hangs 16 = .ok (.ireturn, 1) by decide +kernel)
  · have h := zB_neg c3 h
    refine V_iconst 1 (by decide) Z (show decode cX0_hangs 11 = .ok (.iconst 1, 1) by decide +kernel) ?_
    refine V_goto 16 Z (by decide) (show decode cX0_hangs 12 = .ok (.goto 4, 3) by decide +kernel) ?_
    exact V_zretP Z hE h rfl (show decode cX0_hangs 16 = .ok (.ireturn, 1) by decide +kernel)
def f_X0_hanging_l4 (t : Nat) (M : zM) : Int32 × Int32 → Option ((Int32 × Int32) ⊕ (Int32))
  | (y1, y2) =>
    if (M t 0) ≤ y2 then
      some (.inr (y1))
    else
      (f_X0_hangs t y2 M).bind fun (v3 : Int32) =>
      if v3 = 0 then
        (some (y2 + 1)).bind fun (n5 : Int32) =>
        some (.inl ((y1, n5)))
      else
        (some ((y1 ||| (1 <<< (y2 &&& 31))))).bind fun (n7 : Int32) =>
        (some (y2 + 1)).bind fun (n9 : Int32) =>
        some (.inl ((n7, n9)))
def f_X0_hanging (t : Nat) (M : zM) : Option (Int32) :=
  zIter (f_X0_hanging_l4 t M) 1000 (0, 0)
theorem cd_X0_hanging : zCd yX0_hanging cX0_hanging 3 (some .int) 0 := ⟨w346, w65, ⟨by decide, by decide⟩, by decide +kernel⟩
set_option maxHeartbeats 4000000 in
set_option maxRecDepth 20000 in
theorem ok_X0_hanging {t : Nat} {M : zM} {y : Int32} (ht : isH t) (h : f_X0_hanging t M = some y) : zRuns yX0_hanging cX0_hanging 3 (some .int) 1 21 [.ref t] M (some (.int y)) M := by
  refine zRuns_of (by decide +kernel) (Nat.le_of_ble_eq_true rfl) (fun E Z hE => ?_)
  have h := zB_top h
  change VV E 3 0 [(0, Value.ref t)] [] M
  refine V_iconst 0 (by decide) Z (show decode cX0_hanging 0 = .ok (.iconst 0, 1) by decide +kernel) ?_
  refine V_istore_n [(1, Value.int 0), (0, Value.ref t)] Z (by decide) rfl rfl (show decode cX0_hanging 1 = .ok (.istore_n 1, 1) by decide +kernel) ?_
  refine V_iconst 0 (by decide) Z (show decode cX0_hanging 2 = .ok (.iconst 0, 1) by decide +kernel) ?_
  refine V_istore_n [(2, Value.int 0), (1, Value.int 0), (0, Value.ref t)] Z (by decide) rfl rfl (show decode cX0_hanging 3 = .ok (.istore_n 2, 1) by decide +kernel) ?_
  refine V_sub [2, 1, 0] rfl ?_
  refine zIter_loop' (K := some) (fun s : Int32 × Int32 => VV E 3 4 [(0, Value.ref t), (1, Value.int s.1), (2, Value.int s.2)] [] M) (fun K1 s c1_i c1_r h => ?_) _ _ h
  obtain ⟨y1, y2⟩ := s
  change VV E 3 4 [(0, Value.ref t), (1, Value.int y1), (2, Value.int y2)] [] M
  refine V_iload_n 2 Z rfl rfl (show decode cX0_hanging 4 = .ok (.iload_n 2, 1) by decide +kernel) ?_
  refine V_aload_n 0 Z rfl rfl (show decode cX0_hanging 5 = .ok (.aload_n 0, 1) by decide +kernel) ?_
  refine V_getI 0 Z zc0 (isH_lt ht) (shH ht) (by decide) rfl ⟨rfl, rfl, rfl⟩ w92 (show decode cX0_hanging 6 = .ok (.getfield 9, 3) by decide +kernel) ?_
  refine V_icmp_ge 32 Z (by decide) (show decode cX0_hanging 9 = .ok (.if_icmp .ge 23, 3) by decide +kernel) (fun c1 => ?_) (fun c1 => ?_)
  · have h := zB_pos c1 h
    refine V_iload_n 1 Z rfl rfl (show decode cX0_hanging 32 = .ok (.iload_n 1, 1) by decide +kernel) ?_
    have h := c1_r _ h
    exact V_iretP Z hE h (show decode cX0_hanging 33 = .ok (.ireturn, 1) by decide +kernel)
  · have h := zB_neg c1 h
    refine V_aload_n 0 Z rfl rfl (show decode cX0_hanging 12 = .ok (.aload_n 0, 1) by decide +kernel) ?_
    refine V_iload_n 2 Z rfl rfl (show decode cX0_hanging 13 = .ok (.iload_n 2, 1) by decide +kernel) ?_
    obtain ⟨v3, e2, h⟩ := zB_bind h
    refine V_callV (rest := []) 1 Z (ok_X0_hangs ht e2) cd_X0_hangs zc0 (isH_lt ht) (shH ht) w347 w276 w277 rfl (show decode cX0_hanging 14 = .ok (.invokevirtual 70, 3) by decide +kernel) rfl ?_
    refine V_if_eq 26 Z (by decide) (show decode cX0_hanging 17 = .ok (.ifCond .eq 9, 3) by decide +kernel) (fun c4 => ?_) (fun c4 => ?_)
    · have h := zB_pos c4 h
      obtain ⟨n5, e6, h⟩ := zB_let h
      refine V_iinck 1 1 2 n5 [(2, Value.int n5), (0, Value.ref t), (1, Value.int y1)] Z (by decide) (by decide) rfl e6 rfl (show decode cX0_hanging 26 = .ok (.iinc 2 1, 3) by decide +kernel) ?_
      refine V_goto 4 Z (by decide) (show decode cX0_hanging 29 = .ok (.goto (-25), 3) by decide +kernel) ?_
      refine V_sub [1, 2, 0] rfl ?_
      exact c1_i _ h
    · have h := zB_neg c4 h
      refine V_iload_n 1 Z rfl rfl (show decode cX0_hanging 20 = .ok (.iload_n 1, 1) by decide +kernel) ?_
      refine V_iconst 1 (by decide) Z (show decode cX0_hanging 21 = .ok (.iconst 1, 1) by decide +kernel) ?_
      refine V_iload_n 2 Z rfl rfl (show decode cX0_hanging 22 = .ok (.iload_n 2, 1) by decide +kernel) ?_
      refine V_ishl Z (show decode cX0_hanging 23 = .ok (.ishl, 1) by decide +kernel) ?_
      refine V_ior Z (show decode cX0_hanging 24 = .ok (.ior, 1) by decide +kernel) ?_
      obtain ⟨n7, e8, h⟩ := zB_let h
      refine V_nm e8 ?_
      refine V_istore_n [(1, Value.int n7), (0, Value.ref t), (2, Value.int y2)] Z (by decide) rfl rfl (show decode cX0_hanging 25 = .ok (.istore_n 1, 1) by decide +kernel) ?_
      obtain ⟨n9, e10, h⟩ := zB_let h
      refine V_iinck 1 1 2 n9 [(2, Value.int n9), (1, Value.int n7), (0, Value.ref t)] Z (by decide) (by decide) rfl e10 rfl (show decode cX0_hanging 26 = .ok (.iinc 2 1, 3) by decide +kernel) ?_
      refine V_goto 4 Z (by decide) (show decode cX0_hanging 29 = .ok (.goto (-25), 3) by decide +kernel) ?_
      refine V_sub [2, 1, 0] rfl ?_
      exact c1_i _ h
def f_X0_foesOf_l24 (t : Nat) (y1 : Int32) (M : zM) : Int32 × Int32 → Option ((Int32 × Int32) ⊕ (Int32))
  | (y2, y3) =>
    if (M t 0) ≤ y3 then
      some (.inr (y2))
    else
      (zrd M (t + 5) y3).bind fun (v2 : Int32) =>
      if v2 = y1 then
        (some ((y2 ||| (1 <<< (y3 &&& 31))))).bind fun (n7 : Int32) =>
        (some (y3 + 1)).bind fun (n9 : Int32) =>
        some (.inl ((n7, n9)))
      else
        (some (y3 + 1)).bind fun (n5 : Int32) =>
        some (.inl ((y2, n5)))
def f_X0_foesOf_j21 (t : Nat) (y1 : Int32) (s0 : Int32) (M : zM) : Option (Int32) :=
  zIter (f_X0_foesOf_l24 t y1 M) 1000 (s0, 0)
def f_X0_foesOf (t : Nat) (x1 : Int32) (M : zM) : Option (Int32) :=
  (zrd M (t + 5) x1).bind fun (v11 : Int32) =>
  if v11 < 0 then
    f_X0_foesOf_j21 t x1 0 M
  else
    (zrd M (t + 5) x1).bind fun (v14 : Int32) =>
    f_X0_foesOf_j21 t x1 (1 <<< (v14 &&& 31)) M
theorem cd_X0_foesOf : zCd yX0_foesOf cX0_foesOf 4 (some .int) 1 := ⟨w282, w65, ⟨by decide, by decide⟩, by decide +kernel⟩
set_option maxHeartbeats 4000000 in
set_option maxRecDepth 20000 in
theorem ok_X0_foesOf {t : Nat} {x1 : Int32} {M : zM} {y : Int32} (ht : isH t) (h : f_X0_foesOf t x1 M = some y) : zRuns yX0_foesOf cX0_foesOf 4 (some .int) 0 0 [.ref t, .int x1] M (some (.int y)) M := by
  refine zRuns_of (by decide +kernel) (Nat.le_of_ble_eq_true rfl) (fun E Z hE => ?_)
  have h := zB_top h
  change VV E 4 0 [(0, Value.ref t), (1, Value.int x1)] [] M
  have J21 : ∀ (y1 : Int32) (s0 : Int32), (f_X0_foesOf_j21 t y1 s0 M).bind some = some y → VV E 4 21 [(0, Value.ref t), (1, Value.int y1)] [Value.int s0] M := by
    intro y1 s0 h
    refine V_istore_n [(2, Value.int s0), (0, Value.ref t), (1, Value.int y1)] Z (by decide) rfl rfl (show decode cX0_foesOf 21 = .ok (.istore_n 2, 1) by decide +kernel) ?_
    refine V_iconst 0 (by decide) Z (show decode cX0_foesOf 22 = .ok (.iconst 0, 1) by decide +kernel) ?_
    refine V_istore_n [(3, Value.int 0), (2, Value.int s0), (0, Value.ref t), (1, Value.int y1)] Z (by decide) rfl rfl (show decode cX0_foesOf 23 = .ok (.istore_n 3, 1) by decide +kernel) ?_
    refine V_sub [2, 3, 1, 0] rfl ?_
    refine zIter_loop' (K := some) (fun s : Int32 × Int32 => VV E 4 24 [(0, Value.ref t), (1, Value.int y1), (2, Value.int s.1), (3, Value.int s.2)] [] M) (fun K1 s c1_i c1_r h => ?_) _ _ h
    obtain ⟨y2, y3⟩ := s
    change VV E 4 24 [(0, Value.ref t), (1, Value.int y1), (2, Value.int y2), (3, Value.int y3)] [] M
    refine V_iload_n 3 Z rfl rfl (show decode cX0_foesOf 24 = .ok (.iload_n 3, 1) by decide +kernel) ?_
    refine V_aload_n 0 Z rfl rfl (show decode cX0_foesOf 25 = .ok (.aload_n 0, 1) by decide +kernel) ?_
    refine V_getI 0 Z zc0 (isH_lt ht) (shH ht) (by decide) rfl ⟨rfl, rfl, rfl⟩ w92 (show decode cX0_foesOf 26 = .ok (.getfield 9, 3) by decide +kernel) ?_
    refine V_icmp_ge 54 Z (by decide) (show decode cX0_foesOf 29 = .ok (.if_icmp .ge 25, 3) by decide +kernel) (fun c1 => ?_) (fun c1 => ?_)
    · have h := zB_pos c1 h
      refine V_iload_n 2 Z rfl rfl (show decode cX0_foesOf 54 = .ok (.iload_n 2, 1) by decide +kernel) ?_
      have h := c1_r _ h
      exact V_iretP Z hE h (show decode cX0_foesOf 55 = .ok (.ireturn, 1) by decide +kernel)
    · have h := zB_neg c1 h
      refine V_aload_n 0 Z rfl rfl (show decode cX0_foesOf 32 = .ok (.aload_n 0, 1) by decide +kernel) ?_
      refine V_getR 5 (t + 5) Z zc0 (isH_lt ht) (shH ht) (by decide) rfl (isH_ne ht 5) ⟨rfl, rfl, rfl⟩ w103 (show decode cX0_foesOf 33 = .ok (.getfield 28, 3) by decide +kernel) ?_
      refine V_iload_n 3 Z rfl rfl (show decode cX0_foesOf 36 = .ok (.iload_n 3, 1) by decide +kernel) ?_
      obtain ⟨v2, e3, h⟩ := zB_bind h
      refine V_iald Z e3 (show decode cX0_foesOf 37 = .ok (.iaload, 1) by decide +kernel) ?_
      refine V_iload_n 1 Z rfl rfl (show decode cX0_foesOf 38 = .ok (.iload_n 1, 1) by decide +kernel) ?_
      refine V_icmp_ne 48 Z (by decide) (show decode cX0_foesOf 39 = .ok (.if_icmp .ne 9, 3) by decide +kernel) (fun c4 => ?_) (fun c4 => ?_)
      · have h := zB_neg c4 h
        obtain ⟨n5, e6, h⟩ := zB_let h
        refine V_iinck 1 1 3 n5 [(3, Value.int n5), (0, Value.ref t), (1, Value.int y1), (2, Value.int y2)] Z (by decide) (by decide) rfl e6 rfl (show decode cX0_foesOf 48 = .ok (.iinc 3 1, 3) by decide +kernel) ?_
        refine V_goto 24 Z (by decide) (show decode cX0_foesOf 51 = .ok (.goto (-27), 3) by decide +kernel) ?_
        refine V_sub [1, 2, 3, 0] rfl ?_
        exact c1_i _ h
      · have h := zB_pos c4 h
        refine V_iload_n 2 Z rfl rfl (show decode cX0_foesOf 42 = .ok (.iload_n 2, 1) by decide +kernel) ?_
        refine V_iconst 1 (by decide) Z (show decode cX0_foesOf 43 = .ok (.iconst 1, 1) by decide +kernel) ?_
        refine V_iload_n 3 Z rfl rfl (show decode cX0_foesOf 44 = .ok (.iload_n 3, 1) by decide +kernel) ?_
        refine V_ishl Z (show decode cX0_foesOf 45 = .ok (.ishl, 1) by decide +kernel) ?_
        refine V_ior Z (show decode cX0_foesOf 46 = .ok (.ior, 1) by decide +kernel) ?_
        obtain ⟨n7, e8, h⟩ := zB_let h
        refine V_nm e8 ?_
        refine V_istore_n [(2, Value.int n7), (0, Value.ref t), (1, Value.int y1), (3, Value.int y3)] Z (by decide) rfl rfl (show decode cX0_foesOf 47 = .ok (.istore_n 2, 1) by decide +kernel) ?_
        obtain ⟨n9, e10, h⟩ := zB_let h
        refine V_iinck 1 1 3 n9 [(3, Value.int n9), (2, Value.int n7), (0, Value.ref t), (1, Value.int y1)] Z (by decide) (by decide) rfl e10 rfl (show decode cX0_foesOf 48 = .ok (.iinc 3 1, 3) by decide +kernel) ?_
        refine V_goto 24 Z (by decide) (show decode cX0_foesOf 51 = .ok (.goto (-27), 3) by decide +kernel) ?_
        refine V_sub [2, 3, 1, 0] rfl ?_
        exact c1_i _ h
  refine V_aload_n 0 Z rfl rfl (show decode cX0_foesOf 0 = .ok (.aload_n 0, 1) by decide +kernel) ?_
  refine V_getR 5 (t + 5) Z zc0 (isH_lt ht) (shH ht) (by decide) rfl (isH_ne ht 5) ⟨rfl, rfl, rfl⟩ w103 (show decode cX0_foesOf 1 = .ok (.getfield 28, 3) by decide +kernel) ?_
  refine V_iload_n 1 Z rfl rfl (show decode cX0_foesOf 4 = .ok (.iload_n 1, 1) by decide +kernel) ?_
  obtain ⟨v11, e12, h⟩ := zB_bind h
  refine V_iald Z e12 (show decode cX0_foesOf 5 = .ok (.iaload, 1) by decide +kernel) ?_
  refine V_if_lt 20 Z (by decide) (show decode cX0_foesOf 6 = .ok (.ifCond .lt 14, 3) by decide +kernel) (fun c13 => ?_) (fun c13 => ?_)
  · have h := zB_pos c13 h
    refine V_iconst 0 (by decide) Z (show decode cX0_foesOf 20 = .ok (.iconst 0, 1) by decide +kernel) ?_
    exact J21 _ _ h
  · have h := zB_neg c13 h
    refine V_iconst 1 (by decide) Z (show decode cX0_foesOf 9 = .ok (.iconst 1, 1) by decide +kernel) ?_
    refine V_aload_n 0 Z rfl rfl (show decode cX0_foesOf 10 = .ok (.aload_n 0, 1) by decide +kernel) ?_
    refine V_getR 5 (t + 5) Z zc0 (isH_lt ht) (shH ht) (by decide) rfl (isH_ne ht 5) ⟨rfl, rfl, rfl⟩ w103 (show decode cX0_foesOf 11 = .ok (.getfield 28, 3) by decide +kernel) ?_
    refine V_iload_n 1 Z rfl rfl (show decode cX0_foesOf 14 = .ok (.iload_n 1, 1) by decide +kernel) ?_
    obtain ⟨v14, e15, h⟩ := zB_bind h
    refine V_iald Z e15 (show decode cX0_foesOf 15 = .ok (.iaload, 1) by decide +kernel) ?_
    refine V_ishl Z (show decode cX0_foesOf 16 = .ok (.ishl, 1) by decide +kernel) ?_
    refine V_goto 21 Z (by decide) (show decode cX0_foesOf 17 = .ok (.goto 4, 3) by decide +kernel) ?_
    exact J21 _ _ h
def f_X0_pairsIn_l4 (t : Nat) (y1 : Int32) (M : zM) : Int32 × Int32 → Option ((Int32 × Int32) ⊕ (Int32))
  | (y2, y3) =>
    if (M t 0) ≤ y3 then
      some (.inr (y2))
    else
      (zrd M (t + 5) y3).bind fun (v2 : Int32) =>
      if ((y1 >>> (y3 &&& 31)) &&& 1) = 1 then
        if v2 < 0 then
          (some (y3 + 1)).bind fun (n8 : Int32) =>
          some (.inl ((y2, n8)))
        else
          if (M t 0) ≤ v2 then
            (some (y3 + 1)).bind fun (n11 : Int32) =>
            some (.inl ((y2, n11)))
          else
            if ((y1 >>> (v2 &&& 31)) &&& 1) = 1 then
              if y3 < v2 then
                (some (y2 + 1)).bind fun (n17 : Int32) =>
                (some (y3 + 1)).bind fun (n19 : Int32) =>
                some (.inl ((n17, n19)))
              else
                (zrd M (t + 5) v2).bind fun (v21 : Int32) =>
                if v21 = y3 then
                  (some (y3 + 1)).bind fun (n24 : Int32) =>
                  some (.inl ((y2, n24)))
                else
                  (some (y2 + 1)).bind fun (n26 : Int32) =>
                  (some (y3 + 1)).bind fun (n28 : Int32) =>
                  some (.inl ((n26, n28)))
            else
              (some (y3 + 1)).bind fun (n14 : Int32) =>
              some (.inl ((y2, n14)))
      else
        (some (y3 + 1)).bind fun (n5 : Int32) =>
        some (.inl ((y2, n5)))
def f_X0_pairsIn (t : Nat) (x1 : Int32) (M : zM) : Option (Int32) :=
  zIter (f_X0_pairsIn_l4 t x1 M) 1000 (0, 0)
theorem cd_X0_pairsIn : zCd yX0_pairsIn cX0_pairsIn 5 (some .int) 1 := ⟨w382, w65, ⟨by decide, by decide⟩, by decide +kernel⟩
set_option maxHeartbeats 4000000 in
set_option maxRecDepth 20000 in
theorem ok_X0_pairsIn {t : Nat} {x1 : Int32} {M : zM} {y : Int32} (ht : isH t) (h : f_X0_pairsIn t x1 M = some y) : zRuns yX0_pairsIn cX0_pairsIn 5 (some .int) 0 0 [.ref t, .int x1] M (some (.int y)) M := by
  refine zRuns_of (by decide +kernel) (Nat.le_of_ble_eq_true rfl) (fun E Z hE => ?_)
  have h := zB_top h
  change VV E 5 0 [(0, Value.ref t), (1, Value.int x1)] [] M
  refine V_iconst 0 (by decide) Z (show decode cX0_pairsIn 0 = .ok (.iconst 0, 1) by decide +kernel) ?_
  refine V_istore_n [(2, Value.int 0), (0, Value.ref t), (1, Value.int x1)] Z (by decide) rfl rfl (show decode cX0_pairsIn 1 = .ok (.istore_n 2, 1) by decide +kernel) ?_
  refine V_iconst 0 (by decide) Z (show decode cX0_pairsIn 2 = .ok (.iconst 0, 1) by decide +kernel) ?_
  refine V_istore_n [(3, Value.int 0), (2, Value.int 0), (0, Value.ref t), (1, Value.int x1)] Z (by decide) rfl rfl (show decode cX0_pairsIn 3 = .ok (.istore_n 3, 1) by decide +kernel) ?_
  refine V_sub [2, 3, 1, 0] rfl ?_
  refine zIter_loop' (K := some) (fun s : Int32 × Int32 => VV E 5 4 [(0, Value.ref t), (1, Value.int x1), (2, Value.int s.1), (3, Value.int s.2)] [] M) (fun K1 s c1_i c1_r h => ?_) _ _ h
  obtain ⟨y2, y3⟩ := s
  change VV E 5 4 [(0, Value.ref t), (1, Value.int x1), (2, Value.int y2), (3, Value.int y3)] [] M
  refine V_iload_n 3 Z rfl rfl (show decode cX0_pairsIn 4 = .ok (.iload_n 3, 1) by decide +kernel) ?_
  refine V_aload_n 0 Z rfl rfl (show decode cX0_pairsIn 5 = .ok (.aload_n 0, 1) by decide +kernel) ?_
  refine V_getI 0 Z zc0 (isH_lt ht) (shH ht) (by decide) rfl ⟨rfl, rfl, rfl⟩ w92 (show decode cX0_pairsIn 6 = .ok (.getfield 9, 3) by decide +kernel) ?_
  refine V_icmp_ge 79 Z (by decide) (show decode cX0_pairsIn 9 = .ok (.if_icmp .ge 70, 3) by decide +kernel) (fun c1 => ?_) (fun c1 => ?_)
  · have h := zB_pos c1 h
    refine V_iload_n 2 Z rfl rfl (show decode cX0_pairsIn 79 = .ok (.iload_n 2, 1) by decide +kernel) ?_
    have h := c1_r _ h
    exact V_iretP Z hE h (show decode cX0_pairsIn 80 = .ok (.ireturn, 1) by decide +kernel)
  · have h := zB_neg c1 h
    refine V_aload_n 0 Z rfl rfl (show decode cX0_pairsIn 12 = .ok (.aload_n 0, 1) by decide +kernel) ?_
    refine V_getR 5 (t + 5) Z zc0 (isH_lt ht) (shH ht) (by decide) rfl (isH_ne ht 5) ⟨rfl, rfl, rfl⟩ w103 (show decode cX0_pairsIn 13 = .ok (.getfield 28, 3) by decide +kernel) ?_
    refine V_iload_n 3 Z rfl rfl (show decode cX0_pairsIn 16 = .ok (.iload_n 3, 1) by decide +kernel) ?_
    obtain ⟨v2, e3, h⟩ := zB_bind h
    refine V_iald Z e3 (show decode cX0_pairsIn 17 = .ok (.iaload, 1) by decide +kernel) ?_
    refine V_istore [(4, Value.int v2), (0, Value.ref t), (1, Value.int x1), (2, Value.int y2), (3, Value.int y3)] Z (by decide) rfl (show decode cX0_pairsIn 18 = .ok (.istore 4, 2) by decide +kernel) ?_
    refine V_iload_n 2 Z rfl rfl (show decode cX0_pairsIn 20 = .ok (.iload_n 1, 1) by decide +kernel) ?_
    refine V_iload_n 4 Z rfl rfl (show decode cX0_pairsIn 21 = .ok (.iload_n 3, 1) by decide +kernel) ?_
    refine V_ishr Z (show decode cX0_pairsIn 22 = .ok (.ishr, 1) by decide +kernel) ?_
    refine V_iconst 1 (by decide) Z (show decode cX0_pairsIn 23 = .ok (.iconst 1, 1) by decide +kernel) ?_
    refine V_iand Z (show decode cX0_pairsIn 24 = .ok (.iand, 1) by decide +kernel) ?_
    refine V_iconst 1 (by decide) Z (show decode cX0_pairsIn 25 = .ok (.iconst 1, 1) by decide +kernel) ?_
    refine V_icmp_ne 73 Z (by decide) (show decode cX0_pairsIn 26 = .ok (.if_icmp .ne 47, 3) by decide +kernel) (fun c4 => ?_) (fun c4 => ?_)
    · have h := zB_neg c4 h
      obtain ⟨n5, e6, h⟩ := zB_let h
      refine V_iinck 1 1 4 n5 [(3, Value.int n5), (4, Value.int v2), (0, Value.ref t), (1, Value.int x1), (2, Value.int y2)] Z (by decide) (by decide) rfl e6 rfl (show decode cX0_pairsIn 73 = .ok (.iinc 3 1, 3) by decide +kernel) ?_
      refine V_goto 4 Z (by decide) (show decode cX0_pairsIn 76 = .ok (.goto (-72), 3) by decide +kernel) ?_
      refine V_sub [2, 3, 4, 0] rfl ?_
      exact c1_i _ h
    · have h := zB_pos c4 h
      refine V_iload 0 Z rfl (show decode cX0_pairsIn 29 = .ok (.iload 4, 2) by decide +kernel) ?_
      refine V_if_lt 73 Z (by decide) (show decode cX0_pairsIn 31 = .ok (.ifCond .lt 42, 3) by decide +kernel) (fun c7 => ?_) (fun c7 => ?_)
      · have h := zB_pos c7 h
        obtain ⟨n8, e9, h⟩ := zB_let h
        refine V_iinck 1 1 4 n8 [(3, Value.int n8), (4, Value.int v2), (0, Value.ref t), (1, Value.int x1), (2, Value.int y2)] Z (by decide) (by decide) rfl e9 rfl (show decode cX0_pairsIn 73 = .ok (.iinc 3 1, 3) by decide +kernel) ?_
        refine V_goto 4 Z (by decide) (show decode cX0_pairsIn 76 = .ok (.goto (-72), 3) by decide +kernel) ?_
        refine V_sub [2, 3, 4, 0] rfl ?_
        exact c1_i _ h
      · have h := zB_neg c7 h
        refine V_iload 0 Z rfl (show decode cX0_pairsIn 34 = .ok (.iload 4, 2) by decide +kernel) ?_
        refine V_aload_n 1 Z rfl rfl (show decode cX0_pairsIn 36 = .ok (.aload_n 0, 1) by decide +kernel) ?_
        refine V_getI 0 Z zc0 (isH_lt ht) (shH ht) (by decide) rfl ⟨rfl, rfl, rfl⟩ w92 (show decode cX0_pairsIn 37 = .ok (.getfield 9, 3) by decide +kernel) ?_
        refine V_icmp_ge 73 Z (by decide) (show decode cX0_pairsIn 40 = .ok (.if_icmp .ge 33, 3) by decide +kernel) (fun c10 => ?_) (fun c10 => ?_)
        · have h := zB_pos c10 h
          obtain ⟨n11, e12, h⟩ := zB_let h
          refine V_iinck 1 1 4 n11 [(3, Value.int n11), (4, Value.int v2), (0, Value.ref t), (1, Value.int x1), (2, Value.int y2)] Z (by decide) (by decide) rfl e12 rfl (show decode cX0_pairsIn 73 = .ok (.iinc 3 1, 3) by decide +kernel) ?_
          refine V_goto 4 Z (by decide) (show decode cX0_pairsIn 76 = .ok (.goto (-72), 3) by decide +kernel) ?_
          refine V_sub [2, 3, 4, 0] rfl ?_
          exact c1_i _ h
        · have h := zB_neg c10 h
          refine V_iload_n 2 Z rfl rfl (show decode cX0_pairsIn 43 = .ok (.iload_n 1, 1) by decide +kernel) ?_
          refine V_iload 0 Z rfl (show decode cX0_pairsIn 44 = .ok (.iload 4, 2) by decide +kernel) ?_
          refine V_ishr Z (show decode cX0_pairsIn 46 = .ok (.ishr, 1) by decide +kernel) ?_
          refine V_iconst 1 (by decide) Z (show decode cX0_pairsIn 47 = .ok (.iconst 1, 1) by decide +kernel) ?_
          refine V_iand Z (show decode cX0_pairsIn 48 = .ok (.iand, 1) by decide +kernel) ?_
          refine V_iconst 1 (by decide) Z (show decode cX0_pairsIn 49 = .ok (.iconst 1, 1) by decide +kernel) ?_
          refine V_icmp_ne 73 Z (by decide) (show decode cX0_pairsIn 50 = .ok (.if_icmp .ne 23, 3) by decide +kernel) (fun c13 => ?_) (fun c13 => ?_)
          · have h := zB_neg c13 h
            obtain ⟨n14, e15, h⟩ := zB_let h
            refine V_iinck 1 1 4 n14 [(3, Value.int n14), (4, Value.int v2), (0, Value.ref t), (1, Value.int x1), (2, Value.int y2)] Z (by decide) (by decide) rfl e15 rfl (show decode cX0_pairsIn 73 = .ok (.iinc 3 1, 3) by decide +kernel) ?_
            refine V_goto 4 Z (by decide) (show decode cX0_pairsIn 76 = .ok (.goto (-72), 3) by decide +kernel) ?_
            refine V_sub [2, 3, 4, 0] rfl ?_
            exact c1_i _ h
          · have h := zB_pos c13 h
            refine V_iload_n 4 Z rfl rfl (show decode cX0_pairsIn 53 = .ok (.iload_n 3, 1) by decide +kernel) ?_
            refine V_iload 0 Z rfl (show decode cX0_pairsIn 54 = .ok (.iload 4, 2) by decide +kernel) ?_
            refine V_icmp_lt 70 Z (by decide) (show decode cX0_pairsIn 56 = .ok (.if_icmp .lt 14, 3) by decide +kernel) (fun c16 => ?_) (fun c16 => ?_)
            · have h := zB_pos c16 h
              obtain ⟨n17, e18, h⟩ := zB_let h
              refine V_iinck 1 1 3 n17 [(2, Value.int n17), (4, Value.int v2), (0, Value.ref t), (1, Value.int x1), (3, Value.int y3)] Z (by decide) (by decide) rfl e18 rfl (show decode cX0_pairsIn 70 = .ok (.iinc 2 1, 3) by decide +kernel) ?_
              obtain ⟨n19, e20, h⟩ := zB_let h
              refine V_iinck 1 1 4 n19 [(3, Value.int n19), (2, Value.int n17), (4, Value.int v2), (0, Value.ref t), (1, Value.int x1)] Z (by decide) (by decide) rfl e20 rfl (show decode cX0_pairsIn 73 = .ok (.iinc 3 1, 3) by decide +kernel) ?_
              refine V_goto 4 Z (by decide) (show decode cX0_pairsIn 76 = .ok (.goto (-72), 3) by decide +kernel) ?_
              refine V_sub [3, 4, 1, 0] rfl ?_
              exact c1_i _ h
            · have h := zB_neg c16 h
              refine V_aload_n 1 Z rfl rfl (show decode cX0_pairsIn 59 = .ok (.aload_n 0, 1) by decide +kernel) ?_
              refine V_getR 5 (t + 5) Z zc0 (isH_lt ht) (shH ht) (by decide) rfl (isH_ne ht 5) ⟨rfl, rfl, rfl⟩ w103 (show decode cX0_pairsIn 60 = .ok (.getfield 28, 3) by decide +kernel) ?_
              refine V_iload 0 Z rfl (show decode cX0_pairsIn 63 = .ok (.iload 4, 2) by decide +kernel) ?_
              obtain ⟨v21, e22, h⟩ := zB_bind h
              refine V_iald Z e22 (show decode cX0_pairsIn 65 = .ok (.iaload, 1) by decide +kernel) ?_
              refine V_iload_n 4 Z rfl rfl (show decode cX0_pairsIn 66 = .ok (.iload_n 3, 1) by decide +kernel) ?_
              refine V_icmp_eq 73 Z (by decide) (show decode cX0_pairsIn 67 = .ok (.if_icmp .eq 6, 3) by decide +kernel) (fun c23 => ?_) (fun c23 => ?_)
              · have h := zB_pos c23 h
                obtain ⟨n24, e25, h⟩ := zB_let h
                refine V_iinck 1 1 4 n24 [(3, Value.int n24), (4, Value.int v2), (0, Value.ref t), (1, Value.int x1), (2, Value.int y2)] Z (by decide) (by decide) rfl e25 rfl (show decode cX0_pairsIn 73 = .ok (.iinc 3 1, 3) by decide +kernel) ?_
                refine V_goto 4 Z (by decide) (show decode cX0_pairsIn 76 = .ok (.goto (-72), 3) by decide +kernel) ?_
                refine V_sub [2, 3, 4, 0] rfl ?_
                exact c1_i _ h
              · have h := zB_neg c23 h
                obtain ⟨n26, e27, h⟩ := zB_let h
                refine V_iinck 1 1 3 n26 [(2, Value.int n26), (4, Value.int v2), (0, Value.ref t), (1, Value.int x1), (3, Value.int y3)] Z (by decide) (by decide) rfl e27 rfl (show decode cX0_pairsIn 70 = .ok (.iinc 2 1, 3) by decide +kernel) ?_
                obtain ⟨n28, e29, h⟩ := zB_let h
                refine V_iinck 1 1 4 n28 [(3, Value.int n28), (2, Value.int n26), (4, Value.int v2), (0, Value.ref t), (1, Value.int x1)] Z (by decide) (by decide) rfl e29 rfl (show decode cX0_pairsIn 73 = .ok (.iinc 3 1, 3) by decide +kernel) ?_
                refine V_goto 4 Z (by decide) (show decode cX0_pairsIn 76 = .ok (.goto (-72), 3) by decide +kernel) ?_
                refine V_sub [3, 4, 1, 0] rfl ?_
                exact c1_i _ h
def f_X0_isPeaceful (t : Nat) (x1 : Int32) (M : zM) : Option (Int32) :=
  (f_X0_pairsIn t x1 M).bind fun (v2 : Int32) =>
  if v2 = 0 then
    some ((1 : Int32))
  else
    some ((0 : Int32))
theorem cd_X0_isPeaceful : zCd yX0_isPeaceful cX0_isPeaceful 2 (some .boolean) 1 := ⟨w484, w65, ⟨by decide, by decide⟩, by decide +kernel⟩
set_option maxHeartbeats 4000000 in
set_option maxRecDepth 20000 in
theorem ok_X0_isPeaceful {t : Nat} {x1 : Int32} {M : zM} {y : Int32} (ht : isH t) (h : f_X0_isPeaceful t x1 M = some y) : zRuns yX0_isPeaceful cX0_isPeaceful 2 (some .boolean) 1 24 [.ref t, .int x1] M (some (.int y)) M := by
  refine zRuns_of (by decide +kernel) (Nat.le_of_ble_eq_true rfl) (fun E Z hE => ?_)
  have h := zB_top h
  change VV E 2 0 [(0, Value.ref t), (1, Value.int x1)] [] M
  refine V_aload_n 0 Z rfl rfl (show decode cX0_isPeaceful 0 = .ok (.aload_n 0, 1) by decide +kernel) ?_
  refine V_iload_n 1 Z rfl rfl (show decode cX0_isPeaceful 1 = .ok (.iload_n 1, 1) by decide +kernel) ?_
  obtain ⟨v2, e1, h⟩ := zB_bind h
  refine V_callV (rest := []) 1 Z (ok_X0_pairsIn ht e1) cd_X0_pairsIn zc0 (isH_lt ht) (shH ht) w379 w380 w381 rfl (show decode cX0_isPeaceful 2 = .ok (.invokevirtual 74, 3) by decide +kernel) rfl ?_
  refine V_if_ne 12 Z (by decide) (show decode cX0_isPeaceful 5 = .ok (.ifCond .ne 7, 3) by decide +kernel) (fun c3 => ?_) (fun c3 => ?_)
  · have h := zB_neg c3 h
    refine V_iconst 0 (by decide) Z (show decode cX0_isPeaceful 12 = .ok (.iconst 0, 1) by decide +kernel) ?_
    exact V_zretP Z hE h rfl (show decode cX0_isPeaceful 13 = .ok (.ireturn, 1) by decide +kernel)
  · have h := zB_pos c3 h
    refine V_iconst 1 (by decide) Z (show decode cX0_isPeaceful 8 = .ok (.iconst 1, 1) by decide +kernel) ?_
    refine V_goto 13 Z (by decide) (show decode cX0_isPeaceful 9 = .ok (.goto 4, 3) by decide +kernel) ?_
    exact V_zretP Z hE h rfl (show decode cX0_isPeaceful 13 = .ok (.ireturn, 1) by decide +kernel)
