/-! Generated walks: X6_fitting X6_fits X6_wish X6_drawnNumber X6_moths X6_odds -/
def f_X6_fitting_j68 (y2 : Int32) (y3 : Int32) (y4 : Int32) (M : zM) : Option (Int32 × zM) :=
  (zwr M 48 (61 + y2) y3).bind fun (M1 : zM) =>
  some (((y4 >>> (1 &&& 31)), M1))
def f_X6_fitting_l16 (y1 : Int32) (y2 : Int32) (y3 : Int32) : Int32 × Int32 × zM → Option ((Int32 × Int32 × zM) ⊕ (Int32 × zM))
  | (y4, y5, M) =>
    (zrd M 48 1).bind fun (v5 : Int32) =>
    if v5 ≤ y5 then
      (f_X6_fitting_j68 y2 y3 y4 M).bind fun z => some (Sum.inr z)
    else
      (zwr M 48 (61 + y2) y5).bind fun (M8 : zM) =>
      (f_X6_wentSo y1 y2 M8).bind fun ((v11, M12) : Int32 × zM) =>
      if v11 = 0 then
        (some ((y4 ||| 0))).bind fun (x14 : Int32) =>
        (some (y5 + 1)).bind fun (x16 : Int32) =>
        some (.inl ((x14, x16, M12)))
      else
        (some ((y4 ||| (2 <<< ((y5 + 1) &&& 31))))).bind fun (x18 : Int32) =>
        (some (y5 + 1)).bind fun (x20 : Int32) =>
        some (.inl ((x18, x20, M12)))
def f_X6_fitting (x1 : Int32) (x2 : Int32) (M : zM) : Option (Int32 × zM) :=
  (zrd M 48 (61 + x2)).bind fun (v3 : Int32) =>
  zIter (f_X6_fitting_l16 x1 x2 v3) 1000 (0, (-1), M)
theorem cd_X6_fitting : zCd yX6_fitting cX6_fitting 6 (some .int) 2 := ⟨w1126, w69, ⟨by decide, by decide⟩, by decide +kernel⟩
set_option maxHeartbeats 4000000 in
set_option maxRecDepth 20000 in
theorem ok_X6_fitting {x1 : Int32} {x2 : Int32} {M : zM} {y : Int32 × zM}  (h : f_X6_fitting x1 x2 M = some y) : zRuns yX6_fitting cX6_fitting 6 (some .int) 7 159 [.ref 47, .int x1, .int x2] M (some (.int y.1)) y.2 := by
  refine zRuns_of (by decide +kernel) (Nat.le_of_ble_eq_true rfl) (fun E Z hE => ?_)
  have h := zB_top h
  change VV E 6 0 [(0, Value.ref 47), (1, Value.int x1), (2, Value.int x2)] [] M
  have J68 : ∀ (y2 : Int32) (y3 : Int32) (y4 : Int32) (M : zM), (f_X6_fitting_j68 y2 y3 y4 M).bind some = some y → VV E 6 68 [(0, Value.ref 47), (2, Value.int y2), (3, Value.int y3), (4, Value.int y4)] [] M := by
    intro y2 y3 y4 M h
    refine V_aload_n 0 Z rfl rfl (show decode cX6_fitting 68 = .ok (.aload_n 0, 1) by decide +kernel) ?_
    refine V_getR 0 48 Z zc5 (by decide) rfl (by decide) rfl (by decide) ⟨rfl, rfl, rfl⟩ w766 (show decode cX6_fitting 69 = .ok (.getfield 9, 3) by decide +kernel) ?_
    refine V_bipush 61 (by decide) Z (show decode cX6_fitting 72 = .ok (.bipush 61, 2) by decide +kernel) ?_
    refine V_iload_n 1 Z rfl rfl (show decode cX6_fitting 74 = .ok (.iload_n 2, 1) by decide +kernel) ?_
    refine V_iadd Z (show decode cX6_fitting 75 = .ok (.iadd, 1) by decide +kernel) ?_
    refine V_iload_n 2 Z rfl rfl (show decode cX6_fitting 76 = .ok (.iload_n 3, 1) by decide +kernel) ?_
    obtain ⟨M1, e2, h⟩ := zB_bind h
    refine V_iast Z e2 (show decode cX6_fitting 77 = .ok (.iastore, 1) by decide +kernel) ?_
    refine V_iload 3 Z rfl (show decode cX6_fitting 78 = .ok (.iload 4, 2) by decide +kernel) ?_
    refine V_iconst 1 (by decide) Z (show decode cX6_fitting 80 = .ok (.iconst 1, 1) by decide +kernel) ?_
    refine V_ishr Z (show decode cX6_fitting 81 = .ok (.ishr, 1) by decide +kernel) ?_
    exact V_iretM Z hE h (show decode cX6_fitting 82 = .ok (.ireturn, 1) by decide +kernel)
  refine V_aload_n 0 Z rfl rfl (show decode cX6_fitting 0 = .ok (.aload_n 0, 1) by decide +kernel) ?_
  refine V_getR 0 48 Z zc5 (by decide) rfl (by decide) rfl (by decide) ⟨rfl, rfl, rfl⟩ w766 (show decode cX6_fitting 1 = .ok (.getfield 9, 3) by decide +kernel) ?_
  refine V_bipush 61 (by decide) Z (show decode cX6_fitting 4 = .ok (.bipush 61, 2) by decide +kernel) ?_
  refine V_iload_n 2 Z rfl rfl (show decode cX6_fitting 6 = .ok (.iload_n 2, 1) by decide +kernel) ?_
  refine V_iadd Z (show decode cX6_fitting 7 = .ok (.iadd, 1) by decide +kernel) ?_
  obtain ⟨v3, e4, h⟩ := zB_bind h
  refine V_iald Z e4 (show decode cX6_fitting 8 = .ok (.iaload, 1) by decide +kernel) ?_
  refine V_istore_n [(3, Value.int v3), (0, Value.ref 47), (1, Value.int x1), (2, Value.int x2)] Z (by decide) rfl rfl (show decode cX6_fitting 9 = .ok (.istore_n 3, 1) by decide +kernel) ?_
  refine V_iconst 0 (by decide) Z (show decode cX6_fitting 10 = .ok (.iconst 0, 1) by decide +kernel) ?_
  refine V_istore [(4, Value.int 0), (3, Value.int v3), (0, Value.ref 47), (1, Value.int x1), (2, Value.int x2)] Z (by decide) rfl (show decode cX6_fitting 11 = .ok (.istore 4, 2) by decide +kernel) ?_
  refine V_iconst (-1) (by decide) Z (show decode cX6_fitting 13 = .ok (.iconst (-1), 1) by decide +kernel) ?_
  refine V_istore [(5, Value.int (-1)), (4, Value.int 0), (3, Value.int v3), (0, Value.ref 47), (1, Value.int x1), (2, Value.int x2)] Z (by decide) rfl (show decode cX6_fitting 14 = .ok (.istore 5, 2) by decide +kernel) ?_
  refine V_sub [3, 4, 5, 2, 1, 0] rfl ?_
  refine zIter_loop' (K := some) (fun s : Int32 × Int32 × zM => VV E 6 16 [(0, Value.ref 47), (1, Value.int x1), (2, Value.int x2), (3, Value.int v3), (4, Value.int s.1), (5, Value.int s.2.1)] [] s.2.2) (fun K1 s c1_i c1_r h => ?_) _ _ h
  obtain ⟨y4, y5, M⟩ := s
  change VV E 6 16 [(0, Value.ref 47), (1, Value.int x1), (2, Value.int x2), (3, Value.int v3), (4, Value.int y4), (5, Value.int y5)] [] M
  refine V_iload 5 Z rfl (show decode cX6_fitting 16 = .ok (.iload 5, 2) by decide +kernel) ?_
  refine V_aload_n 0 Z rfl rfl (show decode cX6_fitting 18 = .ok (.aload_n 0, 1) by decide +kernel) ?_
  refine V_getR 0 48 Z zc5 (by decide) rfl (by decide) rfl (by decide) ⟨rfl, rfl, rfl⟩ w766 (show decode cX6_fitting 19 = .ok (.getfield 9, 3) by decide +kernel) ?_
  refine V_iconst 1 (by decide) Z (show decode cX6_fitting 22 = .ok (.iconst 1, 1) by decide +kernel) ?_
  obtain ⟨v5, e6, h⟩ := zB_bind h
  refine V_iald Z e6 (show decode cX6_fitting 23 = .ok (.iaload, 1) by decide +kernel) ?_
  refine V_icmp_ge 68 Z (by decide) (show decode cX6_fitting 24 = .ok (.if_icmp .ge 44, 3) by decide +kernel) (fun c7 => ?_) (fun c7 => ?_)
  · have h := zB_pos c7 h
    refine V_sub [0, 2, 3, 4] rfl ?_
    have h := zB_lift c1_r h
    exact J68 _ _ _ _ h
  · have h := zB_neg c7 h
    refine V_aload_n 0 Z rfl rfl (show decode cX6_fitting 27 = .ok (.aload_n 0, 1) by decide +kernel) ?_
    refine V_getR 0 48 Z zc5 (by decide) rfl (by decide) rfl (by decide) ⟨rfl, rfl, rfl⟩ w766 (show decode cX6_fitting 28 = .ok (.getfield 9, 3) by decide +kernel) ?_
    refine V_bipush 61 (by decide) Z (show decode cX6_fitting 31 = .ok (.bipush 61, 2) by decide +kernel) ?_
    refine V_iload_n 2 Z rfl rfl (show decode cX6_fitting 33 = .ok (.iload_n 2, 1) by decide +kernel) ?_
    refine V_iadd Z (show decode cX6_fitting 34 = .ok (.iadd, 1) by decide +kernel) ?_
    refine V_iload 5 Z rfl (show decode cX6_fitting 35 = .ok (.iload 5, 2) by decide +kernel) ?_
    obtain ⟨M8, e9, h⟩ := zB_bind h
    refine V_iast Z e9 (show decode cX6_fitting 37 = .ok (.iastore, 1) by decide +kernel) ?_
    refine V_iload 4 Z rfl (show decode cX6_fitting 38 = .ok (.iload 4, 2) by decide +kernel) ?_
    refine V_aload_n 0 Z rfl rfl (show decode cX6_fitting 40 = .ok (.aload_n 0, 1) by decide +kernel) ?_
    refine V_iload_n 1 Z rfl rfl (show decode cX6_fitting 41 = .ok (.iload_n 1, 1) by decide +kernel) ?_
    refine V_iload_n 2 Z rfl rfl (show decode cX6_fitting 42 = .ok (.iload_n 2, 1) by decide +kernel) ?_
    obtain ⟨⟨v11, M12⟩, e10, h⟩ := zB_bind h
    refine V_callV (rest := [_]) 2 Z (ok_X6_wentSo  e10) cd_X6_wentSo zc5 (by decide) rfl w1127 w1129 w51 rfl (show decode cX6_fitting 43 = .ok (.invokevirtual 223, 3) by decide +kernel) rfl ?_
    refine V_if_eq 58 Z (by decide) (show decode cX6_fitting 46 = .ok (.ifCond .eq 12, 3) by decide +kernel) (fun c13 => ?_) (fun c13 => ?_)
    · have h := zB_pos c13 h
      refine V_iconst 0 (by decide) Z (show decode cX6_fitting 58 = .ok (.iconst 0, 1) by decide +kernel) ?_
      refine V_ior Z (show decode cX6_fitting 59 = .ok (.ior, 1) by decide +kernel) ?_
      obtain ⟨x14, e15, h⟩ := zB_let h
      refine V_nm e15 ?_
      refine V_istore [(4, Value.int x14), (0, Value.ref 47), (1, Value.int x1), (2, Value.int x2), (3, Value.int v3), (5, Value.int y5)] Z (by decide) rfl (show decode cX6_fitting 60 = .ok (.istore 4, 2) by decide +kernel) ?_
      obtain ⟨x16, e17, h⟩ := zB_let h
      refine V_iinc (n := 1) 5 x16 [(5, Value.int x16), (4, Value.int x14), (0, Value.ref 47), (1, Value.int x1), (2, Value.int x2), (3, Value.int v3)] Z (by decide) rfl e17 rfl (show decode cX6_fitting 62 = .ok (.iinc 5 1, 3) by decide +kernel) ?_
      refine V_goto 16 Z (by decide) (show decode cX6_fitting 65 = .ok (.goto (-49), 3) by decide +kernel) ?_
      refine V_sub [2, 3, 4, 5, 1, 0] rfl ?_
      exact c1_i _ h
    · have h := zB_neg c13 h
      refine V_iconst 2 (by decide) Z (show decode cX6_fitting 49 = .ok (.iconst 2, 1) by decide +kernel) ?_
      refine V_iload 5 Z rfl (show decode cX6_fitting 50 = .ok (.iload 5, 2) by decide +kernel) ?_
      refine V_iconst 1 (by decide) Z (show decode cX6_fitting 52 = .ok (.iconst 1, 1) by decide +kernel) ?_
      refine V_iadd Z (show decode cX6_fitting 53 = .ok (.iadd, 1) by decide +kernel) ?_
      refine V_ishl Z (show decode cX6_fitting 54 = .ok (.ishl, 1) by decide +kernel) ?_
      refine V_goto 59 Z (by decide) (show decode cX6_fitting 55 = .ok (.goto 4, 3) by decide +kernel) ?_
      refine V_ior Z (show decode cX6_fitting 59 = .ok (.ior, 1) by decide +kernel) ?_
      obtain ⟨x18, e19, h⟩ := zB_let h
      refine V_nm e19 ?_
      refine V_istore [(4, Value.int x18), (0, Value.ref 47), (1, Value.int x1), (2, Value.int x2), (3, Value.int v3), (5, Value.int y5)] Z (by decide) rfl (show decode cX6_fitting 60 = .ok (.istore 4, 2) by decide +kernel) ?_
      obtain ⟨x20, e21, h⟩ := zB_let h
      refine V_iinc (n := 1) 5 x20 [(5, Value.int x20), (4, Value.int x18), (0, Value.ref 47), (1, Value.int x1), (2, Value.int x2), (3, Value.int v3)] Z (by decide) rfl e21 rfl (show decode cX6_fitting 62 = .ok (.iinc 5 1, 3) by decide +kernel) ?_
      refine V_goto 16 Z (by decide) (show decode cX6_fitting 65 = .ok (.goto (-49), 3) by decide +kernel) ?_
      refine V_sub [2, 3, 4, 5, 1, 0] rfl ?_
      exact c1_i _ h
def f_X6_fits_j34 (s0 : Int32) (M : zM) : Option (Int32 × zM) :=
  (f_X6_finding s0 M).bind fun ((v2, M3) : Int32 × zM) =>
  some ((v2, M3))
def f_X6_fits_j15 (y1 : Int32) (M : zM) : Option (Int32 × zM) :=
  (f_X6_lacks y1 M).bind fun (v5 : Int32) =>
  if v5 = 0 then
    f_X6_fits_j34 (-1000001) M
  else
    (f_X6_lacks y1 M).bind fun (v8 : Int32) =>
    f_X6_fits_j34 v8 M
def f_X6_fits (x1 : Int32) (x2 : Int32) (M : zM) : Option (Int32 × zM) :=
  (f_X6_lacks x1 M).bind fun (v10 : Int32) =>
  if v10 = 0 then
    (f_X6_isPerson x2 M).bind fun (v13 : Int32) =>
    if v13 = 0 then
      f_X6_fits_j15 x1 M
    else
      (f_X6_fitting x1 x2 M).bind fun ((v16, M17) : Int32 × zM) =>
      (f_X6_bits v16 M17).bind fun (v19 : Int32) =>
      some ((v19, M17))
  else
    f_X6_fits_j15 x1 M
theorem cd_X6_fits : zCd yX6_fits cX6_fits 3 (some .int) 2 := ⟨w1114, w69, ⟨by decide, by decide⟩, by decide +kernel⟩
set_option maxHeartbeats 4000000 in
set_option maxRecDepth 20000 in
theorem ok_X6_fits {x1 : Int32} {x2 : Int32} {M : zM} {y : Int32 × zM}  (h : f_X6_fits x1 x2 M = some y) : zRuns yX6_fits cX6_fits 3 (some .int) 8 184 [.ref 47, .int x1, .int x2] M (some (.int y.1)) y.2 := by
  refine zRuns_of (by decide +kernel) (Nat.le_of_ble_eq_true rfl) (fun E Z hE => ?_)
  have h := zB_top h
  change VV E 3 0 [(0, Value.ref 47), (1, Value.int x1), (2, Value.int x2)] [] M
  have J34 : ∀ (s0 : Int32) (M : zM), (f_X6_fits_j34 s0 M).bind some = some y → VV E 3 34 [] [Value.int s0, Value.ref 47] M := by
    intro s0 M h
    obtain ⟨⟨v2, M3⟩, e1, h⟩ := zB_bind h
    refine V_callV (rest := []) 1 Z (ok_X6_finding  e1) cd_X6_finding zc5 (by decide) rfl w844 w846 w17 rfl (show decode cX6_fits 34 = .ok (.invokevirtual 72, 3) by decide +kernel) rfl ?_
    exact V_iretM Z hE h (show decode cX6_fits 37 = .ok (.ireturn, 1) by decide +kernel)
  have J15 : ∀ (y1 : Int32) (M : zM), (f_X6_fits_j15 y1 M).bind some = some y → VV E 3 15 [(0, Value.ref 47), (1, Value.int y1)] [] M := by
    intro y1 M h
    refine V_aload_n 0 Z rfl rfl (show decode cX6_fits 15 = .ok (.aload_n 0, 1) by decide +kernel) ?_
    refine V_aload_n 0 Z rfl rfl (show decode cX6_fits 16 = .ok (.aload_n 0, 1) by decide +kernel) ?_
    refine V_iload_n 1 Z rfl rfl (show decode cX6_fits 17 = .ok (.iload_n 1, 1) by decide +kernel) ?_
    obtain ⟨v5, e4, h⟩ := zB_bind h
    refine V_callV (rest := [_]) 1 Z (ok_X6_lacks  e4) cd_X6_lacks zc5 (by decide) rfl w1115 w1117 w49 rfl (show decode cX6_fits 18 = .ok (.invokevirtual 226, 3) by decide +kernel) rfl ?_
    refine V_if_eq 32 Z (by decide) (show decode cX6_fits 21 = .ok (.ifCond .eq 11, 3) by decide +kernel) (fun c6 => ?_) (fun c6 => ?_)
    · have h := zB_pos c6 h
      refine V_ldc (-1000001) Z w843 (show decode cX6_fits 32 = .ok (.ldc 66, 2) by decide +kernel) ?_
      refine V_sub [] rfl ?_
      exact J34 _ _ h
    · have h := zB_neg c6 h
      refine V_aload_n 0 Z rfl rfl (show decode cX6_fits 24 = .ok (.aload_n 0, 1) by decide +kernel) ?_
      refine V_iload_n 1 Z rfl rfl (show decode cX6_fits 25 = .ok (.iload_n 1, 1) by decide +kernel) ?_
      obtain ⟨v8, e7, h⟩ := zB_bind h
      refine V_callV (rest := [_]) 1 Z (ok_X6_lacks  e7) cd_X6_lacks zc5 (by decide) rfl w1115 w1117 w49 rfl (show decode cX6_fits 26 = .ok (.invokevirtual 226, 3) by decide +kernel) rfl ?_
      refine V_goto 34 Z (by decide) (show decode cX6_fits 29 = .ok (.goto 5, 3) by decide +kernel) ?_
      refine V_sub [] rfl ?_
      exact J34 _ _ h
  refine V_aload_n 0 Z rfl rfl (show decode cX6_fits 0 = .ok (.aload_n 0, 1) by decide +kernel) ?_
  refine V_iload_n 1 Z rfl rfl (show decode cX6_fits 1 = .ok (.iload_n 1, 1) by decide +kernel) ?_
  obtain ⟨v10, e9, h⟩ := zB_bind h
  refine V_callV (rest := []) 1 Z (ok_X6_lacks  e9) cd_X6_lacks zc5 (by decide) rfl w1115 w1117 w49 rfl (show decode cX6_fits 2 = .ok (.invokevirtual 226, 3) by decide +kernel) rfl ?_
  refine V_if_ne 15 Z (by decide) (show decode cX6_fits 5 = .ok (.ifCond .ne 10, 3) by decide +kernel) (fun c11 => ?_) (fun c11 => ?_)
  · have h := zB_neg c11 h
    refine V_sub [0, 1] rfl ?_
    exact J15 _ _ h
  · have h := zB_pos c11 h
    refine V_iload_n 2 Z rfl rfl (show decode cX6_fits 8 = .ok (.iload_n 2, 1) by decide +kernel) ?_
    obtain ⟨v13, e12, h⟩ := zB_bind h
    refine V_callS (rest := []) 1 Z (ok_X6_isPerson  e12) cd_X6_isPerson w908 w909 rfl (show decode cX6_fits 9 = .ok (.invokestatic 125, 3) by decide +kernel) rfl ?_
    refine V_if_ne 38 Z (by decide) (show decode cX6_fits 12 = .ok (.ifCond .ne 26, 3) by decide +kernel) (fun c14 => ?_) (fun c14 => ?_)
    · have h := zB_neg c14 h
      refine V_aload_n 0 Z rfl rfl (show decode cX6_fits 38 = .ok (.aload_n 0, 1) by decide +kernel) ?_
      refine V_iload_n 1 Z rfl rfl (show decode cX6_fits 39 = .ok (.iload_n 1, 1) by decide +kernel) ?_
      refine V_iload_n 2 Z rfl rfl (show decode cX6_fits 40 = .ok (.iload_n 2, 1) by decide +kernel) ?_
      obtain ⟨⟨v16, M17⟩, e15, h⟩ := zB_bind h
      refine V_callV (rest := []) 2 Z (ok_X6_fitting  e15) cd_X6_fitting zc5 (by decide) rfl w1123 w1125 w50 rfl (show decode cX6_fits 41 = .ok (.invokevirtual 229, 3) by decide +kernel) rfl ?_
      obtain ⟨v19, e18, h⟩ := zB_bind h
      refine V_callS (rest := []) 1 Z (ok_X6_bits  e18) cd_X6_bits w1080 w1081 rfl (show decode cX6_fits 44 = .ok (.invokestatic 207, 3) by decide +kernel) rfl ?_
      exact V_iretM Z hE h (show decode cX6_fits 47 = .ok (.ireturn, 1) by decide +kernel)
    · have h := zB_pos c14 h
      refine V_sub [0, 1] rfl ?_
      exact J15 _ _ h
def f_X6_wish_j34 (s0 : Int32) (M : zM) : Option (Int32 × zM) :=
  (f_X6_finding s0 M).bind fun ((v2, M3) : Int32 × zM) =>
  some ((v2, M3))
def f_X6_wish_j15 (y1 : Int32) (M : zM) : Option (Int32 × zM) :=
  (f_X6_lacks y1 M).bind fun (v5 : Int32) =>
  if v5 = 0 then
    f_X6_wish_j34 (-1000001) M
  else
    (f_X6_lacks y1 M).bind fun (v8 : Int32) =>
    f_X6_wish_j34 v8 M
def f_X6_wish_l59 (y3 : Int32) (M : zM) : Int32 → Option ((Int32) ⊕ (Int32 × zM))
  | y4 =>
    (f_X6_has y3 y4 M).bind fun (v20 : Int32) =>
    if v20 = 0 then
      (some (y4 + 1)).bind fun (x22 : Int32) =>
      some (.inl (x22))
    else
      some (.inr (((y4 - 1), M)))
def f_X6_wish (x1 : Int32) (x2 : Int32) (M : zM) : Option (Int32 × zM) :=
  (f_X6_lacks x1 M).bind fun (v10 : Int32) =>
  if v10 = 0 then
    (f_X6_isPerson x2 M).bind fun (v13 : Int32) =>
    if v13 = 0 then
      f_X6_wish_j15 x1 M
    else
      (f_X6_fitting x1 x2 M).bind fun ((v16, M17) : Int32 × zM) =>
      if v16 = 0 then
        (f_X6_finding (-1000004) M17).bind fun ((v25, M26) : Int32 × zM) =>
        some ((v25, M26))
      else
        zIter (f_X6_wish_l59 v16 M17) 1000 (0 : Int32)
  else
    f_X6_wish_j15 x1 M
theorem cd_X6_wish : zCd yX6_wish cX6_wish 5 (some .int) 2 := ⟨w1134, w69, ⟨by decide, by decide⟩, by decide +kernel⟩
set_option maxHeartbeats 4000000 in
set_option maxRecDepth 20000 in
theorem ok_X6_wish {x1 : Int32} {x2 : Int32} {M : zM} {y : Int32 × zM}  (h : f_X6_wish x1 x2 M = some y) : zRuns yX6_wish cX6_wish 5 (some .int) 8 184 [.ref 47, .int x1, .int x2] M (some (.int y.1)) y.2 := by
  refine zRuns_of (by decide +kernel) (Nat.le_of_ble_eq_true rfl) (fun E Z hE => ?_)
  have h := zB_top h
  change VV E 5 0 [(0, Value.ref 47), (1, Value.int x1), (2, Value.int x2)] [] M
  have J34 : ∀ (s0 : Int32) (M : zM), (f_X6_wish_j34 s0 M).bind some = some y → VV E 5 34 [] [Value.int s0, Value.ref 47] M := by
    intro s0 M h
    obtain ⟨⟨v2, M3⟩, e1, h⟩ := zB_bind h
    refine V_callV (rest := []) 1 Z (ok_X6_finding  e1) cd_X6_finding zc5 (by decide) rfl w844 w846 w17 rfl (show decode cX6_wish 34 = .ok (.invokevirtual 72, 3) by decide +kernel) rfl ?_
    exact V_iretM Z hE h (show decode cX6_wish 37 = .ok (.ireturn, 1) by decide +kernel)
  have J15 : ∀ (y1 : Int32) (M : zM), (f_X6_wish_j15 y1 M).bind some = some y → VV E 5 15 [(0, Value.ref 47), (1, Value.int y1)] [] M := by
    intro y1 M h
    refine V_aload_n 0 Z rfl rfl (show decode cX6_wish 15 = .ok (.aload_n 0, 1) by decide +kernel) ?_
    refine V_aload_n 0 Z rfl rfl (show decode cX6_wish 16 = .ok (.aload_n 0, 1) by decide +kernel) ?_
    refine V_iload_n 1 Z rfl rfl (show decode cX6_wish 17 = .ok (.iload_n 1, 1) by decide +kernel) ?_
    obtain ⟨v5, e4, h⟩ := zB_bind h
    refine V_callV (rest := [_]) 1 Z (ok_X6_lacks  e4) cd_X6_lacks zc5 (by decide) rfl w1115 w1117 w49 rfl (show decode cX6_wish 18 = .ok (.invokevirtual 226, 3) by decide +kernel) rfl ?_
    refine V_if_eq 32 Z (by decide) (show decode cX6_wish 21 = .ok (.ifCond .eq 11, 3) by decide +kernel) (fun c6 => ?_) (fun c6 => ?_)
    · have h := zB_pos c6 h
      refine V_ldc (-1000001) Z w843 (show decode cX6_wish 32 = .ok (.ldc 66, 2) by decide +kernel) ?_
      refine V_sub [] rfl ?_
      exact J34 _ _ h
    · have h := zB_neg c6 h
      refine V_aload_n 0 Z rfl rfl (show decode cX6_wish 24 = .ok (.aload_n 0, 1) by decide +kernel) ?_
      refine V_iload_n 1 Z rfl rfl (show decode cX6_wish 25 = .ok (.iload_n 1, 1) by decide +kernel) ?_
      obtain ⟨v8, e7, h⟩ := zB_bind h
      refine V_callV (rest := [_]) 1 Z (ok_X6_lacks  e7) cd_X6_lacks zc5 (by decide) rfl w1115 w1117 w49 rfl (show decode cX6_wish 26 = .ok (.invokevirtual 226, 3) by decide +kernel) rfl ?_
      refine V_goto 34 Z (by decide) (show decode cX6_wish 29 = .ok (.goto 5, 3) by decide +kernel) ?_
      refine V_sub [] rfl ?_
      exact J34 _ _ h
  refine V_aload_n 0 Z rfl rfl (show decode cX6_wish 0 = .ok (.aload_n 0, 1) by decide +kernel) ?_
  refine V_iload_n 1 Z rfl rfl (show decode cX6_wish 1 = .ok (.iload_n 1, 1) by decide +kernel) ?_
  obtain ⟨v10, e9, h⟩ := zB_bind h
  refine V_callV (rest := []) 1 Z (ok_X6_lacks  e9) cd_X6_lacks zc5 (by decide) rfl w1115 w1117 w49 rfl (show decode cX6_wish 2 = .ok (.invokevirtual 226, 3) by decide +kernel) rfl ?_
  refine V_if_ne 15 Z (by decide) (show decode cX6_wish 5 = .ok (.ifCond .ne 10, 3) by decide +kernel) (fun c11 => ?_) (fun c11 => ?_)
  · have h := zB_neg c11 h
    refine V_sub [0, 1] rfl ?_
    exact J15 _ _ h
  · have h := zB_pos c11 h
    refine V_iload_n 2 Z rfl rfl (show decode cX6_wish 8 = .ok (.iload_n 2, 1) by decide +kernel) ?_
    obtain ⟨v13, e12, h⟩ := zB_bind h
    refine V_callS (rest := []) 1 Z (ok_X6_isPerson  e12) cd_X6_isPerson w908 w909 rfl (show decode cX6_wish 9 = .ok (.invokestatic 125, 3) by decide +kernel) rfl ?_
    refine V_if_ne 38 Z (by decide) (show decode cX6_wish 12 = .ok (.ifCond .ne 26, 3) by decide +kernel) (fun c14 => ?_) (fun c14 => ?_)
    · have h := zB_neg c14 h
      refine V_aload_n 0 Z rfl rfl (show decode cX6_wish 38 = .ok (.aload_n 0, 1) by decide +kernel) ?_
      refine V_iload_n 1 Z rfl rfl (show decode cX6_wish 39 = .ok (.iload_n 1, 1) by decide +kernel) ?_
      refine V_iload_n 2 Z rfl rfl (show decode cX6_wish 40 = .ok (.iload_n 2, 1) by decide +kernel) ?_
      obtain ⟨⟨v16, M17⟩, e15, h⟩ := zB_bind h
      refine V_callV (rest := []) 2 Z (ok_X6_fitting  e15) cd_X6_fitting zc5 (by decide) rfl w1123 w1125 w50 rfl (show decode cX6_wish 41 = .ok (.invokevirtual 229, 3) by decide +kernel) rfl ?_
      refine V_istore_n [(3, Value.int v16), (0, Value.ref 47), (1, Value.int x1), (2, Value.int x2)] Z (by decide) rfl rfl (show decode cX6_wish 44 = .ok (.istore_n 3, 1) by decide +kernel) ?_
      refine V_iload_n 0 Z rfl rfl (show decode cX6_wish 45 = .ok (.iload_n 3, 1) by decide +kernel) ?_
      refine V_if_ne 56 Z (by decide) (show decode cX6_wish 46 = .ok (.ifCond .ne 10, 3) by decide +kernel) (fun c18 => ?_) (fun c18 => ?_)
      · have h := zB_neg c18 h
        refine V_iconst 0 (by decide) Z (show decode cX6_wish 56 = .ok (.iconst 0, 1) by decide +kernel) ?_
        refine V_istore [(4, Value.int 0), (3, Value.int v16), (0, Value.ref 47), (1, Value.int x1), (2, Value.int x2)] Z (by decide) rfl (show decode cX6_wish 57 = .ok (.istore 4, 2) by decide +kernel) ?_
        refine V_sub [1, 0] rfl ?_
        refine zIter_loop' (K := some) (fun s : Int32 => VV E 5 59 [(3, Value.int v16), (4, Value.int s)] [] M17) (fun K1 y4 c1_i c1_r h => ?_) _ _ h
        refine V_iload_n 0 Z rfl rfl (show decode cX6_wish 59 = .ok (.iload_n 3, 1) by decide +kernel) ?_
        refine V_iload 1 Z rfl (show decode cX6_wish 60 = .ok (.iload 4, 2) by decide +kernel) ?_
        obtain ⟨v20, e19, h⟩ := zB_bind h
        refine V_callS (rest := []) 2 Z (ok_X6_has  e19) cd_X6_has w923 w924 rfl (show decode cX6_wish 62 = .ok (.invokestatic 133, 3) by decide +kernel) rfl ?_
        refine V_if_ne 74 Z (by decide) (show decode cX6_wish 65 = .ok (.ifCond .ne 9, 3) by decide +kernel) (fun c21 => ?_) (fun c21 => ?_)
        · have h := zB_neg c21 h
          refine V_iload 1 Z rfl (show decode cX6_wish 74 = .ok (.iload 4, 2) by decide +kernel) ?_
          refine V_iconst 1 (by decide) Z (show decode cX6_wish 76 = .ok (.iconst 1, 1) by decide +kernel) ?_
          refine V_isub Z (show decode cX6_wish 77 = .ok (.isub, 1) by decide +kernel) ?_
          have h := c1_r _ h
          exact V_iretM Z hE h (show decode cX6_wish 78 = .ok (.ireturn, 1) by decide +kernel)
        · have h := zB_pos c21 h
          obtain ⟨x22, e23, h⟩ := zB_let h
          refine V_iinc (n := 1) 1 x22 [(4, Value.int x22), (3, Value.int v16)] Z (by decide) rfl e23 rfl (show decode cX6_wish 68 = .ok (.iinc 4 1, 3) by decide +kernel) ?_
          refine V_goto 59 Z (by decide) (show decode cX6_wish 71 = .ok (.goto (-12), 3) by decide +kernel) ?_
          refine V_sub [1, 0] rfl ?_
          exact c1_i _ h
      · have h := zB_pos c18 h
        refine V_aload_n 1 Z rfl rfl (show decode cX6_wish 49 = .ok (.aload_n 0, 1) by decide +kernel) ?_
        refine V_ldc (-1000004) Z w1018 (show decode cX6_wish 50 = .ok (.ldc 71, 2) by decide +kernel) ?_
        obtain ⟨⟨v25, M26⟩, e24, h⟩ := zB_bind h
        refine V_callV (rest := []) 1 Z (ok_X6_finding  e24) cd_X6_finding zc5 (by decide) rfl w844 w846 w17 rfl (show decode cX6_wish 52 = .ok (.invokevirtual 72, 3) by decide +kernel) rfl ?_
        exact V_iretM Z hE h (show decode cX6_wish 55 = .ok (.ireturn, 1) by decide +kernel)
    · have h := zB_pos c14 h
      refine V_sub [0, 1] rfl ?_
      exact J15 _ _ h
def f_X6_drawnNumber (M : zM) : Option (Int32 × zM) :=
  (zrd M 48 2).bind fun (v1 : Int32) =>
  (zwr M 48 2 ((v1 * 1103515245) + 12345)).bind fun (M3 : zM) =>
  (zrd M3 48 2).bind fun (v5 : Int32) =>
  some (((((v5 : Int32).toUInt32 >>> ((8 : Int32).toUInt32 &&& Int32.toUInt32 31)).toInt32), M3))
theorem cd_X6_drawnNumber : zCd yX6_drawnNumber cX6_drawnNumber 1 (some .int) 0 := ⟨w1142, w69, ⟨by decide, by decide⟩, by decide +kernel⟩
set_option maxHeartbeats 4000000 in
set_option maxRecDepth 20000 in
theorem ok_X6_drawnNumber {M : zM} {y : Int32 × zM}  (h : f_X6_drawnNumber  M = some y) : zRuns yX6_drawnNumber cX6_drawnNumber 1 (some .int) 0 0 [.ref 47] M (some (.int y.1)) y.2 := by
  refine zRuns_of (by decide +kernel) (Nat.le_of_ble_eq_true rfl) (fun E Z hE => ?_)
  have h := zB_top h
  change VV E 1 0 [(0, Value.ref 47)] [] M
  refine V_aload_n 0 Z rfl rfl (show decode cX6_drawnNumber 0 = .ok (.aload_n 0, 1) by decide +kernel) ?_
  refine V_getR 0 48 Z zc5 (by decide) rfl (by decide) rfl (by decide) ⟨rfl, rfl, rfl⟩ w766 (show decode cX6_drawnNumber 1 = .ok (.getfield 9, 3) by decide +kernel) ?_
  refine V_iconst 2 (by decide) Z (show decode cX6_drawnNumber 4 = .ok (.iconst 2, 1) by decide +kernel) ?_
  refine V_aload_n 0 Z rfl rfl (show decode cX6_drawnNumber 5 = .ok (.aload_n 0, 1) by decide +kernel) ?_
  refine V_getR 0 48 Z zc5 (by decide) rfl (by decide) rfl (by decide) ⟨rfl, rfl, rfl⟩ w766 (show decode cX6_drawnNumber 6 = .ok (.getfield 9, 3) by decide +kernel) ?_
  refine V_iconst 2 (by decide) Z (show decode cX6_drawnNumber 9 = .ok (.iconst 2, 1) by decide +kernel) ?_
  obtain ⟨v1, e2, h⟩ := zB_bind h
  refine V_iald Z e2 (show decode cX6_drawnNumber 10 = .ok (.iaload, 1) by decide +kernel) ?_
  refine V_ldc 1103515245 Z w1143 (show decode cX6_drawnNumber 11 = .ok (.ldc 232, 2) by decide +kernel) ?_
  refine V_imul Z (show decode cX6_drawnNumber 13 = .ok (.imul, 1) by decide +kernel) ?_
  refine V_sipush 12345 (by decide) Z (show decode cX6_drawnNumber 14 = .ok (.sipush 12345, 3) by decide +kernel) ?_
  refine V_iadd Z (show decode cX6_drawnNumber 17 = .ok (.iadd, 1) by decide +kernel) ?_
  obtain ⟨M3, e4, h⟩ := zB_bind h
  refine V_iast Z e4 (show decode cX6_drawnNumber 18 = .ok (.iastore, 1) by decide +kernel) ?_
  refine V_aload_n 0 Z rfl rfl (show decode cX6_drawnNumber 19 = .ok (.aload_n 0, 1) by decide +kernel) ?_
  refine V_getR 0 48 Z zc5 (by decide) rfl (by decide) rfl (by decide) ⟨rfl, rfl, rfl⟩ w766 (show decode cX6_drawnNumber 20 = .ok (.getfield 9, 3) by decide +kernel) ?_
  refine V_iconst 2 (by decide) Z (show decode cX6_drawnNumber 23 = .ok (.iconst 2, 1) by decide +kernel) ?_
  obtain ⟨v5, e6, h⟩ := zB_bind h
  refine V_iald Z e6 (show decode cX6_drawnNumber 24 = .ok (.iaload, 1) by decide +kernel) ?_
  refine V_bipush 8 (by decide) Z (show decode cX6_drawnNumber 25 = .ok (.bipush 8, 2) by decide +kernel) ?_
  refine V_iushr Z (show decode cX6_drawnNumber 27 = .ok (.iushr, 1) by decide +kernel) ?_
  exact V_iretM Z hE h (show decode cX6_drawnNumber 28 = .ok (.ireturn, 1) by decide +kernel)
def f_X6_moths_j94 (M : zM) : Option (Int32 × zM) :=
  (f_X6_hungNow  M).bind fun (v2 : Int32) =>
  (f_X6_bits v2 M).bind fun (v4 : Int32) =>
  some ((v4, M))
def f_X6_moths_j84 (y1 : Int32) (y2 : Int32) (M : zM) : Option ((Int32 × zM) ⊕ (Int32 × zM)) :=
  (f_X6_day  M).bind fun (M12 : zM) =>
  (some (y2 + 1)).bind fun (x13 : Int32) =>
  some (.inl ((x13, M12)))
def f_X6_moths_l39 (y1 : Int32) : Int32 × zM → Option ((Int32 × zM) ⊕ (Int32 × zM))
  | (y2, M) =>
    if y1 ≤ y2 then
      (f_X6_moths_j94  M).bind fun z => some (Sum.inr z)
    else
      (f_X6_drawnNumber  M).bind fun ((v17, M18) : Int32 × zM) =>
      (some ((v17 - v17 / 16 * 16))).bind fun (x19 : Int32) =>
      (f_X6_isName x19 M18).bind fun (v22 : Int32) =>
      if v22 = 0 then
        f_X6_moths_j84 y1 y2 M18
      else
        (f_X6_place x19 2 M18).bind fun (v25 : Int32) =>
        (f_X6_nameIs x19 2 M18).bind fun (v27 : Int32) =>
        (zwr M18 48 v25 (if (v27 + 10) < 99 then (v27 + 10) else 99)).bind fun (M28 : zM) =>
        f_X6_moths_j84 y1 y2 M28
def f_X6_moths (x1 : Int32) (M : zM) : Option (Int32 × zM) :=
  (f_X6_within x1 1 20 M).bind fun (v6 : Int32) =>
  if v6 = 0 then
    (f_X6_finding (-1000001) M).bind fun ((v34, M35) : Int32 × zM) =>
    some ((v34, M35))
  else
    (zrd M 48 0).bind fun (v8 : Int32) =>
    if (v8 + x1) ≤ 99999 then
      zIter (f_X6_moths_l39 x1) 1000 (0, M)
    else
      (f_X6_finding (-1000005) M).bind fun ((v31, M32) : Int32 × zM) =>
      some ((v31, M32))
theorem cd_X6_moths : zCd yX6_moths cX6_moths 4 (some .int) 1 := ⟨w1138, w69, ⟨by decide, by decide⟩, by decide +kernel⟩
set_option maxHeartbeats 4000000 in
set_option maxRecDepth 20000 in
theorem ok_X6_moths {x1 : Int32} {M : zM} {y : Int32 × zM}  (h : f_X6_moths x1 M = some y) : zRuns yX6_moths cX6_moths 4 (some .int) 6 134 [.ref 47, .int x1] M (some (.int y.1)) y.2 := by
  refine zRuns_of (by decide +kernel) (Nat.le_of_ble_eq_true rfl) (fun E Z hE => ?_)
  have h := zB_top h
  change VV E 4 0 [(0, Value.ref 47), (1, Value.int x1)] [] M
  have J94 : ∀ (M : zM), (f_X6_moths_j94  M).bind some = some y → VV E 4 94 [(0, Value.ref 47)] [] M := by
    intro  M h
    refine V_aload_n 0 Z rfl rfl (show decode cX6_moths 94 = .ok (.aload_n 0, 1) by decide +kernel) ?_
    obtain ⟨v2, e1, h⟩ := zB_bind h
    refine V_callV (rest := []) 0 Z (ok_X6_hungNow  e1) cd_X6_hungNow zc5 (by decide) rfl w975 w977 w36 rfl (show decode cX6_moths 95 = .ok (.invokevirtual 172, 3) by decide +kernel) rfl ?_
    obtain ⟨v4, e3, h⟩ := zB_bind h
    refine V_callS (rest := []) 1 Z (ok_X6_bits  e3) cd_X6_bits w1080 w1081 rfl (show decode cX6_moths 98 = .ok (.invokestatic 207, 3) by decide +kernel) rfl ?_
    exact V_iretM Z hE h (show decode cX6_moths 101 = .ok (.ireturn, 1) by decide +kernel)
  refine V_iload_n 1 Z rfl rfl (show decode cX6_moths 0 = .ok (.iload_n 1, 1) by decide +kernel) ?_
  refine V_iconst 1 (by decide) Z (show decode cX6_moths 1 = .ok (.iconst 1, 1) by decide +kernel) ?_
  refine V_bipush 20 (by decide) Z (show decode cX6_moths 2 = .ok (.bipush 20, 2) by decide +kernel) ?_
  obtain ⟨v6, e5, h⟩ := zB_bind h
  refine V_callS (rest := []) 3 Z (ok_X6_within  e5) cd_X6_within w840 w841 rfl (show decode cX6_moths 4 = .ok (.invokestatic 76, 3) by decide +kernel) rfl ?_
  refine V_if_ne 17 Z (by decide) (show decode cX6_moths 7 = .ok (.ifCond .ne 10, 3) by decide +kernel) (fun c7 => ?_) (fun c7 => ?_)
  · have h := zB_neg c7 h
    refine V_aload_n 0 Z rfl rfl (show decode cX6_moths 17 = .ok (.aload_n 0, 1) by decide +kernel) ?_
    refine V_getR 0 48 Z zc5 (by decide) rfl (by decide) rfl (by decide) ⟨rfl, rfl, rfl⟩ w766 (show decode cX6_moths 18 = .ok (.getfield 9, 3) by decide +kernel) ?_
    refine V_iconst 0 (by decide) Z (show decode cX6_moths 21 = .ok (.iconst 0, 1) by decide +kernel) ?_
    obtain ⟨v8, e9, h⟩ := zB_bind h
    refine V_iald Z e9 (show decode cX6_moths 22 = .ok (.iaload, 1) by decide +kernel) ?_
    refine V_iload_n 1 Z rfl rfl (show decode cX6_moths 23 = .ok (.iload_n 1, 1) by decide +kernel) ?_
    refine V_iadd Z (show decode cX6_moths 24 = .ok (.iadd, 1) by decide +kernel) ?_
    refine V_ldc 99999 Z w896 (show decode cX6_moths 25 = .ok (.ldc 115, 2) by decide +kernel) ?_
    refine V_icmp_le 37 Z (by decide) (show decode cX6_moths 27 = .ok (.if_icmp .le 10, 3) by decide +kernel) (fun c10 => ?_) (fun c10 => ?_)
    · have h := zB_pos c10 h
      refine V_iconst 0 (by decide) Z (show decode cX6_moths 37 = .ok (.iconst 0, 1) by decide +kernel) ?_
      refine V_istore_n [(2, Value.int 0), (0, Value.ref 47), (1, Value.int x1)] Z (by decide) rfl rfl (show decode cX6_moths 38 = .ok (.istore_n 2, 1) by decide +kernel) ?_
      refine V_sub [1, 2, 0] rfl ?_
      refine zIter_loop' (K := some) (fun s : Int32 × zM => VV E 4 39 [(0, Value.ref 47), (1, Value.int x1), (2, Value.int s.1)] [] s.2) (fun K1 s c1_i c1_r h => ?_) _ _ h
      obtain ⟨y2, M⟩ := s
      change VV E 4 39 [(0, Value.ref 47), (1, Value.int x1), (2, Value.int y2)] [] M
      have J84 : ∀ (y1 : Int32) (y2 : Int32) (M : zM), (f_X6_moths_j84 y1 y2 M).bind K1 = some y → VV E 4 84 [(0, Value.ref 47), (1, Value.int y1), (2, Value.int y2)] [] M := by
        intro y1 y2 M h
        refine V_aload_n 0 Z rfl rfl (show decode cX6_moths 84 = .ok (.aload_n 0, 1) by decide +kernel) ?_
        obtain ⟨M12, e11, h⟩ := zB_bind h
        refine V_callV (rest := []) 0 Z (ok_X6_day  e11) cd_X6_day zc5 (by decide) rfl w946 w948 w30 rfl (show decode cX6_moths 85 = .ok (.invokevirtual 161, 3) by decide +kernel) rfl ?_
        obtain ⟨x13, e14, h⟩ := zB_let h
        refine V_iinc (n := 1) 2 x13 [(2, Value.int x13), (0, Value.ref 47), (1, Value.int y1)] Z (by decide) rfl e14 rfl (show decode cX6_moths 88 = .ok (.iinc 2 1, 3) by decide +kernel) ?_
        refine V_goto 39 Z (by decide) (show decode cX6_moths 91 = .ok (.goto (-52), 3) by decide +kernel) ?_
        refine V_sub [1, 2, 0] rfl ?_
        exact c1_i _ h
      refine V_iload_n 2 Z rfl rfl (show decode cX6_moths 39 = .ok (.iload_n 2, 1) by decide +kernel) ?_
      refine V_iload_n 1 Z rfl rfl (show decode cX6_moths 40 = .ok (.iload_n 1, 1) by decide +kernel) ?_
      refine V_icmp_ge 94 Z (by decide) (show decode cX6_moths 41 = .ok (.if_icmp .ge 53, 3) by decide +kernel) (fun c15 => ?_) (fun c15 => ?_)
      · have h := zB_pos c15 h
        refine V_sub [0] rfl ?_
        have h := zB_lift c1_r h
        exact J94 _ h
      · have h := zB_neg c15 h
        refine V_aload_n 0 Z rfl rfl (show decode cX6_moths 44 = .ok (.aload_n 0, 1) by decide +kernel) ?_
        obtain ⟨⟨v17, M18⟩, e16, h⟩ := zB_bind h
        refine V_callV (rest := []) 0 Z (ok_X6_drawnNumber  e16) cd_X6_drawnNumber zc5 (by decide) rfl w1139 w1141 w52 rfl (show decode cX6_moths 45 = .ok (.invokevirtual 233, 3) by decide +kernel) rfl ?_
        refine V_bipush 16 (by decide) Z (show decode cX6_moths 48 = .ok (.bipush 16, 2) by decide +kernel) ?_
        refine V_iremc (by decide) Z (show decode cX6_moths 50 = .ok (.irem, 1) by decide +kernel) ?_
        obtain ⟨x19, e20, h⟩ := zB_let h
        refine V_nm e20 ?_
        refine V_istore_n [(3, Value.int x19), (0, Value.ref 47), (1, Value.int x1), (2, Value.int y2)] Z (by decide) rfl rfl (show decode cX6_moths 51 = .ok (.istore_n 3, 1) by decide +kernel) ?_
        refine V_aload_n 1 Z rfl rfl (show decode cX6_moths 52 = .ok (.aload_n 0, 1) by decide +kernel) ?_
        refine V_iload_n 0 Z rfl rfl (show decode cX6_moths 53 = .ok (.iload_n 3, 1) by decide +kernel) ?_
        obtain ⟨v22, e21, h⟩ := zB_bind h
        refine V_callV (rest := []) 1 Z (ok_X6_isName  e21) cd_X6_isName zc5 (by decide) rfl w860 w862 w19 rfl (show decode cX6_moths 54 = .ok (.invokevirtual 100, 3) by decide +kernel) rfl ?_
        refine V_if_eq 84 Z (by decide) (show decode cX6_moths 57 = .ok (.ifCond .eq 27, 3) by decide +kernel) (fun c23 => ?_) (fun c23 => ?_)
        · have h := zB_pos c23 h
          refine V_sub [1, 2, 3] rfl ?_
          exact J84 _ _ _ h
        · have h := zB_neg c23 h
          refine V_aload_n 1 Z rfl rfl (show decode cX6_moths 60 = .ok (.aload_n 0, 1) by decide +kernel) ?_
          refine V_getR 0 48 Z zc5 (by decide) rfl (by decide) rfl (by decide) ⟨rfl, rfl, rfl⟩ w766 (show decode cX6_moths 61 = .ok (.getfield 9, 3) by decide +kernel) ?_
          refine V_iload_n 0 Z rfl rfl (show decode cX6_moths 64 = .ok (.iload_n 3, 1) by decide +kernel) ?_
          refine V_iconst 2 (by decide) Z (show decode cX6_moths 65 = .ok (.iconst 2, 1) by decide +kernel) ?_
          obtain ⟨v25, e24, h⟩ := zB_bind h
          refine V_callS (rest := [_]) 2 Z (ok_X6_place  e24) cd_X6_place w853 w854 rfl (show decode cX6_moths 66 = .ok (.invokestatic 80, 3) by decide +kernel) rfl ?_
          refine V_bipush 99 (by decide) Z (show decode cX6_moths 69 = .ok (.bipush 99, 2) by decide +kernel) ?_
          refine V_aload_n 1 Z rfl rfl (show decode cX6_moths 71 = .ok (.aload_n 0, 1) by decide +kernel) ?_
          refine V_iload_n 0 Z rfl rfl (show decode cX6_moths 72 = .ok (.iload_n 3, 1) by decide +kernel) ?_
          refine V_iconst 2 (by decide) Z (show decode cX6_moths 73 = .ok (.iconst 2, 1) by decide +kernel) ?_
          obtain ⟨v27, e26, h⟩ := zB_bind h
          refine V_callV (rest := [_, _, _]) 2 Z (ok_X6_nameIs  e26) cd_X6_nameIs zc5 (by decide) rfl w868 w870 w21 rfl (show decode cX6_moths 74 = .ok (.invokevirtual 93, 3) by decide +kernel) rfl ?_
          refine V_bipush 10 (by decide) Z (show decode cX6_moths 77 = .ok (.bipush 10, 2) by decide +kernel) ?_
          refine V_iadd Z (show decode cX6_moths 79 = .ok (.iadd, 1) by decide +kernel) ?_
          refine V_min Z w962 w367 w71 w368 (show decode cX6_moths 80 = .ok (.invokestatic 148, 3) by decide +kernel) rfl ?_
          obtain ⟨M28, e29, h⟩ := zB_bind h
          refine V_iast Z e29 (show decode cX6_moths 83 = .ok (.iastore, 1) by decide +kernel) ?_
          refine V_sub [1, 2, 3] rfl ?_
          exact J84 _ _ _ h
    · have h := zB_neg c10 h
      refine V_aload_n 0 Z rfl rfl (show decode cX6_moths 30 = .ok (.aload_n 0, 1) by decide +kernel) ?_
      refine V_ldc (-1000005) Z w941 (show decode cX6_moths 31 = .ok (.ldc 164, 2) by decide +kernel) ?_
      obtain ⟨⟨v31, M32⟩, e30, h⟩ := zB_bind h
      refine V_callV (rest := []) 1 Z (ok_X6_finding  e30) cd_X6_finding zc5 (by decide) rfl w844 w846 w17 rfl (show decode cX6_moths 33 = .ok (.invokevirtual 72, 3) by decide +kernel) rfl ?_
      exact V_iretM Z hE h (show decode cX6_moths 36 = .ok (.ireturn, 1) by decide +kernel)
  · have h := zB_pos c7 h
    refine V_aload_n 0 Z rfl rfl (show decode cX6_moths 10 = .ok (.aload_n 0, 1) by decide +kernel) ?_
    refine V_ldc (-1000001) Z w843 (show decode cX6_moths 11 = .ok (.ldc 66, 2) by decide +kernel) ?_
    obtain ⟨⟨v34, M35⟩, e33, h⟩ := zB_bind h
    refine V_callV (rest := []) 1 Z (ok_X6_finding  e33) cd_X6_finding zc5 (by decide) rfl w844 w846 w17 rfl (show decode cX6_moths 13 = .ok (.invokevirtual 72, 3) by decide +kernel) rfl ?_
    exact V_iretM Z hE h (show decode cX6_moths 16 = .ok (.ireturn, 1) by decide +kernel)
def f_X6_odds_j19 (M : zM) : Option (Int64 × zM) :=
  (f_X6_finding (-1000001) M).bind fun ((v2, M3) : Int32 × zM) =>
  some ((((v2 : Int32).toInt64), M3))
def f_X6_odds_l71 (y1 : Int32) (y2 : Int32) (y3 : Int32) (y4 : Int32) (M : zM) : Int64 × Int32 → Option ((Int64 × Int32) ⊕ ((Int32 × Int32) ⊕ (Int64 × zM)))
  | (y5, y7) =>
    if y1 ≤ y7 then
      some (.inr (.inr ((y5, M))))
    else
      if y2 = 0 then
        (some ((y5 * ((y3 : Int32).toInt64)))).bind fun (x23 : Int64) =>
        (some (y7 + 1)).bind fun (x25 : Int32) =>
        some (.inl ((x23, x25)))
      else
        (some ((y5 * ((y4 : Int32).toInt64)))).bind fun (x19 : Int64) =>
        (some (y7 + 1)).bind fun (x21 : Int32) =>
        some (.inl ((x19, x21)))
def f_X6_odds_l39 (y1 : Int32) (y2 : Int32) (M : zM) : Int32 × Int32 → Option ((Int32 × Int32) ⊕ (Int64 × zM))
  | (y3, y4) =>
    if (y3 - y3 / 2 * 2) = 0 then
      if (y4 - y4 / 2 * 2) = 0 then
        (some ((y3 / 2))).bind fun (x40 : Int32) =>
        (some ((y4 / 2))).bind fun (x42 : Int32) =>
        some (.inl ((x40, x42)))
      else
        (some ((1 : Int64))).bind fun (x28 : Int64) =>
        zIter (f_X6_odds_l71 y1 y2 y3 y4 M) 1000 (x28, 0)
    else
      (some ((1 : Int64))).bind fun (x15 : Int64) =>
      zIter (f_X6_odds_l71 y1 y2 y3 y4 M) 1000 (x15, 0)
def f_X6_odds (x1 : Int32) (x2 : Int32) (M : zM) : Option (Int64 × zM) :=
  (f_X6_within x1 0 14 M).bind fun (v5 : Int32) =>
  if v5 = 0 then
    f_X6_odds_j19  M
  else
    (f_X6_within x2 0 1 M).bind fun (v8 : Int32) =>
    if v8 = 0 then
      f_X6_odds_j19  M
    else
      (f_X6_hungNow  M).bind fun (v11 : Int32) =>
      (f_X6_bits v11 M).bind fun (v13 : Int32) =>
      zIter (f_X6_odds_l39 x1 x2 M) 1000 (v13, 16)
theorem cd_X6_odds : zCd yX6_odds cX6_odds 8 (some .long) 2 := ⟨w1147, w69, ⟨by decide, by decide⟩, by decide +kernel⟩
set_option maxHeartbeats 4000000 in
set_option maxRecDepth 20000 in
theorem ok_X6_odds {x1 : Int32} {x2 : Int32} {M : zM} {y : Int64 × zM}  (h : f_X6_odds x1 x2 M = some y) : zRuns yX6_odds cX6_odds 8 (some .long) 4 86 [.ref 47, .int x1, .int x2] M (some (.long y.1)) y.2 := by
  refine zRuns_of (by decide +kernel) (Nat.le_of_ble_eq_true rfl) (fun E Z hE => ?_)
  have h := zB_top h
  change VV E 8 0 [(0, Value.ref 47), (1, Value.int x1), (2, Value.int x2)] [] M
  have J19 : ∀ (M : zM), (f_X6_odds_j19  M).bind some = some y → VV E 8 19 [(0, Value.ref 47)] [] M := by
    intro  M h
    refine V_aload_n 0 Z rfl rfl (show decode cX6_odds 19 = .ok (.aload_n 0, 1) by decide +kernel) ?_
    refine V_ldc (-1000001) Z w843 (show decode cX6_odds 20 = .ok (.ldc 66, 2) by decide +kernel) ?_
    obtain ⟨⟨v2, M3⟩, e1, h⟩ := zB_bind h
    refine V_callV (rest := []) 1 Z (ok_X6_finding  e1) cd_X6_finding zc5 (by decide) rfl w844 w846 w17 rfl (show decode cX6_odds 22 = .ok (.invokevirtual 72, 3) by decide +kernel) rfl ?_
    refine V_i2l Z (show decode cX6_odds 25 = .ok (.i2l, 1) by decide +kernel) ?_
    exact V_lretM Z hE h (show decode cX6_odds 26 = .ok (.lreturn, 1) by decide +kernel)
  refine V_iload_n 1 Z rfl rfl (show decode cX6_odds 0 = .ok (.iload_n 1, 1) by decide +kernel) ?_
  refine V_iconst 0 (by decide) Z (show decode cX6_odds 1 = .ok (.iconst 0, 1) by decide +kernel) ?_
  refine V_bipush 14 (by decide) Z (show decode cX6_odds 2 = .ok (.bipush 14, 2) by decide +kernel) ?_
  obtain ⟨v5, e4, h⟩ := zB_bind h
  refine V_callS (rest := []) 3 Z (ok_X6_within  e4) cd_X6_within w840 w841 rfl (show decode cX6_odds 4 = .ok (.invokestatic 76, 3) by decide +kernel) rfl ?_
  refine V_if_eq 19 Z (by decide) (show decode cX6_odds 7 = .ok (.ifCond .eq 12, 3) by decide +kernel) (fun c6 => ?_) (fun c6 => ?_)
  · have h := zB_pos c6 h
    refine V_sub [0] rfl ?_
    exact J19 _ h
  · have h := zB_neg c6 h
    refine V_iload_n 2 Z rfl rfl (show decode cX6_odds 10 = .ok (.iload_n 2, 1) by decide +kernel) ?_
    refine V_iconst 0 (by decide) Z (show decode cX6_odds 11 = .ok (.iconst 0, 1) by decide +kernel) ?_
    refine V_iconst 1 (by decide) Z (show decode cX6_odds 12 = .ok (.iconst 1, 1) by decide +kernel) ?_
    obtain ⟨v8, e7, h⟩ := zB_bind h
    refine V_callS (rest := []) 3 Z (ok_X6_within  e7) cd_X6_within w840 w841 rfl (show decode cX6_odds 13 = .ok (.invokestatic 76, 3) by decide +kernel) rfl ?_
    refine V_if_ne 27 Z (by decide) (show decode cX6_odds 16 = .ok (.ifCond .ne 11, 3) by decide +kernel) (fun c9 => ?_) (fun c9 => ?_)
    · have h := zB_neg c9 h
      refine V_aload_n 0 Z rfl rfl (show decode cX6_odds 27 = .ok (.aload_n 0, 1) by decide +kernel) ?_
      obtain ⟨v11, e10, h⟩ := zB_bind h
      refine V_callV (rest := []) 0 Z (ok_X6_hungNow  e10) cd_X6_hungNow zc5 (by decide) rfl w975 w977 w36 rfl (show decode cX6_odds 28 = .ok (.invokevirtual 172, 3) by decide +kernel) rfl ?_
      obtain ⟨v13, e12, h⟩ := zB_bind h
      refine V_callS (rest := []) 1 Z (ok_X6_bits  e12) cd_X6_bits w1080 w1081 rfl (show decode cX6_odds 31 = .ok (.invokestatic 207, 3) by decide +kernel) rfl ?_
      refine V_istore_n [(3, Value.int v13), (0, Value.ref 47), (1, Value.int x1), (2, Value.int x2)] Z (by decide) rfl rfl (show decode cX6_odds 34 = .ok (.istore_n 3, 1) by decide +kernel) ?_
      refine V_bipush 16 (by decide) Z (show decode cX6_odds 35 = .ok (.bipush 16, 2) by decide +kernel) ?_
      refine V_istore [(4, Value.int 16), (3, Value.int v13), (0, Value.ref 47), (1, Value.int x1), (2, Value.int x2)] Z (by decide) rfl (show decode cX6_odds 37 = .ok (.istore 4, 2) by decide +kernel) ?_
      refine V_sub [3, 4, 1, 0] rfl ?_
      refine zIter_loop' (K := some) (fun s : Int32 × Int32 => VV E 8 39 [(1, Value.int x1), (2, Value.int x2), (3, Value.int s.1), (4, Value.int s.2)] [] M) (fun K1 s c1_i c1_r h => ?_) _ _ h
      obtain ⟨y3, y4⟩ := s
      change VV E 8 39 [(1, Value.int x1), (2, Value.int x2), (3, Value.int y3), (4, Value.int y4)] [] M
      refine V_iload_n 2 Z rfl rfl (show decode cX6_odds 39 = .ok (.iload_n 3, 1) by decide +kernel) ?_
      refine V_iconst 2 (by decide) Z (show decode cX6_odds 40 = .ok (.iconst 2, 1) by decide +kernel) ?_
      refine V_iremc (by decide) Z (show decode cX6_odds 41 = .ok (.irem, 1) by decide +kernel) ?_
      refine V_if_ne 65 Z (by decide) (show decode cX6_odds 42 = .ok (.ifCond .ne 23, 3) by decide +kernel) (fun c14 => ?_) (fun c14 => ?_)
      · have h := zB_neg c14 h
        refine V_lconst 1 (by decide) Z (show decode cX6_odds 65 = .ok (.lconst 1, 1) by decide +kernel) ?_
        obtain ⟨x15, e16, h⟩ := zB_let h
        refine V_nml e16 ?_
        refine V_lstore [(5, Value.long x15), (1, Value.int x1), (2, Value.int x2), (3, Value.int y3), (4, Value.int y4)] Z (by decide) rfl (show decode cX6_odds 66 = .ok (.lstore 5, 2) by decide +kernel) ?_
        refine V_iconst 0 (by decide) Z (show decode cX6_odds 68 = .ok (.iconst 0, 1) by decide +kernel) ?_
        refine V_istore [(7, Value.int 0), (5, Value.long x15), (1, Value.int x1), (2, Value.int x2), (3, Value.int y3), (4, Value.int y4)] Z (by decide) rfl (show decode cX6_odds 69 = .ok (.istore 7, 2) by decide +kernel) ?_
        refine V_sub [2, 3, 4, 5, 1, 0] rfl ?_
        refine zIter_loop' (K := K1) (fun s : Int64 × Int32 => VV E 8 71 [(1, Value.int x1), (2, Value.int x2), (3, Value.int y3), (4, Value.int y4), (5, Value.long s.1), (7, Value.int s.2)] [] M) (fun K2 s c2_i c2_r h => ?_) _ _ h
        obtain ⟨y5, y7⟩ := s
        change VV E 8 71 [(1, Value.int x1), (2, Value.int x2), (3, Value.int y3), (4, Value.int y4), (5, Value.long y5), (7, Value.int y7)] [] M
        refine V_iload 5 Z rfl (show decode cX6_odds 71 = .ok (.iload 7, 2) by decide +kernel) ?_
        refine V_iload_n 0 Z rfl rfl (show decode cX6_odds 73 = .ok (.iload_n 1, 1) by decide +kernel) ?_
        refine V_icmp_ge 100 Z (by decide) (show decode cX6_odds 74 = .ok (.if_icmp .ge 26, 3) by decide +kernel) (fun c17 => ?_) (fun c17 => ?_)
        · have h := zB_pos c17 h
          refine V_lload 4 Z rfl (show decode cX6_odds 100 = .ok (.lload 5, 2) by decide +kernel) ?_
          have h := c2_r _ h
          have h := c1_r _ h
          exact V_lretM Z hE h (show decode cX6_odds 102 = .ok (.lreturn, 1) by decide +kernel)
        · have h := zB_neg c17 h
          refine V_lload 4 Z rfl (show decode cX6_odds 77 = .ok (.lload 5, 2) by decide +kernel) ?_
          refine V_iload_n 1 Z rfl rfl (show decode cX6_odds 79 = .ok (.iload_n 2, 1) by decide +kernel) ?_
          refine V_if_ne 88 Z (by decide) (show decode cX6_odds 80 = .ok (.ifCond .ne 8, 3) by decide +kernel) (fun c18 => ?_) (fun c18 => ?_)
          · have h := zB_neg c18 h
            refine V_iload 3 Z rfl (show decode cX6_odds 88 = .ok (.iload 4, 2) by decide +kernel) ?_
            refine V_i2l Z (show decode cX6_odds 90 = .ok (.i2l, 1) by decide +kernel) ?_
            refine V_lmul Z (show decode cX6_odds 91 = .ok (.lmul, 1) by decide +kernel) ?_
            obtain ⟨x19, e20, h⟩ := zB_let h
            refine V_nml e20 ?_
            refine V_lstore [(5, Value.long x19), (1, Value.int x1), (2, Value.int x2), (3, Value.int y3), (4, Value.int y4), (7, Value.int y7)] Z (by decide) rfl (show decode cX6_odds 92 = .ok (.lstore 5, 2) by decide +kernel) ?_
            obtain ⟨x21, e22, h⟩ := zB_let h
            refine V_iinc (n := 1) 5 x21 [(7, Value.int x21), (5, Value.long x19), (1, Value.int x1), (2, Value.int x2), (3, Value.int y3), (4, Value.int y4)] Z (by decide) rfl e22 rfl (show decode cX6_odds 94 = .ok (.iinc 7 1, 3) by decide +kernel) ?_
            refine V_goto 71 Z (by decide) (show decode cX6_odds 97 = .ok (.goto (-26), 3) by decide +kernel) ?_
            refine V_sub [2, 3, 4, 5, 1, 0] rfl ?_
            exact c2_i _ h
          · have h := zB_pos c18 h
            refine V_iload_n 2 Z rfl rfl (show decode cX6_odds 83 = .ok (.iload_n 3, 1) by decide +kernel) ?_
            refine V_i2l Z (show decode cX6_odds 84 = .ok (.i2l, 1) by decide +kernel) ?_
            refine V_goto 91 Z (by decide) (show decode cX6_odds 85 = .ok (.goto 6, 3) by decide +kernel) ?_
            refine V_lmul Z (show decode cX6_odds 91 = .ok (.lmul, 1) by decide +kernel) ?_
            obtain ⟨x23, e24, h⟩ := zB_let h
            refine V_nml e24 ?_
            refine V_lstore [(5, Value.long x23), (1, Value.int x1), (2, Value.int x2), (3, Value.int y3), (4, Value.int y4), (7, Value.int y7)] Z (by decide) rfl (show decode cX6_odds 92 = .ok (.lstore 5, 2) by decide +kernel) ?_
            obtain ⟨x25, e26, h⟩ := zB_let h
            refine V_iinc (n := 1) 5 x25 [(7, Value.int x25), (5, Value.long x23), (1, Value.int x1), (2, Value.int x2), (3, Value.int y3), (4, Value.int y4)] Z (by decide) rfl e26 rfl (show decode cX6_odds 94 = .ok (.iinc 7 1, 3) by decide +kernel) ?_
            refine V_goto 71 Z (by decide) (show decode cX6_odds 97 = .ok (.goto (-26), 3) by decide +kernel) ?_
            refine V_sub [2, 3, 4, 5, 1, 0] rfl ?_
            exact c2_i _ h
      · have h := zB_pos c14 h
        refine V_iload 3 Z rfl (show decode cX6_odds 45 = .ok (.iload 4, 2) by decide +kernel) ?_
        refine V_iconst 2 (by decide) Z (show decode cX6_odds 47 = .ok (.iconst 2, 1) by decide +kernel) ?_
        refine V_iremc (by decide) Z (show decode cX6_odds 48 = .ok (.irem, 1) by decide +kernel) ?_
        refine V_if_ne 65 Z (by decide) (show decode cX6_odds 49 = .ok (.ifCond .ne 16, 3) by decide +kernel) (fun c27 => ?_) (fun c27 => ?_)
        · have h := zB_neg c27 h
          refine V_lconst 1 (by decide) Z (show decode cX6_odds 65 = .ok (.lconst 1, 1) by decide +kernel) ?_
          obtain ⟨x28, e29, h⟩ := zB_let h
          refine V_nml e29 ?_
          refine V_lstore [(5, Value.long x28), (1, Value.int x1), (2, Value.int x2), (3, Value.int y3), (4, Value.int y4)] Z (by decide) rfl (show decode cX6_odds 66 = .ok (.lstore 5, 2) by decide +kernel) ?_
          refine V_iconst 0 (by decide) Z (show decode cX6_odds 68 = .ok (.iconst 0, 1) by decide +kernel) ?_
          refine V_istore [(7, Value.int 0), (5, Value.long x28), (1, Value.int x1), (2, Value.int x2), (3, Value.int y3), (4, Value.int y4)] Z (by decide) rfl (show decode cX6_odds 69 = .ok (.istore 7, 2) by decide +kernel) ?_
          refine V_sub [2, 3, 4, 5, 1, 0] rfl ?_
          refine zIter_loop' (K := K1) (fun s : Int64 × Int32 => VV E 8 71 [(1, Value.int x1), (2, Value.int x2), (3, Value.int y3), (4, Value.int y4), (5, Value.long s.1), (7, Value.int s.2)] [] M) (fun K2 s c2_i c2_r h => ?_) _ _ h
          obtain ⟨y5, y7⟩ := s
          change VV E 8 71 [(1, Value.int x1), (2, Value.int x2), (3, Value.int y3), (4, Value.int y4), (5, Value.long y5), (7, Value.int y7)] [] M
          refine V_iload 5 Z rfl (show decode cX6_odds 71 = .ok (.iload 7, 2) by decide +kernel) ?_
          refine V_iload_n 0 Z rfl rfl (show decode cX6_odds 73 = .ok (.iload_n 1, 1) by decide +kernel) ?_
          refine V_icmp_ge 100 Z (by decide) (show decode cX6_odds 74 = .ok (.if_icmp .ge 26, 3) by decide +kernel) (fun c30 => ?_) (fun c30 => ?_)
          · have h := zB_pos c30 h
            refine V_lload 4 Z rfl (show decode cX6_odds 100 = .ok (.lload 5, 2) by decide +kernel) ?_
            have h := c2_r _ h
            have h := c1_r _ h
            exact V_lretM Z hE h (show decode cX6_odds 102 = .ok (.lreturn, 1) by decide +kernel)
          · have h := zB_neg c30 h
            refine V_lload 4 Z rfl (show decode cX6_odds 77 = .ok (.lload 5, 2) by decide +kernel) ?_
            refine V_iload_n 1 Z rfl rfl (show decode cX6_odds 79 = .ok (.iload_n 2, 1) by decide +kernel) ?_
            refine V_if_ne 88 Z (by decide) (show decode cX6_odds 80 = .ok (.ifCond .ne 8, 3) by decide +kernel) (fun c31 => ?_) (fun c31 => ?_)
            · have h := zB_neg c31 h
              refine V_iload 3 Z rfl (show decode cX6_odds 88 = .ok (.iload 4, 2) by decide +kernel) ?_
              refine V_i2l Z (show decode cX6_odds 90 = .ok (.i2l, 1) by decide +kernel) ?_
              refine V_lmul Z (show decode cX6_odds 91 = .ok (.lmul, 1) by decide +kernel) ?_
              obtain ⟨x32, e33, h⟩ := zB_let h
              refine V_nml e33 ?_
              refine V_lstore [(5, Value.long x32), (1, Value.int x1), (2, Value.int x2), (3, Value.int y3), (4, Value.int y4), (7, Value.int y7)] Z (by decide) rfl (show decode cX6_odds 92 = .ok (.lstore 5, 2) by decide +kernel) ?_
              obtain ⟨x34, e35, h⟩ := zB_let h
              refine V_iinc (n := 1) 5 x34 [(7, Value.int x34), (5, Value.long x32), (1, Value.int x1), (2, Value.int x2), (3, Value.int y3), (4, Value.int y4)] Z (by decide) rfl e35 rfl (show decode cX6_odds 94 = .ok (.iinc 7 1, 3) by decide +kernel) ?_
              refine V_goto 71 Z (by decide) (show decode cX6_odds 97 = .ok (.goto (-26), 3) by decide +kernel) ?_
              refine V_sub [2, 3, 4, 5, 1, 0] rfl ?_
              exact c2_i _ h
            · have h := zB_pos c31 h
              refine V_iload_n 2 Z rfl rfl (show decode cX6_odds 83 = .ok (.iload_n 3, 1) by decide +kernel) ?_
              refine V_i2l Z (show decode cX6_odds 84 = .ok (.i2l, 1) by decide +kernel) ?_
              refine V_goto 91 Z (by decide) (show decode cX6_odds 85 = .ok (.goto 6, 3) by decide +kernel) ?_
              refine V_lmul Z (show decode cX6_odds 91 = .ok (.lmul, 1) by decide +kernel) ?_
              obtain ⟨x36, e37, h⟩ := zB_let h
              refine V_nml e37 ?_
              refine V_lstore [(5, Value.long x36), (1, Value.int x1), (2, Value.int x2), (3, Value.int y3), (4, Value.int y4), (7, Value.int y7)] Z (by decide) rfl (show decode cX6_odds 92 = .ok (.lstore 5, 2) by decide +kernel) ?_
              obtain ⟨x38, e39, h⟩ := zB_let h
              refine V_iinc (n := 1) 5 x38 [(7, Value.int x38), (5, Value.long x36), (1, Value.int x1), (2, Value.int x2), (3, Value.int y3), (4, Value.int y4)] Z (by decide) rfl e39 rfl (show decode cX6_odds 94 = .ok (.iinc 7 1, 3) by decide +kernel) ?_
              refine V_goto 71 Z (by decide) (show decode cX6_odds 97 = .ok (.goto (-26), 3) by decide +kernel) ?_
              refine V_sub [2, 3, 4, 5, 1, 0] rfl ?_
              exact c2_i _ h
        · have h := zB_pos c27 h
          refine V_iload_n 2 Z rfl rfl (show decode cX6_odds 52 = .ok (.iload_n 3, 1) by decide +kernel) ?_
          refine V_iconst 2 (by decide) Z (show decode cX6_odds 53 = .ok (.iconst 2, 1) by decide +kernel) ?_
          refine V_idivc (by decide) Z (show decode cX6_odds 54 = .ok (.idiv, 1) by decide +kernel) ?_
          obtain ⟨x40, e41, h⟩ := zB_let h
          refine V_nm e41 ?_
          refine V_istore_n [(3, Value.int x40), (1, Value.int x1), (2, Value.int x2), (4, Value.int y4)] Z (by decide) rfl rfl (show decode cX6_odds 55 = .ok (.istore_n 3, 1) by decide +kernel) ?_
          refine V_iload 3 Z rfl (show decode cX6_odds 56 = .ok (.iload 4, 2) by decide +kernel) ?_
          refine V_iconst 2 (by decide) Z (show decode cX6_odds 58 = .ok (.iconst 2, 1) by decide +kernel) ?_
          refine V_idivc (by decide) Z (show decode cX6_odds 59 = .ok (.idiv, 1) by decide +kernel) ?_
          obtain ⟨x42, e43, h⟩ := zB_let h
          refine V_nm e43 ?_
          refine V_istore [(4, Value.int x42), (3, Value.int x40), (1, Value.int x1), (2, Value.int x2)] Z (by decide) rfl (show decode cX6_odds 60 = .ok (.istore 4, 2) by decide +kernel) ?_
          refine V_goto 39 Z (by decide) (show decode cX6_odds 62 = .ok (.goto (-23), 3) by decide +kernel) ?_
          refine V_sub [2, 3, 1, 0] rfl ?_
          exact c1_i _ h
    · have h := zB_pos c9 h
      refine V_sub [0] rfl ?_
      exact J19 _ h
