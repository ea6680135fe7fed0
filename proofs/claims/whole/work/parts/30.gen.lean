/-! Generated walks: X6_fits X6_wish X6_drawnNumber X6_moths X6_odds X6_seed X6_feed X6_wipe X6_byteAt -/
def f_X6_fits_j34 (s0 : Int32) (M : zM) : Option (Int32 × zM) :=
  (f_X6_finding s0 M).bind fun ((v2, M3) : Int32 × zM) =>
  some ((v2, M3))
def f_X6_fits_j15 (y1 : Int32) (M : zM) : Option (Int32 × zM) :=
  (f_X6_lacks y1 M).bind fun (v5 : Int32) =>
  if v5 = 0 then
    f_X6_fits_j34 (-1000001) M
  else
    (f_X6_lacks y1 M).bind fun (v8 : Int32) =>
    f_X6_fits_j34 v8 M
def f_X6_fits (x1 : Int32) (x2 : Int32) (M : zM) : Option (Int32 × zM) :=
  (f_X6_lacks x1 M).bind fun (v10 : Int32) =>
  if v10 = 0 then
    (f_X6_isPerson x2 M).bind fun (v13 : Int32) =>
    if v13 = 0 then
      f_X6_fits_j15 x1 M
    else
      (f_X6_fitting x1 x2 M).bind fun ((v16, M17) : Int32 × zM) =>
      (f_X6_bits v16 M17).bind fun (v19 : Int32) =>
      some ((v19, M17))
  else
    f_X6_fits_j15 x1 M
theorem cd_X6_fits : zCd yX6_fits cX6_fits 3 (some .int) 2 := ⟨w1114, w69, ⟨by decide, by decide⟩, by decide +kernel⟩
set_option maxHeartbeats 4000000 in
set_option maxRecDepth 20000 in
theorem ok_X6_fits {x1 : Int32} {x2 : Int32} {M : zM} {y : Int32 × zM}  (h : f_X6_fits x1 x2 M = some y) : zRuns yX6_fits cX6_fits 3 (some .int) 8 184 [.ref 47, .int x1, .int x2] M (some (.int y.1)) y.2 := by
  refine zRuns_of (by decide +kernel) (Nat.le_of_ble_eq_true rfl) (fun E Z hE => ?_)
  have h := zB_top h
  change VV E 3 0 [(0, Value.ref 47), (1, Value.int x1), (2, Value.int x2)] [] M
  have J34 : ∀ (s0 : Int32) (M : zM), (f_X6_fits_j34 s0 M).bind some = some y → VV E 3 34 [] [Value.int s0, Value.ref 47] M := by
    intro s0 M h
    obtain ⟨⟨v2, M3⟩, e1, h⟩ := zB_bind h
    refine V_callV (rest := []) 1 Z (ok_X6_finding  e1) cd_X6_finding zc5 (by decide) rfl w844 w846 w17 rfl (show decode cX6_fits 34 = .ok (.invokevirtual 72, 3) by decide +kernel) rfl ?_
    exact V_iretM Z hE h (show decode cX6_fits 37 = .ok (.ireturn, 1) by decide +kernel)
  have J15 : ∀ (y1 : Int32) (M : zM), (f_X6_fits_j15 y1 M).bind some = some y → VV E 3 15 [(0, Value.ref 47), (1, Value.int y1)] [] M := by
    intro y1 M h
    refine V_aload_n 0 Z rfl rfl (show decode cX6_fits 15 = .ok (.aload_n 0, 1) by decide +kernel) ?_
    refine V_aload_n 0 Z rfl rfl (show decode cX6_fits 16 = .ok (.aload_n 0, 1) by decide +kernel) ?_
    refine V_iload_n 1 Z rfl rfl (show decode cX6_fits 17 = .ok (.iload_n 1, 1) by decide +kernel) ?_
    obtain ⟨v5, e4, h⟩ := zB_bind h
    refine V_callV (rest := [_]) 1 Z (ok_X6_lacks  e4) cd_X6_lacks zc5 (by decide) rfl w1115 w1117 w49 rfl (show decode cX6_fits 18 = .ok (.invokevirtual 226, 3) by decide +kernel) rfl ?_
    refine V_if_eq 32 Z (by decide) (show decode cX6_fits 21 = .ok (.ifCond .eq 11, 3) by decide +kernel) (fun c6 => ?_) (fun c6 => ?_)
    · have h := zB_pos c6 h
      refine V_ldc (-1000001) Z w843 (show decode cX6_fits 32 = .ok (.ldc 66, 2) by decide +kernel) ?_
      refine V_sub [] rfl ?_
      exact J34 _ _ h
    · have h := zB_neg c6 h
      refine V_aload_n 0 Z rfl rfl (show decode cX6_fits 24 = .ok (.aload_n 0, 1) by decide +kernel) ?_
      refine V_iload_n 1 Z rfl rfl (show decode cX6_fits 25 = .ok (.iload_n 1, 1) by decide +kernel) ?_
      obtain ⟨v8, e7, h⟩ := zB_bind h
      refine V_callV (rest := [_]) 1 Z (ok_X6_lacks  e7) cd_X6_lacks zc5 (by decide) rfl w1115 w1117 w49 rfl (show decode cX6_fits 26 = .ok (.invokevirtual 226, 3) by decide +kernel) rfl ?_
      refine V_goto 34 Z (by decide) (show decode cX6_fits 29 = .ok (.goto 5, 3) by decide +kernel) ?_
      refine V_sub [] rfl ?_
      exact J34 _ _ h
  refine V_aload_n 0 Z rfl rfl (show decode cX6_fits 0 = .ok (.aload_n 0, 1) by decide +kernel) ?_
  refine V_iload_n 1 Z rfl rfl (show decode cX6_fits 1 = .ok (.iload_n 1, 1) by decide +kernel) ?_
  obtain ⟨v10, e9, h⟩ := zB_bind h
  refine V_callV (rest := []) 1 Z (ok_X6_lacks  e9) cd_X6_lacks zc5 (by decide) rfl w1115 w1117 w49 rfl (show decode cX6_fits 2 = .ok (.invokevirtual 226, 3) by decide +kernel) rfl ?_
  refine V_if_ne 15 Z (by decide) (show decode cX6_fits 5 = .ok (.ifCond .ne 10, 3) by decide +kernel) (fun c11 => ?_) (fun c11 => ?_)
  · have h := zB_neg c11 h
    refine V_sub [0, 1] rfl ?_
    exact J15 _ _ h
  · have h := zB_pos c11 h
    refine V_iload_n 2 Z rfl rfl (show decode cX6_fits 8 = .ok (.iload_n 2, 1) by decide +kernel) ?_
    obtain ⟨v13, e12, h⟩ := zB_bind h
    refine V_callS (rest := []) 1 Z (ok_X6_isPerson  e12) cd_X6_isPerson w908 w909 rfl (show decode cX6_fits 9 = .ok (.invokestatic 125, 3) by decide +kernel) rfl ?_
    refine V_if_ne 38 Z (by decide) (show decode cX6_fits 12 = .ok (.ifCond .ne 26, 3) by decide +kernel) (fun c14 => ?_) (fun c14 => ?_)
    · have h := zB_neg c14 h
      refine V_aload_n 0 Z rfl rfl (show decode cX6_fits 38 = .ok (.aload_n 0, 1) by decide +kernel) ?_
      refine V_iload_n 1 Z rfl rfl (show decode cX6_fits 39 = .ok (.iload_n 1, 1) by decide +kernel) ?_
      refine V_iload_n 2 Z rfl rfl (show decode cX6_fits 40 = .ok (.iload_n 2, 1) by decide +kernel) ?_
      obtain ⟨⟨v16, M17⟩, e15, h⟩ := zB_bind h
      refine V_callV (rest := []) 2 Z (ok_X6_fitting  e15) cd_X6_fitting zc5 (by decide) rfl w1123 w1125 w50 rfl (show decode cX6_fits 41 = .ok (.invokevirtual 229, 3) by decide +kernel) rfl ?_
      obtain ⟨v19, e18, h⟩ := zB_bind h
      refine V_callS (rest := []) 1 Z (ok_X6_bits  e18) cd_X6_bits w1080 w1081 rfl (show decode cX6_fits 44 = .ok (.invokestatic 207, 3) by decide +kernel) rfl ?_
      exact V_iretM Z hE h (show decode cX6_fits 47 = .ok (.ireturn, 1) by decide +kernel)
    · have h := zB_pos c14 h
      refine V_sub [0, 1] rfl ?_
      exact J15 _ _ h
def f_X6_wish_j34 (s0 : Int32) (M : zM) : Option (Int32 × zM) :=
  (f_X6_finding s0 M).bind fun ((v2, M3) : Int32 × zM) =>
  some ((v2, M3))
def f_X6_wish_j15 (y1 : Int32) (M : zM) : Option (Int32 × zM) :=
  (f_X6_lacks y1 M).bind fun (v5 : Int32) =>
  if v5 = 0 then
    f_X6_wish_j34 (-1000001) M
  else
    (f_X6_lacks y1 M).bind fun (v8 : Int32) =>
    f_X6_wish_j34 v8 M
def f_X6_wish_l59 (y3 : Int32) (M : zM) : Int32 → Option ((Int32) ⊕ (Int32 × zM))
  | y4 =>
    (f_X6_has y3 y4 M).bind fun (v20 : Int32) =>
    if v20 = 0 then
      (some (y4 + 1)).bind fun (n22 : Int32) =>
      some (.inl (n22))
    else
      some (.inr (((y4 - 1), M)))
def f_X6_wish (x1 : Int32) (x2 : Int32) (M : zM) : Option (Int32 × zM) :=
  (f_X6_lacks x1 M).bind fun (v10 : Int32) =>
  if v10 = 0 then
    (f_X6_isPerson x2 M).bind fun (v13 : Int32) =>
    if v13 = 0 then
      f_X6_wish_j15 x1 M
    else
      (f_X6_fitting x1 x2 M).bind fun ((v16, M17) : Int32 × zM) =>
      if v16 = 0 then
        (f_X6_finding (-1000004) M17).bind fun ((v25, M26) : Int32 × zM) =>
        some ((v25, M26))
      else
        zIter (f_X6_wish_l59 v16 M17) 1000 (0 : Int32)
  else
    f_X6_wish_j15 x1 M
theorem cd_X6_wish : zCd yX6_wish cX6_wish 5 (some .int) 2 := ⟨w1134, w69, ⟨by decide, by decide⟩, by decide +kernel⟩
set_option maxHeartbeats 4000000 in
set_option maxRecDepth 20000 in
theorem ok_X6_wish {x1 : Int32} {x2 : Int32} {M : zM} {y : Int32 × zM}  (h : f_X6_wish x1 x2 M = some y) : zRuns yX6_wish cX6_wish 5 (some .int) 8 184 [.ref 47, .int x1, .int x2] M (some (.int y.1)) y.2 := by
  refine zRuns_of (by decide +kernel) (Nat.le_of_ble_eq_true rfl) (fun E Z hE => ?_)
  have h := zB_top h
  change VV E 5 0 [(0, Value.ref 47), (1, Value.int x1), (2, Value.int x2)] [] M
  have J34 : ∀ (s0 : Int32) (M : zM), (f_X6_wish_j34 s0 M).bind some = some y → VV E 5 34 [] [Value.int s0, Value.ref 47] M := by
    intro s0 M h
    obtain ⟨⟨v2, M3⟩, e1, h⟩ := zB_bind h
    refine V_callV (rest := []) 1 Z (ok_X6_finding  e1) cd_X6_finding zc5 (by decide) rfl w844 w846 w17 rfl (show decode cX6_wish 34 = .ok (.invokevirtual 72, 3) by decide +kernel) rfl ?_
    exact V_iretM Z hE h (show decode cX6_wish 37 = .ok (.ireturn, 1) by decide +kernel)
  have J15 : ∀ (y1 : Int32) (M : zM), (f_X6_wish_j15 y1 M).bind some = some y → VV E 5 15 [(0, Value.ref 47), (1, Value.int y1)] [] M := by
    intro y1 M h
    refine V_aload_n 0 Z rfl rfl (show decode cX6_wish 15 = .ok (.aload_n 0, 1) by decide +kernel) ?_
    refine V_aload_n 0 Z rfl rfl (show decode cX6_wish 16 = .ok (.aload_n 0, 1) by decide +kernel) ?_
    refine V_iload_n 1 Z rfl rfl (show decode cX6_wish 17 = .ok (.iload_n 1, 1) by decide +kernel) ?_
    obtain ⟨v5, e4, h⟩ := zB_bind h
    refine V_callV (rest := [_]) 1 Z (ok_X6_lacks  e4) cd_X6_lacks zc5 (by decide) rfl w1115 w1117 w49 rfl (show decode cX6_wish 18 = .ok (.invokevirtual 226, 3) by decide +kernel) rfl ?_
    refine V_if_eq 32 Z (by decide) (show decode cX6_wish 21 = .ok (.ifCond .eq 11, 3) by decide +kernel) (fun c6 => ?_) (fun c6 => ?_)
    · have h := zB_pos c6 h
      refine V_ldc (-1000001) Z w843 (show decode cX6_wish 32 = .ok (.ldc 66, 2) by decide +kernel) ?_
      refine V_sub [] rfl ?_
      exact J34 _ _ h
    · have h := zB_neg c6 h
      refine V_aload_n 0 Z rfl rfl (show decode cX6_wish 24 = .ok (.aload_n 0, 1) by decide +kernel) ?_
      refine V_iload_n 1 Z rfl rfl (show decode cX6_wish 25 = .ok (.iload_n 1, 1) by decide +kernel) ?_
      obtain ⟨v8, e7, h⟩ := zB_bind h
      refine V_callV (rest := [_]) 1 Z (ok_X6_lacks  e7) cd_X6_lacks zc5 (by decide) rfl w1115 w1117 w49 rfl (show decode cX6_wish 26 = .ok (.invokevirtual 226, 3) by decide +kernel) rfl ?_
      refine V_goto 34 Z (by decide) (show decode cX6_wish 29 = .ok (.goto 5, 3) by decide +kernel) ?_
      refine V_sub [] rfl ?_
      exact J34 _ _ h
  refine V_aload_n 0 Z rfl rfl (show decode cX6_wish 0 = .ok (.aload_n 0, 1) by decide +kernel) ?_
  refine V_iload_n 1 Z rfl rfl (show decode cX6_wish 1 = .ok (.iload_n 1, 1) by decide +kernel) ?_
  obtain ⟨v10, e9, h⟩ := zB_bind h
  refine V_callV (rest := []) 1 Z (ok_X6_lacks  e9) cd_X6_lacks zc5 (by decide) rfl w1115 w1117 w49 rfl (show decode cX6_wish 2 = .ok (.invokevirtual 226, 3) by decide +kernel) rfl ?_
  refine V_if_ne 15 Z (by decide) (show decode cX6_wish 5 = .ok (.ifCond .ne 10, 3) by decide +kernel) (fun c11 => ?_) (fun c11 => ?_)
  · have h := zB_neg c11 h
    refine V_sub [0, 1] rfl ?_
    exact J15 _ _ h
  · have h := zB_pos c11 h
    refine V_iload_n 2 Z rfl rfl (show decode cX6_wish 8 = .ok (.iload_n 2, 1) by decide +kernel) ?_
    obtain ⟨v13, e12, h⟩ := zB_bind h
    refine V_callS (rest := []) 1 Z (ok_X6_isPerson  e12) cd_X6_isPerson w908 w909 rfl (show decode cX6_wish 9 = .ok (.invokestatic 125, 3) by decide +kernel) rfl ?_
    refine V_if_ne 38 Z (by decide) (show decode cX6_wish 12 = .ok (.ifCond .ne 26, 3) by decide +kernel) (fun c14 => ?_) (fun c14 => ?_)
    · have h := zB_neg c14 h
      refine V_aload_n 0 Z rfl rfl (show decode cX6_wish 38 = .ok (.aload_n 0, 1) by decide +kernel) ?_
      refine V_iload_n 1 Z rfl rfl (show decode cX6_wish 39 = .ok (.iload_n 1, 1) by decide +kernel) ?_
      refine V_iload_n 2 Z rfl rfl (show decode cX6_wish 40 = .ok (.iload_n 2, 1) by decide +kernel) ?_
      obtain ⟨⟨v16, M17⟩, e15, h⟩ := zB_bind h
      refine V_callV (rest := []) 2 Z (ok_X6_fitting  e15) cd_X6_fitting zc5 (by decide) rfl w1123 w1125 w50 rfl (show decode cX6_wish 41 = .ok (.invokevirtual 229, 3) by decide +kernel) rfl ?_
      refine V_istore_n [(3, Value.int v16), (0, Value.ref 47), (1, Value.int x1), (2, Value.int x2)] Z (by decide) rfl rfl (show decode cX6_wish 44 = .ok (.istore_n 3, 1) by decide +kernel) ?_
      refine V_iload_n 0 Z rfl rfl (show decode cX6_wish 45 = .ok (.iload_n 3, 1) by decide +kernel) ?_
      refine V_if_ne 56 Z (by decide) (show decode cX6_wish 46 = .ok (.ifCond .ne 10, 3) by decide +kernel) (fun c18 => ?_) (fun c18 => ?_)
      · have h := zB_neg c18 h
        refine V_iconst 0 (by decide) Z (show decode cX6_wish 56 = .ok (.iconst 0, 1) by decide +kernel) ?_
        refine V_istore [(4, Value.int 0), (3, Value.int v16), (0, Value.ref 47), (1, Value.int x1), (2, Value.int x2)] Z (by decide) rfl (show decode cX6_wish 57 = .ok (.istore 4, 2) by decide +kernel) ?_
        refine V_sub [1, 0] rfl ?_
        refine zIter_loop' (K := some) (fun s : Int32 => VV E 5 59 [(3, Value.int v16), (4, Value.int s)] [] M17) (fun K1 y4 c1_i c1_r h => ?_) _ _ h
        rw [f_X6_wish_l59] at h
        refine V_iload_n 0 Z rfl rfl (show decode cX6_wish 59 = .ok (.iload_n 3, 1) by decide +kernel) ?_
        refine V_iload 1 Z rfl (show decode cX6_wish 60 = .ok (.iload 4, 2) by decide +kernel) ?_
        obtain ⟨v20, e19, h⟩ := zB_bind h
        refine V_callS (rest := []) 2 Z (ok_X6_has  e19) cd_X6_has w923 w924 rfl (show decode cX6_wish 62 = .ok (.invokestatic 133, 3) by decide +kernel) rfl ?_
        refine V_if_ne 74 Z (by decide) (show decode cX6_wish 65 = .ok (.ifCond .ne 9, 3) by decide +kernel) (fun c21 => ?_) (fun c21 => ?_)
        · have h := zB_neg c21 h
          refine V_iload 1 Z rfl (show decode cX6_wish 74 = .ok (.iload 4, 2) by decide +kernel) ?_
          refine V_iconst 1 (by decide) Z (show decode cX6_wish 76 = .ok (.iconst 1, 1) by decide +kernel) ?_
          refine V_isub Z (show decode cX6_wish 77 = .ok (.isub, 1) by decide +kernel) ?_
          have h := c1_r _ h
          exact V_iretM Z hE h (show decode cX6_wish 78 = .ok (.ireturn, 1) by decide +kernel)
        · have h := zB_pos c21 h
          obtain ⟨n22, e23, h⟩ := zB_let h
          refine V_iinck 1 1 1 n22 [(4, Value.int n22), (3, Value.int v16)] Z (by decide) (by decide) rfl e23 rfl (show decode cX6_wish 68 = .ok (.iinc 4 1, 3) by decide +kernel) ?_
          refine V_goto 59 Z (by decide) (show decode cX6_wish 71 = .ok (.goto (-12), 3) by decide +kernel) ?_
          refine V_sub [1, 0] rfl ?_
          exact c1_i _ h
      · have h := zB_pos c18 h
        refine V_aload_n 1 Z rfl rfl (show decode cX6_wish 49 = .ok (.aload_n 0, 1) by decide +kernel) ?_
        refine V_ldc (-1000004) Z w1018 (show decode cX6_wish 50 = .ok (.ldc 71, 2) by decide +kernel) ?_
        obtain ⟨⟨v25, M26⟩, e24, h⟩ := zB_bind h
        refine V_callV (rest := []) 1 Z (ok_X6_finding  e24) cd_X6_finding zc5 (by decide) rfl w844 w846 w17 rfl (show decode cX6_wish 52 = .ok (.invokevirtual 72, 3) by decide +kernel) rfl ?_
        exact V_iretM Z hE h (show decode cX6_wish 55 = .ok (.ireturn, 1) by decide +kernel)
    · have h := zB_pos c14 h
      refine V_sub [0, 1] rfl ?_
      exact J15 _ _ h
def f_X6_drawnNumber (M : zM) : Option (Int32 × zM) :=
  (zrd M 48 2).bind fun (v1 : Int32) =>
  (zwr M 48 2 ((v1 * 1103515245) + 12345)).bind fun (M3 : zM) =>
  (zrd M3 48 2).bind fun (v5 : Int32) =>
  some (((((v5 : Int32).toUInt32 >>> ((8 : Int32).toUInt32 &&& Int32.toUInt32 31)).toInt32), M3))
theorem cd_X6_drawnNumber : zCd yX6_drawnNumber cX6_drawnNumber 1 (some .int) 0 := ⟨w1142, w69, ⟨by decide, by decide⟩, by decide +kernel⟩
set_option maxHeartbeats 4000000 in
set_option maxRecDepth 20000 in
theorem ok_X6_drawnNumber {M : zM} {y : Int32 × zM}  (h : f_X6_drawnNumber  M = some y) : zRuns yX6_drawnNumber cX6_drawnNumber 1 (some .int) 0 0 [.ref 47] M (some (.int y.1)) y.2 := by
  refine zRuns_of (by decide +kernel) (Nat.le_of_ble_eq_true rfl) (fun E Z hE => ?_)
  have h := zB_top h
  change VV E 1 0 [(0, Value.ref 47)] [] M
  refine V_aload_n 0 Z rfl rfl (show decode cX6_drawnNumber 0 = .ok (.aload_n 0, 1) by decide +kernel) ?_
  refine V_getR 0 48 Z zc5 (by decide) rfl (by decide) rfl (by decide) ⟨rfl, rfl, rfl⟩ w766 (show decode cX6_drawnNumber 1 = .ok (.getfield 9, 3) by decide +kernel) ?_
  refine V_iconst 2 (by decide) Z (show decode cX6_drawnNumber 4 = .ok (.iconst 2, 1) by decide +kernel) ?_
  refine V_aload_n 0 Z rfl rfl (show decode cX6_drawnNumber 5 = .ok (.aload_n 0, 1) by decide +kernel) ?_
  refine V_getR 0 48 Z zc5 (by decide) rfl (by decide) rfl (by decide) ⟨rfl, rfl, rfl⟩ w766 (show decode cX6_drawnNumber 6 = .ok (.getfield 9, 3) by decide +kernel) ?_
  refine V_iconst 2 (by decide) Z (show decode cX6_drawnNumber 9 = .ok (.iconst 2, 1) by decide +kernel) ?_
  obtain ⟨v1, e2, h⟩ := zB_bind h
  refine V_iald Z e2 (show decode cX6_drawnNumber 10 = .ok (.iaload, 1) by decide +kernel) ?_
  refine V_ldc 1103515245 Z w1143 (show decode cX6_drawnNumber 11 = .ok (.ldc 232, 2) by decide +kernel) ?_
  refine V_imul Z (show decode cX6_drawnNumber 13 = .ok (.imul, 1) by decide +kernel) ?_
  refine V_sipush 12345 (by decide) Z (show decode cX6_drawnNumber 14 = .ok (.sipush 12345, 3) by decide +kernel) ?_
  refine V_iadd Z (show decode cX6_drawnNumber 17 = .ok (.iadd, 1) by decide +kernel) ?_
  obtain ⟨M3, e4, h⟩ := zB_bind h
  refine V_iast Z e4 (show decode cX6_drawnNumber 18 = .ok (.iastore, 1) by decide +kernel) ?_
  refine V_aload_n 0 Z rfl rfl (show decode cX6_drawnNumber 19 = .ok (.aload_n 0, 1) by decide +kernel) ?_
  refine V_getR 0 48 Z zc5 (by decide) rfl (by decide) rfl (by decide) ⟨rfl, rfl, rfl⟩ w766 (show decode cX6_drawnNumber 20 = .ok (.getfield 9, 3) by decide +kernel) ?_
  refine V_iconst 2 (by decide) Z (show decode cX6_drawnNumber 23 = .ok (.iconst 2, 1) by decide +kernel) ?_
  obtain ⟨v5, e6, h⟩ := zB_bind h
  refine V_iald Z e6 (show decode cX6_drawnNumber 24 = .ok (.iaload, 1) by decide +kernel) ?_
  refine V_bipush 8 (by decide) Z (show decode cX6_drawnNumber 25 = .ok (.bipush 8, 2) by decide +kernel) ?_
  refine V_iushr Z (show decode cX6_drawnNumber 27 = .ok (.iushr, 1) by decide +kernel) ?_
  exact V_iretM Z hE h (show decode cX6_drawnNumber 28 = .ok (.ireturn, 1) by decide +kernel)
def f_X6_moths_j94 (M : zM) : Option (Int32 × zM) :=
  (f_X6_hungNow  M).bind fun (v2 : Int32) =>
  (f_X6_bits v2 M).bind fun (v4 : Int32) =>
  some ((v4, M))
def f_X6_moths_j84 (y1 : Int32) (y2 : Int32) (M : zM) : Option ((Int32 × zM) ⊕ (Int32 × zM)) :=
  (f_X6_day  M).bind fun (M12 : zM) =>
  (some (y2 + 1)).bind fun (n13 : Int32) =>
  some (.inl ((n13, M12)))
def f_X6_moths_l39 (y1 : Int32) : Int32 × zM → Option ((Int32 × zM) ⊕ (Int32 × zM))
  | (y2, M) =>
    if y1 ≤ y2 then
      (f_X6_moths_j94  M).bind fun z => some (Sum.inr z)
    else
      (f_X6_drawnNumber  M).bind fun ((v17, M18) : Int32 × zM) =>
      (some ((v17 - v17 / 16 * 16))).bind fun (n19 : Int32) =>
      (f_X6_isName n19 M18).bind fun (v22 : Int32) =>
      if v22 = 0 then
        f_X6_moths_j84 y1 y2 M18
      else
        (f_X6_place n19 2 M18).bind fun (v25 : Int32) =>
        (f_X6_nameIs n19 2 M18).bind fun (v27 : Int32) =>
        (zwr M18 48 v25 (if (v27 + 10) < 99 then (v27 + 10) else 99)).bind fun (M28 : zM) =>
        f_X6_moths_j84 y1 y2 M28
def f_X6_moths (x1 : Int32) (M : zM) : Option (Int32 × zM) :=
  (f_X6_within x1 1 20 M).bind fun (v6 : Int32) =>
  if v6 = 0 then
    (f_X6_finding (-1000001) M).bind fun ((v34, M35) : Int32 × zM) =>
    some ((v34, M35))
  else
    (zrd M 48 0).bind fun (v8 : Int32) =>
    if (v8 + x1) ≤ 99999 then
      zIter (f_X6_moths_l39 x1) 1000 (0, M)
    else
      (f_X6_finding (-1000005) M).bind fun ((v31, M32) : Int32 × zM) =>
      some ((v31, M32))
theorem cd_X6_moths : zCd yX6_moths cX6_moths 4 (some .int) 1 := ⟨w1138, w69, ⟨by decide, by decide⟩, by decide +kernel⟩
set_option maxHeartbeats 4000000 in
set_option maxRecDepth 20000 in
theorem ok_X6_moths {x1 : Int32} {M : zM} {y : Int32 × zM}  (h : f_X6_moths x1 M = some y) : zRuns yX6_moths cX6_moths 4 (some .int) 6 134 [.ref 47, .int x1] M (some (.int y.1)) y.2 := by
  refine zRuns_of (by decide +kernel) (Nat.le_of_ble_eq_true rfl) (fun E Z hE => ?_)
  have h := zB_top h
  change VV E 4 0 [(0, Value.ref 47), (1, Value.int x1)] [] M
  have J94 : ∀ (M : zM), (f_X6_moths_j94  M).bind some = some y → VV E 4 94 [(0, Value.ref 47)] [] M := by
    intro  M h
    refine V_aload_n 0 Z rfl rfl (show decode cX6_moths 94 = .ok (.aload_n 0, 1) by decide +kernel) ?_
    obtain ⟨v2, e1, h⟩ := zB_bind h
    refine V_callV (rest := []) 0 Z (ok_X6_hungNow  e1) cd_X6_hungNow zc5 (by decide) rfl w975 w977 w36 rfl (show decode cX6_moths 95 = .ok (.invokevirtual 172, 3) by decide +kernel) rfl ?_
    obtain ⟨v4, e3, h⟩ := zB_bind h
    refine V_callS (rest := []) 1 Z (ok_X6_bits  e3) cd_X6_bits w1080 w1081 rfl (show decode cX6_moths 98 = .ok (.invokestatic 207, 3) by decide +kernel) rfl ?_
    exact V_iretM Z hE h (show decode cX6_moths 101 = .ok (.ireturn, 1) by decide +kernel)
  refine V_iload_n 1 Z rfl rfl (show decode cX6_moths 0 = .ok (.iload_n 1, 1) by decide +kernel) ?_
  refine V_iconst 1 (by decide) Z (show decode cX6_moths 1 = .ok (.iconst 1, 1) by decide +kernel) ?_
  refine V_bipush 20 (by decide) Z (show decode cX6_moths 2 = .ok (.bipush 20, 2) by decide +kernel) ?_
  obtain ⟨v6, e5, h⟩ := zB_bind h
  refine V_callS (rest := []) 3 Z (ok_X6_within  e5) cd_X6_within w840 w841 rfl (show decode cX6_moths 4 = .ok (.invokestatic 76, 3) by decide +kernel) rfl ?_
  refine V_if_ne 17 Z (by decide) (show decode cX6_moths 7 = .ok (.ifCond .ne 10, 3) by decide +kernel) (fun c7 => ?_) (fun c7 => ?_)
  · have h := zB_neg c7 h
    refine V_aload_n 0 Z rfl rfl (show decode cX6_moths 17 = .ok (.aload_n 0, 1) by decide +kernel) ?_
    refine V_getR 0 48 Z zc5 (by decide) rfl (by decide) rfl (by decide) ⟨rfl, rfl, rfl⟩ w766 (show decode cX6_moths 18 = .ok (.getfield 9, 3) by decide +kernel) ?_
    refine V_iconst 0 (by decide) Z (show decode cX6_moths 21 = .ok (.iconst 0, 1) by decide +kernel) ?_
    obtain ⟨v8, e9, h⟩ := zB_bind h
    refine V_iald Z e9 (show decode cX6_moths 22 = .ok (.iaload, 1) by decide +kernel) ?_
    refine V_iload_n 1 Z rfl rfl (show decode cX6_moths 23 = .ok (.iload_n 1, 1) by decide +kernel) ?_
    refine V_iadd Z (show decode cX6_moths 24 = .ok (.iadd, 1) by decide +kernel) ?_
    refine V_ldc 99999 Z w896 (show decode cX6_moths 25 = .ok (.ldc 115, 2) by decide +kernel) ?_
    refine V_icmp_le 37 Z (by decide) (show decode cX6_moths 27 = .ok (.if_icmp .le 10, 3) by decide +kernel) (fun c10 => ?_) (fun c10 => ?_)
    · have h := zB_pos c10 h
      refine V_iconst 0 (by decide) Z (show decode cX6_moths 37 = .ok (.iconst 0, 1) by decide +kernel) ?_
      refine V_istore_n [(2, Value.int 0), (0, Value.ref 47), (1, Value.int x1)] Z (by decide) rfl rfl (show decode cX6_moths 38 = .ok (.istore_n 2, 1) by decide +kernel) ?_
      refine V_sub [1, 2, 0] rfl ?_
      refine zIter_loop' (K := some) (fun s : Int32 × zM => VV E 4 39 [(0, Value.ref 47), (1, Value.int x1), (2, Value.int s.1)] [] s.2) (fun K1 s c1_i c1_r h => ?_) _ _ h
      obtain ⟨y2, M⟩ := s
      change VV E 4 39 [(0, Value.ref 47), (1, Value.int x1), (2, Value.int y2)] [] M
      have J84 : ∀ (y2 : Int32) (M : zM), (f_X6_moths_j84 x1 y2 M).bind K1 = some y → VV E 4 84 [(0, Value.ref 47), (1, Value.int x1), (2, Value.int y2)] [] M := by
        intro y2 M h
        refine V_aload_n 0 Z rfl rfl (show decode cX6_moths 84 = .ok (.aload_n 0, 1) by decide +kernel) ?_
        obtain ⟨M12, e11, h⟩ := zB_bind h
        refine V_callV (rest := []) 0 Z (ok_X6_day  e11) cd_X6_day zc5 (by decide) rfl w946 w948 w30 rfl (show decode cX6_moths 85 = .ok (.invokevirtual 161, 3) by decide +kernel) rfl ?_
        obtain ⟨n13, e14, h⟩ := zB_let h
        refine V_iinck 1 1 2 n13 [(2, Value.int n13), (0, Value.ref 47), (1, Value.int x1)] Z (by decide) (by decide) rfl e14 rfl (show decode cX6_moths 88 = .ok (.iinc 2 1, 3) by decide +kernel) ?_
        refine V_goto 39 Z (by decide) (show decode cX6_moths 91 = .ok (.goto (-52), 3) by decide +kernel) ?_
        refine V_sub [1, 2, 0] rfl ?_
        exact c1_i _ h
      refine V_iload_n 2 Z rfl rfl (show decode cX6_moths 39 = .ok (.iload_n 2, 1) by decide +kernel) ?_
      refine V_iload_n 1 Z rfl rfl (show decode cX6_moths 40 = .ok (.iload_n 1, 1) by decide +kernel) ?_
      refine V_icmp_ge 94 Z (by decide) (show decode cX6_moths 41 = .ok (.if_icmp .ge 53, 3) by decide +kernel) (fun c15 => ?_) (fun c15 => ?_)
      · have h := zB_pos c15 h
        refine V_sub [0] rfl ?_
        have h := zB_lift c1_r h
        exact J94 _ h
      · have h := zB_neg c15 h
        refine V_aload_n 0 Z rfl rfl (show decode cX6_moths 44 = .ok (.aload_n 0, 1) by decide +kernel) ?_
        obtain ⟨⟨v17, M18⟩, e16, h⟩ := zB_bind h
        refine V_callV (rest := []) 0 Z (ok_X6_drawnNumber  e16) cd_X6_drawnNumber zc5 (by decide) rfl w1139 w1141 w52 rfl (show decode cX6_moths 45 = .ok (.invokevirtual 233, 3) by decide +kernel) rfl ?_
        refine V_bipush 16 (by decide) Z (show decode cX6_moths 48 = .ok (.bipush 16, 2) by decide +kernel) ?_
        refine V_iremc (by decide) Z (show decode cX6_moths 50 = .ok (.irem, 1) by decide +kernel) ?_
        obtain ⟨n19, e20, h⟩ := zB_let h
        refine V_nm e20 ?_
        refine V_istore_n [(3, Value.int n19), (0, Value.ref 47), (1, Value.int x1), (2, Value.int y2)] Z (by decide) rfl rfl (show decode cX6_moths 51 = .ok (.istore_n 3, 1) by decide +kernel) ?_
        refine V_aload_n 1 Z rfl rfl (show decode cX6_moths 52 = .ok (.aload_n 0, 1) by decide +kernel) ?_
        refine V_iload_n 0 Z rfl rfl (show decode cX6_moths 53 = .ok (.iload_n 3, 1) by decide +kernel) ?_
        obtain ⟨v22, e21, h⟩ := zB_bind h
        refine V_callV (rest := []) 1 Z (ok_X6_isName  e21) cd_X6_isName zc5 (by decide) rfl w860 w862 w19 rfl (show decode cX6_moths 54 = .ok (.invokevirtual 100, 3) by decide +kernel) rfl ?_
        refine V_if_eq 84 Z (by decide) (show decode cX6_moths 57 = .ok (.ifCond .eq 27, 3) by decide +kernel) (fun c23 => ?_) (fun c23 => ?_)
        · have h := zB_pos c23 h
          refine V_sub [1, 2, 3] rfl ?_
          exact J84 _ _ h
        · have h := zB_neg c23 h
          refine V_aload_n 1 Z rfl rfl (show decode cX6_moths 60 = .ok (.aload_n 0, 1) by decide +kernel) ?_
          refine V_getR 0 48 Z zc5 (by decide) rfl (by decide) rfl (by decide) ⟨rfl, rfl, rfl⟩ w766 (show decode cX6_moths 61 = .ok (.getfield 9, 3) by decide +kernel) ?_
          refine V_iload_n 0 Z rfl rfl (show decode cX6_moths 64 = .ok (.iload_n 3, 1) by decide +kernel) ?_
          refine V_iconst 2 (by decide) Z (show decode cX6_moths 65 = .ok (.iconst 2, 1) by decide +kernel) ?_
          obtain ⟨v25, e24, h⟩ := zB_bind h
          refine V_callS (rest := [_]) 2 Z (ok_X6_place  e24) cd_X6_place w853 w854 rfl (show decode cX6_moths 66 = .ok (.invokestatic 80, 3) by decide +kernel) rfl ?_
          refine V_bipush 99 (by decide) Z (show decode cX6_moths 69 = .ok (.bipush 99, 2) by decide +kernel) ?_
          refine V_aload_n 1 Z rfl rfl (show decode cX6_moths 71 = .ok (.aload_n 0, 1) by decide +kernel) ?_
          refine V_iload_n 0 Z rfl rfl (show decode cX6_moths 72 = .ok (.iload_n 3, 1) by decide +kernel) ?_
          refine V_iconst 2 (by decide) Z (show decode cX6_moths 73 = .ok (.iconst 2, 1) by decide +kernel) ?_
          obtain ⟨v27, e26, h⟩ := zB_bind h
          refine V_callV (rest := [_, _, _]) 2 Z (ok_X6_nameIs  e26) cd_X6_nameIs zc5 (by decide) rfl w868 w870 w21 rfl (show decode cX6_moths 74 = .ok (.invokevirtual 93, 3) by decide +kernel) rfl ?_
          refine V_bipush 10 (by decide) Z (show decode cX6_moths 77 = .ok (.bipush 10, 2) by decide +kernel) ?_
          refine V_iadd Z (show decode cX6_moths 79 = .ok (.iadd, 1) by decide +kernel) ?_
          refine V_min Z w962 w367 w71 w368 (show decode cX6_moths 80 = .ok (.invokestatic 148, 3) by decide +kernel) rfl ?_
          obtain ⟨M28, e29, h⟩ := zB_bind h
          refine V_iast Z e29 (show decode cX6_moths 83 = .ok (.iastore, 1) by decide +kernel) ?_
          refine V_sub [1, 2, 3] rfl ?_
          exact J84 _ _ h
    · have h := zB_neg c10 h
      refine V_aload_n 0 Z rfl rfl (show decode cX6_moths 30 = .ok (.aload_n 0, 1) by decide +kernel) ?_
      refine V_ldc (-1000005) Z w941 (show decode cX6_moths 31 = .ok (.ldc 164, 2) by decide +kernel) ?_
      obtain ⟨⟨v31, M32⟩, e30, h⟩ := zB_bind h
      refine V_callV (rest := []) 1 Z (ok_X6_finding  e30) cd_X6_finding zc5 (by decide) rfl w844 w846 w17 rfl (show decode cX6_moths 33 = .ok (.invokevirtual 72, 3) by decide +kernel) rfl ?_
      exact V_iretM Z hE h (show decode cX6_moths 36 = .ok (.ireturn, 1) by decide +kernel)
  · have h := zB_pos c7 h
    refine V_aload_n 0 Z rfl rfl (show decode cX6_moths 10 = .ok (.aload_n 0, 1) by decide +kernel) ?_
    refine V_ldc (-1000001) Z w843 (show decode cX6_moths 11 = .ok (.ldc 66, 2) by decide +kernel) ?_
    obtain ⟨⟨v34, M35⟩, e33, h⟩ := zB_bind h
    refine V_callV (rest := []) 1 Z (ok_X6_finding  e33) cd_X6_finding zc5 (by decide) rfl w844 w846 w17 rfl (show decode cX6_moths 13 = .ok (.invokevirtual 72, 3) by decide +kernel) rfl ?_
    exact V_iretM Z hE h (show decode cX6_moths 16 = .ok (.ireturn, 1) by decide +kernel)
def f_X6_odds_l71 (y1 : Int32) (y2 : Int32) (y3 : Int32) (y4 : Int32) (M : zM) : Int64 × Int32 → Option ((Int64 × Int32) ⊕ (Int64 × zM))
  | (y5, y7) =>
    if y1 ≤ y7 then
      some (.inr ((y5, M)))
    else
      if y2 = 0 then
        (some ((y5 * ((y3 : Int32).toInt64)))).bind fun (n9 : Int64) =>
        (some (y7 + 1)).bind fun (n11 : Int32) =>
        some (.inl ((n9, n11)))
      else
        (some ((y5 * ((y4 : Int32).toInt64)))).bind fun (n5 : Int64) =>
        (some (y7 + 1)).bind fun (n7 : Int32) =>
        some (.inl ((n5, n7)))
def f_X6_odds_j65 (y1 : Int32) (y2 : Int32) (y3 : Int32) (y4 : Int32) (M : zM) : Option (Int64 × zM) :=
  (some ((1 : Int64))).bind fun (n1 : Int64) =>
  zIter (f_X6_odds_l71 y1 y2 y3 y4 M) 1000 (n1, 0)
def f_X6_odds_j19 (M : zM) : Option (Int64 × zM) :=
  (f_X6_finding (-1000001) M).bind fun ((v14, M15) : Int32 × zM) =>
  some ((((v14 : Int32).toInt64), M15))
def f_X6_odds_l39 (y1 : Int32) (y2 : Int32) (M : zM) : Int32 × Int32 → Option ((Int32 × Int32) ⊕ (Int64 × zM))
  | (y3, y4) =>
    if (y3 - y3 / 2 * 2) = 0 then
      if (y4 - y4 / 2 * 2) = 0 then
        (some ((y3 / 2))).bind fun (n28 : Int32) =>
        (some ((y4 / 2))).bind fun (n30 : Int32) =>
        some (.inl ((n28, n30)))
      else
        (f_X6_odds_j65 y1 y2 y3 y4 M).bind fun z => some (Sum.inr z)
    else
      (f_X6_odds_j65 y1 y2 y3 y4 M).bind fun z => some (Sum.inr z)
def f_X6_odds (x1 : Int32) (x2 : Int32) (M : zM) : Option (Int64 × zM) :=
  (f_X6_within x1 0 14 M).bind fun (v17 : Int32) =>
  if v17 = 0 then
    f_X6_odds_j19  M
  else
    (f_X6_within x2 0 1 M).bind fun (v20 : Int32) =>
    if v20 = 0 then
      f_X6_odds_j19  M
    else
      (f_X6_hungNow  M).bind fun (v23 : Int32) =>
      (f_X6_bits v23 M).bind fun (v25 : Int32) =>
      zIter (f_X6_odds_l39 x1 x2 M) 1000 (v25, 16)
theorem cd_X6_odds : zCd yX6_odds cX6_odds 8 (some .long) 2 := ⟨w1147, w69, ⟨by decide, by decide⟩, by decide +kernel⟩
set_option maxHeartbeats 4000000 in
set_option maxRecDepth 20000 in
theorem ok_X6_odds {x1 : Int32} {x2 : Int32} {M : zM} {y : Int64 × zM}  (h : f_X6_odds x1 x2 M = some y) : zRuns yX6_odds cX6_odds 8 (some .long) 4 86 [.ref 47, .int x1, .int x2] M (some (.long y.1)) y.2 := by
  refine zRuns_of (by decide +kernel) (Nat.le_of_ble_eq_true rfl) (fun E Z hE => ?_)
  have h := zB_top h
  change VV E 8 0 [(0, Value.ref 47), (1, Value.int x1), (2, Value.int x2)] [] M
  have J65 : ∀ (y1 : Int32) (y2 : Int32) (y3 : Int32) (y4 : Int32) (M : zM), (f_X6_odds_j65 y1 y2 y3 y4 M).bind some = some y → VV E 8 65 [(1, Value.int y1), (2, Value.int y2), (3, Value.int y3), (4, Value.int y4)] [] M := by
    intro y1 y2 y3 y4 M h
    refine V_lconst 1 (by decide) Z (show decode cX6_odds 65 = .ok (.lconst 1, 1) by decide +kernel) ?_
    obtain ⟨n1, e2, h⟩ := zB_let h
    refine V_nml e2 ?_
    refine V_lstore [(5, Value.long n1), (1, Value.int y1), (2, Value.int y2), (3, Value.int y3), (4, Value.int y4)] Z (by decide) rfl (show decode cX6_odds 66 = .ok (.lstore 5, 2) by decide +kernel) ?_
    refine V_iconst 0 (by decide) Z (show decode cX6_odds 68 = .ok (.iconst 0, 1) by decide +kernel) ?_
    refine V_istore [(7, Value.int 0), (5, Value.long n1), (1, Value.int y1), (2, Value.int y2), (3, Value.int y3), (4, Value.int y4)] Z (by decide) rfl (show decode cX6_odds 69 = .ok (.istore 7, 2) by decide +kernel) ?_
    refine V_sub [2, 3, 4, 5, 1, 0] rfl ?_
    refine zIter_loop' (K := some) (fun s : Int64 × Int32 => VV E 8 71 [(1, Value.int y1), (2, Value.int y2), (3, Value.int y3), (4, Value.int y4), (5, Value.long s.1), (7, Value.int s.2)] [] M) (fun K1 s c1_i c1_r h => ?_) _ _ h
    obtain ⟨y5, y7⟩ := s
    change VV E 8 71 [(1, Value.int y1), (2, Value.int y2), (3, Value.int y3), (4, Value.int y4), (5, Value.long y5), (7, Value.int y7)] [] M
    refine V_iload 5 Z rfl (show decode cX6_odds 71 = .ok (.iload 7, 2) by decide +kernel) ?_
    refine V_iload_n 0 Z rfl rfl (show decode cX6_odds 73 = .ok (.iload_n 1, 1) by decide +kernel) ?_
    refine V_icmp_ge 100 Z (by decide) (show decode cX6_odds 74 = .ok (.if_icmp .ge 26, 3) by decide +kernel) (fun c3 => ?_) (fun c3 => ?_)
    · have h := zB_pos c3 h
      refine V_lload 4 Z rfl (show decode cX6_odds 100 = .ok (.lload 5, 2) by decide +kernel) ?_
      have h := c1_r _ h
      exact V_lretM Z hE h (show decode cX6_odds 102 = .ok (.lreturn, 1) by decide +kernel)
    · have h := zB_neg c3 h
      refine V_lload 4 Z rfl (show decode cX6_odds 77 = .ok (.lload 5, 2) by decide +kernel) ?_
      refine V_iload_n 1 Z rfl rfl (show decode cX6_odds 79 = .ok (.iload_n 2, 1) by decide +kernel) ?_
      refine V_if_ne 88 Z (by decide) (show decode cX6_odds 80 = .ok (.ifCond .ne 8, 3) by decide +kernel) (fun c4 => ?_) (fun c4 => ?_)
      · have h := zB_neg c4 h
        refine V_iload 3 Z rfl (show decode cX6_odds 88 = .ok (.iload 4, 2) by decide +kernel) ?_
        refine V_i2l Z (show decode cX6_odds 90 = .ok (.i2l, 1) by decide +kernel) ?_
        refine V_lmul Z (show decode cX6_odds 91 = .ok (.lmul, 1) by decide +kernel) ?_
        obtain ⟨n5, e6, h⟩ := zB_let h
        refine V_nml e6 ?_
        refine V_lstore [(5, Value.long n5), (1, Value.int y1), (2, Value.int y2), (3, Value.int y3), (4, Value.int y4), (7, Value.int y7)] Z (by decide) rfl (show decode cX6_odds 92 = .ok (.lstore 5, 2) by decide +kernel) ?_
        obtain ⟨n7, e8, h⟩ := zB_let h
        refine V_iinck 1 1 5 n7 [(7, Value.int n7), (5, Value.long n5), (1, Value.int y1), (2, Value.int y2), (3, Value.int y3), (4, Value.int y4)] Z (by decide) (by decide) rfl e8 rfl (show decode cX6_odds 94 = .ok (.iinc 7 1, 3) by decide +kernel) ?_
        refine V_goto 71 Z (by decide) (show decode cX6_odds 97 = .ok (.goto (-26), 3) by decide +kernel) ?_
        refine V_sub [2, 3, 4, 5, 1, 0] rfl ?_
        exact c1_i _ h
      · have h := zB_pos c4 h
        refine V_iload_n 2 Z rfl rfl (show decode cX6_odds 83 = .ok (.iload_n 3, 1) by decide +kernel) ?_
        refine V_i2l Z (show decode cX6_odds 84 = .ok (.i2l, 1) by decide +kernel) ?_
        refine V_goto 91 Z (by decide) (show decode cX6_odds 85 = .ok (.goto 6, 3) by decide +kernel) ?_
        refine V_lmul Z (show decode cX6_odds 91 = .ok (.lmul, 1) by decide +kernel) ?_
        obtain ⟨n9, e10, h⟩ := zB_let h
        refine V_nml e10 ?_
        refine V_lstore [(5, Value.long n9), (1, Value.int y1), (2, Value.int y2), (3, Value.int y3), (4, Value.int y4), (7, Value.int y7)] Z (by decide) rfl (show decode cX6_odds 92 = .ok (.lstore 5, 2) by decide +kernel) ?_
        obtain ⟨n11, e12, h⟩ := zB_let h
        refine V_iinck 1 1 5 n11 [(7, Value.int n11), (5, Value.long n9), (1, Value.int y1), (2, Value.int y2), (3, Value.int y3), (4, Value.int y4)] Z (by decide) (by decide) rfl e12 rfl (show decode cX6_odds 94 = .ok (.iinc 7 1, 3) by decide +kernel) ?_
        refine V_goto 71 Z (by decide) (show decode cX6_odds 97 = .ok (.goto (-26), 3) by decide +kernel) ?_
        refine V_sub [2, 3, 4, 5, 1, 0] rfl ?_
        exact c1_i _ h
  have J19 : ∀ (M : zM), (f_X6_odds_j19  M).bind some = some y → VV E 8 19 [(0, Value.ref 47)] [] M := by
    intro  M h
    refine V_aload_n 0 Z rfl rfl (show decode cX6_odds 19 = .ok (.aload_n 0, 1) by decide +kernel) ?_
    refine V_ldc (-1000001) Z w843 (show decode cX6_odds 20 = .ok (.ldc 66, 2) by decide +kernel) ?_
    obtain ⟨⟨v14, M15⟩, e13, h⟩ := zB_bind h
    refine V_callV (rest := []) 1 Z (ok_X6_finding  e13) cd_X6_finding zc5 (by decide) rfl w844 w846 w17 rfl (show decode cX6_odds 22 = .ok (.invokevirtual 72, 3) by decide +kernel) rfl ?_
    refine V_i2l Z (show decode cX6_odds 25 = .ok (.i2l, 1) by decide +kernel) ?_
    exact V_lretM Z hE h (show decode cX6_odds 26 = .ok (.lreturn, 1) by decide +kernel)
  refine V_iload_n 1 Z rfl rfl (show decode cX6_odds 0 = .ok (.iload_n 1, 1) by decide +kernel) ?_
  refine V_iconst 0 (by decide) Z (show decode cX6_odds 1 = .ok (.iconst 0, 1) by decide +kernel) ?_
  refine V_bipush 14 (by decide) Z (show decode cX6_odds 2 = .ok (.bipush 14, 2) by decide +kernel) ?_
  obtain ⟨v17, e16, h⟩ := zB_bind h
  refine V_callS (rest := []) 3 Z (ok_X6_within  e16) cd_X6_within w840 w841 rfl (show decode cX6_odds 4 = .ok (.invokestatic 76, 3) by decide +kernel) rfl ?_
  refine V_if_eq 19 Z (by decide) (show decode cX6_odds 7 = .ok (.ifCond .eq 12, 3) by decide +kernel) (fun c18 => ?_) (fun c18 => ?_)
  · have h := zB_pos c18 h
    refine V_sub [0] rfl ?_
    exact J19 _ h
  · have h := zB_neg c18 h
    refine V_iload_n 2 Z rfl rfl (show decode cX6_odds 10 = .ok (.iload_n 2, 1) by decide +kernel) ?_
    refine V_iconst 0 (by decide) Z (show decode cX6_odds 11 = .ok (.iconst 0, 1) by decide +kernel) ?_
    refine V_iconst 1 (by decide) Z (show decode cX6_odds 12 = .ok (.iconst 1, 1) by decide +kernel) ?_
    obtain ⟨v20, e19, h⟩ := zB_bind h
    refine V_callS (rest := []) 3 Z (ok_X6_within  e19) cd_X6_within w840 w841 rfl (show decode cX6_odds 13 = .ok (.invokestatic 76, 3) by decide +kernel) rfl ?_
    refine V_if_ne 27 Z (by decide) (show decode cX6_odds 16 = .ok (.ifCond .ne 11, 3) by decide +kernel) (fun c21 => ?_) (fun c21 => ?_)
    · have h := zB_neg c21 h
      refine V_aload_n 0 Z rfl rfl (show decode cX6_odds 27 = .ok (.aload_n 0, 1) by decide +kernel) ?_
      obtain ⟨v23, e22, h⟩ := zB_bind h
      refine V_callV (rest := []) 0 Z (ok_X6_hungNow  e22) cd_X6_hungNow zc5 (by decide) rfl w975 w977 w36 rfl (show decode cX6_odds 28 = .ok (.invokevirtual 172, 3) by decide +kernel) rfl ?_
      obtain ⟨v25, e24, h⟩ := zB_bind h
      refine V_callS (rest := []) 1 Z (ok_X6_bits  e24) cd_X6_bits w1080 w1081 rfl (show decode cX6_odds 31 = .ok (.invokestatic 207, 3) by decide +kernel) rfl ?_
      refine V_istore_n [(3, Value.int v25), (0, Value.ref 47), (1, Value.int x1), (2, Value.int x2)] Z (by decide) rfl rfl (show decode cX6_odds 34 = .ok (.istore_n 3, 1) by decide +kernel) ?_
      refine V_bipush 16 (by decide) Z (show decode cX6_odds 35 = .ok (.bipush 16, 2) by decide +kernel) ?_
      refine V_istore [(4, Value.int 16), (3, Value.int v25), (0, Value.ref 47), (1, Value.int x1), (2, Value.int x2)] Z (by decide) rfl (show decode cX6_odds 37 = .ok (.istore 4, 2) by decide +kernel) ?_
      refine V_sub [3, 4, 1, 0] rfl ?_
      refine zIter_loop' (K := some) (fun s : Int32 × Int32 => VV E 8 39 [(1, Value.int x1), (2, Value.int x2), (3, Value.int s.1), (4, Value.int s.2)] [] M) (fun K1 s c1_i c1_r h => ?_) _ _ h
      obtain ⟨y3, y4⟩ := s
      change VV E 8 39 [(1, Value.int x1), (2, Value.int x2), (3, Value.int y3), (4, Value.int y4)] [] M
      refine V_iload_n 2 Z rfl rfl (show decode cX6_odds 39 = .ok (.iload_n 3, 1) by decide +kernel) ?_
      refine V_iconst 2 (by decide) Z (show decode cX6_odds 40 = .ok (.iconst 2, 1) by decide +kernel) ?_
      refine V_iremc (by decide) Z (show decode cX6_odds 41 = .ok (.irem, 1) by decide +kernel) ?_
      refine V_if_ne 65 Z (by decide) (show decode cX6_odds 42 = .ok (.ifCond .ne 23, 3) by decide +kernel) (fun c26 => ?_) (fun c26 => ?_)
      · have h := zB_neg c26 h
        have h := zB_lift c1_r h
        exact J65 _ _ _ _ _ h
      · have h := zB_pos c26 h
        refine V_iload 3 Z rfl (show decode cX6_odds 45 = .ok (.iload 4, 2) by decide +kernel) ?_
        refine V_iconst 2 (by decide) Z (show decode cX6_odds 47 = .ok (.iconst 2, 1) by decide +kernel) ?_
        refine V_iremc (by decide) Z (show decode cX6_odds 48 = .ok (.irem, 1) by decide +kernel) ?_
        refine V_if_ne 65 Z (by decide) (show decode cX6_odds 49 = .ok (.ifCond .ne 16, 3) by decide +kernel) (fun c27 => ?_) (fun c27 => ?_)
        · have h := zB_neg c27 h
          have h := zB_lift c1_r h
          exact J65 _ _ _ _ _ h
        · have h := zB_pos c27 h
          refine V_iload_n 2 Z rfl rfl (show decode cX6_odds 52 = .ok (.iload_n 3, 1) by decide +kernel) ?_
          refine V_iconst 2 (by decide) Z (show decode cX6_odds 53 = .ok (.iconst 2, 1) by decide +kernel) ?_
          refine V_idivc (by decide) Z (show decode cX6_odds 54 = .ok (.idiv, 1) by decide +kernel) ?_
          obtain ⟨n28, e29, h⟩ := zB_let h
          refine V_nm e29 ?_
          refine V_istore_n [(3, Value.int n28), (1, Value.int x1), (2, Value.int x2), (4, Value.int y4)] Z (by decide) rfl rfl (show decode cX6_odds 55 = .ok (.istore_n 3, 1) by decide +kernel) ?_
          refine V_iload 3 Z rfl (show decode cX6_odds 56 = .ok (.iload 4, 2) by decide +kernel) ?_
          refine V_iconst 2 (by decide) Z (show decode cX6_odds 58 = .ok (.iconst 2, 1) by decide +kernel) ?_
          refine V_idivc (by decide) Z (show decode cX6_odds 59 = .ok (.idiv, 1) by decide +kernel) ?_
          obtain ⟨n30, e31, h⟩ := zB_let h
          refine V_nm e31 ?_
          refine V_istore [(4, Value.int n30), (3, Value.int n28), (1, Value.int x1), (2, Value.int x2)] Z (by decide) rfl (show decode cX6_odds 60 = .ok (.istore 4, 2) by decide +kernel) ?_
          refine V_goto 39 Z (by decide) (show decode cX6_odds 62 = .ok (.goto (-23), 3) by decide +kernel) ?_
          refine V_sub [2, 3, 1, 0] rfl ?_
          exact c1_i _ h
    · have h := zB_pos c21 h
      refine V_sub [0] rfl ?_
      exact J19 _ h
def f_X6_seed (x1 : Int32) (M : zM) : Option (Int32 × zM) :=
  (f_X6_become 2 x1 M).bind fun ((v2, M3) : Int32 × zM) =>
  some ((v2, M3))
theorem cd_X6_seed : zCd yX6_seed cX6_seed 2 (some .int) 1 := ⟨w1151, w69, ⟨by decide, by decide⟩, by decide +kernel⟩
set_option maxHeartbeats 4000000 in
set_option maxRecDepth 20000 in
theorem ok_X6_seed {x1 : Int32} {M : zM} {y : Int32 × zM}  (h : f_X6_seed x1 M = some y) : zRuns yX6_seed cX6_seed 2 (some .int) 1 23 [.ref 47, .int x1] M (some (.int y.1)) y.2 := by
  refine zRuns_of (by decide +kernel) (Nat.le_of_ble_eq_true rfl) (fun E Z hE => ?_)
  have h := zB_top h
  change VV E 2 0 [(0, Value.ref 47), (1, Value.int x1)] [] M
  refine V_aload_n 0 Z rfl rfl (show decode cX6_seed 0 = .ok (.aload_n 0, 1) by decide +kernel) ?_
  refine V_iconst 2 (by decide) Z (show decode cX6_seed 1 = .ok (.iconst 2, 1) by decide +kernel) ?_
  refine V_iload_n 1 Z rfl rfl (show decode cX6_seed 2 = .ok (.iload_n 1, 1) by decide +kernel) ?_
  obtain ⟨⟨v2, M3⟩, e1, h⟩ := zB_bind h
  refine V_callV (rest := []) 2 Z (ok_X6_become  e1) cd_X6_become zc5 (by decide) rfl w897 w899 w27 rfl (show decode cX6_seed 3 = .ok (.invokevirtual 119, 3) by decide +kernel) rfl ?_
  exact V_iretM Z hE h (show decode cX6_seed 6 = .ok (.ireturn, 1) by decide +kernel)
def f_X6_feed_l38 (y1 : Int32) : Int32 × zM → Option ((Int32 × zM) ⊕ (Int32 × zM))
  | (y3, M) =>
    if y3 < 0 then
      some (.inr (((M 47 8), M)))
    else
      (zwr M 54 (M 47 8) ((y1 >>> ((8 * y3) &&& 31)) &&& 255)).bind fun (M8 : zM) =>
      (some (zU M8 47 8 (((M8 47 8) + 1)))).bind fun (M10 : zM) =>
      (some (y3 + (-1))).bind fun (n12 : Int32) =>
      some (.inl ((n12, M10)))
def f_X6_feed (x1 : Int32) (x2 : Int32) (M : zM) : Option (Int32 × zM) :=
  (f_X6_within x2 1 4 M).bind fun (v2 : Int32) =>
  if v2 = 0 then
    (f_X6_finding (-1000001) M).bind fun ((v18, M19) : Int32 × zM) =>
    some ((v18, M19))
  else
    if ((M 47 8) + x2) ≤ 120 then
      (some ((x2 - 1))).bind fun (n5 : Int32) =>
      zIter (f_X6_feed_l38 x1) 1000 (n5, M)
    else
      (f_X6_finding (-1000002) M).bind fun ((v15, M16) : Int32 × zM) =>
      some ((v15, M16))
theorem cd_X6_feed : zCd yX6_feed cX6_feed 4 (some .int) 2 := ⟨w1155, w69, ⟨by decide, by decide⟩, by decide +kernel⟩
set_option maxHeartbeats 4000000 in
set_option maxRecDepth 20000 in
theorem ok_X6_feed {x1 : Int32} {x2 : Int32} {M : zM} {y : Int32 × zM}  (h : f_X6_feed x1 x2 M = some y) : zRuns yX6_feed cX6_feed 4 (some .int) 1 22 [.ref 47, .int x1, .int x2] M (some (.int y.1)) y.2 := by
  refine zRuns_of (by decide +kernel) (Nat.le_of_ble_eq_true rfl) (fun E Z hE => ?_)
  have h := zB_top h
  change VV E 4 0 [(0, Value.ref 47), (1, Value.int x1), (2, Value.int x2)] [] M
  refine V_iload_n 2 Z rfl rfl (show decode cX6_feed 0 = .ok (.iload_n 2, 1) by decide +kernel) ?_
  refine V_iconst 1 (by decide) Z (show decode cX6_feed 1 = .ok (.iconst 1, 1) by decide +kernel) ?_
  refine V_iconst 4 (by decide) Z (show decode cX6_feed 2 = .ok (.iconst 4, 1) by decide +kernel) ?_
  obtain ⟨v2, e1, h⟩ := zB_bind h
  refine V_callS (rest := []) 3 Z (ok_X6_within  e1) cd_X6_within w840 w841 rfl (show decode cX6_feed 3 = .ok (.invokestatic 76, 3) by decide +kernel) rfl ?_
  refine V_if_ne 16 Z (by decide) (show decode cX6_feed 6 = .ok (.ifCond .ne 10, 3) by decide +kernel) (fun c3 => ?_) (fun c3 => ?_)
  · have h := zB_neg c3 h
    refine V_aload_n 0 Z rfl rfl (show decode cX6_feed 16 = .ok (.aload_n 0, 1) by decide +kernel) ?_
    refine V_getI 8 Z zc5 (by decide) rfl (by decide) rfl ⟨rfl, rfl, rfl⟩ w774 (show decode cX6_feed 17 = .ok (.getfield 236, 3) by decide +kernel) ?_
    refine V_iload_n 2 Z rfl rfl (show decode cX6_feed 20 = .ok (.iload_n 2, 1) by decide +kernel) ?_
    refine V_iadd Z (show decode cX6_feed 21 = .ok (.iadd, 1) by decide +kernel) ?_
    refine V_bipush 120 (by decide) Z (show decode cX6_feed 22 = .ok (.bipush 120, 2) by decide +kernel) ?_
    refine V_icmp_le 34 Z (by decide) (show decode cX6_feed 24 = .ok (.if_icmp .le 10, 3) by decide +kernel) (fun c4 => ?_) (fun c4 => ?_)
    · have h := zB_pos c4 h
      refine V_iload_n 2 Z rfl rfl (show decode cX6_feed 34 = .ok (.iload_n 2, 1) by decide +kernel) ?_
      refine V_iconst 1 (by decide) Z (show decode cX6_feed 35 = .ok (.iconst 1, 1) by decide +kernel) ?_
      refine V_isub Z (show decode cX6_feed 36 = .ok (.isub, 1) by decide +kernel) ?_
      obtain ⟨n5, e6, h⟩ := zB_let h
      refine V_nm e6 ?_
      refine V_istore_n [(3, Value.int n5), (0, Value.ref 47), (1, Value.int x1), (2, Value.int x2)] Z (by decide) rfl rfl (show decode cX6_feed 37 = .ok (.istore_n 3, 1) by decide +kernel) ?_
      refine V_sub [1, 2, 0] rfl ?_
      refine zIter_loop' (K := some) (fun s : Int32 × zM => VV E 4 38 [(0, Value.ref 47), (1, Value.int x1), (3, Value.int s.1)] [] s.2) (fun K1 s c1_i c1_r h => ?_) _ _ h
      obtain ⟨y3, M⟩ := s
      change VV E 4 38 [(0, Value.ref 47), (1, Value.int x1), (3, Value.int y3)] [] M
      refine V_iload_n 2 Z rfl rfl (show decode cX6_feed 38 = .ok (.iload_n 3, 1) by decide +kernel) ?_
      refine V_if_lt 77 Z (by decide) (show decode cX6_feed 39 = .ok (.ifCond .lt 38, 3) by decide +kernel) (fun c7 => ?_) (fun c7 => ?_)
      · have h := zB_pos c7 h
        refine V_aload_n 0 Z rfl rfl (show decode cX6_feed 77 = .ok (.aload_n 0, 1) by decide +kernel) ?_
        refine V_getI 8 Z zc5 (by decide) rfl (by decide) rfl ⟨rfl, rfl, rfl⟩ w774 (show decode cX6_feed 78 = .ok (.getfield 236, 3) by decide +kernel) ?_
        have h := c1_r _ h
        exact V_iretM Z hE h (show decode cX6_feed 81 = .ok (.ireturn, 1) by decide +kernel)
      · have h := zB_neg c7 h
        refine V_aload_n 0 Z rfl rfl (show decode cX6_feed 42 = .ok (.aload_n 0, 1) by decide +kernel) ?_
        refine V_getR 7 54 Z zc5 (by decide) rfl (by decide) rfl (by decide) ⟨rfl, rfl, rfl⟩ w773 (show decode cX6_feed 43 = .ok (.getfield 28, 3) by decide +kernel) ?_
        refine V_aload_n 0 Z rfl rfl (show decode cX6_feed 46 = .ok (.aload_n 0, 1) by decide +kernel) ?_
        refine V_getI 8 Z zc5 (by decide) rfl (by decide) rfl ⟨rfl, rfl, rfl⟩ w774 (show decode cX6_feed 47 = .ok (.getfield 236, 3) by decide +kernel) ?_
        refine V_iload_n 1 Z rfl rfl (show decode cX6_feed 50 = .ok (.iload_n 1, 1) by decide +kernel) ?_
        refine V_bipush 8 (by decide) Z (show decode cX6_feed 51 = .ok (.bipush 8, 2) by decide +kernel) ?_
        refine V_iload_n 2 Z rfl rfl (show decode cX6_feed 53 = .ok (.iload_n 3, 1) by decide +kernel) ?_
        refine V_imul Z (show decode cX6_feed 54 = .ok (.imul, 1) by decide +kernel) ?_
        refine V_ishr Z (show decode cX6_feed 55 = .ok (.ishr, 1) by decide +kernel) ?_
        refine V_sipush 255 (by decide) Z (show decode cX6_feed 56 = .ok (.sipush 255, 3) by decide +kernel) ?_
        refine V_iand Z (show decode cX6_feed 59 = .ok (.iand, 1) by decide +kernel) ?_
        obtain ⟨M8, e9, h⟩ := zB_bind h
        refine V_iast Z e9 (show decode cX6_feed 60 = .ok (.iastore, 1) by decide +kernel) ?_
        refine V_aload_n 0 Z rfl rfl (show decode cX6_feed 61 = .ok (.aload_n 0, 1) by decide +kernel) ?_
        refine V_dup rfl Z (show decode cX6_feed 62 = .ok (.dup, 1) by decide +kernel) ?_
        refine V_getI 8 Z zc5 (by decide) rfl (by decide) rfl ⟨rfl, rfl, rfl⟩ w774 (show decode cX6_feed 63 = .ok (.getfield 236, 3) by decide +kernel) ?_
        refine V_iconst 1 (by decide) Z (show decode cX6_feed 66 = .ok (.iconst 1, 1) by decide +kernel) ?_
        refine V_iadd Z (show decode cX6_feed 67 = .ok (.iadd, 1) by decide +kernel) ?_
        obtain ⟨M10, e11, h⟩ := zB_let h
        refine V_putI 8 Z zc5 (by decide) rfl (by decide) rfl ⟨rfl, rfl, rfl⟩ rfl rfl w774 (show decode cX6_feed 68 = .ok (.putfield 236, 3) by decide +kernel) ?_
        refine V_nmM e11 ?_
        obtain ⟨n12, e13, h⟩ := zB_let h
        refine V_iinck (-1) (-1) 2 n12 [(3, Value.int n12), (0, Value.ref 47), (1, Value.int x1)] Z (by decide) (by decide) rfl e13 rfl (show decode cX6_feed 71 = .ok (.iinc 3 (-1), 3) by decide +kernel) ?_
        refine V_goto 38 Z (by decide) (show decode cX6_feed 74 = .ok (.goto (-36), 3) by decide +kernel) ?_
        refine V_sub [1, 2, 0] rfl ?_
        exact c1_i _ h
    · have h := zB_neg c4 h
      refine V_aload_n 0 Z rfl rfl (show decode cX6_feed 27 = .ok (.aload_n 0, 1) by decide +kernel) ?_
      refine V_ldc (-1000002) Z w848 (show decode cX6_feed 28 = .ok (.ldc 88, 2) by decide +kernel) ?_
      obtain ⟨⟨v15, M16⟩, e14, h⟩ := zB_bind h
      refine V_callV (rest := []) 1 Z (ok_X6_finding  e14) cd_X6_finding zc5 (by decide) rfl w844 w846 w17 rfl (show decode cX6_feed 30 = .ok (.invokevirtual 72, 3) by decide +kernel) rfl ?_
      exact V_iretM Z hE h (show decode cX6_feed 33 = .ok (.ireturn, 1) by decide +kernel)
  · have h := zB_pos c3 h
    refine V_aload_n 0 Z rfl rfl (show decode cX6_feed 9 = .ok (.aload_n 0, 1) by decide +kernel) ?_
    refine V_ldc (-1000001) Z w843 (show decode cX6_feed 10 = .ok (.ldc 66, 2) by decide +kernel) ?_
    obtain ⟨⟨v18, M19⟩, e17, h⟩ := zB_bind h
    refine V_callV (rest := []) 1 Z (ok_X6_finding  e17) cd_X6_finding zc5 (by decide) rfl w844 w846 w17 rfl (show decode cX6_feed 12 = .ok (.invokevirtual 72, 3) by decide +kernel) rfl ?_
    exact V_iretM Z hE h (show decode cX6_feed 15 = .ok (.ireturn, 1) by decide +kernel)
def f_X6_wipe (M : zM) : Option (Int32 × zM) :=
  (some ((M 47 8))).bind fun (n1 : Int32) =>
  (some (zU M 47 8 0)).bind fun (M3 : zM) =>
  some ((n1, M3))
theorem cd_X6_wipe : zCd yX6_wipe cX6_wipe 2 (some .int) 0 := ⟨w1159, w69, ⟨by decide, by decide⟩, by decide +kernel⟩
set_option maxHeartbeats 4000000 in
set_option maxRecDepth 20000 in
theorem ok_X6_wipe {M : zM} {y : Int32 × zM}  (h : f_X6_wipe  M = some y) : zRuns yX6_wipe cX6_wipe 2 (some .int) 0 0 [.ref 47] M (some (.int y.1)) y.2 := by
  refine zRuns_of (by decide +kernel) (Nat.le_of_ble_eq_true rfl) (fun E Z hE => ?_)
  have h := zB_top h
  change VV E 2 0 [(0, Value.ref 47)] [] M
  refine V_aload_n 0 Z rfl rfl (show decode cX6_wipe 0 = .ok (.aload_n 0, 1) by decide +kernel) ?_
  refine V_getI 8 Z zc5 (by decide) rfl (by decide) rfl ⟨rfl, rfl, rfl⟩ w774 (show decode cX6_wipe 1 = .ok (.getfield 236, 3) by decide +kernel) ?_
  obtain ⟨n1, e2, h⟩ := zB_let h
  refine V_nm e2 ?_
  refine V_istore_n [(1, Value.int n1), (0, Value.ref 47)] Z (by decide) rfl rfl (show decode cX6_wipe 4 = .ok (.istore_n 1, 1) by decide +kernel) ?_
  refine V_aload_n 1 Z rfl rfl (show decode cX6_wipe 5 = .ok (.aload_n 0, 1) by decide +kernel) ?_
  refine V_iconst 0 (by decide) Z (show decode cX6_wipe 6 = .ok (.iconst 0, 1) by decide +kernel) ?_
  obtain ⟨M3, e4, h⟩ := zB_let h
  refine V_putI 8 Z zc5 (by decide) rfl (by decide) rfl ⟨rfl, rfl, rfl⟩ rfl rfl w774 (show decode cX6_wipe 7 = .ok (.putfield 236, 3) by decide +kernel) ?_
  refine V_nmM e4 ?_
  refine V_iload_n 0 Z rfl rfl (show decode cX6_wipe 10 = .ok (.iload_n 1, 1) by decide +kernel) ?_
  exact V_iretM Z hE h (show decode cX6_wipe 11 = .ok (.ireturn, 1) by decide +kernel)
def f_X6_byteAt (x1 : Int32) (M : zM) : Option (Int32) :=
  if (M 47 8) ≤ x1 then
    some (((-1) : Int32))
  else
    (zrd M 54 x1).bind fun (v2 : Int32) =>
    some (v2)
theorem cd_X6_byteAt : zCd yX6_byteAt cX6_byteAt 2 (some .int) 1 := ⟨w1171, w69, ⟨by decide, by decide⟩, by decide +kernel⟩
set_option maxHeartbeats 4000000 in
set_option maxRecDepth 20000 in
theorem ok_X6_byteAt {x1 : Int32} {M : zM} {y : Int32}  (h : f_X6_byteAt x1 M = some y) : zRuns yX6_byteAt cX6_byteAt 2 (some .int) 0 0 [.ref 47, .int x1] M (some (.int y)) M := by
  refine zRuns_of (by decide +kernel) (Nat.le_of_ble_eq_true rfl) (fun E Z hE => ?_)
  have h := zB_top h
  change VV E 2 0 [(0, Value.ref 47), (1, Value.int x1)] [] M
  refine V_iload_n 1 Z rfl rfl (show decode cX6_byteAt 0 = .ok (.iload_n 1, 1) by decide +kernel) ?_
  refine V_aload_n 0 Z rfl rfl (show decode cX6_byteAt 1 = .ok (.aload_n 0, 1) by decide +kernel) ?_
  refine V_getI 8 Z zc5 (by decide) rfl (by decide) rfl ⟨rfl, rfl, rfl⟩ w774 (show decode cX6_byteAt 2 = .ok (.getfield 236, 3) by decide +kernel) ?_
  refine V_icmp_ge 17 Z (by decide) (show decode cX6_byteAt 5 = .ok (.if_icmp .ge 12, 3) by decide +kernel) (fun c1 => ?_) (fun c1 => ?_)
  · have h := zB_pos c1 h
    refine V_iconst (-1) (by decide) Z (show decode cX6_byteAt 17 = .ok (.iconst (-1), 1) by decide +kernel) ?_
    exact V_iretP Z hE h (show decode cX6_byteAt 18 = .ok (.ireturn, 1) by decide +kernel)
  · have h := zB_neg c1 h
    refine V_aload_n 0 Z rfl rfl (show decode cX6_byteAt 8 = .ok (.aload_n 0, 1) by decide +kernel) ?_
    refine V_getR 7 54 Z zc5 (by decide) rfl (by decide) rfl (by decide) ⟨rfl, rfl, rfl⟩ w773 (show decode cX6_byteAt 9 = .ok (.getfield 28, 3) by decide +kernel) ?_
    refine V_iload_n 1 Z rfl rfl (show decode cX6_byteAt 12 = .ok (.iload_n 1, 1) by decide +kernel) ?_
    obtain ⟨v2, e3, h⟩ := zB_bind h
    refine V_iald Z e3 (show decode cX6_byteAt 13 = .ok (.iaload, 1) by decide +kernel) ?_
    refine V_goto 18 Z (by decide) (show decode cX6_byteAt 14 = .ok (.goto 4, 3) by decide +kernel) ?_
    exact V_iretP Z hE h (show decode cX6_byteAt 18 = .ok (.ireturn, 1) by decide +kernel)
