/-! A SHEET LAID OUT. -/
theorem X5_sheet_ok {s : Nat} {y z : Int32} (hs : s < 4) (h : okB y) (N : zM) : f_X5_sheet (nI s) y z N = f_X5_sheet_j35 (nI s) y z N := by
  have hx : inB (nI s) 0 3 := (inB_nI (n := 3) (by omega)).mpr ⟨s, by omega, rfl⟩
  unfold f_X5_sheet
  rw [f_isSheet_eq, Option.bind_some, wi_t hx, if_neg (by decide)]
  rcases h with rfl | rfl | rfl | rfl
  · rw [if_pos rfl]
  · rw [if_neg (by decide), if_pos rfl]
  · rw [if_neg (by decide), if_neg (by decide), if_pos rfl]
  · rw [if_neg (by decide), if_neg (by decide), if_neg (by decide), if_pos rfl]
theorem X5_sheet_no {x y z : Int32} (h : ¬ inB x 0 3 ∨ ¬ okB y) (N : zM) : f_X5_sheet x y z N = f_X5_finding 0 N := by
  unfold f_X5_sheet f_X5_sheet_j29
  rw [f_isSheet_eq, Option.bind_some, bind_pair]
  by_cases hx : inB x 0 3
  · have hy := h.resolve_left (fun q => q hx)
    rw [wi_t hx, if_neg (by decide), if_neg (fun c => hy (Or.inl c)), if_neg (fun c => hy (Or.inr (Or.inl c))), if_neg (fun c => hy (Or.inr (Or.inr (Or.inl c)))), if_neg (fun c => hy (Or.inr (Or.inr (Or.inr c))))]
  · rw [wi_f hx, if_pos rfl]
theorem X6_sheet_ok {s : Nat} {y z : Int32} (hs : s < 4) (h : okB y) (N : zM) : f_X6_sheet (nI s) y z N = f_X6_sheet_j36 (nI s) y z N := by
  have hx : inB (nI s) 0 3 := (inB_nI (n := 3) (by omega)).mpr ⟨s, by omega, rfl⟩
  unfold f_X6_sheet
  rw [m_isSheet_eq, Option.bind_some, wi_t hx, if_neg (by decide)]
  rcases h with rfl | rfl | rfl | rfl
  · rw [if_pos rfl]
  · rw [if_neg (by decide), if_pos rfl]
  · rw [if_neg (by decide), if_neg (by decide), if_pos rfl]
  · rw [if_neg (by decide), if_neg (by decide), if_neg (by decide), if_pos rfl]
theorem X6_sheet_no {x y z : Int32} (h : ¬ inB x 0 3 ∨ ¬ okB y) (N : zM) : f_X6_sheet x y z N = f_X6_finding (-1000001) N := by
  unfold f_X6_sheet f_X6_sheet_j29
  rw [m_isSheet_eq, Option.bind_some, bind_pair]
  by_cases hx : inB x 0 3
  · have hy := h.resolve_left (fun q => q hx)
    rw [wi_t hx, if_neg (by decide), if_neg (fun c => hy (Or.inl c)), if_neg (fun c => hy (Or.inr (Or.inl c))), if_neg (fun c => hy (Or.inr (Or.inr (Or.inl c)))), if_neg (fun c => hy (Or.inr (Or.inr (Or.inr c))))]
  · rw [wi_f hx, if_pos rfl]
theorem h_layOut {M : zM} {s : Nat} {y : Int32} {L : Nat} (hs : s < 4) : ∃ M', f_X3_layOut (39 + 2 * s) y (nI L) M = some M' ∧ M' (39 + 2 * s) 1 = y ∧ M' (39 + 2 * s) 2 = (if y = 0 then 0 else nI L) ∧ (∀ i, i < 40 → M' (40 + 2 * s) i = 0) ∧ ∀ a, a ≠ 39 + 2 * s → a ≠ 40 + 2 * s → M' a = M a := by
  have go : ∀ (len : Int32), ∃ M', f_X3_layOut_j15 (39 + 2 * s) len (zU M (39 + 2 * s) 1 y) = some M' ∧ M' (39 + 2 * s) 1 = y ∧ M' (39 + 2 * s) 2 = len ∧ (∀ i, i < 40 → M' (40 + 2 * s) i = 0) ∧ ∀ a, a ≠ 39 + 2 * s → a ≠ 40 + 2 * s → M' a = M a := by
    intro len
    unfold f_X3_layOut_j15
    rw [Option.bind_some]
    have t1 : zU (zU M (39 + 2 * s) 1 y) (39 + 2 * s) 2 len (39 + 2 * s) 1 = y := by rw [zU_at, if_neg (by omega), zU_same]
    have t2 : zU (zU M (39 + 2 * s) 1 y) (39 + 2 * s) 2 len (39 + 2 * s) 2 = len := zU_same ..
    have t3 : ∀ a, a ≠ 39 + 2 * s → zU (zU M (39 + 2 * s) 1 y) (39 + 2 * s) 2 len a = M a := fun a ha => by rw [zU_off ha, zU_off ha]
    generalize zU (zU M (39 + 2 * s) 1 y) (39 + 2 * s) 2 len = N0 at t1 t2 t3
    refine zIter_inv (fun k st => ∃ N : zM, st = (nI k, N) ∧ (∀ i, i < k → N (40 + 2 * s) i = 0) ∧ ∀ a, a ≠ 40 + 2 * s → N a = N0 a) _ 40 1000 _ (by omega) ⟨N0, rfl, fun i hi => by omega, fun _ _ => rfl⟩ (fun k st hk hI => ?_) (fun st hI => ?_)
    · obtain ⟨N, rfl, n1, n2⟩ := hI
      rw [f_X3_layOut_l20, if_neg (show ¬ (40 : Int32) ≤ nI k from nI_ge (b := 40) hk (by decide)), show 39 + 2 * s + 1 = 40 + 2 * s by omega, wr (n := 40) (shSh hs) hk, Option.bind_some, nI_1]
      refine ⟨_, rfl, _, rfl, fun i hi => ?_, fun a ha => by rw [zU_off ha, n2 a ha]⟩
      rw [zU_at]
      by_cases c : i = k
      · rw [if_pos ⟨rfl, c⟩]
      · rw [if_neg (fun q => c q.2)]; exact n1 i (by omega)
    · obtain ⟨N, rfl, n1, n2⟩ := hI
      rw [f_X3_layOut_l20, if_pos (show (40 : Int32) ≤ nI 40 from nI_le (Nat.le_refl _) (by omega))]
      exact ⟨N, rfl, by rw [n2 _ (by omega)]; exact t1, by rw [n2 _ (by omega)]; exact t2, n1, fun a h1 h2 => by rw [n2 a h2, t3 a h1]⟩
  unfold f_X3_layOut
  rw [Option.bind_some]
  by_cases c : y = 0
  · rw [if_pos c, if_pos c]; exact go 0
  · rw [if_neg c, if_neg c]; exact go (nI L)
theorem m_layOut {M : zM} {s : Nat} {len : Int32} (hs : s < 4) : ∃ M', f_X6_sheet_j82 (nI s) len (nI s) M = some (len, M') ∧ M' 58 = upd (M 58) s len ∧ (∀ i, i < 160 → M' 59 i = if 40 * s ≤ i ∧ i < 40 * s + 40 then 0 else M 59 i) ∧ ∀ a, a ≠ 58 → a ≠ 59 → M' a = M a := by
  unfold f_X6_sheet_j82
  rw [wr (n := 4) rfl hs, Option.bind_some]
  have key : ∃ r, zIter (f_X6_sheet_l86 (nI s)) 1000 (0, zU M 58 s len) = some r ∧ ∃ M', r = (len, M') ∧ M' 58 = upd (M 58) s len ∧ (∀ i, i < 160 → M' 59 i = if 40 * s ≤ i ∧ i < 40 * s + 40 then 0 else M 59 i) ∧ ∀ a, a ≠ 58 → a ≠ 59 → M' a = M a := by
    refine zIter_inv (fun k st => ∃ N : zM, st = (nI k, N) ∧ (∀ i, i < 160 → N 59 i = if 40 * s ≤ i ∧ i < 40 * s + k then 0 else M 59 i) ∧ ∀ a, a ≠ 59 → N a = zU M 58 s len a) _ 40 1000 _ (by omega) ⟨_, rfl, fun i hi => by rw [if_neg (by omega), zU_off (by omega)], fun _ _ => rfl⟩ (fun k st hk hI => ?_) (fun st hI => ?_)
    · obtain ⟨N, rfl, n1, n2⟩ := hI
      rw [f_X6_sheet_l86, if_neg (show ¬ (40 : Int32) ≤ nI k from nI_ge (b := 40) hk (by decide)), show (40 : Int32) * nI s = nI (40 * s) from pk_mul 40 s, nI_add, wr (n := 160) rfl (by omega), Option.bind_some, nI_1]
      refine ⟨_, rfl, _, rfl, fun i hi => ?_, fun a ha => by rw [zU_off ha, n2 a ha]⟩
      rw [zU_at]
      by_cases c : i = 40 * s + k
      · rw [if_pos ⟨rfl, c⟩, if_pos (by omega)]
      · rw [if_neg (fun q => c q.2), n1 i hi]
        by_cases d : 40 * s ≤ i ∧ i < 40 * s + k
        · rw [if_pos d, if_pos (by omega)]
        · rw [if_neg d, if_neg (by omega)]
    · obtain ⟨N, rfl, n1, n2⟩ := hI
      have e58 : N 58 = upd (M 58) s len := by rw [n2 58 (by omega), zU_row]
      rw [f_X6_sheet_l86, if_pos (show (40 : Int32) ≤ nI 40 from nI_le (Nat.le_refl _) (by omega))]
      unfold f_X6_sheet_j112
      rw [rd (n := 4) rfl hs, e58, upd_at, if_pos rfl]
      exact ⟨_, rfl, N, rfl, e58, n1, fun a h1 h2 => by rw [n2 a h2, zU_off h1]⟩
  obtain ⟨r, k1, M', rfl, k2⟩ := key
  exact ⟨M', k1, k2⟩
theorem pe_sheet (x y z : Int32) : PE (f_X5_sheet x y z) (f_X6_sheet x y z) := by
  intro M D hD h
  by_cases hx : inB x 0 3
  · obtain ⟨s, hs, rfl⟩ := (inB_nI (n := 3) (by omega)).mp hx
    by_cases hy : okB y
    · have cls := X5_sheet_ok (z := z) (show s < 4 by omega) hy M
      have mod := fun N : zM => X6_sheet_ok (z := z) (show s < 4 by omega) hy N
      by_cases h0 : 0 ≤ z
      · by_cases h40 : z ≤ 40
        · obtain ⟨L, hL, rfl⟩ := (inB_nI (n := 40) (by omega)).mp (show inB z 0 (nI 40) from ⟨Int32.not_lt.mpr h0, Int32.not_lt.mpr h40⟩)
          obtain ⟨N, e1, e2, e3, e4, e5⟩ := h_layOut (M := M) (s := s) (y := y) (L := L) (by omega)
          obtain ⟨P, g1, g2, g3, g4⟩ := m_layOut (M := zU N 57 s y) (s := s) (len := if y = 0 then 0 else nI L) (by omega)
          refine ⟨if y = 0 then 0 else nI L, N, P, ?_, ?_, RR_mono (RR_sheets h (fun a h1 h2 h3 h4 h5 => by rw [g4 a h3 h4, zU_off h2, e5 a (by omega) (by omega)]) (fun t ht => ?_)) (by omega)⟩
          · rw [cls]
            unfold f_X5_sheet_j35
            rw [if_pos h0, if_pos h40, sheet_ref s (by omega), Option.bind_some, e1, Option.bind_some, Option.bind_some, e3]
          · rw [mod]
            unfold f_X6_sheet_j36
            rw [if_pos h0, if_pos h40, wr (n := 4) rfl (by omega), Option.bind_some]
            by_cases c : y = 0
            · rw [if_pos c] at g1 ⊢; rw [if_pos c]; exact g1
            · rw [if_neg c] at g1 ⊢; rw [if_neg c]; exact g1
          · obtain ⟨c1, c2, c3, c4, c5, c6⟩ := h.2.2.2.2.2.2.2.2.2 t ht
            have q57 : P 57 = upd (M 57) s y := by rw [g4 57 (by omega) (by omega), zU_row, e5 57 (by omega) (by omega)]
            have q58 : P 58 = upd (M 58) s (if y = 0 then 0 else nI L) := by rw [g2, zU_off (by omega), e5 58 (by omega) (by omega)]
            have qa : ∀ a, a < 57 → P a = N a := fun a ha => by rw [g4 a (by omega) (by omega), zU_off (by omega)]
            rw [q57, q58, qa (39 + 2 * t) (by omega), qa (40 + 2 * t) (by omega), upd_at, upd_at]
            by_cases e : t = s
            · subst e
              rw [if_pos rfl, if_pos rfl, e2, e3]
              refine ⟨rfl, rfl, fun i hi => ?_, hy, ?_, fun c => if_pos c⟩
              · rw [g3 _ (by omega), if_pos (by omega), e4 i hi]
              · by_cases c : y = 0
                · rw [if_pos c]; exact ⟨0, by omega, rfl⟩
                · rw [if_neg c]; exact ⟨L, by omega, rfl⟩
            · rw [if_neg e, if_neg e, e5 (39 + 2 * t) (by omega) (by omega), e5 (40 + 2 * t) (by omega) (by omega)]
              refine ⟨c1, c2, fun i hi => ?_, c4, c5, c6⟩
              rw [g3 _ (by omega), if_neg (by omega), zU_off (by omega), e5 59 (by omega) (by omega)]
              exact c3 i hi
        · refine pe_find h 0 (by omega) ?_ (fun M1 hf => ?_)
          · rw [cls]; unfold f_X5_sheet_j35
            rw [if_pos h0, if_neg h40, bind_pair]; rfl
          · rw [mod]; unfold f_X6_sheet_j36
            rw [if_pos h0, if_neg h40, bind_pair]; rfl
      · refine pe_find h 6 (by omega) ?_ (fun M1 hf => ?_)
        · rw [cls]; unfold f_X5_sheet_j35
          rw [if_neg h0, bind_pair]; rfl
        · rw [mod]; unfold f_X6_sheet_j36
          rw [if_neg h0, bind_pair]; rfl
    · exact pe_find h 0 (by omega) (X5_sheet_no (Or.inr hy) M) (fun M1 hf => X6_sheet_no (Or.inr hy) M1)
  · exact pe_find h 0 (by omega) (X5_sheet_no (Or.inl hx) M) (fun M1 hf => X6_sheet_no (Or.inl hx) M1)
