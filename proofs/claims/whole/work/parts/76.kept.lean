/-! SPOTS, THE TAPE'S END, WHAT IS KEPT. -/
theorem okA_setS {A : Nat → Int32} {D p : Nat} {v : Int32} (h : okA A D) (hp : p < 10) (hv : v = -1 ∨ ∃ g, g < nn A ∧ v = nI g) : okA (upd A (5 + p) v) D := by
  have e : ∀ i, i ≠ 5 + p → upd A (5 + p) v i = A i := fun i hi => by rw [upd_at, if_neg hi]
  obtain ⟨hn, hw, hF, h0, h3, h4, hnm, hpu, hsp, hz⟩ := h
  have hnn : nn (upd A (5 + p) v) = nn A := nn_congr (e 1 (by omega))
  have en : ∀ i f, nm (upd A (5 + p) v) i f = nm A i f := fun i f => e _ (by omega)
  refine ⟨by unfold okN; rw [hnn, e 1 (by omega)]; exact hn, fun q hq => by rw [e _ (by omega), hnn]; exact hw q hq, fun i hi => by rw [hnn] at hi ⊢; rw [en]; exact hF i hi, by rw [e 0 (by omega)]; exact h0, by rw [e 3 (by omega)]; exact h3, by rw [e 4 (by omega)]; exact h4, fun i hi => by rw [en, en, en, en]; exact hnm i hi, fun q hq => by rw [e _ (by omega)]; exact hpu q hq, fun i hi => ?_, fun j hj => by rw [e _ (by omega)]; exact hz j hj⟩
  rw [hnn]
  by_cases c : i = p
  · subst c; rw [upd_at, if_pos rfl]; exact hv
  · rw [e _ (by omega)]; exact hsp i hi
theorem pe_hold (x y : Int32) : PE (f_X5_hold x y) (f_X6_hold x y) := by
  intro M D hD h
  have eN := RR_names h
  have hA := h.2.1
  have hn := h.2.1.1
  by_cases hx : inB x 0 9
  · obtain ⟨p, hp, rfl⟩ := (inB_nI (n := 9) (by omega)).mp hx
    have p5 : (5 : Int32) + nI p = nI (5 + p) := nI_add 5 p
    have sp : ∀ N : zM, f_X6_isSpot (nI p) N = some 1 := fun N => by
      unfold f_X6_isSpot
      rw [m_within_eq, Option.bind_some, zbo_if, wi_t hx]; rfl
    by_cases hy : y = -1 ∨ isNm (M 48) y
    · have hq : inB y (-1) (M 48 1 - 1) := (none_or hn y).mpr hy
      refine pe_set h (r := 1) (v := y) (c := 1 + 8) (k := p) (idx := 5 + p) ?_ (by omega) (hrow_uS M 1 y (by omega)) (fun M1 hf => ?_) (okA_setS hA (by omega) (hy.imp id (fun c => (isNm_iff hn).mp c)))
      · unfold f_X5_hold
        rw [f_within_eq, Option.bind_some, wi_t hx, if_neg (by decide), f_isNameOrNone_eq, Option.bind_some, eN, wi_t hq, if_neg (by decide), wr (n := 10) rfl (by omega)]; rfl
      · unfold f_X6_hold f_X6_hold_j27
        rw [sp, Option.bind_some, if_neg (by decide), p5, wr48 (by omega)]
        by_cases c : y = -1
        · rw [if_pos c]; rfl
        · have hz : isNm (M 48) y := hy.resolve_left c
          rw [if_neg c, m_isName_eq, Option.bind_some, hf 48 (by omega), wi_t hz, if_neg (by decide)]; rfl
    · have hq : ¬ inB y (-1) (M 48 1 - 1) := fun c => hy ((none_or hn y).mp c)
      refine pe_find h 0 (by omega) ?_ (fun M1 hf => ?_)
      · unfold f_X5_hold f_X5_hold_j18
        rw [f_within_eq, Option.bind_some, wi_t hx, if_neg (by decide), f_isNameOrNone_eq, Option.bind_some, eN, wi_f hq, if_pos rfl, bind_pair]; rfl
      · unfold f_X6_hold f_X6_hold_j20
        rw [sp, Option.bind_some, if_neg (by decide), if_neg (fun c => hy (Or.inl c)), m_isName_eq, Option.bind_some, hf 48 (by omega), wi_f (fun c => hy (Or.inr c)), if_pos rfl, bind_pair]; rfl
  · refine pe_find h 0 (by omega) ?_ (fun M1 hf => ?_)
    · unfold f_X5_hold f_X5_hold_j18
      rw [f_within_eq, Option.bind_some, wi_f hx, if_pos rfl, bind_pair]; rfl
    · unfold f_X6_hold f_X6_hold_j20 f_X6_isSpot
      rw [m_within_eq, Option.bind_some, zbo_if, wi_f hx, Option.bind_some, Option.bind_some, if_pos rfl, bind_pair]; rfl
/-- what becomes of the tape alone -/
theorem RR_tape {M M2 : zM} {D : Nat} (h : RR M D) (hf : ∀ a, a ≠ 34 → a ≠ 35 → a ≠ 54 → a ≠ 47 → M2 a = M a) (h47 : M2 47 3 = M 47 3) (ht : M2 47 8 = M2 34 1 ∧ nb (M2 34 1) 120 ∧ ∀ i, i < 120 → M2 54 i = M2 35 i ∧ nb (M2 35 i) 255) : RR M2 D := by
  obtain ⟨r0, r00, r1, r2, r3, r4, r5, r6, r7, r8⟩ := h
  have g : ∀ a, a ≠ 34 → a ≠ 35 → a ≠ 54 → a ≠ 47 → M2 a = M a := hf
  have eh1 : hrow M2 1 = hrow M 1 := hrow_off (fun a h1 h2 => g a (by omega) (by omega) (by omega) (by omega))
  have eh12 : hrow M2 12 = hrow M 12 := hrow_off (fun a h1 h2 => g a (by omega) (by omega) (by omega) (by omega))
  have e : ∀ a, a = 48 ∨ a = 49 ∨ a = 50 ∨ a = 0 ∨ a = 51 ∨ a = 38 ∨ a = 57 ∨ a = 58 ∨ a = 59 → M2 a = M a := fun a ha => g a (by omega) (by omega) (by omega) (by omega)
  refine ⟨by rw [e 48 (by omega), eh1]; exact r0, by rw [e 48 (by omega)]; exact r00, by rw [e 49 (by omega)]; exact r1, by rw [e 50 (by omega)]; exact r2, by rw [h47, e 0 (by omega)]; exact r3, by rw [e 0 (by omega), e 49 (by omega), eh12]; exact r4, by rw [e 51 (by omega), e 38 (by omega)]; exact r5, by rw [e 51 (by omega), e 38 (by omega)]; exact r6, ht, fun s hs => ?_⟩
  rw [e 57 (by omega), e 58 (by omega), e 59 (by omega), g (39 + 2 * s) (by omega) (by omega) (by omega) (by omega), g (40 + 2 * s) (by omega) (by omega) (by omega) (by omega)]
  exact r8 s hs
theorem pe_wipe : PE f_X5_wipe f_X6_wipe := by
  intro M D hD h
  obtain ⟨-, -, -, -, -, -, ⟨t1, t2, t3⟩, -⟩ := h.2.2
  refine ⟨M 34 1, zU M 34 1 0, zU (zU M 34 1 0) 47 8 0, rfl, ?_, RR_mono (RR_tape h (fun a h1 h2 h3 h4 => by rw [zU_off h4, zU_off h1]) ?_ ⟨?_, ?_, fun i hi => ?_⟩) (by omega)⟩
  · have e : zU M 34 1 0 47 8 = M 34 1 := by rw [zU_off (by omega), t1]
    unfold f_X6_wipe
    rw [Option.bind_some, e]; rfl
  · rw [zU_at, if_neg (by omega), zU_off (by omega)]
  · rw [zU_same, zU_off (show 34 ≠ 47 by omega), zU_same]
  · rw [zU_off (show 34 ≠ 47 by omega), zU_same]; exact ⟨0, by omega, rfl⟩
  · rw [zU_off (show 54 ≠ 47 by omega), zU_off (show 35 ≠ 47 by omega), zU_off (show 54 ≠ 34 by omega), zU_off (show 35 ≠ 34 by omega)]
    exact t3 i hi
theorem pe_tear : PE f_X5_tear f_X6_tear := by
  intro M D hD h
  obtain ⟨r1, r2, r3, r4, r5, r6, r7, r8⟩ := h.2.2
  have hR : RR (zU (zU M 0 7 0) 47 3 0) D := by
    have g : ∀ a, a ≠ 0 → a ≠ 47 → zU (zU M 0 7 0) 47 3 0 a = M a := fun a h1 h2 => by rw [zU_off h2, zU_off h1]
    have g8 : zU (zU M 0 7 0) 47 3 0 47 8 = M 47 8 := by rw [zU_at, if_neg (by omega), zU_off (by omega)]
    have g3 : zU (zU M 0 7 0) 47 3 0 47 3 = 0 := zU_same ..
    have g0 : zU (zU M 0 7 0) 47 3 0 0 7 = 0 := by rw [zU_off (show 0 ≠ 47 by omega), zU_same]
    generalize zU (zU M 0 7 0) 47 3 0 = M2 at g g8 g3 g0
    have eh1 : hrow M2 1 = hrow M 1 := hrow_off (fun a h1 h2 => g a (by omega) (by omega))
    refine ⟨by rw [g 48 (by omega) (by omega), eh1]; exact h.1, by rw [g 48 (by omega) (by omega)]; exact h.2.1, by rw [g 49 (by omega) (by omega)]; exact r1, by rw [g 50 (by omega) (by omega)]; exact r2, by rw [g3, g0], Or.inl g0, by rw [g 51 (by omega) (by omega), g 38 (by omega) (by omega)]; exact r5, by rw [g 51 (by omega) (by omega), g 38 (by omega) (by omega)]; exact r6, by rw [g8, g 34 (by omega) (by omega), g 54 (by omega) (by omega), g 35 (by omega) (by omega)]; exact r7, fun s hs => ?_⟩
    rw [g 57 (by omega) (by omega), g 58 (by omega) (by omega), g 59 (by omega) (by omega), g (39 + 2 * s) (by omega) (by omega), g (40 + 2 * s) (by omega) (by omega)]
    exact r8 s hs
  have e3 : zU M 0 7 0 47 3 = M 0 7 := by rw [zU_off (by omega), r3]
  by_cases c : M 0 7 = 0
  · refine ⟨0, zU M 0 7 0, zU (zU M 0 7 0) 47 3 0, ?_, ?_, RR_mono hR (by omega)⟩
    · unfold f_X5_tear; rw [if_pos c]; rfl
    · unfold f_X6_tear; rw [e3, if_pos c]; rfl
  · refine ⟨1, zU M 0 7 0, zU (zU M 0 7 0) 47 3 0, ?_, ?_, RR_mono hR (by omega)⟩
    · unfold f_X5_tear; rw [if_neg c]; rfl
    · unfold f_X6_tear; rw [e3, if_neg c]; rfl
theorem pe_undo : PE f_X5_undo f_X6_undo := by
  intro M D hD h
  obtain ⟨r1, r2, r3, r4, -⟩ := h.2.2
  by_cases c : M 0 7 = 0
  · refine pe_find h 3 (by omega) ?_ (fun M1 hf => ?_)
    · unfold f_X5_undo; rw [if_pos c, bind_pair]; rfl
    · unfold f_X6_undo; rw [hf 47 (by omega), r3, if_pos c, bind_pair]; rfl
  · obtain ⟨-, k1, k2⟩ := r4.resolve_left c
    obtain ⟨M1, e1, e2, e3⟩ := h_become (M := M) isH_1 isH_12 (by omega)
    obtain ⟨M2, g1, g2, g3⟩ := m_copyRow (M := M1) (a := 49) (b := 48) (Or.inr (Or.inl rfl)) (Or.inl rfl) (by omega) (by rw [e3 49 (by omega)]; exact r1) (by rw [e3 48 (by omega)]; exact h.2.1.2.2.2.2.2.2.2.2.2)
    have hk : M2 48 = M 49 := by rw [g2, e3 49 (by omega)]
    refine ⟨M1 1 10, M1, M2, ?_, ?_, RR_mono (RR_house (M1 := M1) (E := D) (A := M 49) h (fun a ha => e3 a (by omega)) ⟨fun a ha => g3 a (by omega), ⟨by rw [g3 47 (by omega)], by rw [g3 47 (by omega)]⟩, fun i hi => by rw [g3 50 (by omega), e3 50 (by omega)]; exact RR_50 h i hi⟩ (by rw [e2, k1]) hk k2 (Nat.le_refl _)) (by omega)⟩
    · unfold f_X5_undo
      rw [if_neg c, e1]; rfl
    · have e5 : zrd M2 48 0 = some (M1 1 10) := by
        rw [show (0 : Int32) = nI 0 from rfl, rd48 (by omega), hk, k1, ← e2]; rfl
      unfold f_X6_undo
      rw [e3 47 (by omega), r3, if_neg c, g1, Option.bind_some, e5]; rfl
