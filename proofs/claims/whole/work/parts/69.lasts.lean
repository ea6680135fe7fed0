/-! MENDING, AND HOW LONG. -/
theorem sub_c : ∀ w, w < 100 → ∀ k, k < 100 → (if 0 < nI w - nI k then nI w - nI k else 0) = nI (w - k) := by decide +kernel
theorem nI_sub {a k : Nat} (h : k ≤ a) : nI a - nI k = nI (a - k) := by
  have e : nI a = nI (a - k) + nI k := by rw [nI_add, Nat.sub_add_cancel h]
  rw [e, Int32.add_sub_cancel]
theorem pe_mend (x y z : Int32) : PE (f_X5_mend x y z) (f_X6_mend x y z) := by
  intro M D hD h
  have eN := RR_names h
  have hA := h.2.1
  have hn := h.2.1.1
  by_cases hx : isNm (M 48) x
  · by_cases hy : inB y 0 5
    · by_cases hz : inB z 0 99
      · obtain ⟨i, hi, rfl⟩ := (isNm_iff hn).mp hx
        have hi8 : i < 8 := by have := hn.2; omega
        obtain ⟨p, hp, rfl⟩ := (inB_nI (n := 5) (by omega)).mp hy
        obtain ⟨k, hk, rfl⟩ := (inB_nI (n := 99) (by omega)).mp hz
        obtain ⟨a, ha, ea⟩ := hA.2.2.2.2.2.2.2.1 p (by omega)
        obtain ⟨w, hw, ew⟩ := (hA.2.2.2.2.2.2.1 i hi8).2.2.1
        have e7 : M 7 p = nI a := by rw [← ea, h.1, hrow_purse _ _ (by omega)]
        have e4 : M 4 i = nI w := by rw [← ew, h.1]; exact (hrow_name M 1 hi8 (f := 2) (by omega)).symm
        have p55 : (55 : Int32) + nI p = nI (55 + p) := nI_add 55 p
        by_cases hka : k ≤ a
        · have hle : nI k ≤ nI a := nI_le hka (by omega)
          have hf : ∀ c, c ≠ 7 → c ≠ 4 → zU (zU M 7 p (nI (a - k))) 4 i (nI (w - k)) c = M c := fun c h1 h2 => by rw [zU_off h2, zU_off h1]
          generalize hM1 : zU (zU M 7 p (nI (a - k))) 4 i (nI (w - k)) = M1 at hf
          have e48 : M1 48 = M 48 := hf 48 (by omega) (by omega)
          have er : hrow M1 1 = upd (upd (hrow M 1) (55 + p) (nI (a - k))) (15 + 5 * i + 2) (nI (w - k)) := by
            rw [← hM1, show zU (zU M 7 p (nI (a - k))) 4 i (nI (w - k)) = zU (zU M (1 + 6) p (nI (a - k))) (1 + 1 + 2) i (nI (w - k)) from rfl, hrow_uN _ _ _ (by omega) hi8, hrow_uP _ _ _ (by omega)]
          refine ⟨nI (w - k), M1, zU (zU M1 48 (55 + p) (nI (a - k))) 48 (15 + 5 * i + 2) (nI (w - k)), ?_, ?_, RR_mono (RR_house (M1 := M1) (E := D) h (fun c hc => hf c (by omega) (by omega)) ⟨fun c hc => by rw [zU_off (by omega), zU_off (by omega)], ⟨by rw [zU_off (by omega), zU_off (by omega)], by rw [zU_off (by omega), zU_off (by omega)]⟩, fun j hj => by rw [zU_off (by omega), zU_off (by omega), hf 50 (by omega) (by omega)]; exact RR_50 h j hj⟩ er (by rw [zU_row, zU_row, e48, h.1]) (by
            rw [← h.1]
            exact okA_setN (okA_setP hA (by omega) ⟨a - k, by omega, rfl⟩) hi8 (by omega) (fun c => by omega) (fun c => by omega) (fun _ => ⟨w - k, by omega, rfl⟩) (fun c => by omega) (fun c => by omega)) (Nat.le_refl _)) (by omega)⟩
          · unfold f_X5_mend
            rw [f_isName_eq, Option.bind_some, eN, wi_t hx, if_neg (by decide), f_isPerson_eq, Option.bind_some, wi_t hy, if_neg (by decide), f_within_eq, Option.bind_some, wi_t hz, if_neg (by decide), rd (n := 6) rfl (by omega), Option.bind_some, e7, if_pos hle, Option.bind_some, nI_sub hka, wr (n := 6) rfl (by omega), Option.bind_some, rd (n := 8) rfl hi8, Option.bind_some, zU_off (by omega), e4, sub_c w (by omega) k (by omega), wr (n := 8) rfl hi8, Option.bind_some, rd (n := 8) rfl hi8, Option.bind_some, zU_same, hM1]
          · have q2 : ∀ N : zM, f_X6_nameIs (nI i) 2 N = some (nm (N 48) i 2) := fun N => m_nameIs hi8 (f := 2) (by omega)
            have q3 : ∀ N : zM, f_X6_place (nI i) 2 N = some (nI (15 + 5 * i + 2)) := fun N => m_place i 2 N
            have q4 : nm (zU M1 48 (55 + p) (nI (a - k)) 48) i 2 = nI w := by
              rw [zU_row, e48]; show upd _ _ _ (15 + 5 * i + 2) = _
              rw [upd_at, if_neg (by omega)]; exact ew
            have q5 : nm (zU (zU M1 48 (55 + p) (nI (a - k))) 48 (15 + 5 * i + 2) (nI (w - k)) 48) i 2 = nI (w - k) := by
              rw [zU_row]; show upd _ _ _ (15 + 5 * i + 2) = _
              rw [upd_at, if_pos rfl]
            unfold f_X6_mend
            rw [m_isName_eq, Option.bind_some, e48, wi_t hx, if_neg (by decide), m_isPerson_eq, Option.bind_some, wi_t hy, if_neg (by decide), m_within_eq, Option.bind_some, wi_t hz, if_neg (by decide), p55, rd48 (by omega), Option.bind_some, e48, ea, if_pos hle, Option.bind_some, nI_sub hka, wr48 (by omega), Option.bind_some, q3, Option.bind_some, q2, Option.bind_some, q4, sub_c w (by omega) k (by omega), wr48 (by omega), Option.bind_some, q2, Option.bind_some, q5]
        · have hle : ¬ nI k ≤ nI a := nI_ge (by omega) (by omega)
          refine pe_find h 4 (by omega) ?_ (fun M1 hf => ?_)
          · unfold f_X5_mend
            rw [f_isName_eq, Option.bind_some, eN, wi_t hx, if_neg (by decide), f_isPerson_eq, Option.bind_some, wi_t hy, if_neg (by decide), f_within_eq, Option.bind_some, wi_t hz, if_neg (by decide), rd (n := 6) rfl (by omega), Option.bind_some, e7, if_neg hle, bind_pair]; rfl
          · unfold f_X6_mend
            rw [m_isName_eq, Option.bind_some, hf 48 (by omega), wi_t hx, if_neg (by decide), m_isPerson_eq, Option.bind_some, wi_t hy, if_neg (by decide), m_within_eq, Option.bind_some, wi_t hz, if_neg (by decide), p55, rd48 (by omega), Option.bind_some, hf 48 (by omega), ea, if_neg hle, bind_pair]; rfl
      · refine pe_find h 0 (by omega) ?_ (fun M1 hf => ?_)
        · unfold f_X5_mend f_X5_mend_j25
          rw [f_isName_eq, Option.bind_some, eN, wi_t hx, if_neg (by decide), f_isPerson_eq, Option.bind_some, wi_t hy, if_neg (by decide), f_within_eq, Option.bind_some, wi_f hz, if_pos rfl, bind_pair]; rfl
        · unfold f_X6_mend f_X6_mend_j25
          rw [m_isName_eq, Option.bind_some, hf 48 (by omega), wi_t hx, if_neg (by decide), m_isPerson_eq, Option.bind_some, wi_t hy, if_neg (by decide), m_within_eq, Option.bind_some, wi_f hz, if_pos rfl, bind_pair]; rfl
    · refine pe_find h 0 (by omega) ?_ (fun M1 hf => ?_)
      · unfold f_X5_mend f_X5_mend_j25
        rw [f_isName_eq, Option.bind_some, eN, wi_t hx, if_neg (by decide), f_isPerson_eq, Option.bind_some, wi_f hy, if_pos rfl, bind_pair]; rfl
      · unfold f_X6_mend f_X6_mend_j25
        rw [m_isName_eq, Option.bind_some, hf 48 (by omega), wi_t hx, if_neg (by decide), m_isPerson_eq, Option.bind_some, wi_f hy, if_pos rfl, bind_pair]; rfl
  · refine pe_find h 0 (by omega) ?_ (fun M1 hf => ?_)
    · unfold f_X5_mend f_X5_mend_j25
      rw [f_isName_eq, Option.bind_some, eN, wi_f hx, if_pos rfl, bind_pair]; rfl
    · unfold f_X6_mend f_X6_mend_j25
      rw [m_isName_eq, Option.bind_some, hf 48 (by omega), wi_f hx, if_pos rfl, bind_pair]; rfl
/-- a finding, the reference having thought before it -/
theorem find_pair2 {M : zM} {D i : Nat} (h : RR M D) (hi : i < 7) : ∃ M1, f_X5_finding (nI i) M = some ((-1000001) - nI i, M1) ∧ (∀ a, a ≠ 38 → M1 a = M a) ∧ ∀ N1, MS M1 N1 → ∃ M2, f_X6_finding ((-1000001) - nI i) N1 = some ((-1000001) - nI i, M2) ∧ RR M2 D := by
  have e1 : ∀ N : zM, f_X5_finding (nI i) N = some ((-1000001) - nI i, zU N 38 i (N 38 i + 1)) := fun N => by
    unfold f_X5_finding
    rw [rd (n := 7) rfl hi, Option.bind_some, wr (n := 7) rfl hi]; rfl
  refine ⟨_, e1 M, fun a ha => zU_off ha, fun N1 hN => ?_⟩
  let N : zM := fun a => if a = 38 then M 38 else N1 a
  have n38 : N 38 = M 38 := if_pos rfl
  have no : ∀ a, a ≠ 38 → N a = N1 a := fun a ha => if_neg ha
  have hms : MS M N := by
    refine ⟨fun a h1 h2 h3 => ?_, ?_, fun j hj => ?_⟩
    · by_cases c : a = 38
      · rw [c, n38]
      · rw [no a c, hN.1 a h1 h2 h3, zU_off c]
    · rw [no 48 (by omega), hN.2.1, zU_off (by omega)]
    · rw [no 50 (by omega)]; exact hN.2.2 j hj
  obtain ⟨P1, P2, g1, -, g3, g4⟩ := find_pair (RR_MS h hms) hi
  have eP : P1 = N1 := by
    have := (Prod.mk.inj (Option.some.inj (g1.symm.trans (e1 N)))).2
    rw [this]
    funext a
    by_cases c : a = 38
    · subst c
      rw [zU_row, n38, hN.1 38 (by omega) (by omega) (by omega), zU_row]
    · rw [zU_off c, no a c]
  rw [eP] at g3
  exact ⟨P2, g3, g4⟩
section PEs
variable {f g : zM → Option (Int32 × zM)} {M M8 : zM} {D : Nat}
theorem pe_find2 (h : RR M D) (i : Nat) (hi : i < 7) (hf : f M = f_X5_finding (nI i) M8) (hc : CS M M8) (hg : ∀ M1, (∀ a, a ≠ 38 → M1 a = M8 a) → ∃ M2, g M1 = f_X6_finding ((-1000001) - nI i) M2 ∧ MS M1 M2) : ∃ r M1 M2, f M = some (r, M1) ∧ g M1 = some (r, M2) ∧ RR M2 (D + 60) := by
  obtain ⟨M1, h1, h2, h3⟩ := find_pair2 (RR_CS h hc) hi
  obtain ⟨N1, q1, q2⟩ := hg M1 h2
  obtain ⟨M2, q3, q4⟩ := h3 N1 q2
  exact ⟨_, M1, M2, hf.trans h1, q1.trans q3, RR_mono q4 (by omega)⟩
end PEs
/-- the first that is so, or the end -/
theorem least (P : Nat → Prop) : ∀ n, ∃ m, m ≤ n ∧ (∀ k, k < m → ¬ P k) ∧ (m = n ∨ P m) := by
  intro n
  induction n with
  | zero => exact ⟨0, Nat.le_refl _, fun k hk => by omega, Or.inl rfl⟩
  | succ n ih =>
    obtain ⟨m, h1, h2, h3⟩ := ih
    by_cases hp : P m
    · exact ⟨m, by omega, h2, Or.inr hp⟩
    · have : m = n := h3.resolve_right hp
      subst this
      refine ⟨m + 1, Nat.le_refl _, fun k hk => ?_, Or.inl rfl⟩
      by_cases c : k = m
      · rw [c]; exact hp
      · exact h2 k (by omega)
/-- what is drawn today -/
noncomputable def drN (A : Nat → Int32) (p : Nat) : Int32 := iv (drP A (orderN A) p)
theorem h_step {M : zM} {t k D : Nat} {A : Nat → Int32} (h : isH t) (hA : okA A D) (hD : D + k < 99999) (hr : hrow M t = daysA A k) : ∃ M', f_X0_passDay t M = some M' ∧ hrow M' t = daysA A (k + 1) ∧ (∀ p, p < 6 → M' (t + 10) p = drN (daysA A k) p) ∧ ∀ a, (a < t ∨ t + 10 < a) → M' a = M a := by
  have hk := okA_days hA k (by omega)
  obtain ⟨ho, h3⟩ := okA_order hk
  obtain ⟨d, hd, ed⟩ := hk.2.2.2.1
  obtain ⟨M', g1, g2, g3, g4⟩ := h_passDay (M := M) (t := t) (d := d) h ho (by rw [hr]; exact h3) (by rw [hr]; exact ed) (by omega) (by rw [hr]; exact hk.1) (by rw [hr]; exact hk.2.1) (by rw [hr]; exact hk.2.2.1)
  rw [hr] at g2 g3
  exact ⟨M', g1, g2, g3, g4⟩
theorem m_step {M : zM} {k D : Nat} {A : Nat → Int32} (hA : okA A D) (hD : D + k < 99999) (hr : M 48 = daysA A k) : ∃ M', f_X6_day M = some M' ∧ M' 48 = daysA A (k + 1) ∧ (∀ p, p < 6 → M' 52 p = drN (daysA A k) p) ∧ ∀ a, a ≠ 48 → a ≠ 52 → M' a = M a := by
  have hk := okA_days hA k (by omega)
  obtain ⟨ho, h3⟩ := okA_order hk
  obtain ⟨M', g1, g2, g3, g4⟩ := m_day (M := M) ho (by rw [hr]; exact h3) (by rw [hr]; exact hk.1) (by rw [hr]; exact hk.2.1) (by rw [hr]; exact hk.2.2.1)
  rw [hr] at g2 g3
  exact ⟨M', g1, g2, g3, g4⟩
/-- a name worn out -/
def worn (A : Nat → Int32) (i k : Nat) : Prop := 50 ≤ nm (daysA A k) i 2
theorem h_daysHung {M : zM} {t i m D : Nat} {A : Nat → Int32} (h : isH t) (hA : okA A D) (hD : D ≤ 40000) (hi : i < 8) (hr : hrow M t = A) (hm : m ≤ 101) (h1 : ∀ k, k < m → ¬ worn A i k) (h2 : m = 101 ∨ worn A i m) : ∃ M', f_X0_daysHung t (nI i) M = some (nI m, M') ∧ ∀ a, (a < t ∨ t + 10 < a) → M' a = M a := by
  have key : ∃ r, zIter (f_X0_daysHung_l2 t (nI i)) 1000 (0, M) = some r ∧ ∃ N : zM, r = (nI m, N) ∧ ∀ a, (a < t ∨ t + 10 < a) → N a = M a := by
    refine zIter_inv (fun k s => ∃ N : zM, s = (nI k, N) ∧ hrow N t = daysA A k ∧ ∀ a, (a < t ∨ t + 10 < a) → N a = M a) _ m 1000 _ (by omega) ⟨M, rfl, hr, fun _ _ => rfl⟩ (fun k s hk hI => ?_) (fun s hI => ?_)
    · obtain ⟨N, rfl, hN, hF⟩ := hI
      have hw : ¬ 50 ≤ nm (daysA A k) i 2 := h1 k hk
      obtain ⟨N2, q1, q2, -, q4⟩ := h_step (M := N) h hA (by omega) hN
      rw [f_X0_daysHung_l2, if_neg (show ¬ (100 : Int32) < nI k from nI_nlt (a := 100) (by omega) (by omega)), h_hangs h hi, hN, Option.bind_some, if_neg hw, if_neg (by decide), q1, Option.bind_some, nI_1]
      exact ⟨_, rfl, N2, rfl, q2, fun a ha => (q4 a ha).trans (hF a ha)⟩
    · obtain ⟨N, rfl, hN, hF⟩ := hI
      rw [f_X0_daysHung_l2]
      by_cases c : m = 101
      · rw [if_pos (show (100 : Int32) < nI m from nI_lt (a := 100) (by omega) (by omega))]
        exact ⟨_, rfl, N, rfl, hF⟩
      · have hw : 50 ≤ nm (daysA A m) i 2 := h2.resolve_left c
        rw [if_neg (show ¬ (100 : Int32) < nI m from nI_nlt (a := 100) (by omega) (by omega)), h_hangs h hi, hN, Option.bind_some, if_pos hw, if_pos rfl]
        exact ⟨_, rfl, N, rfl, hF⟩
  obtain ⟨r, q1, N, rfl, q2⟩ := key
  exact ⟨N, q1, q2⟩
theorem m_hungFor {M : zM} {i m D : Nat} (hA : okA (M 48) D) (hD : D ≤ 40000) (hi : i < 8) (hz2 : ∀ j, 67 ≤ j → M 50 j = 0) (hm : m ≤ 101) (h1 : ∀ k, k < m → ¬ worn (M 48) i k) (h2 : m = 101 ∨ worn (M 48) i m) : ∃ M', f_X6_hungFor (nI i) M = some (nI m, M') ∧ MS M M' := by
  have hz : ∀ j, 67 ≤ j → M 48 j = 0 := hA.2.2.2.2.2.2.2.2.2
  obtain ⟨N0, e1, e2, e3⟩ := m_aside hz hz2
  have e48 : N0 48 = M 48 := e3 48 (by omega)
  unfold f_X6_hungFor
  rw [e1, Option.bind_some]
  have fin : ∀ N : zM, N 48 = daysA (M 48) m → (∀ a, a ≠ 48 → a ≠ 52 → N a = N0 a) → ∃ M', f_X6_hungFor_j37 (nI m) N = some (nI m, M') ∧ MS M M' := by
    intro N hN hF
    obtain ⟨M2, g1, g2, -⟩ := m_back (M := M) (N := N) (by rw [hF 50 (by omega) (by omega)]; exact e2) hz (by rw [hN]; exact (okA_days hA m (by omega)).2.2.2.2.2.2.2.2.2) (fun a h1 h2 h3 => (hF a h1 h3).trans (e3 a h2)) (nI m)
    unfold f_X6_hungFor_j37
    rw [g1]
    exact ⟨M2, rfl, g2⟩
  have key : ∃ r, zIter (f_X6_hungFor_l13 (nI i)) 1000 (0, N0) = some r ∧ ∃ M', r = (nI m, M') ∧ MS M M' := by
    refine zIter_inv (fun k s => ∃ N : zM, s = (nI k, N) ∧ N 48 = daysA (M 48) k ∧ ∀ a, a ≠ 48 → a ≠ 52 → N a = N0 a) _ m 1000 _ (by omega) ⟨N0, rfl, e48, fun _ _ _ => rfl⟩ (fun k s hk hI => ?_) (fun s hI => ?_)
    · obtain ⟨N, rfl, hN, hF⟩ := hI
      have hw : ¬ 50 ≤ nm (daysA (M 48) k) i 2 := h1 k hk
      obtain ⟨N2, q1, q2, -, q4⟩ := m_step (M := N) hA (by omega) hN
      rw [f_X6_hungFor_l13, if_neg (show ¬ (100 : Int32) < nI k from nI_nlt (a := 100) (by omega) (by omega)), m_hangs hi, hN, Option.bind_some, if_neg hw, if_neg (by decide), q1, Option.bind_some, nI_1]
      exact ⟨_, rfl, N2, rfl, q2, fun a ha hb => (q4 a ha hb).trans (hF a ha hb)⟩
    · obtain ⟨N, rfl, hN, hF⟩ := hI
      obtain ⟨M', w1, w2⟩ := fin N hN hF
      rw [f_X6_hungFor_l13]
      by_cases c : m = 101
      · rw [if_pos (show (100 : Int32) < nI m from nI_lt (a := 100) (by omega) (by omega)), w1]
        exact ⟨_, rfl, M', rfl, w2⟩
      · have hw : 50 ≤ nm (daysA (M 48) m) i 2 := h2.resolve_left c
        rw [if_neg (show ¬ (100 : Int32) < nI m from nI_nlt (a := 100) (by omega) (by omega)), m_hangs hi, hN, Option.bind_some, if_pos hw, if_pos rfl, w1]
        exact ⟨_, rfl, M', rfl, w2⟩
  obtain ⟨r, q1, N, rfl, q2⟩ := key
  exact ⟨N, q1, q2⟩
theorem pe_lasts (x : Int32) : PE (f_X5_lasts x) (f_X6_lasts x) := by
  intro M D hD h
  have eN := RR_names h
  by_cases hx : isNm (M 48) x
  · obtain ⟨i, hi, rfl⟩ := (isNm_iff h.2.1.1).mp hx
    have hi8 : i < 8 := by have := h.2.1.1.2; omega
    obtain ⟨m, hm, m1, m2⟩ := least (worn (M 48) i) 101
    obtain ⟨M1, e1, e2, e3⟩ := h_become (M := M) isH_23 isH_1 (by omega)
    obtain ⟨M2, f1, f2⟩ := h_daysHung (M := M1) isH_23 h.2.1 hD hi8 (by rw [e2, h.1]) hm m1 m2
    have hc : CS M M2 := CS_trial (fun a ha => (f2 a (by omega)).trans (e3 a (by omega)))
    have ref : ∀ N : zM, (∀ a, a ≠ 38 → N a = M2 a) → ∃ N2, f_X6_hungFor (nI i) N = some (nI m, N2) ∧ MS N N2 := by
      intro N hN
      have e48 : N 48 = M 48 := by rw [hN 48 (by omega), hc 48 (by omega)]
      exact m_hungFor (M := N) (D := D) (by rw [e48]; exact h.2.1) hD hi8 (fun j hj => by rw [hN 50 (by omega), hc 50 (by omega)]; exact RR_50 h j hj) hm (by rw [e48]; exact m1) (by rw [e48]; exact m2)
    have nmN : ∀ N : zM, (∀ a, a ≠ 38 → N a = M2 a) → N 48 = M 48 := fun N hN => by rw [hN 48 (by omega), hc 48 (by omega)]
    by_cases hm1 : m ≤ 100
    · have hle : nI m ≤ 100 := nI_le (b := 100) hm1 (by omega)
      refine pe_scr h (r := nI m) (M1 := M2) ?_ hc ?_
      · unfold f_X5_lasts
        rw [f_isName_eq, Option.bind_some, eN, wi_t hx, if_neg (by decide), e1, Option.bind_some, f1, Option.bind_some]
        show (if nI m ≤ 100 then _ else _) = _
        rw [if_pos hle]
      · obtain ⟨N2, r1, r2⟩ := ref M2 (fun _ _ => rfl)
        refine ⟨N2, ?_, r2⟩
        unfold f_X6_lasts
        rw [m_isName_eq, Option.bind_some, nmN M2 (fun _ _ => rfl), wi_t hx, if_neg (by decide), r1, Option.bind_some]
        show (if nI m ≤ 100 then _ else _) = _
        rw [if_pos hle]
    · have hle : ¬ nI m ≤ 100 := nI_ge (a := 100) (by omega) (by omega)
      refine pe_find2 h 3 (by omega) (M8 := M2) ?_ hc (fun N hN => ?_)
      · unfold f_X5_lasts
        rw [f_isName_eq, Option.bind_some, eN, wi_t hx, if_neg (by decide), e1, Option.bind_some, f1, Option.bind_some]
        show (if nI m ≤ 100 then _ else _) = _
        rw [if_neg hle, bind_pair]; rfl
      · obtain ⟨N2, r1, r2⟩ := ref N hN
        refine ⟨N2, ?_, r2⟩
        unfold f_X6_lasts
        rw [m_isName_eq, Option.bind_some, nmN N hN, wi_t hx, if_neg (by decide), r1, Option.bind_some]
        show (if nI m ≤ 100 then _ else _) = _
        rw [if_neg hle, bind_pair]; rfl
  · refine pe_find h 0 (by omega) ?_ (fun M1 hf => ?_)
    · unfold f_X5_lasts
      rw [f_isName_eq, Option.bind_some, eN, wi_f hx, if_pos rfl, bind_pair]; rfl
    · unfold f_X6_lasts
      rw [m_isName_eq, Option.bind_some, hf 48 (by omega), wi_f hx, if_pos rfl, bind_pair]; rfl
