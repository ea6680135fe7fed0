/-! WHO HAS NOTHING LEFT, AND HOW OFTEN. -/
theorem m_fin {M N0 N : zM} {A : Nat → Int32} {D k : Nat} (hAA : M 48 = A) (hA : okA A D) (hk : D + k < 2000000) (e2 : N0 50 = M 48) (e3 : ∀ a, a ≠ 50 → N0 a = M a) (hN : N 48 = daysA A k) (hF : ∀ a, a ≠ 48 → a ≠ 52 → N a = N0 a) (x : Int32) : ∃ M2, f_X6_putBack x N = some (x, M2) ∧ MS M M2 := by
  obtain ⟨M2, g1, g2, -⟩ := m_back (M := M) (N := N) (by rw [hF 50 (by omega) (by omega)]; exact e2) (by rw [hAA]; exact hA.2.2.2.2.2.2.2.2.2) (by rw [hN]; exact (okA_days hA k hk).2.2.2.2.2.2.2.2.2) (fun a h1 h2 h3 => (hF a h1 h3).trans (e3 a h2)) x
  exact ⟨M2, g1, g2⟩
theorem h_findOk (i : Nat) (hi : i < 7) (N : zM) : ∃ r, f_X5_finding (nI i) N = some r := by
  unfold f_X5_finding
  rw [rd (n := 7) rfl hi, Option.bind_some, wr (n := 7) rfl hi]
  exact ⟨_, rfl⟩
theorem m_findOk (i : Nat) (hi : i < 7) (N : zM) : ∃ r, f_X6_finding ((-1000001) - nI i) N = some r := by
  have ei : (((-1000001) - ((-1000001) - nI i)) + 1 : Int32) = nI (i + 1) := (by decide : ∀ i, i < 7 → (((-1000001) - ((-1000001) - nI i)) + 1 : Int32) = nI (i + 1)) i hi
  have z0 : ∀ N : zM, zrd N 51 0 = some (N 51 0) := fun N => rd (M := N) (k := 51) (n := 8) (j := 0) rfl (by omega)
  have w0 : ∀ (N : zM) v, zwr N 51 0 v = some (zU N 51 0 v) := fun N v => wr (M := N) (k := 51) (n := 8) (j := 0) rfl (by omega)
  unfold f_X6_finding
  rw [ei, rd (n := 8) rfl (by omega), Option.bind_some, wr (n := 8) rfl (by omega), Option.bind_some, z0, Option.bind_some, w0, Option.bind_some]
  exact ⟨_, rfl⟩
theorem pe_broke (x : Int32) : PE (f_X5_broke x) (f_X6_broke x) := by
  intro M D hD h
  by_cases hx : inB x 0 5
  · obtain ⟨p, hp, rfl⟩ := (inB_nI (n := 5) (by omega)).mp hx
    have hA := h.2.1
    have h48 := h.1
    generalize hAA : M 48 = A at hA h48
    obtain ⟨m, hm, m1, m2⟩ := least (fun k => daysA A k (55 + p) = 0) 101
    have p55 : (55 : Int32) + nI p = nI (55 + p) := nI_add 55 p
    obtain ⟨M1, e1, e2, e3⟩ := h_become (M := M) isH_23 isH_1 (by omega)
    have er : hrow M1 23 = A := by rw [e2, ← h48]
    have stepc : ∀ k N, k < m → hrow N 23 = daysA A k → (∀ a, (a < 23 ∨ 33 < a) → N a = M1 a) → ∃ N2, f_X5_broke_l26 (nI p) (nI k, N) = some (Sum.inl (nI (k + 1), N2)) ∧ hrow N2 23 = daysA A (k + 1) ∧ ∀ a, (a < 23 ∨ 33 < a) → N2 a = M1 a := by
      intro k N hk n1 n2
      obtain ⟨N2, q1, q2, -, q4⟩ := h_step (M := N) isH_23 hA (by omega) n1
      have e29 : zrd N 29 (nI p) = some (daysA A k (55 + p)) := by
        rw [rd (n := 6) rfl (by omega), ← n1, hrow_purse _ _ (by omega)]
      refine ⟨N2, ?_, q2, fun a ha => (q4 a (by omega)).trans (n2 a ha)⟩
      rw [f_X5_broke_l26, if_neg (show ¬ (100 : Int32) < nI k from nI_nlt (a := 100) (by omega) (by omega)), e29, Option.bind_some, if_neg (m1 k hk), q1, Option.bind_some, nI_1]; rfl
    have stepm : ∀ (N0 : zM) k N, k < m → k < 100 → N 48 = daysA A k → (∀ a, a ≠ 48 → a ≠ 52 → N a = N0 a) → ∃ N2, f_X6_broke_l27 (nI p) (nI k, N) = some (Sum.inl (nI (k + 1), N2)) ∧ N2 48 = daysA A (k + 1) ∧ ∀ a, a ≠ 48 → a ≠ 52 → N2 a = N0 a := by
      intro N0 k N hk hk1 n1 n2
      obtain ⟨N2, q1, q2, -, q4⟩ := m_step (M := N) hA (by omega) n1
      obtain ⟨v, hv, ev⟩ := (okA_days hA k (by omega)).2.2.2.2.2.2.2.1 p (by omega)
      have hv0 : 0 < v := Nat.pos_of_ne_zero (fun c => m1 k hk (by rw [ev, c]; rfl))
      refine ⟨N2, ?_, q2, fun a ha hb => (q4 a ha hb).trans (n2 a ha hb)⟩
      rw [f_X6_broke_l27, if_neg (show ¬ (100 : Int32) ≤ nI k from nI_ge (b := 100) (by omega) (by omega)), p55, rd48 (by omega), n1, Option.bind_some, ev, if_neg (nI_nle hv0 (by omega)), q1, Option.bind_some, nI_1]; rfl
    have hcs : ∀ N : zM, (∀ a, (a < 23 ∨ 33 < a) → N a = M1 a) → CS M N := fun N hN => CS_trial (fun a ha => (hN a ha).trans (e3 a (by omega)))
    by_cases hm1 : m ≤ 100
    · have mz : daysA A m (55 + p) = 0 := m2.resolve_left (by omega)
      have key : ∃ r, zIter (f_X5_broke_l26 (nI p)) 1000 (0, M1) = some r ∧ ∃ N : zM, r = (nI m, N) ∧ ∀ a, (a < 23 ∨ 33 < a) → N a = M1 a := by
        refine zIter_inv (fun k s => ∃ N : zM, s = (nI k, N) ∧ hrow N 23 = daysA A k ∧ ∀ a, (a < 23 ∨ 33 < a) → N a = M1 a) _ m 1000 _ (by omega) ⟨M1, rfl, er, fun _ _ => rfl⟩ (fun k s hk hI => ?_) (fun s hI => ?_)
        · obtain ⟨N, rfl, n1, n2⟩ := hI
          obtain ⟨N2, q1, q2, q3⟩ := stepc k N hk n1 n2
          exact ⟨_, q1, N2, rfl, q2, q3⟩
        · obtain ⟨N, rfl, n1, n2⟩ := hI
          have e29 : zrd N 29 (nI p) = some (daysA A m (55 + p)) := by
            rw [rd (n := 6) rfl (by omega), ← n1, hrow_purse _ _ (by omega)]
          rw [f_X5_broke_l26, if_neg (show ¬ (100 : Int32) < nI m from nI_nlt (a := 100) (by omega) (by omega)), e29, Option.bind_some, if_pos mz]
          exact ⟨_, rfl, N, rfl, n2⟩
      obtain ⟨r, k1, N, rfl, k2⟩ := key
      refine pe_scr h (r := nI m) (M1 := N) ?_ (hcs N k2) ?_
      · unfold f_X5_broke
        rw [f_isPerson_eq, Option.bind_some, wi_t hx, if_neg (by decide), e1, Option.bind_some, k1]
      · have c48 : N 48 = A := by rw [hcs N k2 48 (by omega), hAA]
        have c50 : ∀ j, 67 ≤ j → N 50 j = 0 := fun j hj => by rw [hcs N k2 50 (by omega)]; exact RR_50 h j hj
        obtain ⟨N0, a1, a2, a3⟩ := m_aside (M := N) (by rw [c48]; exact hA.2.2.2.2.2.2.2.2.2) c50
        have key2 : ∃ r, zIter (f_X6_broke_l27 (nI p)) 1000 (0, N0) = some r ∧ ∃ M2, r = (nI m, M2) ∧ MS N M2 := by
          refine zIter_inv (fun k s => ∃ P : zM, s = (nI k, P) ∧ P 48 = daysA A k ∧ ∀ a, a ≠ 48 → a ≠ 52 → P a = N0 a) _ m 1000 _ (by omega) ⟨N0, rfl, (a3 48 (by omega)).trans c48, fun _ _ _ => rfl⟩ (fun k s hk hI => ?_) (fun s hI => ?_)
          · obtain ⟨P, rfl, n1, n2⟩ := hI
            obtain ⟨N2, q1, q2, q3⟩ := stepm N0 k P hk (by omega) n1 n2
            exact ⟨_, q1, N2, rfl, q2, q3⟩
          · obtain ⟨P, rfl, n1, n2⟩ := hI
            obtain ⟨M2, g1, g2⟩ := m_fin c48 hA (by omega) a2 a3 n1 n2 (nI m)
            have j55 : f_X6_broke_j55 (nI p) (nI m) P = some (nI m, M2) := by
              unfold f_X6_broke_j55 f_X6_broke_j74
              rw [p55, rd48 (by omega), n1, Option.bind_some, if_pos mz, g1, Option.bind_some]
              show ((f_X6_orNone (nI m) M2).bind _) = _
              unfold f_X6_orNone
              rw [if_pos (nI_pos' (by omega))]; rfl
            rw [f_X6_broke_l27, p55, rd48 (by omega), n1, Option.bind_some, mz, if_pos (show (0 : Int32) ≤ 0 by decide), j55, ite_self]
            exact ⟨_, rfl, M2, rfl, g2⟩
        obtain ⟨r, k3, M2, rfl, k4⟩ := key2
        refine ⟨M2, ?_, k4⟩
        unfold f_X6_broke
        rw [m_isPerson_eq, Option.bind_some, wi_t hx, if_neg (by decide), a1, Option.bind_some, k3]
    · have hm2 : m = 101 := by omega
      subst hm2
      have key : ∃ r, zIter (f_X5_broke_l26 (nI p)) 1000 (0, M1) = some r ∧ ∃ N : zM, f_X5_finding (nI 3) N = some r ∧ ∀ a, (a < 23 ∨ 33 < a) → N a = M1 a := by
        refine zIter_inv (fun k s => ∃ N : zM, s = (nI k, N) ∧ hrow N 23 = daysA A k ∧ ∀ a, (a < 23 ∨ 33 < a) → N a = M1 a) _ 101 1000 _ (by omega) ⟨M1, rfl, er, fun _ _ => rfl⟩ (fun k s hk hI => ?_) (fun s hI => ?_)
        · obtain ⟨N, rfl, n1, n2⟩ := hI
          obtain ⟨N2, q1, q2, q3⟩ := stepc k N hk n1 n2
          exact ⟨_, q1, N2, rfl, q2, q3⟩
        · obtain ⟨N, rfl, n1, n2⟩ := hI
          obtain ⟨r, hr⟩ := h_findOk 3 (by omega) N
          rw [f_X5_broke_l26, if_pos (show (100 : Int32) < nI 101 from nI_lt (a := 100) (by omega) (by omega))]
          unfold f_X5_broke_j59
          rw [bind_pair, show f_X5_finding 3 N = some r from hr]
          exact ⟨_, rfl, N, hr, n2⟩
      obtain ⟨r, k1, N, hr, k2⟩ := key
      refine pe_find2 h 3 (by omega) (M8 := N) ?_ (hcs N k2) (fun Q hQ => ?_)
      · unfold f_X5_broke
        rw [f_isPerson_eq, Option.bind_some, wi_t hx, if_neg (by decide), e1, Option.bind_some, k1, hr]
      · have c48 : Q 48 = A := by rw [hQ 48 (by omega), hcs N k2 48 (by omega), hAA]
        have c50 : ∀ j, 67 ≤ j → Q 50 j = 0 := fun j hj => by rw [hQ 50 (by omega), hcs N k2 50 (by omega)]; exact RR_50 h j hj
        obtain ⟨N0, a1, a2, a3⟩ := m_aside (M := Q) (by rw [c48]; exact hA.2.2.2.2.2.2.2.2.2) c50
        have key2 : ∃ r, zIter (f_X6_broke_l27 (nI p)) 1000 (0, N0) = some r ∧ ∃ M2, f_X6_finding ((-1000001) - nI 3) M2 = some r ∧ MS Q M2 := by
          refine zIter_inv (fun k s => ∃ P : zM, s = (nI k, P) ∧ P 48 = daysA A k ∧ ∀ a, a ≠ 48 → a ≠ 52 → P a = N0 a) _ 100 1000 _ (by omega) ⟨N0, rfl, (a3 48 (by omega)).trans c48, fun _ _ _ => rfl⟩ (fun k s hk hI => ?_) (fun s hI => ?_)
          · obtain ⟨P, rfl, n1, n2⟩ := hI
            obtain ⟨N2, q1, q2, q3⟩ := stepm N0 k P (by omega) hk n1 n2
            exact ⟨_, q1, N2, rfl, q2, q3⟩
          · obtain ⟨P, rfl, n1, n2⟩ := hI
            obtain ⟨M2, g1, g2⟩ := m_fin c48 hA (by omega) a2 a3 n1 n2 (-1)
            obtain ⟨r, hr⟩ := m_findOk 3 (by omega) M2
            have j55 : f_X6_broke_j55 (nI p) (nI 100) P = some r := by
              unfold f_X6_broke_j55 f_X6_broke_j74
              rw [p55, rd48 (by omega), n1, Option.bind_some, if_neg (m1 100 (by omega)), g1, Option.bind_some]
              show ((f_X6_orNone (-1) M2).bind _) = _
              unfold f_X6_orNone
              rw [if_neg (by decide), bind_pair, bind_pair]; exact hr
            rw [f_X6_broke_l27, if_pos (show (100 : Int32) ≤ nI 100 from nI_le (Nat.le_refl _) (by omega)), j55]
            exact ⟨_, rfl, M2, hr, g2⟩
        obtain ⟨r2, k3, M2, hr2, k4⟩ := key2
        refine ⟨M2, ?_, k4⟩
        unfold f_X6_broke
        rw [m_isPerson_eq, Option.bind_some, wi_t hx, if_neg (by decide), a1, Option.bind_some, k3, hr2]
  · refine pe_find h 0 (by omega) ?_ (fun M1 hf => ?_)
    · unfold f_X5_broke
      rw [f_isPerson_eq, Option.bind_some, wi_f hx, if_pos rfl, bind_pair]; rfl
    · unfold f_X6_broke
      rw [m_isPerson_eq, Option.bind_some, wi_f hx, if_pos rfl, bind_pair]; rfl
/-- on how many of the first n days a person draws a name -/
noncomputable def oftA (A : Nat → Int32) (p j : Nat) : Nat → Nat := sumN (fun d => if drN (daysA A d) p = nI j then 1 else 0)
theorem pe_often (x y z : Int32) : PE (f_X5_often x y z) (f_X6_often x y z) := by
  intro M D hD h
  have eN := RR_names h
  by_cases hx : inB x 0 5
  · by_cases hy : isNm (M 48) y
    · by_cases hz : inB z 0 100
      · obtain ⟨p, hp, rfl⟩ := (inB_nI (n := 5) (by omega)).mp hx
        obtain ⟨i, hi, rfl⟩ := (isNm_iff h.2.1.1).mp hy
        obtain ⟨n, hn, rfl⟩ := (inB_nI (n := 100) (by omega)).mp hz
        have hA := h.2.1
        have h48 := h.1
        generalize hAA : M 48 = A at hA h48 eN hy
        obtain ⟨M1, e1, e2, e3⟩ := h_become (M := M) isH_23 isH_1 (by omega)
        have er : hrow M1 23 = A := by rw [e2, ← h48]
        have key : ∃ r, zIter (f_X5_often_l48 (nI p) (nI i) (nI n)) 1000 (0, 0, M1) = some r ∧ ∃ N : zM, r = (nI (oftA A p i n), N) ∧ ∀ a, (a < 23 ∨ 33 < a) → N a = M1 a := by
          refine zIter_inv (fun k s => ∃ N : zM, s = (nI (oftA A p i k), nI k, N) ∧ hrow N 23 = daysA A k ∧ ∀ a, (a < 23 ∨ 33 < a) → N a = M1 a) _ n 1000 _ (by omega) ⟨M1, rfl, er, fun _ _ => rfl⟩ (fun k s hk hI => ?_) (fun s hI => ?_)
          · obtain ⟨N, rfl, n1, n2⟩ := hI
            obtain ⟨N2, q1, q2, q3, q4⟩ := h_step (M := N) isH_23 hA (by omega) n1
            rw [f_X5_often_l48, if_neg (nI_ge hk (by omega)), q1, Option.bind_some, rd (n := 6) rfl (by omega), Option.bind_some, show N2 33 p = _ from q3 p (by omega)]
            have s1 : oftA A p i (k + 1) = oftA A p i k + if drN (daysA A k) p = nI i then 1 else 0 := rfl
            by_cases c : drN (daysA A k) p = nI i
            · rw [if_pos c, nI_1, nI_1]
              rw [if_pos c] at s1
              exact ⟨_, rfl, N2, by rw [s1], q2, fun a ha => (q4 a (by omega)).trans (n2 a ha)⟩
            · rw [if_neg c, nI_1]
              rw [if_neg c] at s1
              exact ⟨_, rfl, N2, by rw [s1]; rfl, q2, fun a ha => (q4 a (by omega)).trans (n2 a ha)⟩
          · obtain ⟨N, rfl, n1, n2⟩ := hI
            rw [f_X5_often_l48, if_pos (nI_le (Nat.le_refl _) (by omega))]
            exact ⟨_, rfl, N, rfl, n2⟩
        obtain ⟨r, k1, N, rfl, k2⟩ := key
        have hc : CS M N := CS_trial (fun a ha => (k2 a ha).trans (e3 a (by omega)))
        refine pe_scr h (r := nI (oftA A p i n)) (M1 := N) ?_ hc ?_
        · unfold f_X5_often
          rw [f_isPerson_eq, Option.bind_some, wi_t hx, if_neg (by decide), f_isName_eq, Option.bind_some, eN, wi_t hy, if_neg (by decide), f_within_eq, Option.bind_some, wi_t hz, if_neg (by decide), e1, Option.bind_some, k1]
        · have c48 : N 48 = A := by rw [hc 48 (by omega), hAA]
          have c50 : ∀ j, 67 ≤ j → N 50 j = 0 := fun j hj => by rw [hc 50 (by omega)]; exact RR_50 h j hj
          obtain ⟨N0, a1, a2, a3⟩ := m_aside (M := N) (by rw [c48]; exact hA.2.2.2.2.2.2.2.2.2) c50
          have key2 : ∃ r, zIter (f_X6_often_l49 (nI p) (nI i) (nI n)) 1000 (0, 0, N0) = some r ∧ ∃ M2, r = (nI (oftA A p i n), M2) ∧ MS N M2 := by
            refine zIter_inv (fun k s => ∃ P : zM, s = (nI (oftA A p i k), nI k, P) ∧ P 48 = daysA A k ∧ ∀ a, a ≠ 48 → a ≠ 52 → P a = N0 a) _ n 1000 _ (by omega) ⟨N0, rfl, (a3 48 (by omega)).trans c48, fun _ _ _ => rfl⟩ (fun k s hk hI => ?_) (fun s hI => ?_)
            · obtain ⟨P, rfl, n1, n2⟩ := hI
              obtain ⟨N2, q1, q2, q3, q4⟩ := m_step (M := P) hA (by omega) n1
              rw [f_X6_often_l49, if_neg (nI_ge hk (by omega)), q1, Option.bind_some, rd (n := 6) rfl (by omega), Option.bind_some, q3 p (by omega)]
              have s1 : oftA A p i (k + 1) = oftA A p i k + if drN (daysA A k) p = nI i then 1 else 0 := rfl
              by_cases c : drN (daysA A k) p = nI i
              · rw [if_pos c, nI_1, nI_1]
                rw [if_pos c] at s1
                exact ⟨_, rfl, N2, by rw [s1], q2, fun a ha hb => (q4 a ha hb).trans (n2 a ha hb)⟩
              · rw [if_neg c, Int32.add_zero, nI_1]
                rw [if_neg c] at s1
                exact ⟨_, rfl, N2, by rw [s1]; rfl, q2, fun a ha hb => (q4 a ha hb).trans (n2 a ha hb)⟩
            · obtain ⟨P, rfl, n1, n2⟩ := hI
              obtain ⟨M2, g1, g2⟩ := m_fin c48 hA (by omega) a2 a3 n1 n2 (nI (oftA A p i n))
              rw [f_X6_often_l49, if_pos (nI_le (Nat.le_refl _) (by omega))]
              unfold f_X6_often_j85
              rw [g1]
              exact ⟨_, rfl, M2, rfl, g2⟩
          obtain ⟨r, k3, M2, rfl, k4⟩ := key2
          refine ⟨M2, ?_, k4⟩
          unfold f_X6_often
          rw [m_isPerson_eq, Option.bind_some, wi_t hx, if_neg (by decide), m_isName_eq, Option.bind_some, c48, wi_t hy, if_neg (by decide), m_within_eq, Option.bind_some, wi_t hz, if_neg (by decide), a1, Option.bind_some, k3]
      · refine pe_find h 0 (by omega) ?_ (fun M1 hf => ?_)
        · unfold f_X5_often f_X5_often_j25
          rw [f_isPerson_eq, Option.bind_some, wi_t hx, if_neg (by decide), f_isName_eq, Option.bind_some, eN, wi_t hy, if_neg (by decide), f_within_eq, Option.bind_some, wi_f hz, if_pos rfl, bind_pair]; rfl
        · unfold f_X6_often f_X6_often_j25
          rw [m_isPerson_eq, Option.bind_some, wi_t hx, if_neg (by decide), m_isName_eq, Option.bind_some, hf 48 (by omega), wi_t hy, if_neg (by decide), m_within_eq, Option.bind_some, wi_f hz, if_pos rfl, bind_pair]; rfl
    · refine pe_find h 0 (by omega) ?_ (fun M1 hf => ?_)
      · unfold f_X5_often f_X5_often_j25
        rw [f_isPerson_eq, Option.bind_some, wi_t hx, if_neg (by decide), f_isName_eq, Option.bind_some, eN, wi_f hy, if_pos rfl, bind_pair]; rfl
      · unfold f_X6_often f_X6_often_j25
        rw [m_isPerson_eq, Option.bind_some, wi_t hx, if_neg (by decide), m_isName_eq, Option.bind_some, hf 48 (by omega), wi_f hy, if_pos rfl, bind_pair]; rfl
  · refine pe_find h 0 (by omega) ?_ (fun M1 hf => ?_)
    · unfold f_X5_often f_X5_often_j25
      rw [f_isPerson_eq, Option.bind_some, wi_f hx, if_pos rfl, bind_pair]; rfl
    · unfold f_X6_often f_X6_often_j25
      rw [m_isPerson_eq, Option.bind_some, wi_f hx, if_pos rfl, bind_pair]; rfl
