/-! THE KIND THAT LASTS LONGEST; ORDERS THAT GIVE A NAME. -/
theorem upd_upd (A : Nat → Int32) (j : Nat) (u v : Int32) : upd (upd A j u) j v = upd A j v := by
  funext k
  rw [upd_at, upd_at, upd_at]
  split <;> rfl
theorem upd_self (A : Nat → Int32) (j : Nat) : upd A j (A j) = A := by
  funext k
  rw [upd_at]
  by_cases c : k = j
  · rw [if_pos c, c]
  · rw [if_neg c]
noncomputable def lastM (A : Nat → Int32) (i : Nat) : Nat := Classical.choose (least (worn A i) 101)
theorem lastM_spec (A : Nat → Int32) (i : Nat) : lastM A i ≤ 101 ∧ (∀ k, k < lastM A i → ¬ worn A i k) ∧ (lastM A i = 101 ∨ worn A i (lastM A i)) := Classical.choose_spec (least (worn A i) 101)
noncomputable def kv (A : Nat → Int32) (i k : Nat) : Nat := min (lastM (upd A (15 + 5 * i + 0) (nI k)) i) 100
noncomputable def kb (A : Nat → Int32) (i : Nat) : Nat → Int32 × Int32
  | 0 => (0, -1)
  | k + 1 => if nI (kv A i k) ≤ (kb A i k).2 then kb A i k else (nI k, nI (kv A i k))
theorem pe_kindFor (x : Int32) : PE (f_X5_kindFor x) (f_X6_kindFor x) := by
  intro M D hD h
  have eN := RR_names h
  by_cases hx : isNm (M 48) x
  · obtain ⟨i, hi, rfl⟩ := (isNm_iff h.2.1.1).mp hx
    have hi8 : i < 8 := by have := h.2.1.1.2; omega
    have hA := h.2.1
    have h48 := h.1
    generalize hAA : M 48 = A at hA h48 eN hx
    have hAk : ∀ k, k < 7 → okA (upd A (15 + 5 * i + 0) (nI k)) D := fun k hk => okA_setN hA hi8 (by omega) (fun _ => ⟨k, by omega, rfl⟩) (fun c => by omega) (fun c => by omega) (fun c => by omega) (fun c => by omega)
    have key : ∃ r, zIter (f_X5_kindFor_l21 (nI i)) 1000 (0, (-1), 0, M) = some r ∧ ∃ N : zM, r = ((kb A i 7).1, N) ∧ ∀ a, (a < 23 ∨ 33 < a) → N a = M a := by
      refine zIter_inv (fun k s => ∃ N : zM, s = ((kb A i k).1, (kb A i k).2, nI k, N) ∧ ∀ a, (a < 23 ∨ 33 < a) → N a = M a) _ 7 1000 _ (by omega) ⟨M, rfl, fun _ _ => rfl⟩ (fun k s hk hI => ?_) (fun s hI => ?_)
      · obtain ⟨N, rfl, hF⟩ := hI
        obtain ⟨N1, e1, e2, e3⟩ := h_become (M := N) isH_23 isH_1 (by omega)
        have er : hrow N1 23 = A := by rw [e2, h48]; exact hrow_off (fun a h1 h2 => hF a (by omega))
        have er2 : hrow (zU N1 24 i (nI k)) 23 = upd A (15 + 5 * i + 0) (nI k) := by
          rw [show zU N1 24 i (nI k) = zU N1 (23 + 1 + 0) i (nI k) from rfl, hrow_uN _ _ _ (by omega) hi8, er]
        obtain ⟨l1, l2, l3⟩ := lastM_spec (upd A (15 + 5 * i + 0) (nI k)) i
        obtain ⟨N2, f1, f2⟩ := h_daysHung (M := zU N1 24 i (nI k)) isH_23 (hAk k hk) hD hi8 er2 l1 l2 l3
        have hF2 : ∀ a, (a < 23 ∨ 33 < a) → N2 a = M a := fun a ha => by rw [f2 a (by omega), zU_off (by omega), e3 a (by omega), hF a ha]
        have ev : (if (100 : Int32) < nI (lastM (upd A (15 + 5 * i + 0) (nI k)) i) then (100 : Int32) else nI (lastM (upd A (15 + 5 * i + 0) (nI k)) i)) = nI (kv A i k) := by
          unfold kv
          by_cases c : 100 < lastM (upd A (15 + 5 * i + 0) (nI k)) i
          · rw [if_pos (show (100 : Int32) < _ from nI_lt (a := 100) c (by omega)), Nat.min_eq_right (by omega)]; rfl
          · rw [if_neg (show ¬ (100 : Int32) < _ from nI_nlt (a := 100) (by omega) (by omega)), Nat.min_eq_left (by omega)]
        have s1 : kb A i (k + 1) = if nI (kv A i k) ≤ (kb A i k).2 then kb A i k else (nI k, nI (kv A i k)) := rfl
        rw [f_X5_kindFor_l21, if_neg (show ¬ (7 : Int32) ≤ nI k from nI_ge (b := 7) hk (by decide)), e1, Option.bind_some, wr (n := 8) rfl hi8, Option.bind_some, f1, Option.bind_some]
        show ∃ s', (((some (if (100 : Int32) < nI (lastM (upd A (15 + 5 * i + 0) (nI k)) i) then (100 : Int32) else nI (lastM (upd A (15 + 5 * i + 0) (nI k)) i))).bind _) = some (Sum.inl s')) ∧ _
        rw [ev, Option.bind_some]
        by_cases c : nI (kv A i k) ≤ (kb A i k).2
        · rw [if_pos c, nI_1]
          exact ⟨_, rfl, N2, by rw [s1, if_pos c], hF2⟩
        · rw [if_neg c, nI_1]
          exact ⟨_, rfl, N2, by rw [s1, if_neg c], hF2⟩
      · obtain ⟨N, rfl, hF⟩ := hI
        rw [f_X5_kindFor_l21, if_pos (show (7 : Int32) ≤ nI 7 from nI_le (Nat.le_refl _) (by omega))]
        exact ⟨_, rfl, N, rfl, hF⟩
    obtain ⟨r, k1, N, rfl, k2⟩ := key
    have hc : CS M N := CS_trial k2
    refine pe_scr h (r := (kb A i 7).1) (M1 := N) ?_ hc ?_
    · unfold f_X5_kindFor
      rw [f_isName_eq, Option.bind_some, eN, wi_t hx, if_neg (by decide), k1]
    · have c48 : N 48 = A := by rw [hc 48 (by omega), hAA]
      have c50 : ∀ j, 67 ≤ j → N 50 j = 0 := fun j hj => by rw [hc 50 (by omega)]; exact RR_50 h j hj
      have q3 : ∀ P : zM, f_X6_place (nI i) 0 P = some (nI (15 + 5 * i + 0)) := fun P => m_place i 0 P
      have key2 : ∃ r, zIter (f_X6_kindFor_l30 (nI i) (A (15 + 5 * i + 0))) 1000 (0, (-1), 0, N) = some r ∧ ∃ M2, r = ((kb A i 7).1, M2) ∧ MS N M2 := by
        refine zIter_inv (fun k s => ∃ P : zM, s = ((kb A i k).1, (kb A i k).2, nI k, P) ∧ (∃ u, P 48 = upd A (15 + 5 * i + 0) u) ∧ (∀ a, a ≠ 48 → a ≠ 50 → a ≠ 52 → P a = N a) ∧ ∀ j, 67 ≤ j → P 50 j = 0) _ 7 1000 _ (by omega) ⟨N, rfl, ⟨A (15 + 5 * i + 0), by rw [c48, upd_self]⟩, fun _ _ _ _ => rfl, c50⟩ (fun k s hk hI => ?_) (fun s hI => ?_)
        · obtain ⟨P, rfl, ⟨u, hu⟩, hF, h50⟩ := hI
          have p48 : zU P 48 (15 + 5 * i + 0) (nI k) 48 = upd A (15 + 5 * i + 0) (nI k) := by rw [zU_row, hu, upd_upd]
          obtain ⟨l1, l2, l3⟩ := lastM_spec (upd A (15 + 5 * i + 0) (nI k)) i
          obtain ⟨P2, f1, f2⟩ := m_hungFor (M := zU P 48 (15 + 5 * i + 0) (nI k)) (by rw [p48]; exact hAk k hk) hD hi8 (fun j hj => by rw [zU_off (by omega)]; exact h50 j hj) l1 (by rw [p48]; exact l2) (by rw [p48]; exact l3)
          have ev : (if nI (lastM (upd A (15 + 5 * i + 0) (nI k)) i) < (100 : Int32) then nI (lastM (upd A (15 + 5 * i + 0) (nI k)) i) else (100 : Int32)) = nI (kv A i k) := by
            unfold kv
            by_cases c : lastM (upd A (15 + 5 * i + 0) (nI k)) i < 100
            · rw [if_pos (show _ < (100 : Int32) from nI_lt (b := 100) c (by omega)), Nat.min_eq_left (by omega)]
            · rw [if_neg (show ¬ _ < (100 : Int32) from nI_nlt (b := 100) (by omega) (by omega)), Nat.min_eq_right (by omega)]; rfl
          have s1 : kb A i (k + 1) = if nI (kv A i k) ≤ (kb A i k).2 then kb A i k else (nI k, nI (kv A i k)) := rfl
          have hF2 : (∃ u, P2 48 = upd A (15 + 5 * i + 0) u) ∧ (∀ a, a ≠ 48 → a ≠ 50 → a ≠ 52 → P2 a = N a) ∧ ∀ j, 67 ≤ j → P2 50 j = 0 := ⟨⟨nI k, by rw [f2.2.1, p48]⟩, fun a h1 h2 h3 => by rw [f2.1 a h1 h2 h3, zU_off h1, hF a h1 h2 h3], f2.2.2⟩
          rw [f_X6_kindFor_l30, if_neg (show ¬ (6 : Int32) < nI k from nI_nlt (a := 6) (by omega) (by decide)), q3, Option.bind_some, wr48 (by omega), Option.bind_some, f1, Option.bind_some]
          show ∃ s', (((some (if nI (lastM (upd A (15 + 5 * i + 0) (nI k)) i) < (100 : Int32) then nI (lastM (upd A (15 + 5 * i + 0) (nI k)) i) else (100 : Int32))).bind _) = some (Sum.inl s')) ∧ _
          rw [ev, Option.bind_some]
          unfold f_X6_kindFor_j74
          by_cases c : nI (kv A i k) ≤ (kb A i k).2
          · rw [if_pos c, if_neg (Int32.not_lt.mpr c), nI_1]
            exact ⟨_, rfl, P2, by rw [s1, if_pos c], hF2⟩
          · rw [if_neg c, if_pos (Int32.not_le.mp c), nI_1]
            exact ⟨_, rfl, P2, by rw [s1, if_neg c], hF2⟩
        · obtain ⟨P, rfl, ⟨u, hu⟩, hF, h50⟩ := hI
          rw [f_X6_kindFor_l30, if_pos (show (6 : Int32) < nI 7 from nI_lt (a := 6) (by omega) (by decide))]
          unfold f_X6_kindFor_j90
          rw [q3, Option.bind_some, wr48 (by omega)]
          exact ⟨_, rfl, _, rfl, fun a h1 h2 h3 => by rw [zU_off h1, hF a h1 h2 h3], by rw [zU_row, hu, upd_upd, upd_self, c48], fun j hj => by rw [zU_off (by omega)]; exact h50 j hj⟩
      obtain ⟨r, k3, M2, rfl, k4⟩ := key2
      refine ⟨M2, ?_, k4⟩
      unfold f_X6_kindFor
      rw [m_isName_eq, Option.bind_some, c48, wi_t hx, if_neg (by decide), show f_X6_nameIs (nI i) 0 N = some (nm (N 48) i 0) from m_nameIs hi8 (f := 0) (by omega), Option.bind_some, c48]
      exact k3
  · refine pe_find h 0 (by omega) ?_ (fun M1 hf => ?_)
    · unfold f_X5_kindFor
      rw [f_isName_eq, Option.bind_some, eN, wi_f hx, if_pos rfl, bind_pair]; rfl
    · unfold f_X6_kindFor
      rw [m_isName_eq, Option.bind_some, hf 48 (by omega), wi_f hx, if_pos rfl, bind_pair]; rfl
theorem m_doesDraw {M : zM} {o p j : Nat} (ho : o < 720) (hp : p < 6) (hn : okN (M 48)) (hw : okW (M 48)) : ∃ M', f_X6_doesDraw (nI o) (nI p) (nI j) M = some (if iv (drP (M 48) o p) = nI j then 1 else 0, M') ∧ ∀ a, a ≠ 52 → M' a = M a := by
  obtain ⟨M2, g1, g2, g3⟩ := m_drawBy (M := M) ho hn hw
  have d2 := drP_row (D := M2 52) ho g2 p hp
  have hT : hung (M 48) ^^^ frA (M 48) o 6 < 256 := x_lt2 (hung_lt hn) (fr_lt hn hw ho 6 (by omega)).1
  refine ⟨M2, ?_, g3⟩
  unfold f_X6_doesDraw
  rw [g1, Option.bind_some]
  show (if nI _ < 0 then _ else _) = _
  rw [if_neg (nI_pos (by omega)), rd (n := 6) rfl hp, Option.bind_some, d2]
  by_cases c : iv (drP (M 48) o p) = nI j
  · rw [if_pos c, if_pos c]
  · rw [if_neg c, if_neg c]
theorem h_drawn {M : zM} {o p : Nat} (ho : o < 720) (hp : p < 6) (hn : okN (hrow M 1)) (hw : okW (hrow M 1)) : ∃ M', f_X0_draw 1 (nI o) M = some M' ∧ zrd M' 11 (nI p) = some (iv (drP (hrow M 1) o p)) ∧ (∀ a, a ≠ 10 → a ≠ 11 → M' a = M a) := by
  obtain ⟨M1, e1, e2, e3⟩ := h_draw (M := M) isH_1 ho hn hw
  have d1 := drP_row (D := M1 11) ho e2 p hp
  exact ⟨M1, e1, by rw [rd (n := 6) rfl hp, d1], e3⟩
theorem pe_orderFor (x y : Int32) : PE (f_X5_orderFor x y) (f_X6_orderFor x y) := by
  intro M D hD h
  have eN := RR_names h
  by_cases hx : inB x 0 5
  · by_cases hy : isNm (M 48) y
    · obtain ⟨p, hp, rfl⟩ := (inB_nI (n := 5) (by omega)).mp hx
      obtain ⟨i, hi, rfl⟩ := (isNm_iff h.2.1.1).mp hy
      have hA := h.2.1
      have h48 := h.1
      generalize hAA : M 48 = A at hA h48 eN hy
      obtain ⟨m, hm, m1, m2⟩ := least (fun o => iv (drP A o p) = nI i) 720
      have hcs : ∀ N : zM, (∀ a, a ≠ 10 → a ≠ 11 → N a = M a) → CS M N ∧ hrow N 1 = A := fun N hN => ⟨CS_line hN, by rw [CS_hrow (CS_line hN), h48]⟩
      have stepc : ∀ o N, o < 720 → (∀ a, a ≠ 10 → a ≠ 11 → N a = M a) → ∃ N2, (f_X5_orderFor_l23 (nI p) (nI i) (nI o, N) = if iv (drP A o p) = nI i then some (Sum.inr (nI o, N2)) else some (Sum.inl (nI (o + 1), N2))) ∧ ∀ a, a ≠ 10 → a ≠ 11 → N2 a = M a := by
        intro o N ho hN
        have hr := (hcs N hN).2
        obtain ⟨N2, q1, q2, q3⟩ := h_drawn (M := N) (o := o) (p := p) ho (by omega) (by rw [hr]; exact hA.1) (by rw [hr]; exact hA.2.1)
        rw [hr] at q2
        refine ⟨N2, ?_, fun a h1 h2 => (q3 a h1 h2).trans (hN a h1 h2)⟩
        rw [f_X5_orderFor_l23, if_neg (show ¬ (720 : Int32) ≤ nI o from nI_ge (b := 720) ho (by omega)), q1, Option.bind_some, q2, Option.bind_some, nI_1]
        rfl
      have stepm : ∀ (N0 : zM) o P, N0 48 = A → o < 720 → (∀ a, a ≠ 52 → P a = N0 a) → ∃ P2, (f_X6_orderFor_l24 (nI p) (nI i) (nI o, P) = if iv (drP A o p) = nI i then some (Sum.inr (nI o, P2)) else some (Sum.inl (nI (o + 1), P2))) ∧ ∀ a, a ≠ 52 → P2 a = N0 a := by
        intro N0 o P h0 ho hP
        have p48 : P 48 = A := (hP 48 (by omega)).trans h0
        obtain ⟨P2, q1, q2⟩ := m_doesDraw (M := P) (o := o) (p := p) (j := i) ho (by omega) (by rw [p48]; exact hA.1) (by rw [p48]; exact hA.2.1)
        rw [p48] at q1
        refine ⟨P2, ?_, fun a ha => (q2 a ha).trans (hP a ha)⟩
        rw [f_X6_orderFor_l24, if_neg (show ¬ (720 : Int32) ≤ nI o from nI_ge (b := 720) ho (by omega)), q1, Option.bind_some]
        by_cases c : iv (drP A o p) = nI i
        · rw [if_pos c, if_pos c]
          show (if (1 : Int32) = 0 then _ else (f_X6_orderFor_j47 (nI o) P2).bind _) = _
          unfold f_X6_orderFor_j47
          rw [if_neg (show ¬ (1 : Int32) = 0 by decide), if_neg (show ¬ (720 : Int32) ≤ nI o from nI_ge (b := 720) ho (by omega))]
          rfl
        · rw [if_neg c, if_neg c, nI_1]; rfl
      by_cases hm1 : m < 720
      · have mz : iv (drP A m p) = nI i := m2.resolve_left (by omega)
        have key : ∃ r, zIter (f_X5_orderFor_l23 (nI p) (nI i)) 1000 (0, M) = some r ∧ ∃ N : zM, r = (nI m, N) ∧ ∀ a, a ≠ 10 → a ≠ 11 → N a = M a := by
          refine zIter_inv (fun k s => ∃ N : zM, s = (nI k, N) ∧ ∀ a, a ≠ 10 → a ≠ 11 → N a = M a) _ m 1000 _ (by omega) ⟨M, rfl, fun _ _ _ => rfl⟩ (fun k s hk hI => ?_) (fun s hI => ?_)
          · obtain ⟨N, rfl, n2⟩ := hI
            obtain ⟨N2, q1, q2⟩ := stepc k N (by omega) n2
            rw [if_neg (m1 k hk)] at q1
            exact ⟨_, q1, N2, rfl, q2⟩
          · obtain ⟨N, rfl, n2⟩ := hI
            obtain ⟨N2, q1, q2⟩ := stepc m N hm1 n2
            rw [if_pos mz] at q1
            exact ⟨_, q1, N2, rfl, q2⟩
        obtain ⟨r, k1, N, rfl, k2⟩ := key
        have hc := (hcs N k2).1
        refine pe_scr h (r := nI m) (M1 := N) ?_ hc ?_
        · unfold f_X5_orderFor
          rw [f_isPerson_eq, Option.bind_some, wi_t hx, if_neg (by decide), f_isName_eq, Option.bind_some, eN, wi_t hy, if_neg (by decide), k1]
        · have c48 : N 48 = A := by rw [hc 48 (by omega), hAA]
          have key2 : ∃ r, zIter (f_X6_orderFor_l24 (nI p) (nI i)) 1000 (0, N) = some r ∧ ∃ P : zM, r = (nI m, P) ∧ ∀ a, a ≠ 52 → P a = N a := by
            refine zIter_inv (fun k s => ∃ P : zM, s = (nI k, P) ∧ ∀ a, a ≠ 52 → P a = N a) _ m 1000 _ (by omega) ⟨N, rfl, fun _ _ => rfl⟩ (fun k s hk hI => ?_) (fun s hI => ?_)
            · obtain ⟨P, rfl, n2⟩ := hI
              obtain ⟨P2, q1, q2⟩ := stepm N k P c48 (by omega) n2
              rw [if_neg (m1 k hk)] at q1
              exact ⟨_, q1, P2, rfl, q2⟩
            · obtain ⟨P, rfl, n2⟩ := hI
              obtain ⟨P2, q1, q2⟩ := stepm N m P c48 hm1 n2
              rw [if_pos mz] at q1
              exact ⟨_, q1, P2, rfl, q2⟩
          obtain ⟨r, k3, P, rfl, k4⟩ := key2
          refine ⟨P, ?_, fun a _ _ h3 => k4 a h3, k4 48 (by omega), fun j hj => by rw [k4 50 (by omega), hc 50 (by omega)]; exact RR_50 h j hj⟩
          unfold f_X6_orderFor
          rw [m_isPerson_eq, Option.bind_some, wi_t hx, if_neg (by decide), m_isName_eq, Option.bind_some, c48, wi_t hy, if_neg (by decide), k3]
      · have hm2 : m = 720 := by omega
        subst hm2
        have key : ∃ r, zIter (f_X5_orderFor_l23 (nI p) (nI i)) 1000 (0, M) = some r ∧ ∃ N : zM, f_X5_finding (nI 3) N = some r ∧ ∀ a, a ≠ 10 → a ≠ 11 → N a = M a := by
          refine zIter_inv (fun k s => ∃ N : zM, s = (nI k, N) ∧ ∀ a, a ≠ 10 → a ≠ 11 → N a = M a) _ 720 1000 _ (by omega) ⟨M, rfl, fun _ _ _ => rfl⟩ (fun k s hk hI => ?_) (fun s hI => ?_)
          · obtain ⟨N, rfl, n2⟩ := hI
            obtain ⟨N2, q1, q2⟩ := stepc k N (by omega) n2
            rw [if_neg (m1 k hk)] at q1
            exact ⟨_, q1, N2, rfl, q2⟩
          · obtain ⟨N, rfl, n2⟩ := hI
            obtain ⟨r, hr⟩ := h_findOk 3 (by omega) N
            rw [f_X5_orderFor_l23, if_pos (show (720 : Int32) ≤ nI 720 from nI_le (Nat.le_refl _) (by omega))]
            unfold f_X5_orderFor_j59
            rw [bind_pair, show f_X5_finding 3 N = some r from hr]
            exact ⟨_, rfl, N, hr, n2⟩
        obtain ⟨r, k1, N, hr, k2⟩ := key
        have hc := (hcs N k2).1
        refine pe_find2 h 3 (by omega) (M8 := N) ?_ hc (fun Q hQ => ?_)
        · unfold f_X5_orderFor
          rw [f_isPerson_eq, Option.bind_some, wi_t hx, if_neg (by decide), f_isName_eq, Option.bind_some, eN, wi_t hy, if_neg (by decide), k1, hr]
        · have c48 : Q 48 = A := by rw [hQ 48 (by omega), hc 48 (by omega), hAA]
          have key2 : ∃ r, zIter (f_X6_orderFor_l24 (nI p) (nI i)) 1000 (0, Q) = some r ∧ ∃ P : zM, f_X6_finding ((-1000001) - nI 3) P = some r ∧ ∀ a, a ≠ 52 → P a = Q a := by
            refine zIter_inv (fun k s => ∃ P : zM, s = (nI k, P) ∧ ∀ a, a ≠ 52 → P a = Q a) _ 720 1000 _ (by omega) ⟨Q, rfl, fun _ _ => rfl⟩ (fun k s hk hI => ?_) (fun s hI => ?_)
            · obtain ⟨P, rfl, n2⟩ := hI
              obtain ⟨P2, q1, q2⟩ := stepm Q k P c48 (by omega) n2
              rw [if_neg (m1 k hk)] at q1
              exact ⟨_, q1, P2, rfl, q2⟩
            · obtain ⟨P, rfl, n2⟩ := hI
              obtain ⟨r, hr⟩ := m_findOk 3 (by omega) P
              rw [f_X6_orderFor_l24, if_pos (show (720 : Int32) ≤ nI 720 from nI_le (Nat.le_refl _) (by omega))]
              unfold f_X6_orderFor_j47
              rw [if_pos (show (720 : Int32) ≤ nI 720 from nI_le (Nat.le_refl _) (by omega)), bind_pair, show f_X6_finding (-1000004) P = some r from hr]
              exact ⟨_, rfl, P, hr, n2⟩
          obtain ⟨r2, k3, P, hr2, k4⟩ := key2
          refine ⟨P, ?_, fun a _ _ h3 => k4 a h3, k4 48 (by omega), fun j hj => by rw [k4 50 (by omega), hQ 50 (by omega), hc 50 (by omega)]; exact RR_50 h j hj⟩
          unfold f_X6_orderFor
          rw [m_isPerson_eq, Option.bind_some, wi_t hx, if_neg (by decide), m_isName_eq, Option.bind_some, c48, wi_t hy, if_neg (by decide), k3, hr2]
    · refine pe_find h 0 (by omega) ?_ (fun M1 hf => ?_)
      · unfold f_X5_orderFor f_X5_orderFor_j15
        rw [f_isPerson_eq, Option.bind_some, wi_t hx, if_neg (by decide), f_isName_eq, Option.bind_some, eN, wi_f hy, if_pos rfl, bind_pair]; rfl
      · unfold f_X6_orderFor f_X6_orderFor_j15
        rw [m_isPerson_eq, Option.bind_some, wi_t hx, if_neg (by decide), m_isName_eq, Option.bind_some, hf 48 (by omega), wi_f hy, if_pos rfl, bind_pair]; rfl
  · refine pe_find h 0 (by omega) ?_ (fun M1 hf => ?_)
    · unfold f_X5_orderFor f_X5_orderFor_j15
      rw [f_isPerson_eq, Option.bind_some, wi_f hx, if_pos rfl, bind_pair]; rfl
    · unfold f_X6_orderFor f_X6_orderFor_j15
      rw [m_isPerson_eq, Option.bind_some, wi_f hx, if_pos rfl, bind_pair]; rfl
theorem pe_orders (x y : Int32) : PE (f_X5_orders x y) (f_X6_orders x y) := by
  intro M D hD h
  have eN := RR_names h
  by_cases hx : inB x 0 5
  · by_cases hy : isNm (M 48) y
    · obtain ⟨p, hp, rfl⟩ := (inB_nI (n := 5) (by omega)).mp hx
      obtain ⟨i, hi, rfl⟩ := (isNm_iff h.2.1.1).mp hy
      have hA := h.2.1
      have h48 := h.1
      generalize hAA : M 48 = A at hA h48 eN hy
      generalize hc0 : sumN (fun o => if iv (drP A o p) = nI i then 1 else 0) = cn
      have s1 : ∀ k, cn (k + 1) = cn k + if iv (drP A k p) = nI i then 1 else 0 := fun k => by rw [← hc0]; rfl
      have s0 : cn 0 = 0 := by rw [← hc0]; rfl
      have hcs : ∀ N : zM, (∀ a, a ≠ 10 → a ≠ 11 → N a = M a) → CS M N ∧ hrow N 1 = A := fun N hN => ⟨CS_line hN, by rw [CS_hrow (CS_line hN), h48]⟩
      have key : ∃ r, zIter (f_X5_orders_l26 (nI p) (nI i)) 1000 (0, 0, M) = some r ∧ ∃ N : zM, r = (nI (cn 720), N) ∧ ∀ a, a ≠ 10 → a ≠ 11 → N a = M a := by
        refine zIter_inv (fun k s => ∃ N : zM, s = (nI (cn k), nI k, N) ∧ ∀ a, a ≠ 10 → a ≠ 11 → N a = M a) _ 720 1000 _ (by omega) ⟨M, by rw [s0]; rfl, fun _ _ _ => rfl⟩ (fun k s hk hI => ?_) (fun s hI => ?_)
        · obtain ⟨N, rfl, n2⟩ := hI
          have hr := (hcs N n2).2
          obtain ⟨N2, q1, q2, q3⟩ := h_drawn (M := N) (o := k) (p := p) hk (by omega) (by rw [hr]; exact hA.1) (by rw [hr]; exact hA.2.1)
          rw [hr] at q2
          rw [f_X5_orders_l26, if_neg (show ¬ (720 : Int32) ≤ nI k from nI_ge (b := 720) hk (by omega)), q1, Option.bind_some, q2, Option.bind_some]
          have s2 := s1 k
          by_cases c : iv (drP A k p) = nI i
          · rw [if_pos c, nI_1, nI_1]
            rw [if_pos c] at s2
            exact ⟨_, rfl, N2, by rw [s2], fun a h1 h2 => (q3 a h1 h2).trans (n2 a h1 h2)⟩
          · rw [if_neg c, nI_1]
            rw [if_neg c] at s2
            exact ⟨_, rfl, N2, by rw [s2]; rfl, fun a h1 h2 => (q3 a h1 h2).trans (n2 a h1 h2)⟩
        · obtain ⟨N, rfl, n2⟩ := hI
          rw [f_X5_orders_l26, if_pos (show (720 : Int32) ≤ nI 720 from nI_le (Nat.le_refl _) (by omega))]
          exact ⟨_, rfl, N, rfl, n2⟩
      obtain ⟨r, k1, N, rfl, k2⟩ := key
      have hc := (hcs N k2).1
      refine pe_scr h (r := nI (cn 720)) (M1 := N) ?_ hc ?_
      · unfold f_X5_orders
        rw [f_isPerson_eq, Option.bind_some, wi_t hx, if_neg (by decide), f_isName_eq, Option.bind_some, eN, wi_t hy, if_neg (by decide), k1]
      · have c48 : N 48 = A := by rw [hc 48 (by omega), hAA]
        have key2 : ∃ r, zIter (f_X6_orders_l27 (nI p) (nI i)) 1000 (0, 0, N) = some r ∧ ∃ P : zM, r = (nI (cn 720), P) ∧ ∀ a, a ≠ 52 → P a = N a := by
          refine zIter_inv (fun k s => ∃ P : zM, s = (nI (cn k), nI k, P) ∧ ∀ a, a ≠ 52 → P a = N a) _ 720 1000 _ (by omega) ⟨N, by rw [s0]; rfl, fun _ _ => rfl⟩ (fun k s hk hI => ?_) (fun s hI => ?_)
          · obtain ⟨P, rfl, n2⟩ := hI
            have p48 : P 48 = A := (n2 48 (by omega)).trans c48
            obtain ⟨P2, q1, q2⟩ := m_doesDraw (M := P) (o := k) (p := p) (j := i) hk (by omega) (by rw [p48]; exact hA.1) (by rw [p48]; exact hA.2.1)
            rw [p48] at q1
            have s2 := s1 k
            by_cases c : iv (drP A k p) = nI i
            · rw [if_pos c] at q1 s2
              rw [f_X6_orders_l27, if_neg (show ¬ (720 : Int32) ≤ nI k from nI_ge (b := 720) hk (by omega)), q1, Option.bind_some]
              exact ⟨_, rfl, P2, by rw [s2, ← nI_1, ← nI_1], fun a h1 => (q2 a h1).trans (n2 a h1)⟩
            · rw [if_neg c] at q1 s2
              rw [f_X6_orders_l27, if_neg (show ¬ (720 : Int32) ≤ nI k from nI_ge (b := 720) hk (by omega)), q1, Option.bind_some]
              exact ⟨_, rfl, P2, by rw [s2, Nat.add_zero, ← nI_1, Int32.add_zero], fun a h1 => (q2 a h1).trans (n2 a h1)⟩
          · obtain ⟨P, rfl, n2⟩ := hI
            rw [f_X6_orders_l27, if_pos (show (720 : Int32) ≤ nI 720 from nI_le (Nat.le_refl _) (by omega))]
            exact ⟨_, rfl, P, rfl, n2⟩
        obtain ⟨r, k3, P, rfl, k4⟩ := key2
        refine ⟨P, ?_, fun a _ _ h3 => k4 a h3, k4 48 (by omega), fun j hj => by rw [k4 50 (by omega), hc 50 (by omega)]; exact RR_50 h j hj⟩
        unfold f_X6_orders
        rw [m_isPerson_eq, Option.bind_some, wi_t hx, if_neg (by decide), m_isName_eq, Option.bind_some, c48, wi_t hy, if_neg (by decide), k3]
    · refine pe_find h 0 (by omega) ?_ (fun M1 hf => ?_)
      · unfold f_X5_orders f_X5_orders_j15
        rw [f_isPerson_eq, Option.bind_some, wi_t hx, if_neg (by decide), f_isName_eq, Option.bind_some, eN, wi_f hy, if_pos rfl, bind_pair]; rfl
      · unfold f_X6_orders f_X6_orders_j15
        rw [m_isPerson_eq, Option.bind_some, wi_t hx, if_neg (by decide), m_isName_eq, Option.bind_some, hf 48 (by omega), wi_f hy, if_pos rfl, bind_pair]; rfl
  · refine pe_find h 0 (by omega) ?_ (fun M1 hf => ?_)
    · unfold f_X5_orders f_X5_orders_j15
      rw [f_isPerson_eq, Option.bind_some, wi_f hx, if_pos rfl, bind_pair]; rfl
    · unfold f_X6_orders f_X6_orders_j15
      rw [m_isPerson_eq, Option.bind_some, wi_f hx, if_pos rfl, bind_pair]; rfl
