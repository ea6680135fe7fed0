/-! THE BEST ORDER, THE BEST WISH. -/
def gb (u v : Nat → Int32) (b : Int32) : Nat → Int32 × Int32
  | 0 => (b, -1)
  | k + 1 => if v k ≤ (gb u v b k).2 then gb u v b k else (u k, v k)
theorem gb_eq {u v : Nat → Int32} (b c : Int32) (h : ¬ v 0 ≤ -1) : ∀ k, gb u v b (k + 1) = gb u v c (k + 1) := by
  intro k
  induction k with
  | zero =>
    show (if v 0 ≤ -1 then _ else _) = (if v 0 ≤ -1 then _ else _)
    rw [if_neg h, if_neg h]
  | succ k ih =>
    show (if v (k + 1) ≤ (gb u v b (k + 1)).2 then gb u v b (k + 1) else _) = (if v (k + 1) ≤ (gb u v c (k + 1)).2 then gb u v c (k + 1) else _)
    rw [ih]
theorem m_greatest {M : zM} {A u : Nat → Int32} {D idx pl n c : Nat} {lo hi : Int32} (hAA : M 48 = A) (hD : D ≤ 40000) (hn : n ≤ 200) (hidx : idx < 67) (hpl : pl < 67) (hc : c < 1000) (u0 : u 0 = lo) (u1 : ∀ k, u k + 1 = u (k + 1)) (uh : ∀ k, k < c → ¬ hi < u k) (uc : hi < u c) (hA : ∀ k, k < c → okA (upd A idx (u k)) D) (h50 : ∀ j, 67 ≤ j → M 50 j = 0) : ∃ M', f_X6_greatest (nI idx) lo hi (nI pl) (nI n) M = some ((gb u (fun k => daysA (upd A idx (u k)) n pl) (lo - 1) c).1, M') ∧ MS M M' := by
  generalize hv : (fun k => daysA (upd A idx (u k)) n pl) = v
  have key2 : ∃ r, zIter (f_X6_greatest_l19 (nI idx) hi (nI pl) (nI n) (A idx)) 1000 (lo - 1, -1, lo, M) = some r ∧ ∃ M2, r = ((gb u v (lo - 1) c).1, M2) ∧ MS M M2 := by
    refine zIter_inv (fun k s => ∃ P : zM, s = ((gb u v (lo - 1) k).1, (gb u v (lo - 1) k).2, u k, P) ∧ (∃ w, P 48 = upd A idx w) ∧ (∀ a, a ≠ 48 → a ≠ 50 → a ≠ 52 → P a = M a) ∧ ∀ j, 67 ≤ j → P 50 j = 0) _ c 1000 _ hc ⟨M, by rw [u0]; rfl, ⟨A idx, by rw [hAA, upd_self]⟩, fun _ _ _ _ => rfl, h50⟩ (fun k s hk hI => ?_) (fun s hI => ?_)
    · obtain ⟨P, rfl, ⟨w, hw⟩, hF, hz⟩ := hI
      have p48 : zU P 48 idx (u k) 48 = upd A idx (u k) := by rw [zU_row, hw, upd_upd]
      obtain ⟨P2, f1, f2⟩ := m_behind (M := zU P 48 idx (u k)) (i := pl) (n := n) (D := D) (by rw [p48]; exact hA k hk) hD hn hpl (fun j hj => by rw [zU_off (by omega)]; exact hz j hj)
      rw [p48] at f1
      have ev : daysA (upd A idx (u k)) n pl = v k := by rw [← hv]
      rw [ev] at f1
      have s1 : gb u v (lo - 1) (k + 1) = if v k ≤ (gb u v (lo - 1) k).2 then gb u v (lo - 1) k else (u k, v k) := rfl
      have hF2 : (∃ w, P2 48 = upd A idx w) ∧ (∀ a, a ≠ 48 → a ≠ 50 → a ≠ 52 → P2 a = M a) ∧ ∀ j, 67 ≤ j → P2 50 j = 0 := ⟨⟨u k, by rw [f2.2.1, p48]⟩, fun a h1 h2 h3 => by rw [f2.1 a h1 h2 h3, zU_off h1, hF a h1 h2 h3], f2.2.2⟩
      rw [f_X6_greatest_l19, if_neg (uh k hk), wr48 hidx, Option.bind_some, f1, Option.bind_some]
      show ∃ s', ((if v k ≤ (gb u v (lo - 1) k).2 then _ else _) = some (Sum.inl s')) ∧ _
      unfold f_X6_greatest_j57
      by_cases q : v k ≤ (gb u v (lo - 1) k).2
      · rw [if_pos q, if_neg (Int32.not_lt.mpr q), u1]
        exact ⟨_, rfl, P2, by rw [s1, if_pos q], hF2⟩
      · rw [if_neg q, if_pos (Int32.not_le.mp q), u1]
        exact ⟨_, rfl, P2, by rw [s1, if_neg q], hF2⟩
    · obtain ⟨P, rfl, ⟨w, hw⟩, hF, hz⟩ := hI
      rw [f_X6_greatest_l19, if_pos uc]
      unfold f_X6_greatest_j74
      rw [wr48 hidx]
      exact ⟨_, rfl, _, rfl, fun a h1 h2 h3 => by rw [zU_off h1, hF a h1 h2 h3], by rw [zU_row, hw, upd_upd, upd_self, hAA], fun j hj => by rw [zU_off (by omega)]; exact hz j hj⟩
  obtain ⟨r, k3, M2, rfl, k4⟩ := key2
  refine ⟨M2, ?_, k4⟩
  unfold f_X6_greatest
  rw [rd48 hidx, Option.bind_some, hAA]
  exact k3
theorem pe_best (x y : Int32) : PE (f_X5_best x y) (f_X6_best x y) := by
  intro M D hD h
  by_cases hx : inB x 0 5
  · by_cases hy : inB y 0 10
    · obtain ⟨p, hp, rfl⟩ := (inB_nI (n := 5) (by omega)).mp hx
      obtain ⟨n, hn, rfl⟩ := (inB_nI (n := 10) (by omega)).mp hy
      have hA := h.2.1
      have h48 := h.1
      generalize hAA : M 48 = A at hA h48
      have hAk : ∀ k, k < 720 → okA (upd A 3 (nI k)) D := fun k hk => okA_set3 hA ⟨k, by omega, rfl⟩
      generalize hv : (fun k => daysA (upd A 3 (nI k)) n (55 + p)) = v
      have key : ∃ r, zIter (f_X5_best_l31 (nI p) (nI n)) 1000 (0, (-1), 0, M) = some r ∧ ∃ N : zM, r = ((gb nI v 0 720).1, N) ∧ ∀ a, (a < 23 ∨ 33 < a) → N a = M a := by
        refine zIter_inv (fun k s => ∃ N : zM, s = ((gb nI v 0 k).1, (gb nI v 0 k).2, nI k, N) ∧ ∀ a, (a < 23 ∨ 33 < a) → N a = M a) _ 720 1000 _ (by omega) ⟨M, rfl, fun _ _ => rfl⟩ (fun k s hk hI => ?_) (fun s hI => ?_)
        · obtain ⟨N, rfl, hF⟩ := hI
          obtain ⟨N1, e1, e2, e3⟩ := h_become (M := N) isH_23 isH_1 (by omega)
          have er : hrow N1 23 = A := by rw [e2, h48]; exact hrow_off (fun a h1 h2 => hF a (by omega))
          have er2 : hrow (zU N1 23 9 (nI k)) 23 = upd A 3 (nI k) := by
            rw [show zU N1 23 9 (nI k) = zU N1 23 (rp 3) (nI k) from rfl, hrow_uF _ _ _ _ (by omega), er]
          obtain ⟨N2, f1, f2, f3⟩ := h_pass (M := zU N1 23 9 (nI k)) (n := n) (D := D) isH_23 (by rw [er2]; exact hAk k hk) (by omega) (by omega)
          have hF2 : ∀ a, (a < 23 ∨ 33 < a) → N2 a = M a := fun a ha => by rw [f3 a (by omega), zU_off (by omega), e3 a (by omega), hF a ha]
          have ev : zrd N2 29 (nI p) = some (v k) := by
            rw [rd (n := 6) rfl (by omega), ← hv]
            show _ = some (daysA (upd A 3 (nI k)) n (55 + p))
            rw [← er2, ← f2, hrow_purse _ _ (by omega)]
          have s1 : gb nI v 0 (k + 1) = if v k ≤ (gb nI v 0 k).2 then gb nI v 0 k else (nI k, v k) := rfl
          rw [f_X5_best_l31, if_neg (show ¬ (720 : Int32) ≤ nI k from nI_ge (b := 720) hk (by decide)), e1, Option.bind_some, Option.bind_some, f1, Option.bind_some, ev, Option.bind_some]
          by_cases c : v k ≤ (gb nI v 0 k).2
          · rw [if_pos c, nI_1]
            exact ⟨_, rfl, N2, by rw [s1, if_pos c], hF2⟩
          · rw [if_neg c, nI_1]
            exact ⟨_, rfl, N2, by rw [s1, if_neg c], hF2⟩
        · obtain ⟨N, rfl, hF⟩ := hI
          rw [f_X5_best_l31, if_pos (show (720 : Int32) ≤ nI 720 from nI_le (Nat.le_refl _) (by omega))]
          exact ⟨_, rfl, N, rfl, hF⟩
      obtain ⟨r, k1, N, rfl, k2⟩ := key
      have hc : CS M N := CS_trial k2
      have c48 : N 48 = A := by rw [hc 48 (by omega), hAA]
      have c50 : ∀ j, 67 ≤ j → N 50 j = 0 := fun j hj => by rw [hc 50 (by omega)]; exact RR_50 h j hj
      refine pe_scr h (r := (gb nI v 0 720).1) (M1 := N) ?_ hc ?_
      · unfold f_X5_best
        rw [f_isPerson_eq, Option.bind_some, wi_t hx, if_neg (by decide), f_within_eq, Option.bind_some, wi_t hy, if_neg (by decide), k1]
      · obtain ⟨M2, g1, g2⟩ := m_greatest (M := N) (A := A) (u := nI) (D := D) (idx := 3) (pl := 55 + p) (n := n) (c := 720) (lo := 0) (hi := 719) c48 hD (by omega) (by omega) (by omega) (by omega) rfl (fun k => nI_1 k) (fun k hk => nI_nlt (a := 719) (by omega) (by omega)) (nI_lt (a := 719) (b := 720) (by omega) (by omega)) hAk c50
        have v0 : ¬ v 0 ≤ -1 := by
          obtain ⟨w, hw, ew⟩ := (okA_days (hAk 0 (by omega)) n (by omega)).2.2.2.2.2.2.2.1 p (by omega)
          rw [← hv]
          show ¬ daysA (upd A 3 (nI 0)) n (55 + p) ≤ -1
          rw [ew]
          exact Int32.not_le.mpr (Int32.lt_of_lt_of_le (by decide : (-1 : Int32) < 0) (nI_pos' (by omega)))
        rw [hv, gb_eq _ 0 v0 719] at g1
        refine ⟨M2, ?_, g2⟩
        unfold f_X6_best
        rw [m_isPerson_eq, Option.bind_some, wi_t hx, if_neg (by decide), m_within_eq, Option.bind_some, wi_t hy, if_neg (by decide), show (55 : Int32) + nI p = nI (55 + p) from nI_add 55 p, show f_X6_greatest 3 0 719 (nI (55 + p)) (nI n) N = _ from g1]
        rfl
    · refine pe_find h 0 (by omega) ?_ (fun M1 hf => ?_)
      · unfold f_X5_best f_X5_best_j17
        rw [f_isPerson_eq, Option.bind_some, wi_t hx, if_neg (by decide), f_within_eq, Option.bind_some, wi_f hy, if_pos rfl, bind_pair]; rfl
      · unfold f_X6_best f_X6_best_j34
        rw [m_isPerson_eq, Option.bind_some, wi_t hx, if_neg (by decide), m_within_eq, Option.bind_some, wi_f hy, if_pos rfl, bind_pair]; rfl
  · refine pe_find h 0 (by omega) ?_ (fun M1 hf => ?_)
    · unfold f_X5_best f_X5_best_j17
      rw [f_isPerson_eq, Option.bind_some, wi_f hx, if_pos rfl, bind_pair]; rfl
    · unfold f_X6_best f_X6_best_j34
      rw [m_isPerson_eq, Option.bind_some, wi_f hx, if_pos rfl, bind_pair]; rfl
theorem pe_wishFor (x y : Int32) : PE (f_X5_wishFor x y) (f_X6_wishFor x y) := by
  intro M D hD h
  have eN := RR_names h
  by_cases hx : inB x 0 5
  · by_cases hy : inB y 0 60
    · obtain ⟨p, hp, rfl⟩ := (inB_nI (n := 5) (by omega)).mp hx
      obtain ⟨n, hn, rfl⟩ := (inB_nI (n := 60) (by omega)).mp hy
      have hA := h.2.1
      have h48 := h.1
      generalize hAA : M 48 = A at hA h48 eN
      have hN8 := hA.1.2
      have e0 : M 1 0 = nI (nn A) := by rw [eN]; exact hA.1.1
      generalize hu : (fun k => nI k - 1) = u
      have uE : ∀ k, u k = nI k - 1 := fun k => by rw [← hu]
      have u0 : u 0 = -1 := by rw [uE]; decide
      have uS : ∀ k, u (k + 1) = nI k := fun k => by rw [uE, nI_pred]
      have u1 : ∀ k, u k + 1 = u (k + 1) := fun k => by rw [uS, uE, Int32.sub_add_cancel]
      have hAk : ∀ k, k < nn A + 1 → okA (upd A (61 + p) (u k)) D := fun k hk => okA_setW hA (by omega) (by
        cases k with
        | zero => exact Or.inl u0
        | succ k => exact Or.inr ⟨k, by omega, uS k⟩)
      generalize hv : (fun k => daysA (upd A (61 + p) (u k)) n (55 + p)) = v
      have b1 : ∀ k, k < nn A + 1 → ¬ nI (nn A) ≤ u k := fun k hk => by rw [uE]; exact (by decide : ∀ n, n < 9 → ∀ k, k < n + 1 → ¬ nI n ≤ nI k - 1) (nn A) (by omega) k hk
      have b2 : ∀ k, k < nn A + 1 → ¬ nI (nn A) - 1 < u k := fun k hk => by rw [uE]; exact (by decide : ∀ n, n < 9 → ∀ k, k < n + 1 → ¬ nI n - 1 < nI k - 1) (nn A) (by omega) k hk
      have b3 : nI (nn A) - 1 < u (nn A + 1) := by rw [uS]; exact (by decide : ∀ n, n < 9 → nI n - 1 < nI n) (nn A) (by omega)
      have key : ∃ r, zIter (f_X5_wishFor_l31 (nI p) (nI n)) 1000 ((-1), (-1), (-1), M) = some r ∧ ∃ N : zM, r = ((gb u v (-1) (nn A + 1)).1, N) ∧ ∀ a, (a < 23 ∨ 33 < a) → N a = M a := by
        refine zIter_inv (fun k s => ∃ N : zM, s = ((gb u v (-1) k).1, (gb u v (-1) k).2, u k, N) ∧ ∀ a, (a < 23 ∨ 33 < a) → N a = M a) _ (nn A + 1) 1000 _ (by omega) ⟨M, by rw [u0]; rfl, fun _ _ => rfl⟩ (fun k s hk hI => ?_) (fun s hI => ?_)
        · obtain ⟨N, rfl, hF⟩ := hI
          obtain ⟨N1, e1, e2, e3⟩ := h_become (M := N) isH_23 isH_1 (by omega)
          have er : hrow N1 23 = A := by rw [e2, h48]; exact hrow_off (fun a h1 h2 => hF a (by omega))
          have er2 : hrow (zU N1 30 p (u k)) 23 = upd A (61 + p) (u k) := by
            rw [show zU N1 30 p (u k) = zU N1 (23 + 7) p (u k) from rfl, hrow_uW _ _ _ (by omega), er]
          obtain ⟨N2, f1, f2, f3⟩ := h_pass (M := zU N1 30 p (u k)) (n := n) (D := D) isH_23 (by rw [er2]; exact hAk k hk) (by omega) (by omega)
          have hF2 : ∀ a, (a < 23 ∨ 33 < a) → N2 a = M a := fun a ha => by rw [f3 a (by omega), zU_off (by omega), e3 a (by omega), hF a ha]
          have ev : zrd N2 29 (nI p) = some (v k) := by
            rw [rd (n := 6) rfl (by omega), ← hv]
            show _ = some (daysA (upd A (61 + p) (u k)) n (55 + p))
            rw [← er2, ← f2, hrow_purse _ _ (by omega)]
          have s1 : gb u v (-1) (k + 1) = if v k ≤ (gb u v (-1) k).2 then gb u v (-1) k else (u k, v k) := rfl
          rw [f_X5_wishFor_l31, hF 1 (by omega), e0, if_neg (b1 k hk), e1, Option.bind_some, wr (n := 6) rfl (by omega), Option.bind_some, f1, Option.bind_some, ev, Option.bind_some]
          by_cases c : v k ≤ (gb u v (-1) k).2
          · rw [if_pos c, u1]
            exact ⟨_, rfl, N2, by rw [s1, if_pos c], hF2⟩
          · rw [if_neg c, u1]
            exact ⟨_, rfl, N2, by rw [s1, if_neg c], hF2⟩
        · obtain ⟨N, rfl, hF⟩ := hI
          rw [f_X5_wishFor_l31, hF 1 (by omega), e0, uS, if_pos (nI_le (Nat.le_refl _) (by omega))]
          exact ⟨_, rfl, N, rfl, hF⟩
      obtain ⟨r, k1, N, rfl, k2⟩ := key
      have hc : CS M N := CS_trial k2
      have c48 : N 48 = A := by rw [hc 48 (by omega), hAA]
      have c50 : ∀ j, 67 ≤ j → N 50 j = 0 := fun j hj => by rw [hc 50 (by omega)]; exact RR_50 h j hj
      refine pe_scr h (r := (gb u v (-1) (nn A + 1)).1) (M1 := N) ?_ hc ?_
      · unfold f_X5_wishFor
        rw [f_isPerson_eq, Option.bind_some, wi_t hx, if_neg (by decide), f_within_eq, Option.bind_some, wi_t hy, if_neg (by decide), k1]
      · obtain ⟨M2, g1, g2⟩ := m_greatest (M := N) (A := A) (u := u) (D := D) (idx := 61 + p) (pl := 55 + p) (n := n) (c := nn A + 1) (lo := -1) (hi := nI (nn A) - 1) c48 hD (by omega) (by omega) (by omega) (by omega) u0 u1 b2 b3 hAk c50
        have v0 : ¬ v 0 ≤ -1 := by
          obtain ⟨w, hw, ew⟩ := (okA_days (hAk 0 (by omega)) n (by omega)).2.2.2.2.2.2.2.1 p (by omega)
          rw [← hv]
          show ¬ daysA (upd A (61 + p) (u 0)) n (55 + p) ≤ -1
          rw [ew]
          exact Int32.not_le.mpr (Int32.lt_of_lt_of_le (by decide : (-1 : Int32) < 0) (nI_pos' (by omega)))
        rw [hv, gb_eq _ (-1) v0 (nn A)] at g1
        refine ⟨M2, ?_, g2⟩
        have z1 : zrd N 48 1 = some (nI (nn A)) := by rw [← hA.1.1, ← c48]; exact rd48 (j := 1) (by omega)
        unfold f_X6_wishFor
        rw [m_isPerson_eq, Option.bind_some, wi_t hx, if_neg (by decide), m_within_eq, Option.bind_some, wi_t hy, if_neg (by decide), z1, Option.bind_some, show (55 : Int32) + nI p = nI (55 + p) from nI_add 55 p, show (61 : Int32) + nI p = nI (61 + p) from nI_add 61 p, g1]
        rfl
    · refine pe_find h 0 (by omega) ?_ (fun M1 hf => ?_)
      · unfold f_X5_wishFor f_X5_wishFor_j17
        rw [f_isPerson_eq, Option.bind_some, wi_t hx, if_neg (by decide), f_within_eq, Option.bind_some, wi_f hy, if_pos rfl, bind_pair]; rfl
      · unfold f_X6_wishFor f_X6_wishFor_j42
        rw [m_isPerson_eq, Option.bind_some, wi_t hx, if_neg (by decide), m_within_eq, Option.bind_some, wi_f hy, if_pos rfl, bind_pair]; rfl
  · refine pe_find h 0 (by omega) ?_ (fun M1 hf => ?_)
    · unfold f_X5_wishFor f_X5_wishFor_j17
      rw [f_isPerson_eq, Option.bind_some, wi_f hx, if_pos rfl, bind_pair]; rfl
    · unfold f_X6_wishFor f_X6_wishFor_j42
      rw [m_isPerson_eq, Option.bind_some, wi_f hx, if_pos rfl, bind_pair]; rfl
