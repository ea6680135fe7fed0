/-! LOADING PURSES FROM A SHEET. -/
def ldA (A f : Nat → Int32) : Nat → Nat → Int32
  | 0 => A
  | k + 1 => upd (ldA A f k) (55 + k) (f k)
theorem okA_ld {A f : Nat → Int32} {D : Nat} (h : okA A D) : ∀ k, k ≤ 6 → (∀ j, j < k → inB (f j) 0 9999) → okA (ldA A f k) D := by
  intro k
  induction k with
  | zero => intro _ _; exact h
  | succ k ih =>
    intro hk hf
    exact okA_setP (ih (by omega) (fun j hj => hf j (by omega))) (by omega) ((inB_nI (n := 9999) (by omega)).mp (hf k (by omega)))
theorem pe_load (x : Int32) : PE (f_X5_load x) (f_X6_load x) := by
  intro M D hD h
  by_cases hx : inB x 0 3
  · obtain ⟨s, hs, rfl⟩ := (inB_nI (n := 3) (by omega)).mp hx
    obtain ⟨b1, b2, b3, b4, ⟨L, hL, b5⟩, b6⟩ := h.2.2.2.2.2.2.2.2.2 s (by omega)
    have e2 : M (39 + 2 * s) 2 = nI L := by rw [← b2, b5]
    by_cases hb : M (39 + 2 * s) 1 = 0
    · refine pe_find h 5 (by omega) ?_ (fun M1 hf => ?_)
      · unfold f_X5_load
        rw [f_isSheet_eq, Option.bind_some, wi_t hx, if_neg (by decide), sheet_ref s (by omega), Option.bind_some, if_pos hb, bind_pair]; rfl
      · have hl : f_X6_lacks (nI s) M1 = some (-1000006) := by rw [m_lacks_eq (by omega), hf 57 (by omega), b1, if_pos hb]
        unfold f_X6_load
        rw [hl, Option.bind_some, if_neg (by decide), Option.bind_some, bind_pair]; rfl
    · have hA := h.2.1
      have h48 := h.1
      generalize hAA : M 48 = A at hA h48
      generalize hF : M (40 + 2 * s) = F at b3
      obtain ⟨m, hm6, m1, m2⟩ := least (fun k => L ≤ k ∨ ¬ inB (F k) 0 9999) 6
      have hin : ∀ j, j < m → inB (F j) 0 9999 := fun j hj => Classical.byContradiction (fun q => m1 j hj (Or.inr q))
      have key : ∃ r, zIter (f_X5_load_l35 (39 + 2 * s)) 1000 (0, M) = some r ∧ ∃ N : zM, r = (nI m, N) ∧ hrow N 1 = ldA A F m ∧ ∀ a, a ≠ 7 → N a = M a := by
        refine zIter_inv (fun k st => ∃ N : zM, st = (nI k, N) ∧ hrow N 1 = ldA A F k ∧ ∀ a, a ≠ 7 → N a = M a) _ m 1000 _ (by omega) ⟨M, rfl, h48.symm, fun _ _ => rfl⟩ (fun k st hk hI => ?_) (fun st hI => ?_)
        · obtain ⟨N, rfl, n1, n2⟩ := hI
          have hk1 : k < L := Nat.not_le.mp (fun q => m1 k hk (Or.inl q))
          have q2 : N (39 + 2 * s) 2 = nI L := by rw [n2 _ (by omega), e2]
          have q4 : zrd N (39 + 2 * s + 1) (nI k) = some (F k) := by
            rw [show 39 + 2 * s + 1 = 40 + 2 * s by omega, rd (n := 40) (shSh (by omega)) (by omega), n2 _ (by omega), hF]
          rw [f_X5_load_l35, q2, if_neg (nI_ge hk1 (by omega)), if_neg (show ¬ (6 : Int32) ≤ nI k from nI_ge (b := 6) (by omega) (by decide)), q4, Option.bind_some, f_within_eq, Option.bind_some, wi_t (hin k hk), if_neg (by decide), Option.bind_some, wr (n := 6) rfl (by omega), Option.bind_some, nI_1]
          refine ⟨_, rfl, _, rfl, ?_, fun a ha => by rw [zU_off ha, n2 a ha]⟩
          rw [show zU N 7 k (F k) = zU N (1 + 6) k (F k) from rfl, hrow_uP _ _ _ (by omega), n1]; rfl
        · obtain ⟨N, rfl, n1, n2⟩ := hI
          have q2 : N (39 + 2 * s) 2 = nI L := by rw [n2 _ (by omega), e2]
          rw [f_X5_load_l35, q2]
          by_cases c : L ≤ m
          · rw [if_pos (nI_le c (by omega))]; exact ⟨_, rfl, N, rfl, n1, n2⟩
          · rw [if_neg (nI_ge (by omega) (by omega))]
            by_cases c6 : m = 6
            · rw [if_pos (show (6 : Int32) ≤ nI m from nI_le (a := 6) (by omega) (by omega))]; exact ⟨_, rfl, N, rfl, n1, n2⟩
            · have hne : ¬ inB (F m) 0 9999 := (m2.resolve_left c6).resolve_left c
              have q4 : zrd N (39 + 2 * s + 1) (nI m) = some (F m) := by
                rw [show 39 + 2 * s + 1 = 40 + 2 * s by omega, rd (n := 40) (shSh (by omega)) (by omega), n2 _ (by omega), hF]
              rw [if_neg (show ¬ (6 : Int32) ≤ nI m from nI_ge (b := 6) (by omega) (by decide)), q4, Option.bind_some, f_within_eq, Option.bind_some, wi_f hne, if_pos rfl]; exact ⟨_, rfl, N, rfl, n1, n2⟩
      obtain ⟨r, k1, N, rfl, k2, k3⟩ := key
      have n48 : N 48 = A := by rw [k3 48 (by omega), hAA]
      have n57 : N 57 s = M (39 + 2 * s) 1 := by rw [k3 57 (by omega), b1]
      have hl : f_X6_lacks (nI s) N = some 0 := by rw [m_lacks_eq (by omega), n57, if_neg hb]
      have key2 : ∃ r, zIter (f_X6_load_l20 (nI s)) 1000 (0, N) = some r ∧ ∃ P : zM, r = (nI m, P) ∧ P 48 = ldA A F m ∧ ∀ a, a ≠ 48 → P a = N a := by
        refine zIter_inv (fun k st => ∃ P : zM, st = (nI k, P) ∧ P 48 = ldA A F k ∧ ∀ a, a ≠ 48 → P a = N a) _ m 1000 _ (by omega) ⟨N, rfl, n48, fun _ _ => rfl⟩ (fun k st hk hI => ?_) (fun st hI => ?_)
        · obtain ⟨P, rfl, n1, n2⟩ := hI
          have hk1 : k < L := Nat.not_le.mp (fun q => m1 k hk (Or.inl q))
          have z58 : zrd P 58 (nI s) = some (nI L) := by rw [rd (n := 4) rfl (by omega), n2 58 (by omega), k3 58 (by omega), b5]
          have r59 : zrd P 59 ((40 : Int32) * nI s + nI k) = some (F k) := by
            rw [show (40 : Int32) * nI s = nI (40 * s) from pk_mul 40 s, nI_add, rd (n := 160) rfl (by omega), n2 59 (by omega), k3 59 (by omega), b3 k (by omega)]
          have hp : inB (nI k) 0 5 := (inB_nI (n := 5) (by omega)).mpr ⟨k, by omega, rfl⟩
          have hpu : f_X6_isPurse (F k) P = some 1 := by
            unfold f_X6_isPurse
            rw [m_within_eq, Option.bind_some, zbo_if, wi_t (hin k hk)]; rfl
          rw [f_X6_load_l20, z58, Option.bind_some, if_neg (nI_ge hk1 (by omega)), m_isPerson_eq, Option.bind_some, wi_t hp, if_neg (by decide), r59, Option.bind_some, hpu, Option.bind_some, if_neg (by decide), Option.bind_some, show (55 : Int32) + nI k = nI (55 + k) from nI_add 55 k, wr48 (by omega), Option.bind_some, nI_1]
          refine ⟨_, rfl, _, rfl, ?_, fun a ha => by rw [zU_off ha, n2 a ha]⟩
          rw [zU_row, n1]; rfl
        · obtain ⟨P, rfl, n1, n2⟩ := hI
          have z58 : zrd P 58 (nI s) = some (nI L) := by rw [rd (n := 4) rfl (by omega), n2 58 (by omega), k3 58 (by omega), b5]
          rw [f_X6_load_l20, z58, Option.bind_some]
          by_cases c : L ≤ m
          · rw [if_pos (nI_le c (by omega))]; exact ⟨_, rfl, P, rfl, n1, n2⟩
          · rw [if_neg (nI_ge (by omega) (by omega)), m_isPerson_eq, Option.bind_some]
            by_cases c6 : m = 6
            · have hp : ¬ inB (nI m) 0 5 := fun q => by
                obtain ⟨j, j1, j2⟩ := (inB_nI (n := 5) (by omega)).mp q
                have := (nI_eq (by omega) (by omega)).mp j2
                omega
              rw [wi_f hp, if_pos rfl]; exact ⟨_, rfl, P, rfl, n1, n2⟩
            · have hne : ¬ inB (F m) 0 9999 := (m2.resolve_left c6).resolve_left c
              have hp : inB (nI m) 0 5 := (inB_nI (n := 5) (by omega)).mpr ⟨m, by omega, rfl⟩
              have r59 : zrd P 59 ((40 : Int32) * nI s + nI m) = some (F m) := by
                rw [show (40 : Int32) * nI s = nI (40 * s) from pk_mul 40 s, nI_add, rd (n := 160) rfl (by omega), n2 59 (by omega), k3 59 (by omega), b3 m (by omega)]
              have hpu : f_X6_isPurse (F m) P = some 0 := by
                unfold f_X6_isPurse
                rw [m_within_eq, Option.bind_some, zbo_if, wi_f hne]; rfl
              rw [wi_t hp, if_neg (by decide), r59, Option.bind_some, hpu, Option.bind_some, if_pos rfl]; exact ⟨_, rfl, P, rfl, n1, n2⟩
      obtain ⟨r, q1, P, rfl, q2, q3⟩ := key2
      refine ⟨nI m, N, P, ?_, ?_, RR_mono (RR_house (M1 := N) (E := D) (A := ldA A F m) h (fun a ha => k3 a (by omega)) ⟨fun a ha => q3 a (by omega), ⟨by rw [q3 47 (by omega)], by rw [q3 47 (by omega)]⟩, fun i hi => by rw [q3 50 (by omega), k3 50 (by omega)]; exact RR_50 h i hi⟩ k2 q2 (okA_ld hA m hm6 hin) (Nat.le_refl _)) (by omega)⟩
      · unfold f_X5_load
        rw [f_isSheet_eq, Option.bind_some, wi_t hx, if_neg (by decide), sheet_ref s (by omega), Option.bind_some, if_neg hb, k1]
      · unfold f_X6_load
        rw [hl, Option.bind_some, if_pos rfl, q1]
  · refine pe_find h 0 (by omega) ?_ (fun M1 hf => ?_)
    · unfold f_X5_load
      rw [f_isSheet_eq, Option.bind_some, wi_f hx, if_pos rfl, bind_pair]; rfl
    · unfold f_X6_load
      rw [m_lacks_no hx, Option.bind_some, if_neg (by decide), Option.bind_some, bind_pair]; rfl
