/-! JUDGING A SHEET, LOADING PURSES FROM IT. -/
theorem m_lacks_eq {M : zM} {s : Nat} (hs : s < 4) : f_X6_lacks (nI s) M = some (if M 57 s = 0 then -1000006 else 0) := by
  have hx : inB (nI s) 0 3 := (inB_nI (n := 3) (by omega)).mpr ⟨s, by omega, rfl⟩
  unfold f_X6_lacks
  rw [m_isSheet_eq, Option.bind_some, wi_t hx, if_neg (by decide), rd (n := 4) rfl hs, Option.bind_some, if_some]
theorem m_lacks_no {M : zM} {x : Int32} (hx : ¬ inB x 0 3) : f_X6_lacks x M = some (-1000001) := by
  unfold f_X6_lacks
  rw [m_isSheet_eq, Option.bind_some, wi_f hx, if_pos rfl]
theorem pe_judge (x : Int32) : PE (f_X5_judge x) (f_X6_judge x) := by
  intro M D hD h
  by_cases hx : inB x 0 3
  · obtain ⟨s, hs, rfl⟩ := (inB_nI (n := 3) (by omega)).mp hx
    obtain ⟨b1, b2, b3, b4, ⟨L, hL, b5⟩, b6⟩ := h.2.2.2.2.2.2.2.2.2 s (by omega)
    have e2 : M (39 + 2 * s) 2 = nI L := by rw [← b2, b5]
    by_cases hb : M (39 + 2 * s) 1 = 0
    · refine pe_find h 5 (by omega) ?_ (fun M1 hf => ?_)
      · unfold f_X5_judge
        rw [f_isSheet_eq, Option.bind_some, wi_t hx, if_neg (by decide), sheet_ref s (by omega), Option.bind_some, if_pos hb, bind_pair]; rfl
      · have hl : f_X6_lacks (nI s) M1 = some (-1000006) := by rw [m_lacks_eq (by omega), hf 57 (by omega), b1, if_pos hb]
        unfold f_X6_judge
        rw [hl, Option.bind_some, if_neg (by decide), Option.bind_some, bind_pair]; rfl
    · have hA := h.2.1
      have h48 := h.1
      obtain ⟨ho, h3⟩ := okA_order hA
      generalize hAA : M 48 = A at hA h48 ho h3
      generalize ho2 : orderN A = o at ho h3
      have e9 : M 1 9 = nI o := by rw [← h3, h48]; rfl
      obtain ⟨N, e1, d0, e3⟩ := h_draw (M := M) (o := o) isH_1 ho (by rw [← h48]; exact hA.1) (by rw [← h48]; exact hA.2.1)
      rw [← h48] at d0
      have d1 := drP_row (D := N 11) ho d0
      have hc : CS M N := CS_line e3
      have n48 : N 48 = A := by rw [hc 48 (by omega), hAA]
      obtain ⟨N2, g1, f0, g3⟩ := m_drawBy (M := N) ho (by rw [n48]; exact hA.1) (by rw [n48]; exact hA.2.1)
      rw [n48, taken_eq hA.1 hA.2.1 ho] at g1
      rw [n48] at f0
      have f1 := drP_row (D := N2 52) ho f0
      have hm := setK_lt hA.1 hA.2.1 ho 6 (by omega)
      obtain ⟨m, hm6, m1, m2⟩ := least (fun k => L ≤ k ∨ ¬ M (40 + 2 * s) k = iv (drP A o k)) 6
      have cls : zIter (f_X5_judge_l49 (39 + 2 * s) N) 1000 (0 : Int32) = some (if L ≤ m then 0 else 1 + nI m, N) := by
        have q2 : N (39 + 2 * s) 2 = nI L := by rw [hc _ (by omega), e2]
        refine zIter_steps (fun k => nI k) m 1000 _ (by omega) (fun k hk => ?_) ?_
        · have hn := m1 k hk
          have hk1 : k < L := Nat.not_le.mp (fun q => hn (Or.inl q))
          have hk2 : M (40 + 2 * s) k = iv (drP A o k) := Classical.byContradiction (fun q => hn (Or.inr q))
          rw [f_X5_judge_l49, q2, if_neg (nI_ge hk1 (by omega)), if_neg (show ¬ (6 : Int32) ≤ nI k from nI_ge (b := 6) (by omega) (by decide)), show 39 + 2 * s + 1 = 40 + 2 * s by omega, rd (n := 40) (shSh (by omega)) (by omega), Option.bind_some, rd (n := 6) rfl (by omega), Option.bind_some, d1 k (by omega), hc _ (by omega), if_pos hk2, nI_1]; rfl
        · rw [f_X5_judge_l49, q2]
          by_cases c : L ≤ m
          · rw [if_pos (nI_le c (by omega)), if_pos c]
          · rw [if_neg (nI_ge (by omega) (by omega)), if_neg c]
            by_cases c6 : m = 6
            · rw [if_pos (show (6 : Int32) ≤ nI m from nI_le (a := 6) (by omega) (by omega))]
            · have hne : ¬ M (40 + 2 * s) m = iv (drP A o m) := (m2.resolve_left c6).resolve_left c
              rw [if_neg (show ¬ (6 : Int32) ≤ nI m from nI_ge (b := 6) (by omega) (by decide)), show 39 + 2 * s + 1 = 40 + 2 * s by omega, rd (n := 40) (shSh (by omega)) (by omega), Option.bind_some, rd (n := 6) rfl (by omega), Option.bind_some, d1 m (by omega), hc _ (by omega), if_neg hne]
      refine pe_scr h (r := if L ≤ m then 0 else 1 + nI m) (M1 := N) ?_ hc ⟨N2, ?_, fun a _ _ h3 => g3 a h3, g3 48 (by omega), fun j hj => by rw [g3 50 (by omega), hc 50 (by omega)]; exact RR_50 h j hj⟩
      · unfold f_X5_judge
        rw [f_isSheet_eq, Option.bind_some, wi_t hx, if_neg (by decide), sheet_ref s (by omega), Option.bind_some, if_neg hb, e9, e1, Option.bind_some, cls]
      · have n57 : N 57 s = M (39 + 2 * s) 1 := by rw [hc 57 (by omega), b1]
        have hl : f_X6_lacks (nI s) N = some 0 := by rw [m_lacks_eq (by omega), n57, if_neg hb]
        have e3' : zrd N 48 3 = some (nI o) := by rw [← h3, ← n48]; exact rd48 (j := 3) (by omega)
        have z58 : zrd N2 58 (nI s) = some (nI L) := by rw [rd (n := 4) rfl (by omega), g3 58 (by omega), hc 58 (by omega), b5]
        have jj : f_X6_judge_j78 (nI s) (nI m) N2 = some (if nI m = nI L then 0 else 1 + nI m, N2) := by
          unfold f_X6_judge_j78
          rw [z58, Option.bind_some]
          by_cases c : nI m = nI L
          · rw [if_pos c, if_pos c]
          · rw [if_neg c, if_neg c]
        have hmL : m ≤ L := Nat.not_lt.mp (fun q => m1 L q (Or.inl (Nat.le_refl L)))
        have ejj : (if nI m = nI L then (0 : Int32) else 1 + nI m) = if L ≤ m then 0 else 1 + nI m := by
          by_cases c : L ≤ m
          · rw [if_pos c, if_pos (by rw [show m = L by omega])]
          · rw [if_neg c, if_neg (fun q => c (by have := (nI_eq (by omega) (by omega)).mp q; omega))]
        rw [ejj] at jj
        unfold f_X6_judge
        rw [hl, Option.bind_some, if_pos rfl, e3', Option.bind_some, g1, Option.bind_some]
        show zIter (f_X6_judge_l31 (nI s) (nI (setK A o 6)) N2) 1000 (0 : Int32) = _
        have r59 : ∀ k, k < 40 → zrd N2 59 ((40 : Int32) * nI s + nI k) = some (M (40 + 2 * s) k) := fun k hk => by
          rw [show (40 : Int32) * nI s = nI (40 * s) from pk_mul 40 s, nI_add, rd (n := 160) rfl (by omega), g3 59 (by omega), hc 59 (by omega), b3 k hk]
        refine zIter_steps (fun k => nI k) m 1000 _ (by omega) (fun k hk => ?_) ?_
        · have hn := m1 k hk
          have hk1 : k < L := Nat.not_le.mp (fun q => hn (Or.inl q))
          have hk2 : M (40 + 2 * s) k = iv (drP A o k) := Classical.byContradiction (fun q => hn (Or.inr q))
          have hp : inB (nI k) 0 5 := (inB_nI (n := 5) (by omega)).mpr ⟨k, by omega, rfl⟩
          rw [f_X6_judge_l31, z58, Option.bind_some, if_neg (nI_ge hk1 (by omega)), if_neg (nI_pos (by omega)), m_isPerson_eq, Option.bind_some, wi_t hp, if_neg (by decide), r59 k (by omega), Option.bind_some, rd (n := 6) rfl (by omega), Option.bind_some, f1 k (by omega), if_pos hk2, nI_1]; rfl
        · rw [f_X6_judge_l31, z58, Option.bind_some, jj]
          by_cases c : L ≤ m
          · rw [if_pos (nI_le c (by omega))]; rfl
          · rw [if_neg (nI_ge (by omega) (by omega)), if_neg (nI_pos (by omega)), m_isPerson_eq, Option.bind_some]
            by_cases c6 : m = 6
            · have hp : ¬ inB (nI m) 0 5 := fun q => by
                obtain ⟨j, j1, j2⟩ := (inB_nI (n := 5) (by omega)).mp q
                have := (nI_eq (by omega) (by omega)).mp j2
                omega
              rw [wi_f hp, if_pos rfl]; rfl
            · have hne : ¬ M (40 + 2 * s) m = iv (drP A o m) := (m2.resolve_left c6).resolve_left c
              have hp : inB (nI m) 0 5 := (inB_nI (n := 5) (by omega)).mpr ⟨m, by omega, rfl⟩
              rw [wi_t hp, if_neg (by decide), r59 m (by omega), Option.bind_some, rd (n := 6) rfl (by omega), Option.bind_some, f1 m (by omega), if_neg hne]; rfl
  · refine pe_find h 0 (by omega) ?_ (fun M1 hf => ?_)
    · unfold f_X5_judge
      rw [f_isSheet_eq, Option.bind_some, wi_f hx, if_pos rfl, bind_pair]; rfl
    · unfold f_X6_judge
      rw [m_lacks_no hx, Option.bind_some, if_neg (by decide), Option.bind_some, bind_pair]; rfl
