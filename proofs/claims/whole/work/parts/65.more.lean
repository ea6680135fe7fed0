/-! MORE METHODS: status, go, personOf. -/
theorem inB_lo {x : Int32} {a n : Nat} (hn : n < 1000000) (ha : a < 1000000) : inB x (nI a) (nI n) ↔ ∃ j, a ≤ j ∧ j ≤ n ∧ x = nI j := by
  constructor
  · rintro ⟨h1, h2⟩
    have h0 : ¬ x < 0 := fun c => h1 (Int32.lt_iff_toInt_lt.mpr (by
      have := Int32.lt_iff_toInt_lt.mp c
      rw [nI_toInt (by omega)]
      have e : (0 : Int32).toInt = 0 := rfl
      omega))
    obtain ⟨j, hj, e⟩ := nI_of h0
    subst e
    exact ⟨j, Nat.not_lt.mp (fun c => h1 (nI_lt c (by omega))), Nat.not_lt.mp (fun c => h2 (nI_lt c hj)), rfl⟩
  · rintro ⟨j, hj1, hj, rfl⟩
    exact ⟨nI_nlt hj1 (by omega), nI_nlt hj (by omega)⟩
theorem inB_neg {x : Int32} {y : Int32} (hy : ¬ y < -1) : inB x (-1) y ↔ x = -1 ∨ inB x 0 y := by
  constructor
  · rintro ⟨h1, h2⟩
    by_cases c : x < 0
    · refine Or.inl (Int32.toInt_inj.mp ?_)
      have a1 := Int32.lt_iff_toInt_lt.mp c
      have a2 : ¬ x.toInt < (-1 : Int32).toInt := fun q => h1 (Int32.lt_iff_toInt_lt.mpr q)
      have e : (0 : Int32).toInt = 0 := rfl
      have e1 : (-1 : Int32).toInt = -1 := rfl
      omega
    · exact Or.inr ⟨c, h2⟩
  · rintro (rfl | ⟨h1, h2⟩)
    · exact ⟨by decide, hy⟩
    · refine ⟨fun c => h1 (Int32.lt_iff_toInt_lt.mpr ?_), h2⟩
      have a1 := Int32.lt_iff_toInt_lt.mp c
      have e : (0 : Int32).toInt = 0 := rfl
      have e1 : (-1 : Int32).toInt = -1 := rfl
      omega
theorem in_1 {x : Int32} (h : inB x 0 1) : x = 0 ∨ x = 1 := by
  obtain ⟨j, hj, rfl⟩ := (inB_nI (n := 1) (by omega)).mp h
  rcases (show j = 0 ∨ j = 1 by omega) with rfl | rfl
  · exact Or.inl rfl
  · exact Or.inr rfl
theorem in_2 {x : Int32} (h : inB x 0 2) : x = 0 ∨ x = 1 ∨ x = 2 := by
  obtain ⟨j, hj, rfl⟩ := (inB_nI (n := 2) (by omega)).mp h
  rcases (show j = 0 ∨ j = 1 ∨ j = 2 by omega) with rfl | rfl | rfl
  · exact Or.inl rfl
  · exact Or.inr (Or.inl rfl)
  · exact Or.inr (Or.inr rfl)
theorem in_8 {x : Int32} (h : inB x 0 8) : x = 0 ∨ x = 1 ∨ x = 2 ∨ x = 3 ∨ x = 4 ∨ x = 5 ∨ x = 6 ∨ x = 7 ∨ x = 8 := by
  obtain ⟨j, hj, rfl⟩ := (inB_nI (n := 8) (by omega)).mp h
  exact (by decide : ∀ j, j < 9 → nI j = 0 ∨ nI j = 1 ∨ nI j = 2 ∨ nI j = 3 ∨ nI j = 4 ∨ nI j = 5 ∨ nI j = 6 ∨ nI j = 7 ∨ nI j = 8) j (by omega)
theorem h_found (M : zM) : zIter (f_X5_status_l31 M) 1000 (0, 0) = some (sumR (M 38) 7, M) := by
  refine zIter_steps (fun k => (sumR (M 38) k, nI k)) 7 1000 _ (by omega) (fun k hk => ?_) ?_
  · rw [f_X5_status_l31, if_neg (show ¬ (7 : Int32) ≤ nI k from nI_ge (b := 7) hk (by decide)), rd (n := 7) rfl hk, Option.bind_some, nI_1]
    rfl
  · rw [f_X5_status_l31, if_pos (show (7 : Int32) ≤ nI 7 from nI_le (Nat.le_refl _) (by omega))]
theorem pe_status (x : Int32) : PE (f_X5_status x) (f_X6_status x) := by
  intro M D hD h
  obtain ⟨-, -, -, -, r5, r6, -, -⟩ := h.2.2
  by_cases hx : inB x (-1) 6
  · rcases (inB_neg (by decide)).mp hx with rfl | hj
    · refine pe_same h (M 51 0) ?_ ?_
      · unfold f_X5_status
        rw [f_within_eq, Option.bind_some, wi_t hx, if_neg (by decide), if_pos (by decide), h_found, r6]
      · unfold f_X6_status
        rw [m_within_eq, Option.bind_some, wi_t hx, if_neg (by decide), show ((-1 : Int32) + 1) = nI 0 from by decide, rd (n := 8) rfl (by omega)]; rfl
    · obtain ⟨j, hj, rfl⟩ := (inB_nI (n := 6) (by omega)).mp hj
      refine pe_same h (M 38 j) ?_ ?_
      · unfold f_X5_status
        rw [f_within_eq, Option.bind_some, wi_t hx, if_neg (by decide), if_neg (nI_pos (by omega)), rd (n := 7) rfl (by omega)]; rfl
      · unfold f_X6_status
        rw [m_within_eq, Option.bind_some, wi_t hx, if_neg (by decide), nI_1, rd (n := 8) rfl (by omega), r5 j (by omega)]; rfl
  · refine pe_find h 0 (by omega) ?_ (fun M1 hf => ?_)
    · unfold f_X5_status
      rw [f_within_eq, Option.bind_some, wi_f hx, if_pos rfl, bind_pair]; rfl
    · unfold f_X6_status
      rw [m_within_eq, Option.bind_some, wi_f hx, if_pos rfl, bind_pair]; rfl
theorem pe_go (x : Int32) : PE (f_X5_go x) (f_X6_go x) := by
  intro M D hD h
  by_cases hx : inB x 1 60
  · obtain ⟨j, hj1, hj, rfl⟩ := (inB_lo (a := 1) (n := 60) (by omega) (by omega)).mp hx
    have hA : okA (hrow M 1) D := by rw [← h.1]; exact h.2.1
    obtain ⟨d, hd, ed⟩ := hA.2.2.2.1
    have e10 : M 1 10 = nI d := ed
    obtain ⟨M1, e1, e2, e3⟩ := h_pass (M := M) (n := j) isH_1 hA (by omega) (by omega)
    have e48 : M1 48 = hrow M 1 := by rw [e3 48 (by omega), h.1]
    obtain ⟨M2, g1, g2, g3⟩ := m_days (M := M1) (n := j) (D := D) (by rw [e48]; exact hA) (by omega) (by omega)
    rw [e48] at g2
    have hle : nI (d + j) ≤ 99999 := nI_le (b := 99999) (by omega) (by omega)
    refine ⟨pursesA (daysA (hrow M 1) j), M1, M2, ?_, ?_, RR_mono (RR_house (M1 := M1) (E := D + j) h (fun a ha => e3 a (by omega)) ⟨fun a ha => g3 a (by omega) (by omega), ⟨by rw [g3 47 (by omega) (by omega)], by rw [g3 47 (by omega) (by omega)]⟩, fun i hi => by rw [g3 50 (by omega) (by omega), e3 50 (by omega)]; exact RR_50 h i hi⟩ e2 g2 (okA_days hA j (by omega)) (by omega)) (by omega)⟩
    · unfold f_X5_go
      rw [f_within_eq, Option.bind_some, wi_t hx, if_neg (by decide), e10, nI_add, if_pos hle, e1, Option.bind_some, h_purses isH_1, e2]; rfl
    · unfold f_X6_go
      have e0 : zrd M1 48 0 = some (nI d) := by
        rw [show (0 : Int32) = nI 0 from rfl, rd48 (by omega), e48]; exact congrArg some ed
      rw [m_within_eq, Option.bind_some, wi_t hx, if_neg (by decide), e0, Option.bind_some, nI_add, if_pos hle, g1, Option.bind_some, m_purses, g2]; rfl
  · refine pe_find h 0 (by omega) ?_ (fun M1 hf => ?_)
    · unfold f_X5_go
      rw [f_within_eq, Option.bind_some, wi_f hx, if_pos rfl, bind_pair]; rfl
    · unfold f_X6_go
      rw [m_within_eq, Option.bind_some, wi_f hx, if_pos rfl, bind_pair]; rfl
theorem h_placeOf {M : zM} {t o k : Nat} (h : isH t) (ho : o < 720) (hk : k < 6) (e9 : M t 9 = nI o) : ∃ M', f_X0_placeOf t (nI (st o k)) M = some (nI k, M') ∧ ∀ a, a ≠ t + 9 → M' a = M a := by
  have h9 := (shA h).2.2.2.2.2.2.2.2.1
  obtain ⟨M1, e1, e2, e3⟩ := h_lineUp (M := M) (o := o) h ho
  refine ⟨M1, ?_, e3⟩
  unfold f_X0_placeOf
  rw [e9, e1, Option.bind_some]
  refine zIter_steps (fun i => nI i) k 1000 _ (by omega) (fun i hi => ?_) ?_
  · have hne : ¬ nI (st o i) = nI (st o k) := fun c => by
      have h1 := st_lt ho (show i < 6 by omega)
      have h2 := st_lt ho hk
      have := st_inj o ho i (by omega) k hk ((nI_eq (by omega) (by omega)).mp c)
      omega
    rw [f_X0_placeOf_l10, if_neg (show ¬ (5 : Int32) ≤ nI i from nI_ge (b := 5) (by omega) (by decide)), rd h9 (by omega), Option.bind_some, e2 i (by omega), if_neg hne, nI_1]; rfl
  · rw [f_X0_placeOf_l10]
    by_cases h5 : 5 ≤ k
    · rw [if_pos (show (5 : Int32) ≤ nI k from nI_le h5 (by omega))]
    · rw [if_neg (show ¬ (5 : Int32) ≤ nI k from nI_ge (b := 5) (by omega) (by decide)), rd h9 (by omega), Option.bind_some, e2 k hk, if_pos rfl]
theorem m_placeOf {M : zM} {o k : Nat} (ho : o < 720) (hk : k < 6) (e3 : M 48 3 = nI o) : f_X6_placeOf (nI (st o k)) M = some (nI k) := by
  unfold f_X6_placeOf
  have ez : zrd M 48 3 = some (nI o) := by rw [← e3]; exact rd48 (j := 3) (by omega)
  refine zIter_steps (fun i => nI i) k 1000 _ (by omega) (fun i hi => ?_) ?_
  · have hne : ¬ nI (st o i) = nI (st o k) := fun c => by
      have h1 := st_lt ho (show i < 6 by omega)
      have h2 := st_lt ho hk
      have := st_inj o ho i (by omega) k hk ((nI_eq (by omega) (by omega)).mp c)
      omega
    rw [f_X6_placeOf_l2, ez, Option.bind_some, m_stands ho (by omega), Option.bind_some, if_neg hne, nI_1]; rfl
  · rw [f_X6_placeOf_l2, ez, Option.bind_some, m_stands ho hk, Option.bind_some, if_pos rfl]
theorem pe_personOf (x y : Int32) : PE (f_X5_personOf x y) (f_X6_personOf x y) := by
  intro M D hD h
  by_cases hx : inB x 0 5
  · obtain ⟨p, hp, rfl⟩ := (inB_nI (n := 5) (by omega)).mp hx
    by_cases hy : inB y 0 2
    · rcases in_2 hy with rfl | rfl | rfl
      · refine pe_same h (M 7 p) ?_ ?_
        · unfold f_X5_personOf
          rw [f_isPerson_eq, Option.bind_some, wi_t hx, if_neg (by decide), if_pos rfl, rd (n := 6) rfl (by omega)]; rfl
        · unfold f_X6_personOf
          rw [m_isPerson_eq, Option.bind_some, wi_t hx, if_neg (by decide), m_within_eq, Option.bind_some, wi_t hy, if_neg (by decide), if_pos rfl, show (55 : Int32) + nI p = nI (55 + p) from nI_add 55 p, rd48 (by omega), h.1, hrow_purse _ _ (by omega)]; rfl
      · refine pe_same h (M 8 p) ?_ ?_
        · unfold f_X5_personOf
          rw [f_isPerson_eq, Option.bind_some, wi_t hx, if_neg (by decide), if_neg (by decide), if_pos rfl, rd (n := 6) rfl (by omega)]; rfl
        · unfold f_X6_personOf
          rw [m_isPerson_eq, Option.bind_some, wi_t hx, if_neg (by decide), m_within_eq, Option.bind_some, wi_t hy, if_neg (by decide), if_neg (by decide), if_pos rfl, show (61 : Int32) + nI p = nI (61 + p) from nI_add 61 p, rd48 (by omega), h.1, hrow_wish _ _ (by omega)]; rfl
      · obtain ⟨ho, h3⟩ := okA_order h.2.1
        have e9 : M 1 9 = nI (orderN (M 48)) := by rw [← h3, h.1]; rfl
        generalize orderN (M 48) = o at ho h3 e9
        obtain ⟨k, hk, rfl⟩ := st_perm o ho p (by omega)
        obtain ⟨M1, e1, e2⟩ := h_placeOf isH_1 ho hk e9
        refine pe_scr h (r := nI k) (M1 := M1) ?_ (CS_line (fun a h1 _ => e2 a h1)) ⟨M1, ?_, MS_refl (fun j hj => by rw [e2 50 (by omega)]; exact RR_50 h j hj)⟩
        · unfold f_X5_personOf
          rw [f_isPerson_eq, Option.bind_some, wi_t hx, if_neg (by decide), if_neg (by decide), if_neg (by decide), if_pos rfl, e1]; rfl
        · unfold f_X6_personOf
          rw [m_isPerson_eq, Option.bind_some, wi_t hx, if_neg (by decide), m_within_eq, Option.bind_some, wi_t hy, if_neg (by decide), if_neg (by decide), if_neg (by decide), m_placeOf ho hk (by rw [e2 48 (by omega)]; exact h3)]; rfl
    · have n0 : ¬ y = 0 := fun c => hy (by subst c; exact ⟨by decide, by decide⟩)
      have n1 : ¬ y = 1 := fun c => hy (by subst c; exact ⟨by decide, by decide⟩)
      have n2 : ¬ y = 2 := fun c => hy (by subst c; exact ⟨by decide, by decide⟩)
      refine pe_find h 0 (by omega) ?_ (fun M1 hf => ?_)
      · unfold f_X5_personOf
        rw [f_isPerson_eq, Option.bind_some, wi_t hx, if_neg (by decide), if_neg n0, if_neg n1, if_neg n2, bind_pair]; rfl
      · unfold f_X6_personOf f_X6_personOf_j16
        rw [m_isPerson_eq, Option.bind_some, wi_t hx, if_neg (by decide), m_within_eq, Option.bind_some, wi_f hy, if_pos rfl, bind_pair]; rfl
  · refine pe_find h 0 (by omega) ?_ (fun M1 hf => ?_)
    · unfold f_X5_personOf
      rw [f_isPerson_eq, Option.bind_some, wi_f hx, if_pos rfl, bind_pair]; rfl
    · unfold f_X6_personOf f_X6_personOf_j16
      rw [m_isPerson_eq, Option.bind_some, wi_f hx, if_pos rfl, bind_pair]; rfl
