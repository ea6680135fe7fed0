/-! CHANGES. -/
theorem in_4 {x : Int32} (h : inB x 0 4) : x = 0 ∨ x = 1 ∨ x = 2 ∨ x = 3 ∨ x = 4 := by
  obtain ⟨j, hj, rfl⟩ := (inB_nI (n := 4) (by omega)).mp h
  exact (by decide : ∀ j, j < 5 → nI j = 0 ∨ nI j = 1 ∨ nI j = 2 ∨ nI j = 3 ∨ nI j = 4) j (by omega)
/-- a name or none -/
theorem f_isNameOrNone_eq {M : zM} (x : Int32) : f_X5_isNameOrNone x M = some (if x < -1 then 0 else if M 1 0 - 1 < x then 0 else 1) := by
  unfold f_X5_isNameOrNone
  rw [f_within_eq, Option.bind_some, zbo_if]; rfl
theorem last_ge : ∀ n, n ≤ 8 → ¬ nI n - 1 < -1 := fun n hn => (by decide : ∀ n, n < 9 → ¬ nI n - 1 < -1) n (by omega)
theorem none_or {A : Nat → Int32} (hn : okN A) (x : Int32) : inB x (-1) (A 1 - 1) ↔ x = -1 ∨ isNm A x := by
  unfold isNm
  exact inB_neg (by rw [hn.1]; exact last_ge _ hn.2)
theorem neg_nI {j : Nat} (hj : j < 2 ^ 31) : ¬ (-1 : Int32) = nI j := fun c => nI_pos hj (by rw [← c]; decide)
theorem pe_change (x y z : Int32) : PE (f_X5_change x y z) (f_X6_change x y z) := by
  intro M D hD h
  have eN := RR_names h
  have hA := h.2.1
  have hn := h.2.1.1
  by_cases hx : isNm (M 48) x
  · obtain ⟨i, hi, rfl⟩ := (isNm_iff hn).mp hx
    have hi8 : i < 8 := by have := hn.2; omega
    by_cases hy : inB y 0 4
    · rcases in_4 hy with rfl | rfl | rfl | rfl | rfl
      · by_cases hz : inB z 0 6
        · refine pe_set h (r := M (1 + 1 + 0) i) (v := z) (c := 1 + 1 + 0) (k := i) (idx := 15 + 5 * i + 0) ?_ (by omega) (hrow_uN M 1 z (by omega) hi8) (fun M1 hf => ?_) (okA_setN hA hi8 (by omega) (fun c => by exact (inB_nI (n := 6) (by omega)).mp hz) (fun c => by omega) (fun c => by omega) (fun c => by omega) (fun c => by omega))
          · unfold f_X5_change f_X5_changed
            rw [f_isName_eq, Option.bind_some, eN, wi_t hx, if_neg (by decide), if_pos rfl, f_within_eq, Option.bind_some, wi_t hz, if_neg (by decide), rd (n := 8) rfl hi8, Option.bind_some, wr (n := 8) rfl hi8]; rfl
          · have q : f_X6_mayBe (nI i) 0 z M1 = some 1 := by
              unfold f_X6_mayBe
              rw [if_pos rfl, m_isKind_eq, Option.bind_some, zbo_if, wi_t hz]; rfl
            have e5 : M1 48 (15 + 5 * i + 0) = M (1 + 1 + 0) i := by rw [hf 48 (by omega), h.1, hrow_name _ _ hi8 (by omega)]
            unfold f_X6_change
            rw [m_isName_eq, Option.bind_some, hf 48 (by omega), wi_t hx, if_neg (by decide), q, Option.bind_some, if_neg (by decide), show f_X6_place (nI i) 0 M1 = some (nI (15 + 5 * i + 0)) from m_place i 0 M1, Option.bind_some, m_become_eq (by omega), e5]; rfl
        · refine pe_find h 0 (by omega) ?_ (fun M1 hf => ?_)
          · unfold f_X5_change f_X5_changed
            rw [f_isName_eq, Option.bind_some, eN, wi_t hx, if_neg (by decide), if_pos rfl, f_within_eq, Option.bind_some, wi_f hz, if_pos rfl, bind_pair, bind_pair]; rfl
          · have q : f_X6_mayBe (nI i) 0 z M1 = some 0 := by
              unfold f_X6_mayBe
              rw [if_pos rfl, m_isKind_eq, Option.bind_some, zbo_if, wi_f hz]; rfl
            unfold f_X6_change f_X6_change_j31
            rw [m_isName_eq, Option.bind_some, hf 48 (by omega), wi_t hx, if_neg (by decide), q, Option.bind_some, if_pos rfl, bind_pair]; rfl
      · by_cases hz : inB z 0 99
        · refine pe_set h (r := M (1 + 1 + 1) i) (v := z) (c := 1 + 1 + 1) (k := i) (idx := 15 + 5 * i + 1) ?_ (by omega) (hrow_uN M 1 z (by omega) hi8) (fun M1 hf => ?_) (okA_setN hA hi8 (by omega) (fun c => by omega) (fun c => by exact (inB_nI (n := 99) (by omega)).mp hz) (fun c => by omega) (fun c => by omega) (fun c => by omega))
          · unfold f_X5_change f_X5_changed
            rw [f_isName_eq, Option.bind_some, eN, wi_t hx, if_neg (by decide), if_neg (by decide), if_pos rfl, f_within_eq, Option.bind_some, wi_t hz, if_neg (by decide), rd (n := 8) rfl hi8, Option.bind_some, wr (n := 8) rfl hi8]; rfl
          · have q : f_X6_mayBe (nI i) 1 z M1 = some 1 := by
              unfold f_X6_mayBe f_X6_mayBe_j41
              rw [if_neg (by decide), if_pos rfl, m_within_eq, Option.bind_some, zbo_if, wi_t hz]; rfl
            have e5 : M1 48 (15 + 5 * i + 1) = M (1 + 1 + 1) i := by rw [hf 48 (by omega), h.1, hrow_name _ _ hi8 (by omega)]
            unfold f_X6_change
            rw [m_isName_eq, Option.bind_some, hf 48 (by omega), wi_t hx, if_neg (by decide), q, Option.bind_some, if_neg (by decide), show f_X6_place (nI i) 1 M1 = some (nI (15 + 5 * i + 1)) from m_place i 1 M1, Option.bind_some, m_become_eq (by omega), e5]; rfl
        · refine pe_find h 0 (by omega) ?_ (fun M1 hf => ?_)
          · unfold f_X5_change f_X5_changed
            rw [f_isName_eq, Option.bind_some, eN, wi_t hx, if_neg (by decide), if_neg (by decide), if_pos rfl, f_within_eq, Option.bind_some, wi_f hz, if_pos rfl, bind_pair, bind_pair]; rfl
          · have q : f_X6_mayBe (nI i) 1 z M1 = some 0 := by
              unfold f_X6_mayBe f_X6_mayBe_j41
              rw [if_neg (by decide), if_pos rfl, m_within_eq, Option.bind_some, zbo_if, wi_f hz]; rfl
            unfold f_X6_change f_X6_change_j31
            rw [m_isName_eq, Option.bind_some, hf 48 (by omega), wi_t hx, if_neg (by decide), q, Option.bind_some, if_pos rfl, bind_pair]; rfl
      · by_cases hz : inB z 0 99
        · refine pe_set h (r := M (1 + 1 + 2) i) (v := z) (c := 1 + 1 + 2) (k := i) (idx := 15 + 5 * i + 2) ?_ (by omega) (hrow_uN M 1 z (by omega) hi8) (fun M1 hf => ?_) (okA_setN hA hi8 (by omega) (fun c => by omega) (fun c => by omega) (fun c => by exact (inB_nI (n := 99) (by omega)).mp hz) (fun c => by omega) (fun c => by omega))
          · unfold f_X5_change f_X5_changed
            rw [f_isName_eq, Option.bind_some, eN, wi_t hx, if_neg (by decide), if_neg (by decide), if_neg (by decide), if_pos rfl, f_within_eq, Option.bind_some, wi_t hz, if_neg (by decide), rd (n := 8) rfl hi8, Option.bind_some, wr (n := 8) rfl hi8]; rfl
          · have q : f_X6_mayBe (nI i) 2 z M1 = some 1 := by
              unfold f_X6_mayBe f_X6_mayBe_j41
              rw [if_neg (by decide), if_neg (by decide), if_pos rfl, m_within_eq, Option.bind_some, zbo_if, wi_t hz]; rfl
            have e5 : M1 48 (15 + 5 * i + 2) = M (1 + 1 + 2) i := by rw [hf 48 (by omega), h.1, hrow_name _ _ hi8 (by omega)]
            unfold f_X6_change
            rw [m_isName_eq, Option.bind_some, hf 48 (by omega), wi_t hx, if_neg (by decide), q, Option.bind_some, if_neg (by decide), show f_X6_place (nI i) 2 M1 = some (nI (15 + 5 * i + 2)) from m_place i 2 M1, Option.bind_some, m_become_eq (by omega), e5]; rfl
        · refine pe_find h 0 (by omega) ?_ (fun M1 hf => ?_)
          · unfold f_X5_change f_X5_changed
            rw [f_isName_eq, Option.bind_some, eN, wi_t hx, if_neg (by decide), if_neg (by decide), if_neg (by decide), if_pos rfl, f_within_eq, Option.bind_some, wi_f hz, if_pos rfl, bind_pair, bind_pair]; rfl
          · have q : f_X6_mayBe (nI i) 2 z M1 = some 0 := by
              unfold f_X6_mayBe f_X6_mayBe_j41
              rw [if_neg (by decide), if_neg (by decide), if_pos rfl, m_within_eq, Option.bind_some, zbo_if, wi_f hz]; rfl
            unfold f_X6_change f_X6_change_j31
            rw [m_isName_eq, Option.bind_some, hf 48 (by omega), wi_t hx, if_neg (by decide), q, Option.bind_some, if_pos rfl, bind_pair]; rfl
      · by_cases hz : inB z 0 99999
        · refine pe_set h (r := M (1 + 1 + 3) i) (v := z) (c := 1 + 1 + 3) (k := i) (idx := 15 + 5 * i + 3) ?_ (by omega) (hrow_uN M 1 z (by omega) hi8) (fun M1 hf => ?_) (okA_setN hA hi8 (by omega) (fun c => by omega) (fun c => by omega) (fun c => by omega) (fun c => by exact (inB_nI (n := 99999) (by omega)).mp hz) (fun c => by omega))
          · unfold f_X5_change f_X5_changed
            rw [f_isName_eq, Option.bind_some, eN, wi_t hx, if_neg (by decide), if_neg (by decide), if_neg (by decide), if_neg (by decide), if_pos rfl, f_within_eq, Option.bind_some, wi_t hz, if_neg (by decide), rd (n := 8) rfl hi8, Option.bind_some, wr (n := 8) rfl hi8]; rfl
          · have q : f_X6_mayBe (nI i) 3 z M1 = some 1 := by
              unfold f_X6_mayBe
              rw [if_neg (by decide), if_neg (by decide), if_neg (by decide), if_pos rfl, m_within_eq, Option.bind_some, zbo_if, wi_t hz]; rfl
            have e5 : M1 48 (15 + 5 * i + 3) = M (1 + 1 + 3) i := by rw [hf 48 (by omega), h.1, hrow_name _ _ hi8 (by omega)]
            unfold f_X6_change
            rw [m_isName_eq, Option.bind_some, hf 48 (by omega), wi_t hx, if_neg (by decide), q, Option.bind_some, if_neg (by decide), show f_X6_place (nI i) 3 M1 = some (nI (15 + 5 * i + 3)) from m_place i 3 M1, Option.bind_some, m_become_eq (by omega), e5]; rfl
        · refine pe_find h 0 (by omega) ?_ (fun M1 hf => ?_)
          · unfold f_X5_change f_X5_changed
            rw [f_isName_eq, Option.bind_some, eN, wi_t hx, if_neg (by decide), if_neg (by decide), if_neg (by decide), if_neg (by decide), if_pos rfl, f_within_eq, Option.bind_some, wi_f hz, if_pos rfl, bind_pair, bind_pair]; rfl
          · have q : f_X6_mayBe (nI i) 3 z M1 = some 0 := by
              unfold f_X6_mayBe
              rw [if_neg (by decide), if_neg (by decide), if_neg (by decide), if_pos rfl, m_within_eq, Option.bind_some, zbo_if, wi_f hz]; rfl
            unfold f_X6_change f_X6_change_j31
            rw [m_isName_eq, Option.bind_some, hf 48 (by omega), wi_t hx, if_neg (by decide), q, Option.bind_some, if_pos rfl, bind_pair]; rfl
      · by_cases hz : (z = -1 ∨ isNm (M 48) z) ∧ ¬ z = nI i
        · have hq : inB z (-1) (M 48 1 - 1) := (none_or hn z).mpr hz.1
          refine pe_set h (r := M (1 + 1 + 4) i) (v := z) (c := 1 + 1 + 4) (k := i) (idx := 15 + 5 * i + 4) ?_ (by omega) (hrow_uN M 1 z (by omega) hi8) (fun M1 hf => ?_) (okA_setN hA hi8 (by omega) (fun c => by omega) (fun c => by omega) (fun c => by omega) (fun c => by omega) (fun _ _ => ?_))
          · unfold f_X5_change f_X5_change_j160 f_X5_changed
            rw [f_isName_eq, Option.bind_some, eN, wi_t hx, if_neg (by decide), if_neg (by decide), if_neg (by decide), if_neg (by decide), if_neg (by decide), if_pos rfl, f_isNameOrNone_eq, Option.bind_some, eN, wi_t hq, if_neg (by decide), if_neg hz.2, if_neg (by decide), rd (n := 8) rfl hi8, Option.bind_some, wr (n := 8) rfl hi8]; rfl
          · have q : f_X6_mayBe (nI i) 4 z M1 = some 1 := by
              unfold f_X6_mayBe
              rw [if_neg (by decide), if_neg (by decide), if_neg (by decide), if_neg (by decide), if_pos rfl]
              by_cases c : z = -1
              · rw [if_pos c]
              · have hzn : isNm (M 48) z := hz.1.resolve_left c
                rw [if_neg c, m_isName_eq, Option.bind_some, hf 48 (by omega), wi_t hzn, if_neg (by decide), if_neg hz.2]
            have e5 : M1 48 (15 + 5 * i + 4) = M (1 + 1 + 4) i := by rw [hf 48 (by omega), h.1, hrow_name _ _ hi8 (by omega)]
            unfold f_X6_change
            rw [m_isName_eq, Option.bind_some, hf 48 (by omega), wi_t hx, if_neg (by decide), q, Option.bind_some, if_neg (by decide), show f_X6_place (nI i) 4 M1 = some (nI (15 + 5 * i + 4)) from m_place i 4 M1, Option.bind_some, m_become_eq (by omega), e5]; rfl
          · rcases hz.1 with c | c
            · exact Or.inl c
            · obtain ⟨g, g1, g2⟩ := (isNm_iff hn).mp c
              exact Or.inr ⟨g, g1, fun e => hz.2 (by rw [g2, e]), g2⟩
        · refine pe_find h 0 (by omega) ?_ (fun M1 hf => ?_)
          · unfold f_X5_change f_X5_change_j159 f_X5_change_j160 f_X5_changed
            rw [f_isName_eq, Option.bind_some, eN, wi_t hx, if_neg (by decide), if_neg (by decide), if_neg (by decide), if_neg (by decide), if_neg (by decide), if_pos rfl, f_isNameOrNone_eq, Option.bind_some, eN]
            by_cases c : inB z (-1) (M 48 1 - 1)
            · have hzi : z = nI i := Classical.byContradiction (fun q => hz ⟨(none_or hn z).mp c, q⟩)
              rw [wi_t c, if_neg (show ¬ (1 : Int32) = 0 by decide), if_pos hzi, if_pos rfl, bind_pair, bind_pair]; rfl
            · rw [wi_f c, if_pos rfl, if_pos rfl, bind_pair, bind_pair]; rfl
          · have q : f_X6_mayBe (nI i) 4 z M1 = some 0 := by
              unfold f_X6_mayBe
              rw [if_neg (by decide), if_neg (by decide), if_neg (by decide), if_neg (by decide), if_pos rfl]
              have c : ¬ z = -1 := fun c => hz ⟨Or.inl c, fun e => neg_nI (j := i) (by omega) (by rw [← e, c])⟩
              rw [if_neg c, m_isName_eq, Option.bind_some, hf 48 (by omega)]
              by_cases d : isNm (M 48) z
              · have hzi : z = nI i := Classical.byContradiction (fun q => hz ⟨Or.inr d, q⟩)
                rw [wi_t d, if_neg (by decide), if_pos hzi]
              · rw [wi_f d, if_pos rfl]
            unfold f_X6_change f_X6_change_j31
            rw [m_isName_eq, Option.bind_some, hf 48 (by omega), wi_t hx, if_neg (by decide), q, Option.bind_some, if_pos rfl, bind_pair]; rfl
    · have nn' : ∀ v : Int32, inB v 0 4 → ¬ y = v := fun v hv c => hy (by rw [c]; exact hv)
      have d0 := nn' 0 ⟨by decide, by decide⟩
      have d1 := nn' 1 ⟨by decide, by decide⟩
      have d2 := nn' 2 ⟨by decide, by decide⟩
      have d3 := nn' 3 ⟨by decide, by decide⟩
      have d4 := nn' 4 ⟨by decide, by decide⟩
      refine pe_find h 0 (by omega) ?_ (fun M1 hf => ?_)
      · unfold f_X5_change
        rw [f_isName_eq, Option.bind_some, eN, wi_t hx, if_neg (by decide), if_neg d0, if_neg d1, if_neg d2, if_neg d3, if_neg d4, bind_pair]; rfl
      · unfold f_X6_change f_X6_change_j31 f_X6_mayBe
        rw [m_isName_eq, Option.bind_some, hf 48 (by omega), wi_t hx, if_neg (by decide), if_neg d0, if_neg d1, if_neg d2, if_neg d3, if_neg d4, Option.bind_some, if_pos rfl, bind_pair]; rfl
  · refine pe_find h 0 (by omega) ?_ (fun M1 hf => ?_)
    · unfold f_X5_change
      rw [f_isName_eq, Option.bind_some, eN, wi_f hx, if_pos rfl, bind_pair]; rfl
    · unfold f_X6_change f_X6_change_j31
      rw [m_isName_eq, Option.bind_some, hf 48 (by omega), wi_f hx, if_pos rfl, bind_pair]; rfl
/-- the reference's person, once the third is judged -/
theorem m_person0 (x y z s : Int32) (M : zM) (h : ¬ inB x 0 5 ∨ s = 0) : f_X6_person_j34 x y z s M = f_X6_finding (-1000001) M := by
  unfold f_X6_person_j34 f_X6_person_j69
  rw [m_isPerson_eq, Option.bind_some]
  by_cases hx : inB x 0 5
  · rcases h with h | h
    · exact absurd hx h
    · rw [wi_t hx, if_neg (by decide), if_pos h, bind_pair]
  · rw [wi_f hx, if_pos rfl, bind_pair]
theorem m_person1 {p : Nat} (hp : p < 6) (y z : Int32) (M : zM) : f_X6_person_j34 (nI p) y z 1 M = if y = 0 then some (M 48 (55 + p), zU M 48 (55 + p) z) else some (M 48 (61 + p), zU M 48 (61 + p) z) := by
  have hx : inB (nI p) 0 5 := (inB_nI (n := 5) (by omega)).mpr ⟨p, by omega, rfl⟩
  unfold f_X6_person_j34 f_X6_person_j60
  rw [m_isPerson_eq, Option.bind_some, wi_t hx, if_neg (by decide), if_neg (by decide), show (55 : Int32) + nI p = nI (55 + p) from nI_add 55 p, show (61 : Int32) + nI p = nI (61 + p) from nI_add 61 p, m_become_eq (by omega), m_become_eq (by omega)]
  rfl
/-- how the third is judged -/
def thirdOk (A : Nat → Int32) (y z : Int32) : Prop := (y = 0 ∧ inB z 0 9999) ∨ (y = 1 ∧ (z = -1 ∨ isNm A z))
theorem m_personJ {M : zM} (x y z : Int32) : ∃ s, f_X6_person x y z M = f_X6_person_j34 x y z s M ∧ (s = 1 ∧ thirdOk (M 48) y z ∨ s = 0 ∧ ¬ thirdOk (M 48) y z) := by
  unfold f_X6_person f_X6_person_j29 f_X6_person_j33 f_X6_isPurse thirdOk
  by_cases y0 : y = 0
  · rw [if_pos y0, m_within_eq, Option.bind_some, zbo_if, Option.bind_some, Option.bind_some]
    by_cases hz : inB z 0 9999
    · exact ⟨1, by rw [wi_t hz], Or.inl ⟨rfl, Or.inl ⟨y0, hz⟩⟩⟩
    · refine ⟨0, by rw [wi_f hz], Or.inr ⟨rfl, ?_⟩⟩
      rintro (⟨-, c⟩ | ⟨c, -⟩)
      · exact hz c
      · rw [y0] at c; exact absurd c (by decide)
  · rw [if_neg y0]
    by_cases y1 : y = 1
    · rw [if_pos y1]
      by_cases z1 : z = -1
      · rw [if_pos z1]; exact ⟨1, rfl, Or.inl ⟨rfl, Or.inr ⟨y1, Or.inl z1⟩⟩⟩
      · rw [if_neg z1, m_isName_eq, Option.bind_some]
        by_cases hz : isNm (M 48) z
        · rw [wi_t hz, if_neg (by decide)]; exact ⟨1, rfl, Or.inl ⟨rfl, Or.inr ⟨y1, Or.inr hz⟩⟩⟩
        · rw [wi_f hz, if_pos rfl]
          refine ⟨0, rfl, Or.inr ⟨rfl, ?_⟩⟩
          rintro (⟨c, -⟩ | ⟨-, c | c⟩)
          · exact y0 c
          · exact z1 c
          · exact hz c
    · rw [if_neg y1]
      refine ⟨0, rfl, Or.inr ⟨rfl, ?_⟩⟩
      rintro (⟨c, -⟩ | ⟨c, -⟩)
      · exact y0 c
      · exact y1 c
theorem pe_person (x y z : Int32) : PE (f_X5_person x y z) (f_X6_person x y z) := by
  intro M D hD h
  have eN := RR_names h
  have hA := h.2.1
  have hn := h.2.1.1
  have bad : ∀ M1 : zM, M1 48 = M 48 → (¬ inB x 0 5 ∨ ¬ thirdOk (M 48) y z) → f_X6_person x y z M1 = f_X6_finding (-1000001) M1 := by
    intro M1 e hb
    obtain ⟨s, s1, s2⟩ := m_personJ (M := M1) x y z
    rw [s1]
    rw [e] at s2
    refine m_person0 x y z s M1 ?_
    rcases hb with hb | hb
    · exact Or.inl hb
    · rcases s2 with s2 | s2
      · exact absurd s2.2 hb
      · exact Or.inr s2.1
  by_cases hx : inB x 0 5
  · obtain ⟨p, hp, rfl⟩ := (inB_nI (n := 5) (by omega)).mp hx
    have good : ∀ M1 : zM, M1 48 = M 48 → thirdOk (M 48) y z → f_X6_person (nI p) y z M1 = if y = 0 then some (M1 48 (55 + p), zU M1 48 (55 + p) z) else some (M1 48 (61 + p), zU M1 48 (61 + p) z) := by
      intro M1 e hb
      obtain ⟨s, s1, s2⟩ := m_personJ (M := M1) (nI p) y z
      rw [e] at s2
      rcases s2 with s2 | s2
      · rw [s1, s2.1, m_person1 (by omega)]
      · exact absurd hb s2.2
    by_cases y0 : y = 0
    · by_cases hz : inB z 0 9999
      · have t : thirdOk (M 48) y z := Or.inl ⟨y0, hz⟩
        refine pe_set h (r := M (1 + 6) p) (v := z) (c := 1 + 6) (k := p) (idx := 55 + p) ?_ (by omega) (hrow_uP M 1 z (by omega)) (fun M1 hf => ?_) (okA_setP hA (by omega) ((inB_nI (n := 9999) (by omega)).mp hz))
        · unfold f_X5_person f_X5_changed
          rw [f_isPerson_eq, Option.bind_some, wi_t hx, if_neg (by decide), if_pos y0, f_within_eq, Option.bind_some, wi_t hz, if_neg (by decide), rd (n := 6) rfl (by omega), Option.bind_some, wr (n := 6) rfl (by omega)]; rfl
        · rw [good M1 (hf 48 (by omega)) t, if_pos y0, hf 48 (by omega), h.1, hrow_purse _ _ (by omega)]
      · have t : ¬ thirdOk (M 48) y z := by
          rintro (⟨-, c⟩ | ⟨c, -⟩)
          · exact hz c
          · rw [y0] at c; exact absurd c (by decide)
        refine pe_find h 0 (by omega) ?_ (fun M1 hf => (bad M1 (hf 48 (by omega)) (Or.inr t)).trans rfl)
        unfold f_X5_person f_X5_changed
        rw [f_isPerson_eq, Option.bind_some, wi_t hx, if_neg (by decide), if_pos y0, f_within_eq, Option.bind_some, wi_f hz, if_pos rfl, bind_pair, bind_pair]; rfl
    · by_cases y1 : y = 1
      · by_cases hz : z = -1 ∨ isNm (M 48) z
        · have t : thirdOk (M 48) y z := Or.inr ⟨y1, hz⟩
          have hq : inB z (-1) (M 48 1 - 1) := (none_or hn z).mpr hz
          refine pe_set h (r := M (1 + 7) p) (v := z) (c := 1 + 7) (k := p) (idx := 61 + p) ?_ (by omega) (hrow_uW M 1 z (by omega)) (fun M1 hf => ?_) (okA_setW hA (by omega) (hz.imp id (fun c => (isNm_iff hn).mp c)))
          · unfold f_X5_person f_X5_changed
            rw [f_isPerson_eq, Option.bind_some, wi_t hx, if_neg (by decide), if_neg y0, if_pos y1, f_isNameOrNone_eq, Option.bind_some, eN, if_neg hq.1, if_neg hq.2, if_neg (by decide), rd (n := 6) rfl (by omega), Option.bind_some, wr (n := 6) rfl (by omega)]; rfl
          · rw [good M1 (hf 48 (by omega)) t, if_neg y0, hf 48 (by omega), h.1, hrow_wish _ _ (by omega)]
        · have t : ¬ thirdOk (M 48) y z := by
            rintro (⟨c, -⟩ | ⟨-, c⟩)
            · exact y0 c
            · exact hz c
          have hq : ¬ inB z (-1) (M 48 1 - 1) := fun c => hz ((none_or hn z).mp c)
          have ew : (if z < -1 then (0 : Int32) else if M 48 1 - 1 < z then 0 else 1) = 0 := by
            by_cases c1 : z < -1
            · rw [if_pos c1]
            · rw [if_neg c1, if_pos (Classical.byContradiction (fun q => hq ⟨c1, q⟩))]
          refine pe_find h 0 (by omega) ?_ (fun M1 hf => (bad M1 (hf 48 (by omega)) (Or.inr t)).trans rfl)
          unfold f_X5_person f_X5_changed
          rw [f_isPerson_eq, Option.bind_some, wi_t hx, if_neg (by decide), if_neg y0, if_pos y1, f_isNameOrNone_eq, Option.bind_some, eN, ew, if_pos rfl, bind_pair, bind_pair]; rfl
      · have t : ¬ thirdOk (M 48) y z := by
          rintro (⟨c, -⟩ | ⟨c, -⟩)
          · exact y0 c
          · exact y1 c
        refine pe_find h 0 (by omega) ?_ (fun M1 hf => (bad M1 (hf 48 (by omega)) (Or.inr t)).trans rfl)
        unfold f_X5_person
        rw [f_isPerson_eq, Option.bind_some, wi_t hx, if_neg (by decide), if_neg y0, if_neg y1, bind_pair]; rfl
  · refine pe_find h 0 (by omega) ?_ (fun M1 hf => (bad M1 (hf 48 (by omega)) (Or.inl hx)).trans rfl)
    unfold f_X5_person
    rw [f_isPerson_eq, Option.bind_some, wi_f hx, if_pos rfl, bind_pair]; rfl
