/-! WHAT WILL BE: trials of days. -/
/-- the reference's own scratch alone -/
def MS (M M2 : zM) : Prop := (∀ a, a ≠ 48 → a ≠ 50 → a ≠ 52 → M2 a = M a) ∧ M2 48 = M 48 ∧ ∀ j, 67 ≤ j → M2 50 j = 0
/-- the class's scratch alone -/
def CS (M M1 : zM) : Prop := ∀ a, (a ≤ 9 ∨ (12 ≤ a ∧ a ≤ 20) ∨ a = 34 ∨ a = 35 ∨ 38 ≤ a) → M1 a = M a
theorem CS_refl (M : zM) : CS M M := fun _ _ => rfl
theorem CS_trans {M N O : zM} (h : CS M N) (h2 : CS N O) : CS M O := fun a ha => (h2 a ha).trans (h a ha)
theorem CS_trial {M M1 : zM} (h : ∀ a, (a < 23 ∨ 33 < a) → M1 a = M a) : CS M M1 := fun a ha => h a (by omega)
theorem CS_line {M M1 : zM} (h : ∀ a, a ≠ 10 → a ≠ 11 → M1 a = M a) : CS M M1 := fun a ha => h a (by omega) (by omega)
theorem CS_hrow {M M1 : zM} (h : CS M M1) : hrow M1 1 = hrow M 1 := hrow_off (fun a h1 h2 => h a (by omega))
theorem MS_trans {M N O : zM} (h : MS M N) (h2 : MS N O) : MS M O := ⟨fun a h1 h3 h4 => (h2.1 a h1 h3 h4).trans (h.1 a h1 h3 h4), h2.2.1.trans h.2.1, h2.2.2⟩
theorem MS_refl {M : zM} (h : ∀ j, 67 ≤ j → M 50 j = 0) : MS M M := ⟨fun _ _ _ _ => rfl, rfl, h⟩
theorem RR_CS {M M1 : zM} {D : Nat} (h : RR M D) (hc : CS M M1) : RR M1 D := by
  refine RR_congr (M := M) (fun a ha => hc a ?_) ⟨by rw [hc 47 (by omega)], by rw [hc 47 (by omega)]⟩ (fun j hj => by rw [hc 50 (by omega)]; exact RR_50 h j hj) h
  unfold RSc at ha; omega
theorem RR_MS {M M1 : zM} {D : Nat} (h : RR M D) (hc : MS M M1) : RR M1 D := by
  refine RR_congr (M := M) (fun a ha => ?_) ⟨by rw [hc.1 47 (by omega) (by omega) (by omega)], by rw [hc.1 47 (by omega) (by omega) (by omega)]⟩ hc.2.2 h
  by_cases e : a = 48
  · subst e; exact hc.2.1
  · unfold RSc at ha; exact hc.1 a e (by omega) (by omega)
/-- the reference puts back what was thought -/
theorem m_back {M N : zM} (hN : N 50 = M 48) (hz : ∀ j, 67 ≤ j → M 48 j = 0) (hz2 : ∀ j, 67 ≤ j → N 48 j = 0) (hf : ∀ a, a ≠ 48 → a ≠ 50 → a ≠ 52 → N a = M a) (x : Int32) : ∃ M2, f_X6_putBack x N = some (x, M2) ∧ MS M M2 ∧ M2 52 = N 52 := by
  obtain ⟨M2, e1, e2, e3⟩ := m_copyRow (M := N) (a := 50) (b := 48) (Or.inr (Or.inr rfl)) (Or.inl rfl) (by omega) (fun j hj => by rw [hN]; exact hz j hj) hz2
  unfold f_X6_putBack
  rw [e1]
  exact ⟨M2, rfl, ⟨fun a h1 h2 h3 => (e3 a h1).trans (hf a h1 h2 h3), by rw [e2, hN], fun j hj => by rw [e3 50 (by omega), hN]; exact hz j hj⟩, e3 52 (by omega)⟩
theorem m_aside {M : zM} (hz : ∀ j, 67 ≤ j → M 48 j = 0) (hz2 : ∀ j, 67 ≤ j → M 50 j = 0) : ∃ N, f_X6_copyRow 48 50 M = some N ∧ N 50 = M 48 ∧ ∀ a, a ≠ 50 → N a = M a := m_copyRow (Or.inl rfl) (Or.inr (Or.inr rfl)) (by omega) hz hz2
theorem m_behind {M : zM} {D n i : Nat} (hA : okA (M 48) D) (hD : D ≤ 40000) (hn : n ≤ 200) (hi : i < 67) (hz2 : ∀ j, 67 ≤ j → M 50 j = 0) : ∃ M2, f_X6_behind (nI i) (nI n) M = some (daysA (M 48) n i, M2) ∧ MS M M2 := by
  have hz : ∀ j, 67 ≤ j → M 48 j = 0 := hA.2.2.2.2.2.2.2.2.2
  obtain ⟨N, e1, e2, e3⟩ := m_aside hz hz2
  have e48 : N 48 = M 48 := e3 48 (by omega)
  obtain ⟨N2, f1, f2, f3⟩ := m_days (M := N) (n := n) (D := D) (by rw [e48]; exact hA) hn (by omega)
  rw [e48] at f2
  have hd := okA_days hA n (by omega)
  obtain ⟨M2, g1, g2, -⟩ := m_back (M := M) (N := N2) (by rw [f3 50 (by omega) (by omega)]; exact e2) hz (by rw [f2]; exact hd.2.2.2.2.2.2.2.2.2) (fun a h1 h2 h3 => (f3 a h1 h3).trans (e3 a h2)) (daysA (M 48) n i)
  unfold f_X6_behind
  rw [e1, Option.bind_some, f1, Option.bind_some, rd48 hi, Option.bind_some, f2, g1]
  exact ⟨M2, rfl, g2⟩
theorem h_trial {M : zM} {D n : Nat} (hA : okA (hrow M 1) D) (hD : D ≤ 40000) (hn : n ≤ 200) : ∃ M1 M2, f_X0_become 23 1 M = some M1 ∧ f_X0_pass 23 (nI n) M1 = some M2 ∧ hrow M2 23 = daysA (hrow M 1) n ∧ CS M M2 := by
  obtain ⟨M1, e1, e2, e3⟩ := h_become (M := M) isH_23 isH_1 (by omega)
  obtain ⟨M2, f1, f2, f3⟩ := h_pass (M := M1) (n := n) (D := D) isH_23 (by rw [e2]; exact hA) hn (by omega)
  exact ⟨M1, M2, e1, f1, by rw [f2, e2], CS_trial (fun a ha => (f3 a (by omega)).trans (e3 a (by omega)))⟩
section PEs
variable {f g : zM → Option (Int32 × zM)} {M : zM} {D : Nat}
/-- both answer alike, and touch their scratch alone -/
theorem pe_scr (h : RR M D) {r : Int32} {M1 : zM} (hf : f M = some (r, M1)) (hc : CS M M1) (hg : ∃ M2, g M1 = some (r, M2) ∧ MS M1 M2) : ∃ r M1 M2, f M = some (r, M1) ∧ g M1 = some (r, M2) ∧ RR M2 (D + 60) := by
  obtain ⟨M2, h1, h2⟩ := hg
  exact ⟨r, M1, M2, hf, h1, RR_mono (RR_MS (RR_CS h hc) h2) (by omega)⟩
end PEs
theorem pe_ahead (x n : Int32) : PE (f_X5_ahead x n) (f_X6_ahead x n) := by
  intro M D hD h
  by_cases hx : inB x 0 5
  · by_cases hn : inB n 0 100
    · obtain ⟨p, hp, rfl⟩ := (inB_nI (n := 5) (by omega)).mp hx
      obtain ⟨k, hk, rfl⟩ := (inB_nI (n := 100) (by omega)).mp hn
      have hA : okA (hrow M 1) D := by rw [← h.1]; exact h.2.1
      obtain ⟨M1, M2, e1, e2, e3, e4⟩ := h_trial hA hD (n := k) (by omega)
      refine pe_scr h (r := daysA (hrow M 1) k (55 + p)) (M1 := M2) ?_ e4 ?_
      · unfold f_X5_ahead
        rw [f_isPerson_eq, Option.bind_some, wi_t hx, if_neg (by decide), f_within_eq, Option.bind_some, wi_t hn, if_neg (by decide), e1, Option.bind_some, e2, Option.bind_some, rd (n := 6) rfl (by omega), Option.bind_some, ← e3, hrow_purse _ _ (by omega)]
      · have e48 : M2 48 = hrow M 1 := by rw [e4 48 (by omega), h.1]
        obtain ⟨M3, g1, g2⟩ := m_behind (M := M2) (i := 55 + p) (n := k) (D := D) (by rw [e48]; exact hA) hD (by omega) (by omega) (fun j hj => by rw [e4 50 (by omega)]; exact RR_50 h j hj)
        refine ⟨M3, ?_, g2⟩
        unfold f_X6_ahead
        rw [m_isPerson_eq, Option.bind_some, wi_t hx, if_neg (by decide), m_within_eq, Option.bind_some, wi_t hn, if_neg (by decide), show (55 : Int32) + nI p = nI (55 + p) from nI_add 55 p, g1, e48]
        rfl
    · refine pe_find h 0 (by omega) ?_ (fun M1 hf => ?_)
      · unfold f_X5_ahead f_X5_ahead_j17
        rw [f_isPerson_eq, Option.bind_some, wi_t hx, if_neg (by decide), f_within_eq, Option.bind_some, wi_f hn, if_pos rfl, bind_pair]; rfl
      · unfold f_X6_ahead f_X6_ahead_j29
        rw [m_isPerson_eq, Option.bind_some, wi_t hx, if_neg (by decide), m_within_eq, Option.bind_some, wi_f hn, if_pos rfl, bind_pair]; rfl
  · refine pe_find h 0 (by omega) ?_ (fun M1 hf => ?_)
    · unfold f_X5_ahead f_X5_ahead_j17
      rw [f_isPerson_eq, Option.bind_some, wi_f hx, if_pos rfl, bind_pair]; rfl
    · unfold f_X6_ahead f_X6_ahead_j29
      rw [m_isPerson_eq, Option.bind_some, wi_f hx, if_pos rfl, bind_pair]; rfl
/-- a name that there is -/
def isNm (A : Nat → Int32) (x : Int32) : Prop := inB x 0 (A 1 - 1)
theorem isNm_iff {A : Nat → Int32} (hn : okN A) {x : Int32} : isNm A x ↔ ∃ j, j < nn A ∧ x = nI j := by
  unfold isNm
  rw [hn.1]
  exact inB_last hn.2
theorem RR_names {M : zM} {D : Nat} (h : RR M D) : M 1 0 = M 48 1 := by rw [h.1]; rfl
theorem pe_owes (x n : Int32) : PE (f_X5_owes x n) (f_X6_owes x n) := by
  intro M D hD h
  have eN := RR_names h
  by_cases hx : isNm (M 48) x
  · by_cases hn : inB n 0 100
    · obtain ⟨i, hi, rfl⟩ := (isNm_iff h.2.1.1).mp hx
      have hi8 : i < 8 := by have := h.2.1.1.2; omega
      obtain ⟨k, hk, rfl⟩ := (inB_nI (n := 100) (by omega)).mp hn
      have hA : okA (hrow M 1) D := by rw [← h.1]; exact h.2.1
      obtain ⟨M1, M2, e1, e2, e3, e4⟩ := h_trial hA hD (n := k) (by omega)
      refine pe_scr h (r := daysA (hrow M 1) k (15 + 5 * i + 3)) (M1 := M2) ?_ e4 ?_
      · unfold f_X5_owes
        rw [f_isName_eq, Option.bind_some, eN, wi_t hx, if_neg (by decide), f_within_eq, Option.bind_some, wi_t hn, if_neg (by decide), e1, Option.bind_some, e2, Option.bind_some, rd (n := 8) rfl hi8, Option.bind_some, ← e3, hrow_name M2 23 hi8 (show 3 < 5 by omega)]
      · have e48 : M2 48 = hrow M 1 := by rw [e4 48 (by omega), h.1]
        obtain ⟨M3, g1, g2⟩ := m_behind (M := M2) (i := 15 + 5 * i + 3) (n := k) (D := D) (by rw [e48]; exact hA) hD (by omega) (by omega) (fun j hj => by rw [e4 50 (by omega)]; exact RR_50 h j hj)
        refine ⟨M3, ?_, g2⟩
        have e5 : M2 48 1 = M 48 1 := by rw [e48, h.1]
        unfold f_X6_owes
        rw [m_isName_eq, Option.bind_some, e5, wi_t hx, if_neg (by decide), m_within_eq, Option.bind_some, wi_t hn, if_neg (by decide), show f_X6_place (nI i) 3 M2 = some (nI (15 + 5 * i + 3)) from m_place i 3 M2, Option.bind_some, g1, e48]
        rfl
    · refine pe_find h 0 (by omega) ?_ (fun M1 hf => ?_)
      · unfold f_X5_owes f_X5_owes_j18
        rw [f_isName_eq, Option.bind_some, eN, wi_t hx, if_neg (by decide), f_within_eq, Option.bind_some, wi_f hn, if_pos rfl, bind_pair]; rfl
      · unfold f_X6_owes f_X6_owes_j31
        rw [m_isName_eq, Option.bind_some, hf 48 (by omega), wi_t hx, if_neg (by decide), m_within_eq, Option.bind_some, wi_f hn, if_pos rfl, bind_pair]; rfl
  · refine pe_find h 0 (by omega) ?_ (fun M1 hf => ?_)
    · unfold f_X5_owes f_X5_owes_j18
      rw [f_isName_eq, Option.bind_some, eN, wi_f hx, if_pos rfl, bind_pair]; rfl
    · unfold f_X6_owes f_X6_owes_j31
      rw [m_isName_eq, Option.bind_some, hf 48 (by omega), wi_f hx, if_pos rfl, bind_pair]; rfl
theorem pe_at (x y : Int32) : PE (f_X5_at x y) (f_X6_at x y) := by
  intro M D hD h
  by_cases hx : inB x 0 719
  · by_cases hy : inB y 0 5
    · obtain ⟨o, ho, rfl⟩ := (inB_nI (n := 719) (by omega)).mp hx
      obtain ⟨k, hk, rfl⟩ := (inB_nI (n := 5) (by omega)).mp hy
      obtain ⟨M1, e1, e2, e3⟩ := h_lineUp (M := M) (o := o) isH_1 (by omega)
      refine pe_scr h (r := nI (st o k)) (M1 := M1) ?_ (CS_line (fun a h1 _ => e3 a h1)) ⟨M1, ?_, MS_refl (fun j hj => by rw [e3 50 (by omega)]; exact RR_50 h j hj)⟩
      · unfold f_X5_at
        rw [f_isOrder_eq, Option.bind_some, wi_t hx, if_neg (by decide), f_within_eq, Option.bind_some, wi_t hy, if_neg (by decide), e1, Option.bind_some, rd (n := 6) rfl (by omega), Option.bind_some, e2 k (by omega)]
      · unfold f_X6_at
        rw [m_isOrder_eq, Option.bind_some, wi_t hx, if_neg (by decide), m_isPerson_eq, Option.bind_some, wi_t hy, if_neg (by decide), m_stands (by omega) (by omega)]; rfl
    · refine pe_find h 0 (by omega) ?_ (fun M1 hf => ?_)
      · unfold f_X5_at f_X5_at_j16
        rw [f_isOrder_eq, Option.bind_some, wi_t hx, if_neg (by decide), f_within_eq, Option.bind_some, wi_f hy, if_pos rfl, bind_pair]; rfl
      · unfold f_X6_at f_X6_at_j22
        rw [m_isOrder_eq, Option.bind_some, wi_t hx, if_neg (by decide), m_isPerson_eq, Option.bind_some, wi_f hy, if_pos rfl, bind_pair]; rfl
  · refine pe_find h 0 (by omega) ?_ (fun M1 hf => ?_)
    · unfold f_X5_at f_X5_at_j16
      rw [f_isOrder_eq, Option.bind_some, wi_f hx, if_pos rfl, bind_pair]; rfl
    · unfold f_X6_at f_X6_at_j22
      rw [m_isOrder_eq, Option.bind_some, wi_f hx, if_pos rfl, bind_pair]; rfl
theorem pe_wears (x : Int32) : PE (f_X5_wears x) (f_X6_wears x) := by
  intro M D hD h
  by_cases hx : inB x 0 5
  · obtain ⟨p, hp, rfl⟩ := (inB_nI (n := 5) (by omega)).mp hx
    obtain ⟨ho, h3⟩ := okA_order h.2.1
    have hA : okA (hrow M 1) D := by rw [← h.1]; exact h.2.1
    have e9 : M 1 9 = nI (orderN (M 48)) := by rw [← h3, h.1]; rfl
    generalize ho2 : orderN (M 48) = o at ho h3 e9
    obtain ⟨M1, e1, e2, e3⟩ := h_draw (M := M) isH_1 ho hA.1 hA.2.1
    have d1 := drP_row (D := M1 11) ho e2 p (by omega)
    have e48 : M1 48 = hrow M 1 := by rw [e3 48 (by omega) (by omega), h.1]
    obtain ⟨M2, g1, g2, g3⟩ := m_drawBy (M := M1) ho (by rw [e48]; exact hA.1) (by rw [e48]; exact hA.2.1)
    have d2 := drP_row (D := M2 52) ho g2 p (by omega)
    rw [e48] at d2
    refine pe_scr h (r := iv (drP (hrow M 1) o p)) (M1 := M1) ?_ (CS_line e3) ⟨M2, ?_, fun a h1 h2 h3 => g3 a h3, g3 48 (by omega), fun j hj => by rw [g3 50 (by omega), e3 50 (by omega) (by omega)]; exact RR_50 h j hj⟩
    · unfold f_X5_wears
      rw [f_isPerson_eq, Option.bind_some, wi_t hx, if_neg (by decide), e9, e1, Option.bind_some, rd (n := 6) rfl (by omega), Option.bind_some, d1]
    · have hT : hung (M1 48) ^^^ frA (M1 48) o 6 < 256 := by
        rw [e48]; exact x_lt2 (hung_lt hA.1) (fr_lt hA.1 hA.2.1 ho 6 (by omega)).1
      have e3' : zrd M1 48 3 = some (nI o) := by
        rw [← h3, show M 48 3 = M1 48 3 by rw [e48, h.1]]; exact rd48 (j := 3) (by omega)
      unfold f_X6_wears
      rw [m_isPerson_eq, Option.bind_some, wi_t hx, if_neg (by decide), e3', Option.bind_some, g1, Option.bind_some]
      show (if 0 ≤ nI _ then _ else _) = _
      rw [if_pos (nI_pos' (by omega)), rd (n := 6) rfl (by omega), Option.bind_some, d2]
  · refine pe_find h 0 (by omega) ?_ (fun M1 hf => ?_)
    · unfold f_X5_wears
      rw [f_isPerson_eq, Option.bind_some, wi_f hx, if_pos rfl, bind_pair]; rfl
    · unfold f_X6_wears
      rw [m_isPerson_eq, Option.bind_some, wi_f hx, if_pos rfl, bind_pair]; rfl
