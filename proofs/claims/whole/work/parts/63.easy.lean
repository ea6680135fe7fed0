/-! THE EASY METHODS. -/
theorem bind_pair {α β : Type} (o : Option (α × β)) : (o.bind fun ((v, N) : α × β) => some (v, N)) = o := by cases o <;> rfl
/-- the class's call leaves all that is kept but the house -/
def CK (M M1 : zM) : Prop := ∀ a, (a = 0 ∨ (12 ≤ a ∧ a ≤ 20) ∨ a = 34 ∨ a = 35 ∨ 38 ≤ a) → M1 a = M a
/-- the reference's leaves all but its row now -/
def MK (M M2 : zM) : Prop := (∀ a, (a < 47 ∨ a = 49 ∨ a = 51 ∨ a = 54 ∨ (57 ≤ a ∧ a ≤ 59)) → M2 a = M a) ∧ (M2 47 3 = M 47 3 ∧ M2 47 8 = M 47 8) ∧ ∀ j, 67 ≤ j → M2 50 j = 0
theorem CK_refl (M : zM) : CK M M := fun _ _ => rfl
theorem CK_trans {M N O : zM} (h : CK M N) (h2 : CK N O) : CK M O := fun a ha => (h2 a ha).trans (h a ha)
theorem MK_trans {M N O : zM} (h : MK M N) (h2 : MK N O) : MK M O := ⟨fun a ha => (h2.1 a ha).trans (h.1 a ha), ⟨h2.2.1.1.trans h.2.1.1, h2.2.1.2.trans h.2.1.2⟩, h2.2.2⟩
theorem MK_refl {M : zM} (h : ∀ j, 67 ≤ j → M 50 j = 0) : MK M M := ⟨fun _ _ => rfl, ⟨rfl, rfl⟩, h⟩
theorem RR_house {M M1 M2 : zM} {D E : Nat} {A : Nat → Int32} (h : RR M D) (hc : CK M M1) (hm : MK M1 M2) (h1 : hrow M1 1 = A) (h2 : M2 48 = A) (hA : okA A E) (hE : D ≤ E) : RR M2 E := by
  have eh : hrow M2 1 = hrow M1 1 := hrow_off (fun a h1 h2 => hm.1 a (by omega))
  refine ⟨by rw [h2, eh, h1], by rw [h2]; exact hA, RS_mono (RS_congr (M := M) (fun a ha => ?_) ⟨?_, ?_⟩ hm.2.2 h.2.2) hE⟩
  · unfold RSc at ha
    rw [hm.1 a (by omega), hc a (by omega)]
  · rw [hm.2.1.1, hc 47 (by omega)]
  · rw [hm.2.1.2, hc 47 (by omega)]
theorem RR_50 {M : zM} {D : Nat} (h : RR M D) : ∀ j, 67 ≤ j → M 50 j = 0 := h.2.2.2.1
section PEs
variable {f g : zM → Option (Int32 × zM)} {M : zM} {D : Nat}
theorem pe_find (h : RR M D) (i : Nat) (hi : i < 7) (hf : f M = f_X5_finding (nI i) M) (hg : ∀ M1, (∀ a, a ≠ 38 → M1 a = M a) → g M1 = f_X6_finding ((-1000001) - nI i) M1) : ∃ r M1 M2, f M = some (r, M1) ∧ g M1 = some (r, M2) ∧ RR M2 (D + 60) := by
  obtain ⟨M1, M2, h1, h2, h3, h4⟩ := find_pair h hi
  exact ⟨_, M1, M2, hf.trans h1, (hg M1 h2).trans h3, RR_mono h4 (by omega)⟩
theorem pe_same (h : RR M D) (r : Int32) (hf : f M = some (r, M)) (hg : g M = some (r, M)) : ∃ r M1 M2, f M = some (r, M1) ∧ g M1 = some (r, M2) ∧ RR M2 (D + 60) := ⟨r, M, M, hf, hg, RR_mono h (by omega)⟩
/-- both write one place of the row -/
theorem pe_set (h : RR M D) {r v : Int32} {c k idx : Nat} (hf : f M = some (r, zU M c k v)) (hc : 1 ≤ c ∧ c ≤ 9) (hr : hrow (zU M c k v) 1 = upd (hrow M 1) idx v) (hg : ∀ M1, (∀ a, a ≠ c → M1 a = M a) → g M1 = some (r, zU M1 48 idx v)) (hA : okA (upd (M 48) idx v) D) : ∃ r M1 M2, f M = some (r, M1) ∧ g M1 = some (r, M2) ∧ RR M2 (D + 60) := by
  have hfr : ∀ a, a ≠ c → zU M c k v a = M a := fun a ha => zU_off ha
  refine ⟨r, _, _, hf, hg _ hfr, ?_⟩
  have e48 : zU M c k v 48 = M 48 := hfr 48 (by omega)
  refine RR_mono (RR_house (M1 := zU M c k v) h (fun a ha => hfr a (by omega)) ⟨fun a ha => zU_off (by omega), ⟨by rw [zU_off (by omega)], by rw [zU_off (by omega)]⟩, fun j hj => by rw [zU_off (by omega), hfr 50 (by omega)]; exact RR_50 h j hj⟩ hr (by rw [zU_row, e48, h.1]) (by rw [← h.1]; exact hA) (Nat.le_refl D)) (by omega)
end PEs
theorem m_become_eq {M : zM} {i : Nat} {v : Int32} (hi : i < 67) : f_X6_become (nI i) v M = some (M 48 i, zU M 48 i v) := by
  unfold f_X6_become
  rw [rd48 hi, Option.bind_some, wr48 hi]; rfl
theorem zl3 : (3 : Int32) = nI 3 := rfl
theorem okA_set3 {A : Nat → Int32} {D : Nat} {v : Int32} (h : okA A D) (hv : nb v 719) : okA (upd A 3 v) D := by
  have e : ∀ i, i ≠ 3 → upd A 3 v i = A i := fun i hi => by rw [upd_at, if_neg hi]
  obtain ⟨hn, hw, hF, h0, h3, h4, hnm, hpu, hsp, hz⟩ := h
  have hnn : nn (upd A 3 v) = nn A := nn_congr (e 1 (by omega))
  have en : ∀ i f, nm (upd A 3 v) i f = nm A i f := fun i f => e _ (by omega)
  refine ⟨by unfold okN; rw [hnn, e 1 (by omega)]; exact hn, fun p hp => by rw [e _ (by omega), hnn]; exact hw p hp, fun i hi => by rw [hnn] at hi ⊢; rw [en]; exact hF i hi, by rw [e 0 (by omega)]; exact h0, by rw [upd_at, if_pos rfl]; exact hv, by rw [e 4 (by omega)]; exact h4, fun i hi => by rw [en, en, en, en]; exact hnm i hi, fun p hp => by rw [e _ (by omega)]; exact hpu p hp, fun i hi => by rw [e _ (by omega), hnn]; exact hsp i hi, fun j hj => by rw [e _ (by omega)]; exact hz j hj⟩
theorem okA_set2 {A : Nat → Int32} {D : Nat} {v : Int32} (h : okA A D) : okA (upd A 2 v) D := by
  have e : ∀ i, i ≠ 2 → upd A 2 v i = A i := fun i hi => by rw [upd_at, if_neg hi]
  obtain ⟨hn, hw, hF, h0, h3, h4, hnm, hpu, hsp, hz⟩ := h
  have hnn : nn (upd A 2 v) = nn A := nn_congr (e 1 (by omega))
  have en : ∀ i f, nm (upd A 2 v) i f = nm A i f := fun i f => e _ (by omega)
  refine ⟨by unfold okN; rw [hnn, e 1 (by omega)]; exact hn, fun p hp => by rw [e _ (by omega), hnn]; exact hw p hp, fun i hi => by rw [hnn] at hi ⊢; rw [en]; exact hF i hi, by rw [e 0 (by omega)]; exact h0, by rw [e 3 (by omega)]; exact h3, by rw [e 4 (by omega)]; exact h4, fun i hi => by rw [en, en, en, en]; exact hnm i hi, fun p hp => by rw [e _ (by omega)]; exact hpu p hp, fun i hi => by rw [e _ (by omega), hnn]; exact hsp i hi, fun j hj => by rw [e _ (by omega)]; exact hz j hj⟩
theorem pe_order (x : Int32) : PE (f_X5_order x) (f_X6_order x) := by
  intro M D hD h
  by_cases hx : inB x 0 719
  · have e1 : f_X5_order x M = some (M 1 9, zU M 1 9 x) := by
      unfold f_X5_order
      rw [f_isOrder_eq, Option.bind_some, wi_t hx, if_neg (by decide)]; rfl
    refine pe_set h (r := M 1 9) (v := x) (c := 1) (k := 9) (idx := 3) e1 (by omega) (hrow_uF M 1 3 x (by omega)) (fun M1 hf => ?_) ?_
    · unfold f_X6_order
      have e3 : M1 48 3 = M 1 9 := by rw [hf 48 (by omega), h.1]; rfl
      rw [m_isOrder_eq, Option.bind_some, wi_t hx, if_neg (by decide), zl3, m_become_eq (by omega), e3]; rfl
    · refine okA_set3 h.2.1 ?_
      exact (inB_nI (n := 719) (by omega)).mp hx
  · refine pe_find h 0 (by omega) ?_ (fun M1 hf => ?_)
    · unfold f_X5_order
      rw [f_isOrder_eq, Option.bind_some, wi_f hx, if_pos rfl, bind_pair]; rfl
    · unfold f_X6_order
      rw [m_isOrder_eq, Option.bind_some, wi_f hx, if_pos rfl, bind_pair]; rfl
theorem pe_seed (x : Int32) : PE (f_X5_seed x) (f_X6_seed x) := by
  intro M D hD h
  refine pe_set h (r := M 1 12) (v := x) (c := 1) (k := 12) (idx := 2) rfl (by omega) (hrow_uF M 1 2 x (by omega)) (fun M1 hf => ?_) (okA_set2 h.2.1)
  unfold f_X6_seed
  have e3 : M1 48 2 = M 1 12 := by rw [hf 48 (by omega), h.1]; rfl
  rw [show (2 : Int32) = nI 2 from rfl, m_become_eq (by omega), e3]; rfl
theorem pe_now (x : Int32) : PE (f_X5_now x) (f_X6_now x) := by
  intro M D hD h
  have hn : okN (M 48) := h.2.1.1
  have hn1 : okN (hrow M 1) := by rw [← h.1]; exact hn
  have z : ∀ j, j < 67 → zrd M 48 (nI j) = some (hrow M 1 j) := fun j hj => by rw [rd48 hj, h.1]
  by_cases x0 : x = 0
  · subst x0; refine pe_same h (M 1 10) rfl ?_
    unfold f_X6_now; rw [if_pos rfl, show (0 : Int32) = nI 0 from rfl, z 0 (by omega)]; rfl
  by_cases x1 : x = 1
  · subst x1; refine pe_same h (nI (hung (hrow M 1))) ?_ ?_
    · unfold f_X5_now; rw [if_neg (by decide), if_pos rfl, h_hanging isH_1 hn1]; rfl
    · unfold f_X6_now; rw [if_neg (by decide), if_pos rfl, m_hungNow hn, h.1]; rfl
  by_cases x2 : x = 2
  · subst x2; refine pe_same h (pursesA (hrow M 1)) ?_ ?_
    · unfold f_X5_now; rw [if_neg (by decide), if_neg (by decide), if_pos rfl, h_purses isH_1]; rfl
    · unfold f_X6_now; rw [if_neg (by decide), if_neg (by decide), if_pos rfl, m_purses, h.1]; rfl
  by_cases x3 : x = 3
  · subst x3; refine pe_same h (debtsA (hrow M 1)) ?_ ?_
    · unfold f_X5_now; rw [if_neg (by decide), if_neg (by decide), if_neg (by decide), if_pos rfl, h_debts isH_1 hn1]; rfl
    · unfold f_X6_now; rw [if_neg (by decide), if_neg (by decide), if_neg (by decide), if_pos rfl, m_debts hn, h.1]; rfl
  by_cases x4 : x = 4
  · subst x4; refine pe_same h (M 1 11) rfl ?_
    unfold f_X6_now; rw [if_neg (by decide), if_neg (by decide), if_neg (by decide), if_neg (by decide), if_pos rfl, show (4 : Int32) = nI 4 from rfl, z 4 (by omega)]; rfl
  by_cases x5 : x = 5
  · subst x5; refine pe_same h (M 1 9) rfl ?_
    unfold f_X6_now; rw [if_neg (by decide), if_neg (by decide), if_neg (by decide), if_neg (by decide), if_neg (by decide), if_pos rfl, zl3, z 3 (by omega)]; rfl
  refine pe_find h 0 (by omega) ?_ (fun M1 hf => ?_)
  · unfold f_X5_now; rw [if_neg x0, if_neg x1, if_neg x2, if_neg x3, if_neg x4, if_neg x5, bind_pair]; rfl
  · unfold f_X6_now; rw [if_neg x0, if_neg x1, if_neg x2, if_neg x3, if_neg x4, if_neg x5, bind_pair]; rfl
theorem h_spots {M : zM} {t : Nat} (h : isH t) : f_X0_spotsHeld t M = some (nI (sumN (fun i => if hrow M t (5 + i) < 0 then 0 else 1) 10)) := by
  obtain ⟨-, -, -, -, -, -, -, h8, -⟩ := shA h
  unfold f_X0_spotsHeld
  refine zIter_steps (fun k => (nI (sumN (fun i => if hrow M t (5 + i) < 0 then 0 else 1) k), nI k)) 10 1000 _ (by omega) (fun k hk => ?_) ?_
  · rw [f_X0_spotsHeld_l4, if_neg (show ¬ (10 : Int32) ≤ nI k from nI_ge (b := 10) hk (by decide)), rd h8 hk, Option.bind_some, ← hrow_spot M t hk]
    show _ = some (Sum.inl (nI (sumN (fun i => if hrow M t (5 + i) < 0 then 0 else 1) k + if hrow M t (5 + k) < 0 then 0 else 1), _))
    by_cases hc : hrow M t (5 + k) < 0
    · rw [if_pos hc, if_pos hc, nI_1]; rfl
    · rw [if_neg hc, if_neg hc, nI_1, nI_1]; rfl
  · rw [f_X0_spotsHeld_l4, if_pos (show (10 : Int32) ≤ nI 10 from nI_le (Nat.le_refl _) (by omega))]
theorem m_spots {M : zM} : zIter (f_X6_count_l96 M) 1000 (0, 0) = some (nI (sumN (fun i => if M 48 (5 + i) < 0 then 0 else 1) 10), M) := by
  refine zIter_steps (fun k => (nI (sumN (fun i => if M 48 (5 + i) < 0 then 0 else 1) k), nI k)) 10 1000 _ (by omega) (fun k hk => ?_) ?_
  · rw [f_X6_count_l96, if_neg (show ¬ (10 : Int32) ≤ nI k from nI_ge (b := 10) hk (by decide)), show (5 : Int32) + nI k = nI (5 + k) from nI_add 5 k, rd48 (by omega), Option.bind_some]
    show _ = some (Sum.inl (nI (sumN (fun i => if M 48 (5 + i) < 0 then 0 else 1) k + if M 48 (5 + k) < 0 then 0 else 1), _))
    by_cases hc : M 48 (5 + k) < 0
    · rw [if_neg (Int32.not_le.mpr hc), if_pos hc, nI_1, Int32.add_zero]; rfl
    · rw [if_pos (Int32.not_lt.mp hc), if_neg hc, nI_1, nI_1]; rfl
  · rw [f_X6_count_l96, if_pos (show (10 : Int32) ≤ nI 10 from nI_le (Nat.le_refl _) (by omega))]
theorem pe_count (x : Int32) : PE (f_X5_count x) (f_X6_count x) := by
  intro M D hD h
  have hn : okN (M 48) := h.2.1.1
  have hn1 : okN (hrow M 1) := by rw [← h.1]; exact hn
  have z : ∀ j, j < 67 → zrd M 48 (nI j) = some (hrow M 1 j) := fun j hj => by rw [rd48 hj, h.1]
  by_cases x0 : x = 0
  · subst x0; refine pe_same h (M 1 10) rfl ?_
    unfold f_X6_count; rw [if_pos rfl, show (0 : Int32) = nI 0 from rfl, z 0 (by omega)]; rfl
  by_cases x1 : x = 1
  · subst x1; refine pe_same h (M 1 0) rfl ?_
    unfold f_X6_count; rw [if_neg (by decide), if_pos rfl, show (1 : Int32) = nI 1 from rfl, z 1 (by omega)]; rfl
  by_cases x2 : x = 2
  · subst x2; refine pe_same h (nI (popc (hung (hrow M 1)))) ?_ ?_
    · unfold f_X5_count; rw [if_neg (by decide), if_neg (by decide), if_pos rfl, h_hanging isH_1 hn1, Option.bind_some, j_bitCount (hung_lt hn1)]; rfl
    · unfold f_X6_count; rw [if_neg (by decide), if_neg (by decide), if_pos rfl, m_hungNow hn, Option.bind_some, m_bits (hung_lt hn), h.1]; rfl
  by_cases x3 : x = 3
  · subst x3; refine pe_same h (M 1 11) rfl ?_
    unfold f_X6_count; rw [if_neg (by decide), if_neg (by decide), if_neg (by decide), if_pos rfl, show (4 : Int32) = nI 4 from rfl, z 4 (by omega)]; rfl
  by_cases x4 : x = 4
  · subst x4; refine pe_same h (pursesA (hrow M 1)) ?_ ?_
    · unfold f_X5_count; rw [if_neg (by decide), if_neg (by decide), if_neg (by decide), if_neg (by decide), if_pos rfl, h_purses isH_1]; rfl
    · unfold f_X6_count; rw [if_neg (by decide), if_neg (by decide), if_neg (by decide), if_neg (by decide), if_pos rfl, m_purses, h.1]; rfl
  by_cases x5 : x = 5
  · subst x5; refine pe_same h (M 34 1) rfl ?_
    unfold f_X6_count; rw [if_neg (by decide), if_neg (by decide), if_neg (by decide), if_neg (by decide), if_neg (by decide), if_pos rfl, h.2.2.2.2.2.2.2.2.1.1]
  by_cases x6 : x = 6
  · subst x6; refine pe_same h (M 1 12) rfl ?_
    unfold f_X6_count; rw [if_neg (by decide), if_neg (by decide), if_neg (by decide), if_neg (by decide), if_neg (by decide), if_neg (by decide), if_pos rfl, show (2 : Int32) = nI 2 from rfl, z 2 (by omega)]; rfl
  by_cases x7 : x = 7
  · subst x7; refine pe_same h (nI (sumN (fun i => if hrow M 1 (5 + i) < 0 then 0 else 1) 10)) ?_ ?_
    · unfold f_X5_count; rw [if_neg (by decide), if_neg (by decide), if_neg (by decide), if_neg (by decide), if_neg (by decide), if_neg (by decide), if_neg (by decide), if_pos rfl, h_spots isH_1]; rfl
    · unfold f_X6_count; rw [if_neg (by decide), if_neg (by decide), if_neg (by decide), if_neg (by decide), if_neg (by decide), if_neg (by decide), if_neg (by decide), if_pos rfl, m_spots, h.1]
  refine pe_find h 0 (by omega) ?_ (fun M1 hf => ?_)
  · unfold f_X5_count; rw [if_neg x0, if_neg x1, if_neg x2, if_neg x3, if_neg x4, if_neg x5, if_neg x6, if_neg x7, bind_pair]; rfl
  · unfold f_X6_count; rw [if_neg x0, if_neg x1, if_neg x2, if_neg x3, if_neg x4, if_neg x5, if_neg x6, if_neg x7, bind_pair]; rfl
