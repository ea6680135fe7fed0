/-! NEW NAMES, AND CHANGES. -/
theorem okA_setN {A : Nat → Int32} {D i f : Nat} {v : Int32} (h : okA A D) (hi : i < 8) (hf : f < 5) (h0 : f = 0 → nb v 6) (h1 : f = 1 → nb v 99) (h2 : f = 2 → nb v 99) (h3 : f = 3 → nb v 99999) (h4 : f = 4 → i < nn A → v = -1 ∨ ∃ g, g < nn A ∧ g ≠ i ∧ v = nI g) : okA (upd A (15 + 5 * i + f) v) D := by
  have e : ∀ j, j ≠ 15 + 5 * i + f → upd A (15 + 5 * i + f) v j = A j := fun j hj => by rw [upd_at, if_neg hj]
  obtain ⟨hn, hw, hF, q0, q3, q4, hnm, hpu, hsp, hz⟩ := h
  have hnn : nn (upd A (15 + 5 * i + f) v) = nn A := nn_congr (e 1 (by omega))
  have en : ∀ k g, nm (upd A (15 + 5 * i + f) v) k g = if 15 + 5 * k + g = 15 + 5 * i + f then v else nm A k g := fun k g => upd_at ..
  refine ⟨by unfold okN; rw [hnn, e 1 (by omega)]; exact hn, fun p hp => by rw [e _ (by omega), hnn]; exact hw p hp, fun k hk => ?_, by rw [e 0 (by omega)]; exact q0, by rw [e 3 (by omega)]; exact q3, by rw [e 4 (by omega)]; exact q4, fun k hk => ?_, fun p hp => by rw [e _ (by omega)]; exact hpu p hp, fun k hk => by rw [e _ (by omega), hnn]; exact hsp k hk, fun j hj => by rw [e _ (by omega)]; exact hz j hj⟩
  · rw [hnn] at hk ⊢
    rw [en]
    by_cases c : 15 + 5 * k + 4 = 15 + 5 * i + f
    · rw [if_pos c]
      have e1 : k = i := by omega
      have e2 : f = 4 := by omega
      subst e1
      rcases h4 e2 hk with h | ⟨g, g1, g2, g3⟩
      · exact Or.inl h
      · exact Or.inr ⟨g, g1, g2, g3⟩
    · rw [if_neg c]; exact hF k hk
  · obtain ⟨n0, n1, n2, n3⟩ := hnm k hk
    rw [en, en, en, en]
    refine ⟨?_, ?_, ?_, ?_⟩
    · by_cases c : 15 + 5 * k + 0 = 15 + 5 * i + f
      · rw [if_pos c]; exact h0 (by omega)
      · rw [if_neg c]; exact n0
    · by_cases c : 15 + 5 * k + 1 = 15 + 5 * i + f
      · rw [if_pos c]; exact h1 (by omega)
      · rw [if_neg c]; exact n1
    · by_cases c : 15 + 5 * k + 2 = 15 + 5 * i + f
      · rw [if_pos c]; exact h2 (by omega)
      · rw [if_neg c]; exact n2
    · by_cases c : 15 + 5 * k + 3 = 15 + 5 * i + f
      · rw [if_pos c]; exact h3 (by omega)
      · rw [if_neg c]; exact n3
theorem okA_setP {A : Nat → Int32} {D p : Nat} {v : Int32} (h : okA A D) (hp : p < 6) (hv : nb v 9999) : okA (upd A (55 + p) v) D := by
  have e : ∀ i, i ≠ 55 + p → upd A (55 + p) v i = A i := fun i hi => by rw [upd_at, if_neg hi]
  obtain ⟨hn, hw, hF, h0, h3, h4, hnm, hpu, hsp, hz⟩ := h
  have hnn : nn (upd A (55 + p) v) = nn A := nn_congr (e 1 (by omega))
  have en : ∀ i, i < 8 → ∀ f, f < 5 → nm (upd A (55 + p) v) i f = nm A i f := fun i hi f hf => e _ (by omega)
  refine ⟨by unfold okN; rw [hnn, e 1 (by omega)]; exact hn, fun q hq => by rw [e _ (by omega), hnn]; exact hw q hq, fun i hi => by rw [hnn] at hi ⊢; rw [en i (by have := hn.2; omega) 4 (by omega)]; exact hF i hi, by rw [e 0 (by omega)]; exact h0, by rw [e 3 (by omega)]; exact h3, by rw [e 4 (by omega)]; exact h4, fun i hi => by rw [en i hi 0 (by omega), en i hi 1 (by omega), en i hi 2 (by omega), en i hi 3 (by omega)]; exact hnm i hi, fun q hq => ?_, fun i hi => by rw [e _ (by omega), hnn]; exact hsp i hi, fun j hj => by rw [e _ (by omega)]; exact hz j hj⟩
  by_cases c : q = p
  · subst c; rw [upd_at, if_pos rfl]; exact hv
  · rw [e _ (by omega)]; exact hpu q hq
theorem okA_setW {A : Nat → Int32} {D p : Nat} {v : Int32} (h : okA A D) (hp : p < 6) (hv : v = -1 ∨ ∃ g, g < nn A ∧ v = nI g) : okA (upd A (61 + p) v) D := by
  have e : ∀ i, i ≠ 61 + p → upd A (61 + p) v i = A i := fun i hi => by rw [upd_at, if_neg hi]
  obtain ⟨hn, hw, hF, h0, h3, h4, hnm, hpu, hsp, hz⟩ := h
  have hnn : nn (upd A (61 + p) v) = nn A := nn_congr (e 1 (by omega))
  have en : ∀ i, i < 8 → ∀ f, f < 5 → nm (upd A (61 + p) v) i f = nm A i f := fun i hi f hf => e _ (by omega)
  refine ⟨by unfold okN; rw [hnn, e 1 (by omega)]; exact hn, fun q hq => ?_, fun i hi => by rw [hnn] at hi ⊢; rw [en i (by have := hn.2; omega) 4 (by omega)]; exact hF i hi, by rw [e 0 (by omega)]; exact h0, by rw [e 3 (by omega)]; exact h3, by rw [e 4 (by omega)]; exact h4, fun i hi => by rw [en i hi 0 (by omega), en i hi 1 (by omega), en i hi 2 (by omega), en i hi 3 (by omega)]; exact hnm i hi, fun q hq => by rw [e _ (by omega)]; exact hpu q hq, fun i hi => by rw [e _ (by omega), hnn]; exact hsp i hi, fun j hj => by rw [e _ (by omega)]; exact hz j hj⟩
  rw [hnn]
  by_cases c : q = p
  · subst c; rw [upd_at, if_pos rfl]; exact hv
  · rw [e _ (by omega)]; exact hw q hq
theorem okA_grow {A : Nat → Int32} {D : Nat} (h : okA A D) (hn8 : nn A < 8) (h4 : nm A (nn A) 4 = -1 ∨ ∃ g, g < nn A ∧ nm A (nn A) 4 = nI g) : okA (upd A 1 (nI (nn A + 1))) D := by
  have e : ∀ i, i ≠ 1 → upd A 1 (nI (nn A + 1)) i = A i := fun i hi => by rw [upd_at, if_neg hi]
  obtain ⟨hn, hw, hF, h0, h3, q4, hnm, hpu, hsp, hz⟩ := h
  have e1 : upd A 1 (nI (nn A + 1)) 1 = nI (nn A + 1) := by rw [upd_at, if_pos rfl]
  have hnn : nn (upd A 1 (nI (nn A + 1))) = nn A + 1 := by
    show (upd A 1 (nI (nn A + 1)) 1).toNatClampNeg = _
    rw [e1]; exact nI_clamp (by omega)
  have en : ∀ i f, nm (upd A 1 (nI (nn A + 1))) i f = nm A i f := fun i f => e _ (by omega)
  refine ⟨⟨by rw [hnn, e1], by rw [hnn]; omega⟩, fun p hp => ?_, fun i hi => ?_, by rw [e 0 (by omega)]; exact h0, by rw [e 3 (by omega)]; exact h3, by rw [e 4 (by omega)]; exact q4, fun i hi => by rw [en, en, en, en]; exact hnm i hi, fun p hp => by rw [e _ (by omega)]; exact hpu p hp, fun i hi => ?_, fun j hj => by rw [e _ (by omega)]; exact hz j hj⟩
  · rw [e _ (by omega), hnn]
    rcases hw p hp with h | ⟨w, h1, h2⟩
    · exact Or.inl h
    · exact Or.inr ⟨w, by omega, h2⟩
  · rw [hnn] at hi ⊢; rw [en]
    by_cases c : i = nn A
    · subst c
      rcases h4 with h | ⟨g, h1, h2⟩
      · exact Or.inl h
      · exact Or.inr ⟨g, by omega, by omega, h2⟩
    · rcases hF i (by omega) with h | ⟨g, h1, h2, h3⟩
      · exact Or.inl h
      · exact Or.inr ⟨g, by omega, h2, h3⟩
  · rw [e _ (by omega), hnn]
    rcases hsp i hi with h | ⟨w, h1, h2⟩
    · exact Or.inl h
    · exact Or.inr ⟨w, by omega, h2⟩
/-- a new name's row -/
def newA (A : Nat → Int32) (n : Nat) (k d w f : Int32) : Nat → Int32 :=
  upd (upd (upd (upd (upd (upd A (15 + 5 * n + 0) k) (15 + 5 * n + 1) d) (15 + 5 * n + 2) w) (15 + 5 * n + 3) 0) (15 + 5 * n + 4) f) 1 (nI (n + 1))
theorem okA_new {A : Nat → Int32} {D : Nat} {k d w f : Int32} (h : okA A D) (hn8 : nn A < 8) (hk : nb k 6) (hd : nb d 99) (hw : nb w 99) (hf : f = -1 ∨ ∃ g, g < nn A ∧ f = nI g) : okA (newA A (nn A) k d w f) D := by
  generalize hn : nn A = n at hn8 hf ⊢
  unfold newA
  have a1 := okA_setN (i := n) (f := 0) (v := k) h hn8 (by omega) (fun _ => hk) (fun c => by omega) (fun c => by omega) (fun c => by omega) (fun c => by omega)
  have a2 := okA_setN (i := n) (f := 1) (v := d) a1 hn8 (by omega) (fun c => by omega) (fun _ => hd) (fun c => by omega) (fun c => by omega) (fun c => by omega)
  have a3 := okA_setN (i := n) (f := 2) (v := w) a2 hn8 (by omega) (fun c => by omega) (fun c => by omega) (fun _ => hw) (fun c => by omega) (fun c => by omega)
  have a4 := okA_setN (i := n) (f := 3) (v := 0) a3 hn8 (by omega) (fun c => by omega) (fun c => by omega) (fun c => by omega) (fun _ => ⟨0, by omega, rfl⟩) (fun c => by omega)
  have hnn : ∀ (B : Nat → Int32) j v, nn (upd B (15 + 5 * n + j) v) = nn B := fun B j v => nn_congr (by rw [upd_at, if_neg (by omega)])
  have a5 := okA_setN (i := n) (f := 4) (v := f) a4 hn8 (by omega) (fun c => by omega) (fun c => by omega) (fun c => by omega) (fun c => by omega) (fun _ c => by rw [hnn, hnn, hnn, hnn] at c; omega)
  generalize hB : upd (upd (upd (upd (upd A (15 + 5 * n + 0) k) (15 + 5 * n + 1) d) (15 + 5 * n + 2) w) (15 + 5 * n + 3) 0) (15 + 5 * n + 4) f = B at a5
  have hnB : nn B = n := by rw [← hB, hnn, hnn, hnn, hnn, hnn, hn]
  have := okA_grow a5 (by omega) (by
    rw [hnB]
    have e4 : nm B n 4 = f := by rw [← hB]; show upd _ _ _ (15 + 5 * n + 4) = f; rw [upd_at, if_pos rfl]
    rw [e4]; exact hf)
  rw [hnB] at this
  exact this
theorem h_hangUp {M : zM} {t n : Nat} {k d w f : Int32} (h : isH t) (hn : n < 8) (e0 : M t 0 = nI n) : ∃ M', f_X0_hangUp t k d w f M = some (nI n, M') ∧ hrow M' t = newA (hrow M t) n k d w f ∧ ∀ a, (a < t ∨ t + 5 < a) → M' a = M a := by
  obtain ⟨h1, h2, h3, h4, h5, -⟩ := shA h
  refine ⟨zU (zU (zU (zU (zU (zU M (t + 1) n k) (t + 2) n d) (t + 3) n w) (t + 4) n 0) (t + 5) n f) t 0 (nI (n + 1)), ?_, ?_, fun a ha => ?_⟩
  · have g : ∀ (N : zM) j v, zU N (t + 1 + j) n v t = N t := fun N j v => zU_off (by omega)
    have g1 : ∀ (N : zM) v, zU N (t + 1) n v t = N t := fun N v => g N 0 v
    have g2 : ∀ (N : zM) v, zU N (t + 2) n v t = N t := fun N v => g N 1 v
    have g3 : ∀ (N : zM) v, zU N (t + 3) n v t = N t := fun N v => g N 2 v
    have g4 : ∀ (N : zM) v, zU N (t + 4) n v t = N t := fun N v => g N 3 v
    have g5 : ∀ (N : zM) v, zU N (t + 5) n v t = N t := fun N v => g N 4 v
    unfold f_X0_hangUp
    rw [e0, if_pos (show nI n < 8 from nI_lt (b := 8) hn (by omega)), wr h1 hn, Option.bind_some, g1, e0, wr h2 hn, Option.bind_some, g2, g1, e0, wr h3 hn, Option.bind_some, g3, g2, g1, e0, wr h4 hn, Option.bind_some, g4, g3, g2, g1, e0, wr h5 hn, Option.bind_some, g5, g4, g3, g2, g1, e0, nI_1, Option.bind_some, zU_same, nI_pred]
  · unfold newA
    rw [show (zU (zU (zU (zU (zU (zU M (t + 1) n k) (t + 2) n d) (t + 3) n w) (t + 4) n 0) (t + 5) n f) t 0 (nI (n + 1))) = zU (zU (zU (zU (zU (zU M (t + 1 + 0) n k) (t + 1 + 1) n d) (t + 1 + 2) n w) (t + 1 + 3) n 0) (t + 1 + 4) n f) t (rp 1) (nI (n + 1)) from rfl, hrow_uF _ _ _ _ (by omega), hrow_uN _ _ _ (by omega) hn, hrow_uN _ _ _ (by omega) hn, hrow_uN _ _ _ (by omega) hn, hrow_uN _ _ _ (by omega) hn, hrow_uN _ _ _ (by omega) hn]
  · rw [zU_off (by omega), zU_off (by omega), zU_off (by omega), zU_off (by omega), zU_off (by omega), zU_off (by omega)]
theorem m_comes {M : zM} {n : Nat} {k d w f : Int32} (hn : n < 8) (e0 : M 48 1 = nI n) : ∃ M', f_X6_comes k d w f M = some (nI n, M') ∧ M' 48 = newA (M 48) n k d w f ∧ ∀ a, a ≠ 48 → M' a = M a := by
  refine ⟨zU (zU (zU (zU (zU (zU M 48 (15 + 5 * n + 0) k) 48 (15 + 5 * n + 1) d) 48 (15 + 5 * n + 2) w) 48 (15 + 5 * n + 3) 0) 48 (15 + 5 * n + 4) f) 48 1 (nI (n + 1)), ?_, ?_, fun a ha => ?_⟩
  · have z1 : ∀ N : zM, zrd N 48 1 = some (N 48 1) := fun N => rd48 (j := 1) (by omega)
    have w1 : ∀ (N : zM) v, zwr N 48 1 v = some (zU N 48 1 v) := fun N v => wr48 (j := 1) (by omega)
    have p0 : ∀ N : zM, f_X6_place (nI n) 0 N = some (nI (15 + 5 * n + 0)) := fun N => m_place n 0 N
    have p1 : ∀ N : zM, f_X6_place (nI n) 1 N = some (nI (15 + 5 * n + 1)) := fun N => m_place n 1 N
    have p2 : ∀ N : zM, f_X6_place (nI n) 2 N = some (nI (15 + 5 * n + 2)) := fun N => m_place n 2 N
    have p3 : ∀ N : zM, f_X6_place (nI n) 3 N = some (nI (15 + 5 * n + 3)) := fun N => m_place n 3 N
    have p4 : ∀ N : zM, f_X6_place (nI n) 4 N = some (nI (15 + 5 * n + 4)) := fun N => m_place n 4 N
    unfold f_X6_comes
    rw [z1, e0, Option.bind_some, p0, Option.bind_some, wr48 (by omega), Option.bind_some, p1, Option.bind_some, wr48 (by omega), Option.bind_some, p2, Option.bind_some, wr48 (by omega), Option.bind_some, p3, Option.bind_some, wr48 (by omega), Option.bind_some, p4, Option.bind_some, wr48 (by omega), Option.bind_some, z1, Option.bind_some, w1, Option.bind_some]
    have e5 : (zU (zU (zU (zU (zU M 48 (15 + 5 * n + 0) k) 48 (15 + 5 * n + 1) d) 48 (15 + 5 * n + 2) w) 48 (15 + 5 * n + 3) 0) 48 (15 + 5 * n + 4) f) 48 1 = nI n := by
      rw [zU_at, if_neg (by omega), zU_at, if_neg (by omega), zU_at, if_neg (by omega), zU_at, if_neg (by omega), zU_at, if_neg (by omega), e0]
    rw [e5, nI_1]
  · unfold newA
    rw [zU_row, zU_row, zU_row, zU_row, zU_row, zU_row]
  · rw [zU_off ha, zU_off ha, zU_off ha, zU_off ha, zU_off ha, zU_off ha]
theorem pe_name (x y : Int32) : PE (f_X5_name x y) (f_X6_name x y) := by
  intro M D hD h
  have hA := h.2.1
  have e1 : M 48 1 = nI (nn (M 48)) := hA.1.1
  have e0 : M 1 0 = nI (nn (M 48)) := by rw [RR_names h]; exact e1
  have h8 := hA.1.2
  by_cases hx : inB x 0 6
  · by_cases hy : inB y 0 99
    · by_cases hn : nn (M 48) < 8
      · obtain ⟨M1, f1, f2, f3⟩ := h_hangUp (M := M) (t := 1) (k := x) (d := y) (w := 0) (f := -1) isH_1 hn e0
        have e48 : M1 48 = M 48 := f3 48 (by omega)
        obtain ⟨M2, g1, g2, g3⟩ := m_comes (M := M1) (k := x) (d := y) (w := 0) (f := -1) hn (by rw [e48]; exact e1)
        rw [e48] at g2
        refine ⟨nI (nn (M 48)), M1, M2, ?_, ?_, RR_mono (RR_house (M1 := M1) (E := D) h (fun a ha => f3 a (by omega)) ⟨fun a ha => g3 a (by omega), ⟨by rw [g3 47 (by omega)], by rw [g3 47 (by omega)]⟩, fun i hi => by rw [g3 50 (by omega), f3 50 (by omega)]; exact RR_50 h i hi⟩ (A := newA (M 48) (nn (M 48)) x y 0 (-1)) (by rw [f2, ← h.1]) g2 (okA_new hA hn ((inB_nI (n := 6) (by omega)).mp hx) ((inB_nI (n := 99) (by omega)).mp hy) ⟨0, by omega, rfl⟩ (Or.inl rfl)) (by omega)) (by omega)⟩
        · unfold f_X5_name
          rw [f_within_eq, Option.bind_some, wi_t hx, if_neg (by decide), f_within_eq, Option.bind_some, wi_t hy, if_neg (by decide), e0, if_pos (show nI (nn (M 48)) < 8 from nI_lt (b := 8) hn (by omega)), f1]; rfl
        · have z1 : zrd M1 48 1 = some (nI (nn (M 48))) := by rw [← e1, ← e48]; exact rd48 (j := 1) (by omega)
          unfold f_X6_name f_X6_isKind
          rw [m_within_eq, Option.bind_some, zbo_if, Option.bind_some, Option.bind_some, wi_t hx, if_neg (by decide), m_within_eq, Option.bind_some, wi_t hy, if_neg (by decide), z1, Option.bind_some, if_neg (show ¬ nI (nn (M 48)) = 8 from fun c => by have := (nI_eq (b := 8) (by omega) (by omega)).mp c; omega), g1]; rfl
      · have hn8 : nn (M 48) = 8 := by omega
        rw [hn8] at e0 e1
        refine pe_find h 1 (by omega) ?_ (fun M1 hf => ?_)
        · unfold f_X5_name
          rw [f_within_eq, Option.bind_some, wi_t hx, if_neg (by decide), f_within_eq, Option.bind_some, wi_t hy, if_neg (by decide), e0, if_neg (by decide), bind_pair]; rfl
        · have z1 : zrd M1 48 1 = some (nI 8) := by rw [← e1, ← hf 48 (by omega)]; exact rd48 (j := 1) (by omega)
          unfold f_X6_name f_X6_isKind
          rw [m_within_eq, Option.bind_some, zbo_if, Option.bind_some, Option.bind_some, wi_t hx, if_neg (by decide), m_within_eq, Option.bind_some, wi_t hy, if_neg (by decide), z1, Option.bind_some, if_pos (show nI 8 = 8 from rfl), bind_pair]; rfl
    · refine pe_find h 0 (by omega) ?_ (fun M1 hf => ?_)
      · unfold f_X5_name f_X5_name_j20
        rw [f_within_eq, Option.bind_some, wi_t hx, if_neg (by decide), f_within_eq, Option.bind_some, wi_f hy, if_pos rfl, bind_pair]; rfl
      · unfold f_X6_name f_X6_name_j17 f_X6_isKind
        rw [m_within_eq, Option.bind_some, zbo_if, Option.bind_some, Option.bind_some, wi_t hx, if_neg (by decide), m_within_eq, Option.bind_some, wi_f hy, if_pos rfl, bind_pair]; rfl
  · refine pe_find h 0 (by omega) ?_ (fun M1 hf => ?_)
    · unfold f_X5_name f_X5_name_j20
      rw [f_within_eq, Option.bind_some, wi_f hx, if_pos rfl, bind_pair]; rfl
    · unfold f_X6_name f_X6_name_j17 f_X6_isKind
      rw [m_within_eq, Option.bind_some, zbo_if, Option.bind_some, Option.bind_some, wi_f hx, if_pos rfl, bind_pair]; rfl
