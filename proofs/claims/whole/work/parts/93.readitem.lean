/-! ONE ITEM, as the reference writes it down; and what it makes of its row. -/
theorem AR_congr {f : Nat → Nat} {T : Nat} {N N' : zM} {c : Nat × Bool} (h : AR f T N c) (hj : ∀ j, 9 ≤ j → j ≤ 13 → N' 47 j = N 47 j) : AR f T N' c := ⟨⟨by rw [hj 9 (by omega) (by omega)]; exact h.1.1, by rw [hj 10 (by omega) (by omega)]; exact h.1.2.1, by rw [hj 11 (by omega) (by omega)]; exact h.1.2.2.1, by rw [hj 12 (by omega) (by omega)]; exact h.1.2.2.2⟩, by rw [hj 13 (by omega) (by omega)]; exact h.2⟩
/-- what reading and writing down leaves -/
def GR (N N' : zM) : Prop := (N' 47 3 = N 47 3 ∧ N' 47 8 = N 47 8) ∧ ∀ a, a ≠ 47 → a ≠ 56 → N' a = N a
theorem GR_refl (N : zM) : GR N N := ⟨⟨rfl, rfl⟩, fun _ _ _ => rfl⟩
theorem GR_trans {N O P : zM} (h : GR N O) (h2 : GR O P) : GR N P := ⟨⟨h2.1.1.trans h.1.1, h2.1.2.trans h.1.2⟩, fun a b c => (h2.2 a b c).trans (h.2 a b c)⟩
theorem GR_FR {N O : zM} (h : FR N O) : GR N O := ⟨⟨h.1 3 (by omega) (by omega) (by omega) (by omega) (by omega), h.1 8 (by omega) (by omega) (by omega) (by omega) (by omega)⟩, fun a b _ => h.2 a b⟩
theorem GR_T {f : Nat → Nat} {T : Nat} {N O : zM} (h : TPm f T N) (hx : GR N O) : TPm f T O := TPm_congr h hx.1.2 (hx.2 54 (by omega) (by omega))
theorem itR_congr {N N' : zM} {k K : Nat} {r : zRec} (h : itR N k r) (hk : k < K) (h56 : ∀ i, i < 4 * K → N' 56 i = N 56 i) : itR N' k r := ⟨by rw [h56 _ (by omega)]; exact h.1, by rw [h56 _ (by omega)]; exact h.2.1, by rw [h56 _ (by omega)]; exact h.2.2.1, by rw [h56 _ (by omega)]; exact h.2.2.2⟩
section MI
variable {f : Nat → Nat} {T p n k : Nat} {N : zM}
/-- the common end: two optional words, the item written down -/
theorem m_tail (h : TPm f T N) {c : Nat × Bool} (hL : AR f T N c) (hp : c.1 ≤ T) (h16 : N 47 16 = nI k) (hk : k < 119) (h17 : N 47 17 = nI n) (hn : n ≤ 8) {w hh w2 : Nat} (hw : w < 13) (hw2 : w2 < 13) (h5 : hh < 100000) (d d2 what a : Int32) : ∃ N1 N2 N3 x y, f_X6_afterWord w d (uW hh) N = some (x, N1) ∧ f_X6_afterWord w2 d2 ((N1 47 17) - 1) N1 = some (y, N2) ∧ f_X6_item what a x y N2 = some N3 ∧ x = (aftC f T w hh d c).1 ∧ y = (aftC f T w2 n d2 (aftC f T w hh d c).2).1 ∧ AR f T N3 (aftC f T w2 n d2 (aftC f T w hh d c).2).2 ∧ N3 47 16 = nI (k + 1) ∧ N3 47 17 = nI n ∧ itR N3 k (what, a, x, y) ∧ (∀ i, i < 4 * k → N3 56 i = N 56 i) ∧ GR N N3 := by
  obtain ⟨N1, a1, a2, a3⟩ := m_after h hL hp hw h5 d
  have n17 : N1 47 17 = nI n := by rw [a3.1 17 (by omega) (by omega) (by omega) (by omega) (by omega), h17]
  obtain ⟨N2, b1, b2, b3⟩ := m_after (w := w2) (hh := n) (FR_T h a3) a2 (aft_le hp) hw2 (by omega) d2
  have n216 : N2 47 16 = nI k := by rw [b3.1 16 (by omega) (by omega) (by omega) (by omega) (by omega), a3.1 16 (by omega) (by omega) (by omega) (by omega) (by omega), h16]
  obtain ⟨N3, e1, e2, e3, e4, e5, e6⟩ := m_item hk n216 (what, a, (aftC f T w hh d c).1, (aftC f T w2 n d2 (aftC f T w hh d c).2).1)
  refine ⟨N1, N2, N3, _, _, a1, by rw [n17]; exact b1, e1, rfl, rfl, AR_congr b2 (fun j q1 q2 => e5 j (by omega)), e2, ?_, e3, fun i hi => ?_, GR_trans (GR_FR (FR_trans a3 b3)) ⟨⟨e5 3 (by omega), e5 8 (by omega)⟩, fun a q1 q2 => e6 a q1 q2⟩⟩
  · rw [e5 17 (by omega), b3.1 17 (by omega) (by omega) (by omega) (by omega) (by omega), n17]
  · rw [e4 i hi, b3.2 56 (by omega), a3.2 56 (by omega)]
theorem m_readItem (h : TPm f T N) (hL : AR f T N (p, false)) (hp : p ≤ T) (h16 : N 47 16 = nI k) (hk : k < 119) (h17 : N 47 17 = nI n) (hn : n ≤ 8) : ∃ N', f_X6_readItem N = some N' ∧ N' 47 16 = nI (k + 1) ∧ (∀ i, i < 4 * k → N' 56 i = N 56 i) ∧ GR N N' ∧ ((∃ q, itemP f T n p = .inl q ∧ AR f T N' (q, true)) ∨ ∃ r p2, itemP f T n p = .inr (r, p2) ∧ AR f T N' (p2, false) ∧ itR N' k r ∧ N' 47 17 = nI (if r.1 < 7 then n + 1 else n)) := by
  have h1 := te_le f hp
  have h2 := te_le f h1
  unfold f_X6_readItem itemP
  rw [m_kind (p := p) h hL.1 hp, Option.bind_some]
  by_cases c : tw f T p < 7
  · rw [if_pos c, if_neg (nI_pos (by omega)), h17]
    have go : ∃ N', f_X6_readItem_j24 (nI (tw f T p)) (zbn (decide (n < 8))) N = some N' ∧ N' 47 16 = nI (k + 1) ∧ (∀ i, i < 4 * k → N' 56 i = N 56 i) ∧ GR N N' ∧ ((∃ q, nameP f T n p = .inl q ∧ AR f T N' (q, true)) ∨ ∃ r p2, nameP f T n p = .inr (r, p2) ∧ AR f T N' (p2, false) ∧ itR N' k r ∧ N' 47 17 = nI (if r.1 < 7 then n + 1 else n)) := by
      obtain ⟨N1, a1, a2, a3⟩ := m_must h hL hp (decide (n < 8))
      have q1 : (muC f T (p, false) (decide (n < 8))).1 ≤ T := mu_le hp
      obtain ⟨N2, b1, b2, b3⟩ := m_number (hh := 100) (FR_T h a3) a2 q1 (by omega)
      have ab := FR_trans a3 b3
      have q2 : (numC f T (muC f T (p, false) (decide (n < 8))) 100).1 ≤ T := mu_le q1
      obtain ⟨N3, N4, N5, x, y, e1, e2, e3, e4, e5, e6, e7, e8, e9, e10, e11⟩ := m_tail (k := k) (n := n) (w := 9) (hh := 100) (w2 := 10) (FR_T h ab) b2 q2 (by rw [ab.1 16 (by omega) (by omega) (by omega) (by omega) (by omega), h16]) hk (by rw [ab.1 17 (by omega) (by omega) (by omega) (by omega) (by omega), h17]) hn (by omega) (by omega) (by omega) 0 (-1) (nI (tw f T p)) (nI (tv f T (muC f T (p, false) (decide (n < 8))).1))
      unfold f_X6_readItem_j24
      rw [a1, Option.bind_some, show (99 : Int32) = uW 100 from by decide, b1, Option.bind_some]
      show ∃ N', ((f_X6_afterWord 9 0 (uW 100) N2).bind _) = some N' ∧ _
      rw [e1, Option.bind_some]
      show ∃ N', ((f_X6_afterWord 10 (-1) ((N3 47 17) - 1) N3).bind _) = some N' ∧ _
      rw [e2, Option.bind_some]
      show ∃ N', ((f_X6_item (nI (tw f T p)) (nI (tv f T (muC f T (p, false) (decide (n < 8))).1)) x y N4).bind _) = some N' ∧ _
      rw [e3, Option.bind_some, e8, nI_1]
      refine ⟨_, rfl, by rw [zU_at, if_neg (by omega)]; exact e7, fun i hi => by rw [zU_off (by omega), e10 i hi, ab.2 56 (by omega)], GR_trans (GR_FR ab) (GR_trans e11 ⟨⟨by rw [zU_at, if_neg (by omega)], by rw [zU_at, if_neg (by omega)]⟩, fun a q1 _ => zU_off q1⟩), ?_⟩
      have kAR : ∀ cc, AR f T N5 cc → AR f T (zU N5 47 17 (nI (n + 1))) cc := fun cc hc => AR_congr hc (fun j q1 q2 => by rw [zU_at, if_neg (by omega)])
      unfold nameP
      by_cases c8 : n < 8
      · rw [if_pos c8]
        rw [decide_eq_true c8, mu_t] at e4 e5 e6 e9
        by_cases c9 : isN f T (te f T p) 100
        · rw [if_pos c9]
          rw [num_t c9] at e4 e5 e6
          rcases aft_two (f := f) (T := T) (w := 9) (h := 100) (w2 := 10) (h2 := n) (p := te f T (te f T p)) (d := 0) (d2 := -1) (fun a b => (nI (tw f T p), nI (tv f T (te f T p)), a, b)) with ⟨q, g1, g2⟩ | ⟨p2, g1, g2⟩
          · rw [g2] at e6
            exact Or.inl ⟨q, g1, kAR _ e6⟩
          · rw [g2] at e6
            rw [← e4, ← e5] at g1
            refine Or.inr ⟨_, p2, g1, kAR _ e6, itR_congr (K := k + 1) e9 (by omega) (fun i hi => by rw [zU_off (by omega)]), ?_⟩
            rw [zU_same, if_pos (show nI (tw f T p) < 7 from nI_lt (b := 7) c (by omega))]
        · rw [if_neg c9]
          rw [num_f c9, aft_w, aft_w] at e6
          exact Or.inl ⟨_, rfl, kAR _ e6⟩
      · rw [if_neg c8]
        rw [decide_eq_false c8, mu_f, num_w, aft_w, aft_w] at e6
        exact Or.inl ⟨_, rfl, kAR _ e6⟩
    rw [if_pos c]
    by_cases c8 : n < 8
    · rw [if_neg (show ¬ (8 : Int32) ≤ nI n from nI_ge (b := 8) c8 (by omega))]
      rw [decide_eq_true c8] at go
      exact go
    · rw [if_pos (show (8 : Int32) ≤ nI n from nI_le (a := 8) (by omega) (by omega))]
      rw [decide_eq_false c8] at go
      exact go
  · rw [if_neg c, if_neg c, if_pos (by decide), m_isWord (c := (p, false)) h hL.1 hp (w := 8) (by omega), Option.bind_some]
    show ∃ N', (if (if tw f T p = 8 then (1 : Int32) else 0) = 0 then _ else _ : Option zM) = some N' ∧ _
    by_cases c8 : tw f T p = 8
    · rw [if_pos c8, if_neg (show ¬ (1 : Int32) = 0 by decide), if_neg (by omega), if_pos c8]
      obtain ⟨N1, a1, a2, a3⟩ := m_must h hL hp true
      rw [mu_t] at a2
      obtain ⟨N2, b1, b2, b3⟩ := m_number (c := (te f T p, false)) (hh := 720) (FR_T h a3) a2 h1 (by omega)
      have ab := FR_trans a3 b3
      obtain ⟨N3, e1, e2, e3, e4, e5, e6⟩ := m_item (N := N2) hk (by rw [ab.1 16 (by omega) (by omega) (by omega) (by omega) (by omega), h16]) (11, nI (tv f T (te f T p)), 0, 0)
      rw [show f_X6_must 1 N = some N1 from a1, Option.bind_some, show (719 : Int32) = uW 720 from by decide, b1, Option.bind_some]
      show ∃ N', ((f_X6_item 11 (nI (tv f T (te f T p))) 0 0 N2).bind _) = some N' ∧ _
      rw [show f_X6_item 11 (nI (tv f T (te f T p))) 0 0 N2 = some N3 from e1, Option.bind_some]
      have kAR : ∀ cc, AR f T N2 cc → AR f T N3 cc := fun cc hc => AR_congr hc (fun j q1 q2 => e5 j (by omega))
      refine ⟨N3, rfl, e2, fun i hi => by rw [e4 i hi, ab.2 56 (by omega)], GR_trans (GR_FR ab) ⟨⟨e5 3 (by omega), e5 8 (by omega)⟩, e6⟩, ?_⟩
      unfold ordrP
      by_cases c9 : isN f T (te f T p) 720
      · rw [if_pos c9]
        rw [num_t c9] at b2
        refine Or.inr ⟨_, _, rfl, kAR _ b2, e3, ?_⟩
        rw [e5 17 (by omega), ab.1 17 (by omega) (by omega) (by omega) (by omega) (by omega), h17, if_neg (show ¬ (11 : Int32) < 7 by decide)]
      · rw [if_neg c9]
        rw [num_f c9] at b2
        exact Or.inl ⟨_, rfl, kAR _ b2⟩
    · rw [if_neg c8, if_pos rfl, if_neg c8, m_isWord (c := (p, false)) h hL.1 hp (w := 7) (by omega), Option.bind_some]
      have e7 : (if tw f T p = 7 then (1 : Int32) else 0) = zbn (decide (tw f T p = 7)) := by
        by_cases q : tw f T p = 7
        · rw [if_pos q, decide_eq_true q]; rfl
        · rw [if_neg q, decide_eq_false q]; rfl
      show ∃ N', ((f_X6_must (if tw f T p = 7 then (1 : Int32) else 0) N).bind _) = some N' ∧ _
      rw [e7]
      obtain ⟨N1, a1, a2, a3⟩ := m_must h hL hp (decide (tw f T p = 7))
      have q1 : (muC f T (p, false) (decide (tw f T p = 7))).1 ≤ T := mu_le hp
      obtain ⟨N2, b1, b2, b3⟩ := m_number (hh := 6) (FR_T h a3) a2 q1 (by omega)
      have ab := FR_trans a3 b3
      have q2 : (numC f T (muC f T (p, false) (decide (tw f T p = 7))) 6).1 ≤ T := mu_le q1
      obtain ⟨N3, N4, N5, x, y, e1, e2, e3, e4, e5, e6, e7, e8, e9, e10, e11⟩ := m_tail (k := k) (n := n) (w := 11) (hh := 10000) (w2 := 12) (FR_T h ab) b2 q2 (by rw [ab.1 16 (by omega) (by omega) (by omega) (by omega) (by omega), h16]) hk (by rw [ab.1 17 (by omega) (by omega) (by omega) (by omega) (by omega), h17]) hn (by omega) (by omega) (by omega) (-1) (-1) 10 (nI (tv f T (muC f T (p, false) (decide (tw f T p = 7))).1))
      rw [a1, Option.bind_some, show (5 : Int32) = uW 6 from by decide, b1, Option.bind_some]
      show ∃ N', ((f_X6_afterWord 11 (-1) 9999 N2).bind _) = some N' ∧ _
      rw [show (9999 : Int32) = uW 10000 from by decide, e1, Option.bind_some]
      show ∃ N', ((f_X6_afterWord 12 (-1) ((N3 47 17) - 1) N3).bind _) = some N' ∧ _
      rw [e2, Option.bind_some]
      show ∃ N', ((f_X6_item 10 (nI (tv f T (muC f T (p, false) (decide (tw f T p = 7))).1)) x y N4).bind _) = some N' ∧ _
      rw [e3, Option.bind_some]
      refine ⟨_, rfl, e7, fun i hi => by rw [e10 i hi, ab.2 56 (by omega)], GR_trans (GR_FR ab) e11, ?_⟩
      by_cases c7 : tw f T p = 7
      · rw [if_pos c7]
        rw [decide_eq_true c7, mu_t] at e4 e5 e6 e9
        unfold persP
        by_cases c9 : isN f T (te f T p) 6
        · rw [if_pos c9]
          rw [num_t c9] at e4 e5 e6
          rcases aft_two (f := f) (T := T) (w := 11) (h := 10000) (w2 := 12) (h2 := n) (p := te f T (te f T p)) (d := -1) (d2 := -1) (fun a b => (10, nI (tv f T (te f T p)), a, b)) with ⟨q, g1, g2⟩ | ⟨p2, g1, g2⟩
          · rw [g2] at e6
            exact Or.inl ⟨q, g1, e6⟩
          · rw [g2] at e6
            rw [← e4, ← e5] at g1
            refine Or.inr ⟨_, p2, g1, e6, e9, ?_⟩
            rw [e8, if_neg (show ¬ (10 : Int32) < 7 by decide)]
        · rw [if_neg c9]
          rw [num_f c9, aft_w, aft_w] at e6
          exact Or.inl ⟨_, rfl, e6⟩
      · rw [if_neg c7]
        rw [decide_eq_false c7, mu_f, num_w, aft_w, aft_w] at e6
        exact Or.inl ⟨_, rfl, e6⟩
end MI
/-- an item that can be told so -/
def okR (A : Nat → Int32) (r : zRec) : Prop := (∃ k, k < 7 ∧ r.1 = nI k ∧ nn A < 8) ∨ ((∃ q, q < 6 ∧ r.2.1 = nI q) ∧ r.1 = 10) ∨ ((∃ q, q < 720 ∧ r.2.1 = nI q) ∧ r.1 = 11)
theorem m_told {N : zM} {A : Nat → Int32} {D k : Nat} {r : zRec} (hk : k < 119) (hi : itR N k r) (h48 : N 48 = A) (hA : okA A D) (hr : okR A r) : ∃ v N', f_X6_isToldSo (4 * nI k) N = some (v, N') ∧ 0 ≤ v ∧ N' 48 = apI A r ∧ ∀ a, a ≠ 48 → N' a = N a := by
  obtain ⟨i0, i1, i2, i3⟩ := hi
  have e4 : (4 : Int32) * nI k = nI (4 * k) := pk_mul 4 k
  have rr : ∀ j, j < 480 → zrd N 56 (nI j) = some (N 56 j) := fun j hj => rd (n := 480) rfl hj
  have a1 : nI (4 * k) + 1 = nI (4 * k + 1) := nI_1 _
  have a2 : nI (4 * k) + 2 = nI (4 * k + 2) := nI_add _ 2
  have a3 : nI (4 * k) + 3 = nI (4 * k + 3) := nI_add _ 3
  unfold f_X6_isToldSo
  rw [e4, a1, a2, a3, rr _ (by omega), rr _ (by omega), rr _ (by omega), rr _ (by omega), i0, i1, i2, i3, Option.bind_some, Option.bind_some, Option.bind_some, Option.bind_some]
  obtain ⟨r0, r1, r2, r3⟩ := r
  rcases hr with ⟨j, hj, e, hn8⟩ | ⟨⟨q, hq, e1⟩, e0⟩ | ⟨⟨q, hq, e1⟩, e0⟩
  · have e' : r0 = nI j := e
    subst e'
    have k1 : ¬ nI j = 11 := fun q => by have := (nI_eq (b := 11) (by omega) (by omega)).mp q; omega
    have k2 : ¬ nI j = 10 := fun q => by have := (nI_eq (b := 10) (by omega) (by omega)).mp q; omega
    obtain ⟨N', g1, g2, g3⟩ := m_comes (M := N) (n := nn A) (k := nI j) (d := r1) (w := r2) (f := r3) hn8 (by rw [h48]; exact hA.1.1)
    show ∃ v N', (if nI j = 11 then _ else _ : Option (Int32 × zM)) = some (v, N') ∧ _
    rw [if_neg k1, Option.bind_some]
    show ∃ v N', (if nI j = 10 then _ else _ : Option (Int32 × zM)) = some (v, N') ∧ _
    rw [if_neg k2, Option.bind_some]
    show ∃ v N', ((f_X6_comes (nI j) r1 r2 r3 N).bind _) = some (v, N') ∧ _
    rw [g1]
    refine ⟨_, N', rfl, nI_pos' (by omega), ?_, g3⟩
    rw [g2, h48]
    unfold apI
    rw [if_neg k1, if_neg k2]
  · have e0' : r0 = 10 := e0
    have e1' : r1 = nI q := e1
    subst e0'; subst e1'
    have ea : apI A (10, nI q, r2, r3) = setO (setO A (55 + q) r2) (61 + q) r3 := by
      unfold apI
      show (if (10 : Int32) = 11 then _ else if (10 : Int32) = 10 then setO (setO A (55 + (nI q).toNatClampNeg) r2) (61 + (nI q).toNatClampNeg) r3 else _) = _
      rw [if_neg (by decide), if_pos rfl, nI_clamp (by omega)]
    have p55 : (55 : Int32) + nI q = nI (55 + q) := nI_add 55 q
    have p61 : (61 : Int32) + nI q = nI (61 + q) := nI_add 61 q
    have j110 : ∀ (P : zM) (B : Nat → Int32), P 48 = B → (∀ a, a ≠ 48 → P a = N a) → ∃ N', (if 0 ≤ r3 then f_X6_isToldSo_j110 (nI q) r3 (61 + nI q) P else (zrd P 48 (61 + nI q)).bind fun v6 => f_X6_isToldSo_j110 (nI q) v6 (61 + nI q) P) = some (nI q, N') ∧ N' 48 = setO B (61 + q) r3 ∧ ∀ a, a ≠ 48 → N' a = N a := by
      intro P B hB hP
      unfold f_X6_isToldSo_j110 setO
      rw [p61]
      by_cases c : 0 ≤ r3
      · rw [if_pos c, if_neg (Int32.not_lt.mpr c), wr48 (by omega)]
        exact ⟨_, rfl, by rw [zU_row, hB], fun a ha => by rw [zU_off ha, hP a ha]⟩
      · rw [if_neg c, if_pos (Int32.not_le.mp c), rd48 (by omega), Option.bind_some, wr48 (by omega)]
        exact ⟨_, rfl, by rw [zU_row, hB, upd_self], fun a ha => by rw [zU_off ha, hP a ha]⟩
    have j82 : ∀ x, ∃ N', f_X6_isToldSo_j82 (nI q) r3 x (55 + nI q) N = some (nI q, N') ∧ N' 48 = setO (upd A (55 + q) x) (61 + q) r3 ∧ ∀ a, a ≠ 48 → N' a = N a := by
      intro x
      obtain ⟨N', g1, g2, g3⟩ := j110 (zU N 48 (55 + q) x) (upd A (55 + q) x) (by rw [zU_row, h48]) (fun a ha => zU_off ha)
      unfold f_X6_isToldSo_j82
      rw [p55, wr48 (by omega), Option.bind_some]
      exact ⟨N', g1, g2, g3⟩
    rw [ea]
    show ∃ v N', (if (10 : Int32) = 11 then _ else _ : Option (Int32 × zM)) = some (v, N') ∧ _
    rw [if_neg (by decide), Option.bind_some]
    show ∃ v N', (if (10 : Int32) = 10 then (if 0 ≤ r2 then f_X6_isToldSo_j82 (nI q) r3 r2 (55 + nI q) N else (zrd N 48 (55 + nI q)).bind fun v26 => f_X6_isToldSo_j82 (nI q) r3 v26 (55 + nI q) N) else _ : Option (Int32 × zM)) = some (v, N') ∧ _
    rw [if_pos rfl]
    by_cases c : 0 ≤ r2
    · obtain ⟨N', g1, g2, g3⟩ := j82 r2
      rw [if_pos c, g1]
      refine ⟨_, N', rfl, nI_pos' (by omega), ?_, g3⟩
      rw [g2]
      unfold setO
      rw [if_neg (show ¬ r2 < 0 from Int32.not_lt.mpr c)]
    · obtain ⟨N', g1, g2, g3⟩ := j82 (A (55 + q))
      rw [if_neg c, p55, rd48 (by omega), Option.bind_some, h48, ← p55, g1]
      refine ⟨_, N', rfl, nI_pos' (by omega), ?_, g3⟩
      rw [g2, upd_self]
      unfold setO
      rw [if_pos (show r2 < 0 from Int32.not_le.mp c)]
  · have e0' : r0 = 11 := e0
    have e1' : r1 = nI q := e1
    subst e0'; subst e1'
    obtain ⟨o, ho, eo⟩ := hA.2.2.2.2.1
    show ∃ v N', (if (11 : Int32) = 11 then _ else _ : Option (Int32 × zM)) = some (v, N') ∧ _
    rw [if_pos rfl]
    show ∃ v N', ((f_X6_become 3 (nI q) N).bind _) = some (v, N') ∧ _
    rw [zl3, m_become_eq (by omega)]
    refine ⟨_, _, rfl, ?_, ?_, fun a ha => zU_off ha⟩
    · rw [h48, eo]; exact nI_pos' (by omega)
    · rw [zU_row, h48]
      unfold apI
      rw [if_pos rfl]
