/-! ONE ITEM, as the reference reads it: a cursor (the token it stands at, whether something is wrong). -/
def zbn (b : Bool) : Int32 := if b = true then 1 else 0
def AR (f : Nat → Nat) (T : Nat) (N : zM) (c : Nat × Bool) : Prop := LR f T N c.1 ∧ N 47 13 = zbn c.2
/-- all but the reader's places -/
def FR (N N' : zM) : Prop := (∀ j, j ≠ 9 → j ≠ 10 → j ≠ 11 → j ≠ 12 → j ≠ 13 → N' 47 j = N 47 j) ∧ ∀ a, a ≠ 47 → N' a = N a
theorem FR_refl (N : zM) : FR N N := ⟨fun _ _ _ _ _ _ => rfl, fun _ _ => rfl⟩
theorem FR_trans {N O P : zM} (h : FR N O) (h2 : FR O P) : FR N P := ⟨fun j a b c d e => (h2.1 j a b c d e).trans (h.1 j a b c d e), fun a ha => (h2.2 a ha).trans (h.2 a ha)⟩
theorem FR_T {f : Nat → Nat} {T : Nat} {N O : zM} (h : TPm f T N) (hx : FR N O) : TPm f T O := TPm_congr h (hx.1 8 (by omega) (by omega) (by omega) (by omega) (by omega)) (hx.2 54 (by omega))
noncomputable def muC (f : Nat → Nat) (T : Nat) (c : Nat × Bool) (b : Bool) : Nat × Bool := if c.2 = true then c else if b = true then (te f T c.1, false) else (c.1, true)
noncomputable def numC (f : Nat → Nat) (T : Nat) (c : Nat × Bool) (h : Nat) : Nat × Bool := muC f T c (decide (isN f T c.1 h))
noncomputable def aftC (f : Nat → Nat) (T w h : Nat) (d : Int32) (c : Nat × Bool) : Int32 × (Nat × Bool) := if c.2 = true then (d, c) else if tw f T c.1 = w then (nI (tv f T (te f T c.1)), numC f T (te f T c.1, false) h) else (d, c)
theorem mu_w (f : Nat → Nat) (T q : Nat) (b : Bool) : muC f T (q, true) b = (q, true) := by unfold muC; rw [if_pos rfl]
theorem num_w (f : Nat → Nat) (T q h : Nat) : numC f T (q, true) h = (q, true) := mu_w f T q _
theorem aft_w (f : Nat → Nat) (T w h : Nat) (d : Int32) (q : Nat) : aftC f T w h d (q, true) = (d, (q, true)) := by unfold aftC; rw [if_pos rfl]
theorem mu_t (f : Nat → Nat) (T q : Nat) : muC f T (q, false) true = (te f T q, false) := by unfold muC; rw [if_neg (show ¬ ((q, false) : Nat × Bool).2 = true from Bool.false_ne_true), if_pos rfl]
theorem mu_f (f : Nat → Nat) (T q : Nat) : muC f T (q, false) false = (q, true) := by unfold muC; rw [if_neg (show ¬ ((q, false) : Nat × Bool).2 = true from Bool.false_ne_true), if_neg (by decide)]
theorem num_t {f : Nat → Nat} {T q h : Nat} (hi : isN f T q h) : numC f T (q, false) h = (te f T q, false) := by
  unfold numC
  rw [decide_eq_true (show isN f T ((q, false) : Nat × Bool).1 h from hi), mu_t]
theorem num_f {f : Nat → Nat} {T q h : Nat} (hi : ¬ isN f T q h) : numC f T (q, false) h = (q, true) := by
  unfold numC
  rw [decide_eq_false (show ¬ isN f T ((q, false) : Nat × Bool).1 h from hi), mu_f]
theorem aft_l {f : Nat → Nat} {T w h p q : Nat} {d : Int32} (e : optP f T w h d p = .inl q) : ∃ v, aftC f T w h d (p, false) = (v, (q, true)) := by
  unfold optP at e
  unfold aftC
  rw [if_neg (show ¬ ((p, false) : Nat × Bool).2 = true from Bool.false_ne_true)]
  show ∃ v, (if tw f T p = w then (nI (tv f T (te f T p)), numC f T (te f T p, false) h) else (d, (p, false))) = _
  by_cases c : tw f T p = w
  · rw [if_pos c] at e
    rw [if_pos c]
    by_cases c2 : isN f T (te f T p) h
    · rw [if_pos c2] at e; cases e
    · rw [if_neg c2] at e
      cases e
      exact ⟨_, by rw [num_f c2]⟩
  · rw [if_neg c] at e; cases e
theorem aft_r {f : Nat → Nat} {T w h p q : Nat} {d v : Int32} (e : optP f T w h d p = .inr (v, q)) : aftC f T w h d (p, false) = (v, (q, false)) := by
  unfold optP at e
  unfold aftC
  rw [if_neg (show ¬ ((p, false) : Nat × Bool).2 = true from Bool.false_ne_true)]
  show (if tw f T p = w then (nI (tv f T (te f T p)), numC f T (te f T p, false) h) else (d, (p, false))) = _
  by_cases c : tw f T p = w
  · rw [if_pos c] at e
    rw [if_pos c]
    by_cases c2 : isN f T (te f T p) h
    · rw [if_pos c2] at e
      cases e
      rw [num_t c2]
    · rw [if_neg c2] at e; cases e
  · rw [if_neg c] at e
    cases e
    rw [if_neg c]
theorem mu_le {f : Nat → Nat} {T : Nat} {c : Nat × Bool} {b : Bool} (h : c.1 ≤ T) : (muC f T c b).1 ≤ T := by
  unfold muC
  by_cases q : c.2 = true
  · rw [if_pos q]; exact h
  · rw [if_neg q]
    by_cases q2 : b = true
    · rw [if_pos q2]; exact te_le f h
    · rw [if_neg q2]; exact h
theorem aft_le {f : Nat → Nat} {T w hh : Nat} {d : Int32} {c : Nat × Bool} (h : c.1 ≤ T) : (aftC f T w hh d c).2.1 ≤ T := by
  unfold aftC
  by_cases q : c.2 = true
  · rw [if_pos q]; exact h
  · rw [if_neg q]
    by_cases q2 : tw f T c.1 = w
    · rw [if_pos q2]; exact mu_le (te_le f h)
    · rw [if_neg q2]; exact h
section MI
variable {f : Nat → Nat} {T : Nat} {N : zM} {c : Nat × Bool}
theorem m_isWord (h : TPm f T N) (hL : LR f T N c.1) (hp : c.1 ≤ T) {w : Nat} (hw : w < 13) : f_X6_isWord w N = some (if tw f T c.1 = w then 1 else 0) := by
  obtain ⟨l9, l10, l11, l12⟩ := hL
  have h120 := h.1
  have t5 := ts_lt f hp
  obtain ⟨k1, k2, k3, -⟩ := tok_TK f hp
  have hlen := z_len w hw
  have out : ∀ (s0 : Int32) (N : zM), s0 = 0 → f_X6_isWord_j29 w s0 N = some 0 := fun s0 N e => by
    subst e
    unfold f_X6_isWord_j29
    show zIter (f_X6_isWord_l32 w N) (999 + 1) (0, 0) = _
    rw [zIter, f_X6_isWord_l32]
    by_cases q : zsl w ≤ 0
    · rw [if_pos q]; rfl
    · rw [if_neg q, if_pos rfl]; rfl
  unfold f_X6_isWord f_X6_isWord_j28
  rw [l9, l10, l11]
  by_cases c1 : ts f T c.1 = 1
  · rw [if_pos (by rw [c1]; rfl), nI_sub k2]
    by_cases c2 : te f T c.1 - tb f T c.1 = zLen.getD w 0
    · rw [if_pos (by rw [c2]; rfl)]
      obtain ⟨m, m1, m2, m3⟩ := least (fun i => ¬ nI (f (tb f T c.1 + i)) = (zByt.getD w []).getD i 0) (zLen.getD w 0)
      have good : ∀ i, i < m → nI (f (tb f T c.1 + i)) = (zByt.getD w []).getD i 0 := fun i hi => Classical.byContradiction (m2 i hi)
      have iff : tw f T c.1 = w ↔ m = zLen.getD w 0 := by
        rw [tw_iff hw]
        constructor
        · rintro ⟨-, -, q⟩
          refine Classical.byContradiction (fun e => ?_)
          exact (m3.resolve_left e) (q m (by omega))
        · intro e
          exact ⟨c1, c2, fun i hi => good i (by omega)⟩
      have eb : ∀ i, i < zLen.getD w 0 → zrd N 54 (nI (tb f T c.1) + nI i) = some (nI (f (tb f T c.1 + i))) := fun i hi => by
        rw [nI_add, rd (n := 120) rfl (by omega), (h.2.2 _ (by omega)).1]
      have key : ∃ r, zIter (f_X6_isWord_l32 w N) 1000 (1, 0) = some r ∧ r = (if tw f T c.1 = w then 1 else 0) := by
        refine zIter_inv (fun k st => st = (if k ≤ m then 1 else 0, nI k)) _ (if m = zLen.getD w 0 then m else m + 1) 1000 _ (by split <;> omega) (by rw [if_pos (by omega)]; rfl) (fun k st hk hI => ?_) (fun st hI => ?_)
        · subst hI
          have hkm : k ≤ m ∧ k < zLen.getD w 0 := by
            by_cases e : m = zLen.getD w 0
            · rw [if_pos e] at hk; omega
            · rw [if_neg e] at hk; omega
          rw [if_pos hkm.1, f_X6_isWord_l32, if_neg (show ¬ zsl w ≤ nI k from nI_ge hkm.2 (by omega)), if_neg (by decide), l9, eb k hkm.2, Option.bind_some, z_char hkm.2 (by omega), Option.bind_some, nI_1]
          by_cases e : k < m
          · rw [if_pos (good k e), if_pos (by omega)]
            exact ⟨_, rfl, rfl⟩
          · have ekm : k = m := by omega
            subst ekm
            rw [if_neg (m3.resolve_left (by omega)), if_neg (by omega)]
            exact ⟨_, rfl, rfl⟩
        · subst hI
          rw [f_X6_isWord_l32]
          by_cases e : m = zLen.getD w 0
          · rw [if_pos e, if_pos (show zsl w ≤ nI m from nI_le (by omega) (by omega)), if_pos (Nat.le_refl _), if_pos (iff.mpr e)]
            exact ⟨_, rfl, rfl⟩
          · rw [if_neg e, if_neg (show ¬ m + 1 ≤ m by omega), if_neg (fun q => e (iff.mp q))]
            by_cases q : zsl w ≤ nI (m + 1)
            · rw [if_pos q]; exact ⟨_, rfl, rfl⟩
            · rw [if_neg q, if_pos rfl]; exact ⟨_, rfl, rfl⟩
      obtain ⟨r, k9, rfl⟩ := key
      exact k9
    · rw [if_neg (fun q : nI (te f T c.1 - tb f T c.1) = zsl w => c2 ((nI_eq (by omega) (by omega)).mp q)), if_neg (fun q => c2 ((tw_iff hw).mp q).2.1), out 0 N rfl]
  · rw [if_neg (fun q => c1 (by have := (nI_eq (b := 1) (by omega) (by omega)).mp q; omega)), if_neg (fun q => c1 ((tw_iff hw).mp q).1), out 0 N rfl]
theorem m_must (h : TPm f T N) (hL : AR f T N c) (hp : c.1 ≤ T) (b : Bool) : ∃ N', f_X6_must (zbn b) N = some N' ∧ AR f T N' (muC f T c b) ∧ FR N N' := by
  obtain ⟨hl, h13⟩ := hL
  obtain ⟨q, wr⟩ := c
  have u : ∀ x, LR f T (zU N 47 13 x) q ∧ zU N 47 13 x 47 13 = x ∧ FR N (zU N 47 13 x) := fun x => ⟨⟨by rw [zU_at, if_neg (by omega)]; exact hl.1, by rw [zU_at, if_neg (by omega)]; exact hl.2.1, by rw [zU_at, if_neg (by omega)]; exact hl.2.2.1, by rw [zU_at, if_neg (by omega)]; exact hl.2.2.2⟩, zU_same _ _ _ _, fun j a b c d e => by rw [zU_at, if_neg (fun z => e z.2)], fun a ha => zU_off ha⟩
  have bad : f_X6_must_j17 1 N = some (zU N 47 13 1) := by
    unfold f_X6_must_j17
    show ((some 1 : Option Int32).bind _) = _
    rw [Option.bind_some, Option.bind_some, (u 1).2.1, if_neg (by decide)]
  unfold f_X6_must f_X6_must_j12
  cases wr with
  | true =>
    rw [h13, mu_w, if_neg (show ¬ zbn true = 0 by decide), bad]
    exact ⟨_, rfl, ⟨(u 1).1, (u 1).2.1⟩, (u 1).2.2⟩
  | false =>
    rw [h13, if_pos (show zbn false = 0 by decide)]
    cases b with
    | false =>
      rw [mu_f, if_pos (show zbn false = 0 by decide), bad]
      exact ⟨_, rfl, ⟨(u 1).1, (u 1).2.1⟩, (u 1).2.2⟩
    | true =>
      rw [mu_t, if_neg (show ¬ zbn true = 0 by decide)]
      obtain ⟨u1, u2, u3⟩ := u 0
      obtain ⟨N2, n1, n2, n3, n4⟩ := m_next (FR_T h u3) u1.2.1 (te_le f hp)
      unfold f_X6_must_j17
      show ∃ N', ((some 0 : Option Int32).bind _) = some N' ∧ _
      rw [Option.bind_some, Option.bind_some, u2, if_pos rfl, n1]
      refine ⟨N2, rfl, ⟨n2, ?_⟩, FR_trans u3 ⟨fun j a b c d e => n3 j a b c d, n4⟩⟩
      rw [n3 13 (by omega) (by omega) (by omega) (by omega), u2]; rfl
theorem m_number (h : TPm f T N) (hL : AR f T N c) (hp : c.1 ≤ T) {hh : Nat} (h5 : hh < 100000) : ∃ N', f_X6_number 0 (uW hh) N = some (nI (tv f T c.1), N') ∧ AR f T N' (numC f T c hh) ∧ FR N N' := by
  obtain ⟨l9, l10, l11, l12⟩ := id hL.1
  have t5 := ts_lt f hp
  have v5 := tv_le f hp
  obtain ⟨N', e1, e2, e3⟩ := m_must h hL hp (decide (isN f T c.1 hh))
  refine ⟨N', ?_, e2, e3⟩
  unfold f_X6_number f_X6_number_j27 f_X6_number_j28
  rw [l11, l12, Option.bind_some]
  by_cases c1 : ts f T c.1 = 2
  · rw [if_pos (by rw [c1]; rfl), m_within_eq, Option.bind_some, if_neg (nI_pos (by omega))]
    by_cases c2 : tv f T c.1 < hh
    · have e0 : zbn (decide (isN f T c.1 hh)) = 1 := by rw [decide_eq_true (show isN f T c.1 hh from ⟨c1, c2⟩)]; rfl
      rw [e0] at e1
      rw [if_neg (show ¬ uW hh < nI (tv f T c.1) from fun q => by have := (uW_lt h5 (by omega)).mp q; omega), if_neg (by decide), e1]; rfl
    · have e0 : zbn (decide (isN f T c.1 hh)) = 0 := by rw [decide_eq_false (show ¬ isN f T c.1 hh from fun q => c2 q.2)]; rfl
      rw [e0] at e1
      rw [if_pos ((uW_lt h5 (by omega)).mpr (by omega)), if_pos rfl, e1]; rfl
  · have e0 : zbn (decide (isN f T c.1 hh)) = 0 := by rw [decide_eq_false (show ¬ isN f T c.1 hh from fun q => c1 q.1)]; rfl
    rw [e0] at e1
    rw [if_neg (fun q => c1 (by have := (nI_eq (b := 2) (by omega) (by omega)).mp q; omega)), e1]; rfl
theorem m_after (h : TPm f T N) (hL : AR f T N c) (hp : c.1 ≤ T) {w hh : Nat} (hw : w < 13) (h5 : hh < 100000) (d : Int32) : ∃ N', f_X6_afterWord w d (uW hh) N = some ((aftC f T w hh d c).1, N') ∧ AR f T N' (aftC f T w hh d c).2 ∧ FR N N' := by
  obtain ⟨q, wr⟩ := c
  unfold f_X6_afterWord
  cases wr with
  | true =>
    rw [hL.2, if_neg (show ¬ zbn true = 0 by decide), aft_w]
    exact ⟨N, rfl, hL, FR_refl N⟩
  | false =>
    rw [hL.2, if_pos (show zbn false = 0 by decide), m_isWord h hL.1 hp hw, Option.bind_some]
    unfold aftC
    rw [if_neg (show ¬ ((q, false) : Nat × Bool).2 = true from Bool.false_ne_true)]
    show ∃ N', (if (if tw f T q = w then (1 : Int32) else 0) = 0 then _ else _ : Option (Int32 × zM)) = some ((if tw f T q = w then (nI (tv f T (te f T q)), numC f T (te f T q, false) hh) else (d, (q, false))).1, N') ∧ AR f T N' (if tw f T q = w then (nI (tv f T (te f T q)), numC f T (te f T q, false) hh) else (d, (q, false))).2 ∧ _
    by_cases c1 : tw f T q = w
    · obtain ⟨N1, e1, e2, e3⟩ := m_must h hL hp true
      rw [mu_t] at e2
      obtain ⟨N2, g1, g2, g3⟩ := m_number (c := (te f T q, false)) (FR_T h e3) e2 (te_le f hp) h5
      rw [if_pos c1, if_pos c1, if_neg (by decide), show f_X6_must 1 N = some N1 from e1, Option.bind_some, g1, Option.bind_some]
      exact ⟨N2, rfl, g2, FR_trans e3 g3⟩
    · rw [if_neg c1, if_neg c1, if_pos rfl]
      exact ⟨N, rfl, hL, FR_refl N⟩
end MI
theorem m_kind {f : Nat → Nat} {T p : Nat} {N : zM} (h : TPm f T N) (hL : LR f T N p) (hp : p ≤ T) : f_X6_kindTold N = some (if tw f T p < 7 then nI (tw f T p) else -1) := by
  have e : ∀ w, w < 13 → f_X6_isWord w N = some (if tw f T p = w then 1 else 0) := fun w hw => m_isWord (c := (p, false)) h hL hp hw
  generalize tw f T p = x at e
  have r55 : ∀ k, k < 7 → zrr 55 (nI k) = some (1000 + k) := by decide
  unfold f_X6_kindTold
  have key : ∃ r, zIter (f_X6_kindTold_l4 N) 1000 ((-1), 0) = some r ∧ r = (if x < 7 then nI x else -1) := by
    refine zIter_inv (fun k st => st = (if x < k then nI x else -1, nI k)) _ 7 1000 _ (by omega) (by rw [if_neg (by omega)]; rfl) (fun k st hk hI => ?_) (fun st hI => ?_)
    · subst hI
      rw [f_X6_kindTold_l4, if_neg (show ¬ (7 : Int32) ≤ nI k from nI_ge (b := 7) hk (by omega)), r55 k hk, Option.bind_some, show 1000 + k - 1000 = k by omega, e k (by omega), Option.bind_some, nI_1]
      by_cases c : x = k
      · subst c
        rw [if_pos rfl, if_neg (by decide), if_pos (by omega)]
        exact ⟨_, rfl, rfl⟩
      · rw [if_neg c, if_pos rfl]
        by_cases d : x < k
        · rw [if_pos d, if_pos (by omega)]; exact ⟨_, rfl, rfl⟩
        · rw [if_neg d, if_neg (by omega)]; exact ⟨_, rfl, rfl⟩
    · subst hI
      rw [f_X6_kindTold_l4, if_pos (show (7 : Int32) ≤ nI 7 by decide)]
      exact ⟨_, rfl, rfl⟩
  obtain ⟨r, k1, rfl⟩ := key
  exact k1
/-- the items told, as written down -/
def itR (N : zM) (k : Nat) (r : zRec) : Prop := N 56 (4 * k) = r.1 ∧ N 56 (4 * k + 1) = r.2.1 ∧ N 56 (4 * k + 2) = r.2.2.1 ∧ N 56 (4 * k + 3) = r.2.2.2
theorem m_item {N : zM} {k : Nat} (hk : k < 119) (h16 : N 47 16 = nI k) (r : zRec) : ∃ N', f_X6_item r.1 r.2.1 r.2.2.1 r.2.2.2 N = some N' ∧ N' 47 16 = nI (k + 1) ∧ itR N' k r ∧ (∀ i, i < 4 * k → N' 56 i = N 56 i) ∧ (∀ j, j ≠ 16 → N' 47 j = N 47 j) ∧ ∀ a, a ≠ 47 → a ≠ 56 → N' a = N a := by
  have e4 : (4 : Int32) * nI k = nI (4 * k) := pk_mul 4 k
  have w : ∀ (P : zM) (j : Nat) (v : Int32), j < 480 → zwr P 56 (nI j) v = some (zU P 56 j v) := fun P j v hj => wr (n := 480) rfl hj
  have a1 : nI (4 * k) + 1 = nI (4 * k + 1) := nI_1 _
  have a2 : nI (4 * k) + 2 = nI (4 * k + 2) := nI_add _ 2
  have a3 : nI (4 * k) + 3 = nI (4 * k + 3) := nI_add _ 3
  unfold f_X6_item
  rw [h16, e4, Option.bind_some, w _ _ _ (by omega), Option.bind_some, a1, w _ _ _ (by omega), Option.bind_some, a2, w _ _ _ (by omega), Option.bind_some, a3, w _ _ _ (by omega), Option.bind_some, zU_off (show 47 ≠ 56 by omega), zU_off (show 47 ≠ 56 by omega), zU_off (show 47 ≠ 56 by omega), zU_off (show 47 ≠ 56 by omega), h16, nI_1, Option.bind_some]
  refine ⟨_, rfl, zU_same _ _ _ _, ⟨?_, ?_, ?_, ?_⟩, fun i hi => ?_, fun j hj => ?_, fun a h1 h2 => ?_⟩
  · rw [zU_off (by omega), zU_at, if_neg (by omega), zU_at, if_neg (by omega), zU_at, if_neg (by omega), zU_same]
  · rw [zU_off (by omega), zU_at, if_neg (by omega), zU_at, if_neg (by omega), zU_same]
  · rw [zU_off (by omega), zU_at, if_neg (by omega), zU_same]
  · rw [zU_off (by omega), zU_same]
  · rw [zU_off (by omega), zU_at, if_neg (by omega), zU_at, if_neg (by omega), zU_at, if_neg (by omega), zU_at, if_neg (by omega)]
  · rw [zU_at, if_neg (fun q => hj q.2), zU_off (by omega), zU_off (by omega), zU_off (by omega), zU_off (by omega)]
  · rw [zU_off h1, zU_off h2, zU_off h2, zU_off h2, zU_off h2]
/-- what two optional words leave the cursor at -/
theorem aft_two {f : Nat → Nat} {T w h w2 h2 p : Nat} {d d2 : Int32} (K : Int32 → Int32 → zRec) : (∃ q, twoP f T w h d w2 h2 d2 p K = .inl q ∧ (aftC f T w2 h2 d2 (aftC f T w h d (p, false)).2).2 = (q, true)) ∨ ∃ p2, twoP f T w h d w2 h2 d2 p K = .inr (K (aftC f T w h d (p, false)).1 (aftC f T w2 h2 d2 (aftC f T w h d (p, false)).2).1, p2) ∧ (aftC f T w2 h2 d2 (aftC f T w h d (p, false)).2).2 = (p2, false) := by
  cases e : optP f T w h d p with
  | inl q =>
    obtain ⟨v, ev⟩ := aft_l e
    left
    exact ⟨q, two_inl e, by rw [ev, aft_w]⟩
  | inr s =>
    obtain ⟨a, p2⟩ := s
    rw [aft_r e]
    cases e2 : optP f T w2 h2 d2 p2 with
    | inl q =>
      obtain ⟨v, ev⟩ := aft_l e2
      left
      exact ⟨q, two_inr_inl e e2, by rw [ev]⟩
    | inr s2 =>
      obtain ⟨b, p3⟩ := s2
      right
      exact ⟨p3, by rw [two_inr_inr e e2, aft_r e2], by rw [aft_r e2]⟩
