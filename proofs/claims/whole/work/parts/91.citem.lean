/-! ONE ITEM, as the class reads it: its house is the one for trials. -/
/-- all but the trial house and the reader -/
def XF (M N : zM) : Prop := ∀ a, (a < 23 ∨ 33 < a) → a ≠ 36 → N a = M a
theorem XF_refl (M : zM) : XF M M := fun _ _ _ => rfl
theorem XF_trans {M N O : zM} (h : XF M N) (h2 : XF N O) : XF M O := fun a h3 h4 => (h2 a h3 h4).trans (h a h3 h4)
theorem XF_36 {M N : zM} (h : ∀ a, a ≠ 36 → N a = M a) : XF M N := fun a _ h4 => h a h4
theorem XF_T {f : Nat → Nat} {T : Nat} {M N : zM} (h : TPc f T M) (hx : XF M N) : TPc f T N := TPc_congr h (hx 34 (by omega) (by omega)) (hx 35 (by omega) (by omega))
theorem hrow_36 {M N : zM} (h : ∀ a, a ≠ 36 → N a = M a) : hrow N 23 = hrow M 23 := hrow_off (fun a h1 h2 => h a (by omega))
section CI
variable {f : Nat → Nat} {T p n : Nat} {M : zM} {A : Nat → Int32}
theorem names23 (hr : hrow M 23 = A) (hn : okN A) : M 23 0 = nI (nn A) := by rw [← hn.1, ← hr]; rfl
theorem uW_lit (h : Nat) : nI h - 1 = uW h := rfl
/-- what a number told after a word is read as -/
theorem c_opt1 (h : TPc f T M) (hL : LC f T M p) (hp : p ≤ T) {w hh : Nat} (hw : w < 13) : f_X2_isWord w M = some (if tw f T p = w then 1 else 0) ∧ ∃ M1, f_X2_step M = some M1 ∧ LC f T M1 (te f T p) ∧ (∀ a, a ≠ 36 → M1 a = M a) := by
  obtain ⟨M1, s1, s2, s3⟩ := c_adv h hL hp
  exact ⟨c_isWord h hL hp hw, M1, s1, s2, s3⟩
theorem c_j102 (hL : LC f T M p) (hr : hrow M 23 = A) (hn : okN A) (hn8 : nn A < 8) (k d w g : Int32) : ∃ M', f_X2_nameItem_j102 23 k d w g M = some (1, M') ∧ LC f T M' p ∧ hrow M' 23 = newA A (nn A) k d w g ∧ XF M M' := by
  obtain ⟨M', e1, e2, e3⟩ := h_hangUp (M := M) (k := k) (d := d) (w := w) (f := g) isH_23 hn8 (names23 hr hn)
  refine ⟨M', ?_, LC_congr hL (e3 36 (by omega)), by rw [e2, hr], fun a h1 _ => e3 a (by omega)⟩
  unfold f_X2_nameItem_j102
  rw [e1, Option.bind_some]
  show (if nI (nn A) < 0 then _ else _ : Option (Int32 × zM)) = _
  rw [if_neg (nI_pos (by omega))]
theorem c_j64 (h : TPc f T M) (hL : LC f T M p) (hp : p ≤ T) (hr : hrow M 23 = A) (hn : okN A) (hn8 : nn A < 8) (k d w : Int32) : ∃ v M', f_X2_nameItem_j64 23 k d w (-1) M = some (v, M') ∧ XF M M' ∧ ((∃ q, optP f T 10 (nn A) (-1) p = .inl q ∧ v = 0 ∧ LC f T M' q) ∨ ∃ g p2, optP f T 10 (nn A) (-1) p = .inr (g, p2) ∧ v = 1 ∧ LC f T M' p2 ∧ hrow M' 23 = newA A (nn A) k d w g) := by
  unfold f_X2_nameItem_j64 optP
  rw [c_isWord h hL hp (w := 10) (by omega), Option.bind_some]
  by_cases c : tw f T p = 10
  · obtain ⟨M1, s1, s2, s3⟩ := c_adv h hL hp
    have h1 := te_le f hp
    have hr1 : hrow M1 23 = A := (hrow_36 s3).trans hr
    have hT1 : TPc f T M1 := XF_T h (XF_36 s3)
    rw [if_pos c, if_pos c, if_neg (by decide), s1, Option.bind_some, names23 hr1 hn, uW_lit, c_num s2 h1 (by omega), Option.bind_some]
    by_cases c2 : isN f T (te f T p) (nn A)
    · obtain ⟨M2, t1, t2, t3⟩ := c_adv hT1 s2 h1
      obtain ⟨M', e1, e2, e3, e4⟩ := c_j102 (M := M2) t2 ((hrow_36 t3).trans hr1) hn hn8 k d w (nI (tv f T (te f T p)))
      rw [if_pos c2, if_pos c2, if_neg (by decide), Option.bind_some, t1, Option.bind_some, s2.2.2.2.2 c2.1, e1]
      exact ⟨1, M', rfl, XF_trans (XF_36 s3) (XF_trans (XF_36 t3) e4), Or.inr ⟨_, _, rfl, rfl, e2, e3⟩⟩
    · rw [if_neg c2, if_neg c2, if_pos rfl]
      exact ⟨0, M1, rfl, XF_36 s3, Or.inl ⟨_, rfl, rfl, s2⟩⟩
  · obtain ⟨M', e1, e2, e3, e4⟩ := c_j102 (M := M) hL hr hn hn8 k d w (-1)
    rw [if_neg c, if_neg c, if_pos rfl, e1]
    exact ⟨1, M', rfl, e4, Or.inr ⟨_, _, rfl, rfl, e2, e3⟩⟩
theorem c_nameItem (h : TPc f T M) (hL : LC f T M p) (hp : p ≤ T) (hr : hrow M 23 = A) (hn : okN A) (hn8 : nn A < 8) (hw : tw f T p < 7) : ∃ v M', f_X2_nameItem 23 (nI (tw f T p)) M = some (v, M') ∧ XF M M' ∧ ((∃ q, nameP f T (nn A) p = .inl q ∧ v = 0 ∧ LC f T M' q) ∨ ∃ r p2, nameP f T (nn A) p = .inr (r, p2) ∧ v = 1 ∧ LC f T M' p2 ∧ hrow M' 23 = apI A r) := by
  have h1 := te_le f hp
  have h2 := te_le f h1
  have k1 : ¬ nI (tw f T p) = 11 := fun q => by have := (nI_eq (b := 11) (by omega) (by omega)).mp q; omega
  have k2 : ¬ nI (tw f T p) = 10 := fun q => by have := (nI_eq (b := 10) (by omega) (by omega)).mp q; omega
  have ea : ∀ x y z, apI A (nI (tw f T p), x, y, z) = newA A (nn A) (nI (tw f T p)) x y z := fun x y z => by
    unfold apI
    rw [if_neg k1, if_neg k2]
  obtain ⟨M1, s1, s2, s3⟩ := c_adv h hL hp
  have hT1 : TPc f T M1 := XF_T h (XF_36 s3)
  unfold f_X2_nameItem nameP
  rw [if_pos hn8, s1, Option.bind_some, show (99 : Int32) = uW 100 from by decide, c_num s2 h1 (by omega), Option.bind_some]
  by_cases c : isN f T (te f T p) 100
  · obtain ⟨M2, t1, t2, t3⟩ := c_adv hT1 s2 h1
    have hT2 : TPc f T M2 := XF_T hT1 (XF_36 t3)
    have hr2 : hrow M2 23 = A := (hrow_36 t3).trans ((hrow_36 s3).trans hr)
    have x2 : XF M M2 := XF_trans (XF_36 s3) (XF_36 t3)
    rw [if_pos c, if_pos c, if_neg (by decide), Option.bind_some, t1, Option.bind_some, s2.2.2.2.2 c.1, c_isWord hT2 t2 h2 (w := 9) (by omega), Option.bind_some]
    generalize nI (tv f T (te f T p)) = du
    generalize te f T (te f T p) = p2 at t2 h2
    by_cases c9 : tw f T p2 = 9
    · obtain ⟨M3, u1, u2, u3⟩ := c_adv hT2 t2 h2
      have hT3 : TPc f T M3 := XF_T hT2 (XF_36 u3)
      have h3 := te_le f h2
      have hr3 : hrow M3 23 = A := (hrow_36 u3).trans hr2
      have x3 : XF M M3 := XF_trans x2 (XF_36 u3)
      rw [if_pos c9, if_neg (by decide), u1, Option.bind_some, c_num u2 h3 (by omega), Option.bind_some]
      by_cases c10 : isN f T (te f T p2) 100
      · obtain ⟨M4, v1, v2, v3⟩ := c_adv hT3 u2 h3
        have hT4 : TPc f T M4 := XF_T hT3 (XF_36 v3)
        have h4 := te_le f h3
        have hr4 : hrow M4 23 = A := (hrow_36 v3).trans hr3
        have eo : optP f T 9 100 0 p2 = .inr (nI (tv f T (te f T p2)), te f T (te f T p2)) := by unfold optP; rw [if_pos c9, if_pos c10]
        obtain ⟨v, M', e1, e2, e3⟩ := c_j64 hT4 v2 h4 hr4 hn hn8 (nI (tw f T p)) du (nI (tv f T (te f T p2)))
        rw [if_pos c10, if_neg (by decide), Option.bind_some, v1, Option.bind_some, u2.2.2.2.2 c10.1, e1]
        refine ⟨v, M', rfl, XF_trans x3 (XF_trans (XF_36 v3) e2), ?_⟩
        rcases e3 with ⟨q, g1, g2, g3⟩ | ⟨g, p3, g1, g2, g3, g4⟩
        · exact Or.inl ⟨q, two_inr_inl eo g1, g2, g3⟩
        · exact Or.inr ⟨_, p3, two_inr_inr eo g1, g2, g3, by rw [ea]; exact g4⟩
      · have eo : optP f T 9 100 0 p2 = .inl (te f T p2) := by unfold optP; rw [if_pos c9, if_neg c10]
        rw [if_neg c10, if_pos rfl]
        exact ⟨0, M3, rfl, x3, Or.inl ⟨_, two_inl eo, rfl, u2⟩⟩
    · have eo : optP f T 9 100 0 p2 = .inr (0, p2) := by unfold optP; rw [if_neg c9]
      obtain ⟨v, M', e1, e2, e3⟩ := c_j64 hT2 t2 h2 hr2 hn hn8 (nI (tw f T p)) du 0
      rw [if_neg c9, if_pos rfl, e1]
      refine ⟨v, M', rfl, XF_trans x2 e2, ?_⟩
      rcases e3 with ⟨q, g1, g2, g3⟩ | ⟨g, p3, g1, g2, g3, g4⟩
      · exact Or.inl ⟨q, two_inr_inl eo g1, g2, g3⟩
      · exact Or.inr ⟨_, p3, two_inr_inr eo g1, g2, g3, by rw [ea]; exact g4⟩
  · rw [if_neg c, if_neg c, if_pos rfl]
    exact ⟨0, M1, rfl, XF_36 s3, Or.inl ⟨_, rfl, rfl, s2⟩⟩
theorem setO_neg (A : Nat → Int32) (i : Nat) : setO A i (-1) = A := by unfold setO; rw [if_pos (by decide)]
theorem setO_nI (A : Nat → Int32) (i j : Nat) (hj : j < 100000) : setO A i (nI j) = upd A i (nI j) := by unfold setO; rw [if_neg (nI_pos (by omega))]
theorem c_j62 (h : TPc f T M) (hL : LC f T M p) (hp : p ≤ T) (hr : hrow M 23 = A) (hn : okN A) {u : Nat} (hu : u < 6) : ∃ v M', f_X2_personItem_j62 23 (nI u) M = some (v, M') ∧ XF M M' ∧ ((∃ q, optP f T 12 (nn A) (-1) p = .inl q ∧ v = 0 ∧ LC f T M' q) ∨ ∃ g p2, optP f T 12 (nn A) (-1) p = .inr (g, p2) ∧ v = 1 ∧ LC f T M' p2 ∧ hrow M' 23 = setO A (61 + u) g) := by
  have h8 := hn.2
  unfold f_X2_personItem_j62 optP
  rw [c_isWord h hL hp (w := 12) (by omega), Option.bind_some]
  by_cases c : tw f T p = 12
  · obtain ⟨M1, s1, s2, s3⟩ := c_adv h hL hp
    have h1 := te_le f hp
    have hr1 : hrow M1 23 = A := (hrow_36 s3).trans hr
    have hT1 : TPc f T M1 := XF_T h (XF_36 s3)
    rw [if_pos c, if_pos c, if_neg (by decide), s1, Option.bind_some, names23 hr1 hn, uW_lit, c_num s2 h1 (by omega), Option.bind_some]
    by_cases c2 : isN f T (te f T p) (nn A)
    · have c3 := c2.2
      have hw : ∀ x, zwr M1 (23 + 7) (nI u) x = some (zU M1 (23 + 7) u x) := fun x => wr (n := 6) rfl hu
      have x2 : XF M1 (zU M1 (23 + 7) u (nI (tv f T (te f T p)))) := fun a q1 q2 => zU_off (by omega)
      have hr2 : hrow (zU M1 (23 + 7) u (nI (tv f T (te f T p)))) 23 = upd A (61 + u) (nI (tv f T (te f T p))) := by rw [hrow_uW _ _ _ hu, hr1]
      have l2 : LC f T (zU M1 (23 + 7) u (nI (tv f T (te f T p)))) (te f T p) := LC_congr s2 (zU_off (by omega))
      rw [if_pos c2, if_pos c2, if_neg (by decide), s2.2.2.2.2 c2.1, hw, Option.bind_some]
      generalize zU M1 (23 + 7) u (nI (tv f T (te f T p))) = M2 at x2 hr2 l2
      obtain ⟨M3, t1, t2, t3⟩ := c_adv (XF_T hT1 x2) l2 h1
      rw [t1, Option.bind_some]
      exact ⟨1, M3, rfl, XF_trans (XF_36 s3) (XF_trans x2 (XF_36 t3)), Or.inr ⟨_, _, rfl, rfl, t2, by rw [hrow_36 t3, hr2, setO_nI _ _ _ (by omega)]⟩⟩
    · rw [if_neg c2, if_neg c2, if_pos rfl]
      exact ⟨0, M1, rfl, XF_36 s3, Or.inl ⟨_, rfl, rfl, s2⟩⟩
  · rw [if_neg c, if_neg c, if_pos rfl]
    exact ⟨1, M, rfl, XF_refl M, Or.inr ⟨_, _, rfl, rfl, hL, by rw [setO_neg]; exact hr⟩⟩
theorem c_personItem (h : TPc f T M) (hL : LC f T M p) (hp : p ≤ T) (hr : hrow M 23 = A) (hn : okN A) : ∃ v M', f_X2_personItem 23 M = some (v, M') ∧ XF M M' ∧ ((∃ q, persP f T (nn A) p = .inl q ∧ v = 0 ∧ LC f T M' q) ∨ ∃ r p2, persP f T (nn A) p = .inr (r, p2) ∧ v = 1 ∧ LC f T M' p2 ∧ hrow M' 23 = apI A r) := by
  have h1 := te_le f hp
  have h2 := te_le f h1
  obtain ⟨M1, s1, s2, s3⟩ := c_adv h hL hp
  have hT1 : TPc f T M1 := XF_T h (XF_36 s3)
  unfold f_X2_personItem persP
  rw [s1, Option.bind_some, show (5 : Int32) = uW 6 from by decide, c_num s2 h1 (by omega), Option.bind_some]
  by_cases c : isN f T (te f T p) 6
  · have c6 := c.2
    have ea : ∀ y z, apI A (10, nI (tv f T (te f T p)), y, z) = setO (setO A (55 + tv f T (te f T p)) y) (61 + tv f T (te f T p)) z := fun y z => by
      unfold apI
      show (if (10 : Int32) = 11 then _ else if (10 : Int32) = 10 then setO (setO A (55 + (nI (tv f T (te f T p))).toNatClampNeg) y) (61 + (nI (tv f T (te f T p))).toNatClampNeg) z else _) = _
      rw [if_neg (by decide), if_pos rfl, nI_clamp (by omega)]
    obtain ⟨M2, t1, t2, t3⟩ := c_adv hT1 s2 h1
    have hT2 : TPc f T M2 := XF_T hT1 (XF_36 t3)
    have hr2 : hrow M2 23 = A := (hrow_36 t3).trans ((hrow_36 s3).trans hr)
    have x2 : XF M M2 := XF_trans (XF_36 s3) (XF_36 t3)
    rw [if_pos c, if_pos c, if_neg (by decide), Option.bind_some, t1, Option.bind_some, s2.2.2.2.2 c.1, c_isWord hT2 t2 h2 (w := 11) (by omega), Option.bind_some]
    generalize tv f T (te f T p) = u at c6 ea
    generalize te f T (te f T p) = p2 at t2 h2
    by_cases c9 : tw f T p2 = 11
    · obtain ⟨M3, u1, u2, u3⟩ := c_adv hT2 t2 h2
      have hT3 : TPc f T M3 := XF_T hT2 (XF_36 u3)
      have h3 := te_le f h2
      have hr3 : hrow M3 23 = A := (hrow_36 u3).trans hr2
      have x3 : XF M M3 := XF_trans x2 (XF_36 u3)
      rw [if_pos c9, if_neg (by decide), u1, Option.bind_some, show (9999 : Int32) = uW 10000 from by decide, c_num u2 h3 (by omega), Option.bind_some]
      by_cases c10 : isN f T (te f T p2) 10000
      · have c11 := c10.2
        have hw : ∀ x, zwr M3 (23 + 6) (nI u) x = some (zU M3 (23 + 6) u x) := fun x => wr (n := 6) rfl c6
        have x4 : XF M3 (zU M3 (23 + 6) u (nI (tv f T (te f T p2)))) := fun a q1 q2 => zU_off (by omega)
        have hr4 : hrow (zU M3 (23 + 6) u (nI (tv f T (te f T p2)))) 23 = setO A (55 + u) (nI (tv f T (te f T p2))) := by rw [hrow_uP _ _ _ c6, hr3, setO_nI _ _ _ (by omega)]
        have l4 : LC f T (zU M3 (23 + 6) u (nI (tv f T (te f T p2)))) (te f T p2) := LC_congr u2 (zU_off (by omega))
        have eo : optP f T 11 10000 (-1) p2 = .inr (nI (tv f T (te f T p2)), te f T (te f T p2)) := by unfold optP; rw [if_pos c9, if_pos c10]
        rw [if_pos c10, if_neg (by decide), u2.2.2.2.2 c10.1, hw, Option.bind_some]
        generalize zU M3 (23 + 6) u (nI (tv f T (te f T p2))) = M4 at x4 hr4 l4
        have hT4 : TPc f T M4 := XF_T hT3 x4
        obtain ⟨M5, v1, v2, v3⟩ := c_adv hT4 l4 h3
        have hT5 : TPc f T M5 := XF_T hT4 (XF_36 v3)
        have nn5 : nn (setO A (55 + u) (nI (tv f T (te f T p2)))) = nn A := nn_setO (by omega)
        have hn5 : okN (setO A (55 + u) (nI (tv f T (te f T p2)))) := by
          rw [setO_nI _ _ _ (by omega)]
          unfold okN
          rw [nn_upd (by omega), upd_at, if_neg (by omega)]
          exact hn
        obtain ⟨v, M', e1, e2, e3⟩ := c_j62 hT5 v2 (te_le f h3) ((hrow_36 v3).trans hr4) hn5 c6
        rw [nn5] at e3
        rw [v1, Option.bind_some, e1]
        refine ⟨v, M', rfl, XF_trans x3 (XF_trans x4 (XF_trans (XF_36 v3) e2)), ?_⟩
        rcases e3 with ⟨q, g1, g2, g3⟩ | ⟨g, p3, g1, g2, g3, g4⟩
        · exact Or.inl ⟨q, two_inr_inl eo g1, g2, g3⟩
        · exact Or.inr ⟨_, p3, two_inr_inr eo g1, g2, g3, by rw [ea]; exact g4⟩
      · have eo : optP f T 11 10000 (-1) p2 = .inl (te f T p2) := by unfold optP; rw [if_pos c9, if_neg c10]
        rw [if_neg c10, if_pos rfl]
        exact ⟨0, M3, rfl, x3, Or.inl ⟨_, two_inl eo, rfl, u2⟩⟩
    · have eo : optP f T 11 10000 (-1) p2 = .inr (-1, p2) := by unfold optP; rw [if_neg c9]
      obtain ⟨v, M', e1, e2, e3⟩ := c_j62 hT2 t2 h2 hr2 hn c6
      rw [if_neg c9, if_pos rfl, e1]
      refine ⟨v, M', rfl, XF_trans x2 e2, ?_⟩
      rcases e3 with ⟨q, g1, g2, g3⟩ | ⟨g, p3, g1, g2, g3, g4⟩
      · exact Or.inl ⟨q, two_inr_inl eo g1, g2, g3⟩
      · exact Or.inr ⟨_, p3, two_inr_inr eo g1, g2, g3, by rw [ea, setO_neg]; exact g4⟩
  · rw [if_neg c, if_neg c, if_pos rfl]
    exact ⟨0, M1, rfl, XF_36 s3, Or.inl ⟨_, rfl, rfl, s2⟩⟩
theorem c_orderItem (h : TPc f T M) (hL : LC f T M p) (hp : p ≤ T) (hr : hrow M 23 = A) : ∃ v M', f_X2_orderItem 23 M = some (v, M') ∧ XF M M' ∧ ((∃ q, ordrP f T p = .inl q ∧ v = 0 ∧ LC f T M' q) ∨ ∃ r p2, ordrP f T p = .inr (r, p2) ∧ v = 1 ∧ LC f T M' p2 ∧ hrow M' 23 = apI A r) := by
  have h1 := te_le f hp
  obtain ⟨M1, s1, s2, s3⟩ := c_adv h hL hp
  have hT1 : TPc f T M1 := XF_T h (XF_36 s3)
  have hr1 : hrow M1 23 = A := (hrow_36 s3).trans hr
  unfold f_X2_orderItem ordrP
  rw [s1, Option.bind_some, show (719 : Int32) = uW 720 from by decide, c_num s2 h1 (by omega), Option.bind_some]
  by_cases c : isN f T (te f T p) 720
  · rw [if_pos c, if_pos c, if_neg (by decide), s2.2.2.2.2 c.1, Option.bind_some]
    have x2 : XF M1 (zU M1 23 9 (nI (tv f T (te f T p)))) := fun a q1 q2 => zU_off (by omega)
    have hr2 : hrow (zU M1 23 9 (nI (tv f T (te f T p)))) 23 = upd A 3 (nI (tv f T (te f T p))) := by
      rw [show zU M1 23 9 (nI (tv f T (te f T p))) = zU M1 23 (rp 3) (nI (tv f T (te f T p))) from rfl, hrow_uF _ _ _ _ (by omega), hr1]
    have l2 : LC f T (zU M1 23 9 (nI (tv f T (te f T p)))) (te f T p) := LC_congr s2 (zU_off (by omega))
    generalize zU M1 23 9 (nI (tv f T (te f T p))) = M2 at x2 hr2 l2
    obtain ⟨M3, t1, t2, t3⟩ := c_adv (XF_T hT1 x2) l2 h1
    rw [t1, Option.bind_some]
    refine ⟨1, M3, rfl, XF_trans (XF_36 s3) (XF_trans x2 (XF_36 t3)), Or.inr ⟨_, _, rfl, rfl, t2, ?_⟩⟩
    rw [hrow_36 t3, hr2]
    unfold apI
    rw [if_pos rfl]
  · rw [if_neg c, if_neg c, if_pos rfl]
    exact ⟨0, M1, rfl, XF_36 s3, Or.inl ⟨_, rfl, rfl, s2⟩⟩
theorem c_item (h : TPc f T M) (hL : LC f T M p) (hp : p ≤ T) (hr : hrow M 23 = A) (hn : okN A) : ∃ v M', f_X2_item 23 M = some (v, M') ∧ XF M M' ∧ ((∃ q, itemP f T (nn A) p = .inl q ∧ v = 0 ∧ LC f T M' q) ∨ ∃ r p2, itemP f T (nn A) p = .inr (r, p2) ∧ v = 1 ∧ LC f T M' p2 ∧ hrow M' 23 = apI A r) := by
  have h8 := hn.2
  unfold f_X2_item itemP
  rw [c_kind h hL hp, Option.bind_some]
  by_cases c : tw f T p < 7
  · rw [if_pos c, if_pos c, if_neg (nI_pos (by omega)), names23 hr hn]
    by_cases c8 : nn A < 8
    · obtain ⟨v, M', e1, e2, e3⟩ := c_nameItem h hL hp hr hn c8 c
      rw [if_neg (show ¬ (8 : Int32) ≤ nI (nn A) from nI_ge (b := 8) c8 (by omega)), e1, Option.bind_some]
      refine ⟨v, M', ?_, e2, e3⟩
      rcases e3 with ⟨q, -, rfl, -⟩ | ⟨r, p2, -, rfl, -⟩ <;> rfl
    · rw [if_pos (show (8 : Int32) ≤ nI (nn A) from nI_le (a := 8) (by omega) (by omega))]
      unfold nameP
      rw [if_neg c8]
      exact ⟨0, M, rfl, XF_refl M, Or.inl ⟨p, rfl, rfl, hL⟩⟩
  · rw [if_neg c, if_neg c, if_pos (by decide), c_isWord h hL hp (w := 7) (by omega), c_isWord h hL hp (w := 8) (by omega), Option.bind_some]
    by_cases c7 : tw f T p = 7
    · obtain ⟨v, M', e1, e2, e3⟩ := c_personItem h hL hp hr hn
      rw [if_pos c7, if_pos c7, if_neg (by decide), e1, Option.bind_some]
      refine ⟨v, M', ?_, e2, e3⟩
      rcases e3 with ⟨q, -, rfl, -⟩ | ⟨r, p2, -, rfl, -⟩ <;> rfl
    · rw [if_neg c7, if_neg c7, if_pos rfl, Option.bind_some]
      by_cases c9 : tw f T p = 8
      · obtain ⟨v, M', e1, e2, e3⟩ := c_orderItem h hL hp hr
        rw [if_pos c9, if_pos c9, if_neg (by decide), e1, Option.bind_some]
        refine ⟨v, M', ?_, e2, e3⟩
        rcases e3 with ⟨q, -, rfl, -⟩ | ⟨r, p2, -, rfl, -⟩ <;> rfl
      · rw [if_neg c9, if_neg c9, if_pos rfl]
        exact ⟨0, M, rfl, XF_refl M, Or.inl ⟨p, rfl, rfl, hL⟩⟩
end CI
