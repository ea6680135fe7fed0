/-! ONE ITEM, as both read it, and as the class reads it. -/
abbrev isN (f : Nat → Nat) (T p h : Nat) : Prop := ts f T p = 2 ∧ tv f T p < h
abbrev zRec : Type := Int32 × Int32 × Int32 × Int32
noncomputable def optP (f : Nat → Nat) (T w h : Nat) (d : Int32) (p : Nat) : Nat ⊕ (Int32 × Nat) := if tw f T p = w then (if isN f T (te f T p) h then .inr (nI (tv f T (te f T p)), te f T (te f T p)) else .inl (te f T p)) else .inr (d, p)
noncomputable def twoP (f : Nat → Nat) (T w h : Nat) (d : Int32) (w2 h2 : Nat) (d2 : Int32) (p : Nat) (K : Int32 → Int32 → zRec) : Nat ⊕ (zRec × Nat) := match optP f T w h d p with
  | .inl q => .inl q
  | .inr (a, p2) => match optP f T w2 h2 d2 p2 with
    | .inl q => .inl q
    | .inr (b, p3) => .inr (K a b, p3)
noncomputable def nameP (f : Nat → Nat) (T n p : Nat) : Nat ⊕ (zRec × Nat) := if n < 8 then (if isN f T (te f T p) 100 then twoP f T 9 100 0 10 n (-1) (te f T (te f T p)) (fun a b => (nI (tw f T p), nI (tv f T (te f T p)), a, b)) else .inl (te f T p)) else .inl p
noncomputable def persP (f : Nat → Nat) (T n p : Nat) : Nat ⊕ (zRec × Nat) := if isN f T (te f T p) 6 then twoP f T 11 10000 (-1) 12 n (-1) (te f T (te f T p)) (fun a b => (10, nI (tv f T (te f T p)), a, b)) else .inl (te f T p)
noncomputable def ordrP (f : Nat → Nat) (T p : Nat) : Nat ⊕ (zRec × Nat) := if isN f T (te f T p) 720 then .inr ((11, nI (tv f T (te f T p)), 0, 0), te f T (te f T p)) else .inl (te f T p)
noncomputable def itemP (f : Nat → Nat) (T n p : Nat) : Nat ⊕ (zRec × Nat) := if tw f T p < 7 then nameP f T n p else if tw f T p = 7 then persP f T n p else if tw f T p = 8 then ordrP f T p else .inl p
def setO (A : Nat → Int32) (i : Nat) (v : Int32) : Nat → Int32 := if v < 0 then A else upd A i v
/-- what an item makes of a row -/
def apI (A : Nat → Int32) (r : zRec) : Nat → Int32 := if r.1 = 11 then upd A 3 r.2.1 else if r.1 = 10 then setO (setO A (55 + r.2.1.toNatClampNeg) r.2.2.1) (61 + r.2.1.toNatClampNeg) r.2.2.2 else newA A (nn A) r.1 r.2.1 r.2.2.1 r.2.2.2
-- where they end
theorem opt_le {f : Nat → Nat} {T w h : Nat} {d : Int32} {p : Nat} (hp : p ≤ T) : (∃ q, optP f T w h d p = .inl q ∧ q ≤ T) ∨ ∃ v p2, optP f T w h d p = .inr (v, p2) ∧ p ≤ p2 ∧ p2 ≤ T ∧ (v = d ∨ ∃ j, j < h ∧ v = nI j) := by
  have h1 := te_le f hp
  have h2 := te_le f h1
  have h3 := te_ge f hp
  have h4 := te_ge f h1
  unfold optP
  by_cases c : tw f T p = w
  · rw [if_pos c]
    by_cases c2 : isN f T (te f T p) h
    · rw [if_pos c2]; exact Or.inr ⟨_, _, rfl, by omega, h2, Or.inr ⟨_, c2.2, rfl⟩⟩
    · rw [if_neg c2]; exact Or.inl ⟨_, rfl, h1⟩
  · rw [if_neg c]; exact Or.inr ⟨_, _, rfl, Nat.le_refl _, hp, Or.inl rfl⟩
section TW
variable {f : Nat → Nat} {T p w h w2 h2 : Nat} {d d2 : Int32} {K : Int32 → Int32 → zRec}
theorem two_inl {q : Nat} (e : optP f T w h d p = .inl q) : twoP f T w h d w2 h2 d2 p K = .inl q := by
  simp only [twoP, e]
theorem two_inr_inl {a : Int32} {p2 q : Nat} (e : optP f T w h d p = .inr (a, p2)) (e2 : optP f T w2 h2 d2 p2 = .inl q) : twoP f T w h d w2 h2 d2 p K = .inl q := by
  simp only [twoP, e, e2]
theorem two_inr_inr {a b : Int32} {p2 p3 : Nat} (e : optP f T w h d p = .inr (a, p2)) (e2 : optP f T w2 h2 d2 p2 = .inr (b, p3)) : twoP f T w h d w2 h2 d2 p K = .inr (K a b, p3) := by
  simp only [twoP, e, e2]
end TW
theorem two_le {f : Nat → Nat} {T w h w2 h2 : Nat} {d d2 : Int32} {p : Nat} {K : Int32 → Int32 → zRec} (hp : p ≤ T) : (∃ q, twoP f T w h d w2 h2 d2 p K = .inl q ∧ q ≤ T) ∨ ∃ a b p2, twoP f T w h d w2 h2 d2 p K = .inr (K a b, p2) ∧ p ≤ p2 ∧ p2 ≤ T ∧ (a = d ∨ ∃ j, j < h ∧ a = nI j) ∧ (b = d2 ∨ ∃ j, j < h2 ∧ b = nI j) := by
  rcases opt_le (f := f) (w := w) (h := h) (d := d) hp with ⟨q, e, h1⟩ | ⟨v, p2, e, h1, h3, h4⟩
  · exact Or.inl ⟨q, two_inl e, h1⟩
  · rcases opt_le (f := f) (w := w2) (h := h2) (d := d2) h3 with ⟨q, e2, h5⟩ | ⟨v2, p3, e2, h5, h6, h7⟩
    · exact Or.inl ⟨q, two_inr_inl e e2, h5⟩
    · exact Or.inr ⟨v, v2, p3, two_inr_inr e e2, by omega, h6, h4, h7⟩
theorem tw_gt {f : Nat → Nat} {T p : Nat} (hp : p ≤ T) (h : tw f T p < 13) : p < te f T p := by
  have := (tw_iff (f := f) (T := T) (e := p) (w := tw f T p) h).mp rfl
  exact te_gt f hp (by omega)
theorem nn_newA (A : Nat → Int32) (n : Nat) (k d w f : Int32) (h : n < 1000) : nn (newA A n k d w f) = n + 1 := by
  unfold nn newA
  rw [upd_at, if_pos rfl, nI_clamp (by omega)]
theorem nn_upd {A : Nat → Int32} {i : Nat} {v : Int32} (h : i ≠ 1) : nn (upd A i v) = nn A := nn_congr (by rw [upd_at, if_neg (Ne.symm h)])
theorem nn_setO {A : Nat → Int32} {i : Nat} {v : Int32} (h : i ≠ 1) : nn (setO A i v) = nn A := by
  unfold setO
  by_cases c : v < 0
  · rw [if_pos c]
  · rw [if_neg c]; exact nn_upd h
/-- a good item: where it ends, what it makes -/
theorem item_le {f : Nat → Nat} {T p D : Nat} {A : Nat → Int32} (hA : okA A D) (hp : p ≤ T) : (∃ q, itemP f T (nn A) p = .inl q ∧ q ≤ T) ∨ ∃ r p2, itemP f T (nn A) p = .inr (r, p2) ∧ p < p2 ∧ p2 ≤ T ∧ okA (apI A r) D ∧ nn (apI A r) = (if r.1 < 7 then nn A + 1 else nn A) ∧ ((∃ k, k < 7 ∧ r.1 = nI k ∧ nn A < 8) ∨ ((∃ q, q < 6 ∧ r.2.1 = nI q) ∧ r.1 = 10) ∨ ((∃ q, q < 720 ∧ r.2.1 = nI q) ∧ r.1 = 11)) := by
  have h1 := te_le f hp
  have h2 := te_le f h1
  have h3 := te_ge f hp
  have h4 := te_ge f h1
  unfold itemP
  by_cases c : tw f T p < 7
  · have hgt := tw_gt (f := f) hp (by omega)
    rw [if_pos c]
    unfold nameP
    by_cases c2 : nn A < 8
    · rw [if_pos c2]
      by_cases c3 : isN f T (te f T p) 100
      · rw [if_pos c3]
        rcases two_le (f := f) (w := 9) (h := 100) (d := 0) (w2 := 10) (h2 := nn A) (d2 := -1) (K := fun a b => (nI (tw f T p), nI (tv f T (te f T p)), a, b)) h2 with ⟨q, e, h5⟩ | ⟨a, b, p2, e, h5, h6, h7, h8⟩
        · exact Or.inl ⟨q, e, h5⟩
        · have k1 : ¬ nI (tw f T p) = 11 := fun q => by have := (nI_eq (b := 11) (by omega) (by omega)).mp q; omega
          have k2 : ¬ nI (tw f T p) = 10 := fun q => by have := (nI_eq (b := 10) (by omega) (by omega)).mp q; omega
          have ea : apI A (nI (tw f T p), nI (tv f T (te f T p)), a, b) = newA A (nn A) (nI (tw f T p)) (nI (tv f T (te f T p))) a b := by
            unfold apI
            rw [if_neg k1, if_neg k2]
          refine Or.inr ⟨_, p2, e, by omega, h6, ?_, ?_, Or.inl ⟨_, c, rfl, c2⟩⟩
          · rw [ea]
            have c4 := c3.2
            refine okA_new hA c2 ⟨_, by omega, rfl⟩ ⟨_, by omega, rfl⟩ ?_ h8
            rcases h7 with rfl | ⟨j, h9, rfl⟩
            · exact ⟨0, by omega, rfl⟩
            · exact ⟨j, by omega, rfl⟩
          · rw [ea, nn_newA _ _ _ _ _ _ (by omega), if_pos (show nI (tw f T p) < 7 from nI_lt (b := 7) c (by omega))]
      · rw [if_neg c3]; exact Or.inl ⟨_, rfl, h1⟩
    · rw [if_neg c2]; exact Or.inl ⟨_, rfl, hp⟩
  · rw [if_neg c]
    by_cases c2 : tw f T p = 7
    · have hgt := tw_gt (f := f) hp (by omega)
      rw [if_pos c2]
      unfold persP
      by_cases c3 : isN f T (te f T p) 6
      · rw [if_pos c3]
        have c4 := c3.2
        rcases two_le (f := f) (w := 11) (h := 10000) (d := -1) (w2 := 12) (h2 := nn A) (d2 := -1) (K := fun a b => (10, nI (tv f T (te f T p)), a, b)) h2 with ⟨q, e, h5⟩ | ⟨a, b, p2, e, h5, h6, h7, h8⟩
        · exact Or.inl ⟨q, e, h5⟩
        · have ea : apI A (10, nI (tv f T (te f T p)), a, b) = setO (setO A (55 + tv f T (te f T p)) a) (61 + tv f T (te f T p)) b := by
            unfold apI
            show (if (10 : Int32) = 11 then _ else if (10 : Int32) = 10 then setO (setO A (55 + (nI (tv f T (te f T p))).toNatClampNeg) a) (61 + (nI (tv f T (te f T p))).toNatClampNeg) b else _) = _
            rw [if_neg (by decide), if_pos rfl, nI_clamp (by omega)]
          refine Or.inr ⟨_, p2, e, by omega, h6, ?_, ?_, Or.inr (Or.inl ⟨⟨_, c4, rfl⟩, rfl⟩)⟩
          · rw [ea]
            have s1 : okA (setO A (55 + tv f T (te f T p)) a) D := by
              unfold setO
              by_cases q : a < 0
              · rw [if_pos q]; exact hA
              · rw [if_neg q]
                rcases h7 with rfl | ⟨j, h9, rfl⟩
                · exact absurd (by decide) q
                · exact okA_setP hA (by omega) ⟨j, by omega, rfl⟩
            have nnX : nn (setO A (55 + tv f T (te f T p)) a) = nn A := nn_setO (by omega)
            generalize setO A (55 + tv f T (te f T p)) a = X at s1 nnX
            unfold setO
            by_cases q : b < 0
            · rw [if_pos q]; exact s1
            · rw [if_neg q]
              refine okA_setW s1 (by omega) ?_
              rw [nnX]
              exact h8
          · rw [ea, nn_setO (by omega), nn_setO (by omega), if_neg (show ¬ (10 : Int32) < 7 by decide)]
      · rw [if_neg c3]; exact Or.inl ⟨_, rfl, h1⟩
    · rw [if_neg c2]
      by_cases c5 : tw f T p = 8
      · have hgt := tw_gt (f := f) hp (by omega)
        rw [if_pos c5]
        unfold ordrP
        by_cases c3 : isN f T (te f T p) 720
        · rw [if_pos c3]
          have c4 := c3.2
          have ea : apI A (11, nI (tv f T (te f T p)), 0, 0) = upd A 3 (nI (tv f T (te f T p))) := by
            unfold apI
            rw [if_pos rfl]
          refine Or.inr ⟨_, _, rfl, by omega, h2, ?_, ?_, Or.inr (Or.inr ⟨⟨_, c4, rfl⟩, rfl⟩)⟩
          · rw [ea]; exact okA_set3 hA ⟨_, by omega, rfl⟩
          · rw [ea, nn_upd (by omega), if_neg (show ¬ (11 : Int32) < 7 by decide)]
        · rw [if_neg c3]; exact Or.inl ⟨_, rfl, h1⟩
      · rw [if_neg c5]; exact Or.inl ⟨_, rfl, hp⟩
-- the class
theorem LC_congr {f : Nat → Nat} {T p : Nat} {M N : zM} (h : LC f T M p) (h36 : N 36 = M 36) : LC f T N p := by
  unfold LC
  rw [h36]; exact h
theorem wd_same (x : Nat) : (1 : Int32) = nI x ↔ x = 1 ∨ ¬ x < 2 ^ 31 ∧ (1 : Int32) = nI x := by
  constructor
  · intro h
    by_cases c : x < 2 ^ 31
    · left; exact ((nI_eq (a := 1) (by omega) c).mp h).symm
    · right; exact ⟨c, h⟩
  · rintro (rfl | h)
    · rfl
    · exact h.2
theorem z_char {w i : Nat} (h : i < zLen.getD w 0) (h2 : i < 1000) : zsc w (nI i) = some ((zByt.getD w []).getD i 0) := by
  unfold zsc
  rw [nI_clamp (by omega), if_neg]
  rintro (c | c)
  · exact nI_pos (by omega) c
  · omega
theorem z_len : ∀ w, w < 13 → zLen.getD w 0 < 20 := by decide
section CI
variable {f : Nat → Nat} {T p : Nat} {M : zM}
theorem c_isWord (h : TPc f T M) (hL : LC f T M p) (hp : p ≤ T) {w : Nat} (hw : w < 13) : f_X2_isWord w M = some (if tw f T p = w then 1 else 0) := by
  obtain ⟨l0, l1, l2, l3, -⟩ := hL
  have h120 := h.1
  have t5 := ts_lt f hp
  obtain ⟨k1, k2, k3, -⟩ := tok_TK f hp
  have hlen := z_len w hw
  unfold f_X2_isWord
  rw [l1, l2, l3]
  by_cases c : ts f T p = 1
  · rw [if_pos (by rw [c]; rfl), nI_sub k2]
    by_cases c2 : te f T p - tb f T p = zLen.getD w 0
    · rw [if_pos (by rw [c2]; rfl)]
      obtain ⟨m, m1, m2, m3⟩ := least (fun i => ¬ nI (f (tb f T p + i)) = (zByt.getD w []).getD i 0) (zLen.getD w 0)
      have good : ∀ i, i < m → nI (f (tb f T p + i)) = (zByt.getD w []).getD i 0 := fun i hi => Classical.byContradiction (m2 i hi)
      have iff : tw f T p = w ↔ m = zLen.getD w 0 := by
        rw [tw_iff hw]
        constructor
        · rintro ⟨-, -, q⟩
          refine Classical.byContradiction (fun e => ?_)
          exact (m3.resolve_left e) (q m (by omega))
        · intro e
          exact ⟨c, c2, fun i hi => good i (by omega)⟩
      have eb : ∀ i, i < zLen.getD w 0 → f_X4_byteAt (nI (tb f T p) + nI i) M = some (nI (f (tb f T p + i))) := fun i hi => by
        rw [nI_add, c_byteAt h (by omega)]
        unfold byI
        rw [if_pos (by omega)]
      refine zIter_steps (fun k => nI k) m 1000 _ (by omega) (fun k hk => ?_) ?_
      · rw [f_X2_isWord_l28, if_neg (show ¬ zsl w ≤ nI k from nI_ge (show k < zLen.getD w 0 by omega) (by omega)), l0, if_neg (by decide), l2, eb k (by omega), Option.bind_some, z_char (by omega) (by omega), Option.bind_some, if_pos (good k hk), nI_1]; rfl
      · rw [f_X2_isWord_l28]
        by_cases e : m = zLen.getD w 0
        · rw [if_pos (show zsl w ≤ nI m from nI_le (by omega) (by omega)), if_pos (iff.mpr e)]
        · rw [if_neg (show ¬ zsl w ≤ nI m from nI_ge (show m < zLen.getD w 0 by omega) (by omega)), l0, if_neg (by decide), l2, eb m (by omega), Option.bind_some, z_char (by omega) (by omega), Option.bind_some, if_neg (m3.resolve_left e), if_neg (fun q => e (iff.mp q))]
    · rw [if_neg (fun q : nI (te f T p - tb f T p) = zsl w => c2 ((nI_eq (by omega) (by omega)).mp q)), if_neg (fun q => c2 ((tw_iff hw).mp q).2.1)]
  · rw [if_neg (fun q : nI (ts f T p) = 1 => c ((nI_eq (b := 1) (by omega) (by omega)).mp q)), if_neg (fun q => c ((tw_iff hw).mp q).1)]
theorem uW_lt {h v : Nat} (hh : h < 100000) (hv : v < 100000) : uW h < nI v ↔ h ≤ v := by
  cases h with
  | zero =>
    rw [uW_0]
    exact ⟨fun _ => Nat.zero_le _, fun _ => Int32.lt_of_lt_of_le (by decide : (-1 : Int32) < 0) (nI_pos' (by omega))⟩
  | succ h =>
    rw [uW_s, nI_ltI (by omega) (by omega)]
    omega
theorem c_num (hL : LC f T M p) (hp : p ≤ T) {h : Nat} (hh : h < 100000) : f_X2_isNumberTo (uW h) M = some (if isN f T p h then 1 else 0) := by
  obtain ⟨l0, l1, l2, l3, l4⟩ := hL
  have t5 := ts_lt f hp
  have v5 := tv_le f hp
  unfold f_X2_isNumberTo
  rw [l1]
  by_cases c : ts f T p = 2
  · rw [if_pos (by rw [c]; rfl), l4 c]
    by_cases c2 : tv f T p < h
    · rw [if_neg (fun q => by have := (uW_lt hh (by omega)).mp q; omega), if_pos ⟨c, c2⟩]
    · rw [if_pos ((uW_lt hh (by omega)).mpr (by omega)), if_neg (fun q => c2 q.2)]
  · rw [if_neg (fun q : nI (ts f T p) = 2 => c ((nI_eq (b := 2) (by omega) (by omega)).mp q)), if_neg (fun q => c q.1)]
theorem c_adv (h : TPc f T M) (hL : LC f T M p) (hp : p ≤ T) : ∃ M', f_X2_step M = some M' ∧ LC f T M' (te f T p) ∧ ∀ a, a ≠ 36 → M' a = M a := c_step h hL.1 hL.2.2.2.1 (te_le f hp)
theorem c_kind (h : TPc f T M) (hL : LC f T M p) (hp : p ≤ T) : f_X2_kindTold M = some (if tw f T p < 7 then nI (tw f T p) else -1) := by
  have e : ∀ w, w < 13 → f_X2_isWord w M = some (if tw f T p = w then 1 else 0) := fun w hw => c_isWord h hL hp hw
  generalize tw f T p = x at e
  unfold f_X2_kindTold
  rw [e 0 (by omega), e 1 (by omega), e 2 (by omega), e 3 (by omega), e 4 (by omega), e 5 (by omega), e 6 (by omega)]
  by_cases h0 : x = 0
  · subst h0; rfl
  by_cases h1 : x = 1
  · subst h1; rfl
  by_cases h2 : x = 2
  · subst h2; rfl
  by_cases h3 : x = 3
  · subst h3; rfl
  by_cases h4 : x = 4
  · subst h4; rfl
  by_cases h5 : x = 5
  · subst h5; rfl
  by_cases h6 : x = 6
  · subst h6; rfl
  rw [if_neg h0, if_neg h1, if_neg h2, if_neg h3, if_neg h4, if_neg h5, if_neg h6, if_neg (by omega)]; rfl
end CI
