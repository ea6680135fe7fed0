/-! A TEXT: both read it alike. -/
/-- behind k good items: the row, where the next item begins -/
noncomputable def sqT (f : Nat → Nat) (T : Nat) (A : Nat → Int32) : Nat → (Nat → Int32) × Nat
  | 0 => (A, 0)
  | k + 1 => match itemP f T (nn (sqT f T A k).1) (sqT f T A k).2 with
    | .inl _ => sqT f T A k
    | .inr (r, p') => (apI (sqT f T A k).1 r, te f T p')
def gdT (f : Nat → Nat) (T : Nat) (A : Nat → Int32) (k : Nat) : Prop := ∃ r p', itemP f T (nn (sqT f T A k).1) (sqT f T A k).2 = .inr (r, p') ∧ ts f T p' = 3
theorem sq_next {f : Nat → Nat} {T k p' : Nat} {A : Nat → Int32} {r : zRec} (h : itemP f T (nn (sqT f T A k).1) (sqT f T A k).2 = .inr (r, p')) : sqT f T A (k + 1) = (apI (sqT f T A k).1 r, te f T p') := by
  rw [sqT, h]
theorem inr_pair {α β γ : Type} {x : α ⊕ (β × γ)} {a c : β} {b d : γ} (h : x = .inr (a, b)) (h2 : x = .inr (c, d)) : a = c ∧ b = d := by
  have h3 : (Sum.inr (a, b) : α ⊕ (β × γ)) = Sum.inr (c, d) := h.symm.trans h2
  injection h3 with h4
  exact ⟨congrArg Prod.fst h4, congrArg Prod.snd h4⟩
theorem inl_same {α β : Type} {x : α ⊕ β} {a c : α} (h : x = .inl a) (h2 : x = .inl c) : a = c := by
  have h3 : (Sum.inl a : α ⊕ β) = Sum.inl c := h.symm.trans h2
  injection h3
theorem inlr {α β : Type} {a : α} {b : β} (h : (Sum.inl a : α ⊕ β) = Sum.inr b) : False := by cases h
theorem sq_ok {f : Nat → Nat} {T D m : Nat} {A : Nat → Int32} (hA : okA A D) (hg : ∀ k, k < m → gdT f T A k) : ∀ k, k ≤ m → okA (sqT f T A k).1 D ∧ (sqT f T A k).2 ≤ T ∧ 2 * k ≤ (sqT f T A k).2 := by
  intro k
  induction k with
  | zero => intro _; exact ⟨hA, Nat.zero_le _, Nat.le_refl _⟩
  | succ k ih =>
    intro hk
    obtain ⟨h1, h2, h3⟩ := ih (by omega)
    obtain ⟨r, p', e, e3⟩ := hg k (by omega)
    rcases item_le (f := f) (T := T) h1 h2 with ⟨q, e2, -⟩ | ⟨r2, p2, e2, g1, g2, g3, -⟩
    · exact (inlr (e2.symm.trans e)).elim
    · rw [← (inr_pair e2 e).2] at e3
      rw [sq_next e2]
      have := te_gt f g2 (by omega)
      exact ⟨g3, te_le f g2, by show 2 * (k + 1) ≤ te f T p2; omega⟩
theorem item_end {f : Nat → Nat} {T p p2 D : Nat} {A : Nat → Int32} {r : zRec} (hA : okA A D) (hp : p ≤ T) (e : itemP f T (nn A) p = .inr (r, p2)) : p2 ≤ T := by
  rcases item_le (f := f) (T := T) hA hp with ⟨q, e2, -⟩ | ⟨r2, p3, e2, -, g2, -⟩
  · exact (inlr (e2.symm.trans e)).elim
  · rw [← (inr_pair e2 e).2]; exact g2
theorem item_okA {f : Nat → Nat} {T p p2 D : Nat} {A : Nat → Int32} {r : zRec} (hA : okA A D) (hp : p ≤ T) (e : itemP f T (nn A) p = .inr (r, p2)) : okA (apI A r) D := by
  rcases item_le (f := f) (T := T) hA hp with ⟨q, e2, -⟩ | ⟨r2, p3, e2, -, -, g2, -⟩
  · exact (inlr (e2.symm.trans e)).elim
  · rw [← (inr_pair e2 e).1]; exact g2
theorem item_nn {f : Nat → Nat} {T p p2 D : Nat} {A : Nat → Int32} {r : zRec} (hA : okA A D) (hp : p ≤ T) (e : itemP f T (nn A) p = .inr (r, p2)) : nn (apI A r) = if r.1 < 7 then nn A + 1 else nn A := by
  rcases item_le (f := f) (T := T) hA hp with ⟨q, e2, -⟩ | ⟨r2, p3, e2, -, -, -, g2, -⟩
  · exact (inlr (e2.symm.trans e)).elim
  · rw [← (inr_pair e2 e).1]; exact g2
theorem item_okR {f : Nat → Nat} {T p p2 D : Nat} {A : Nat → Int32} {r : zRec} (hA : okA A D) (hp : p ≤ T) (e : itemP f T (nn A) p = .inr (r, p2)) : okR A r := by
  rcases item_le (f := f) (T := T) hA hp with ⟨q, e2, -⟩ | ⟨r2, p3, e2, -, -, -, -, g2⟩
  · exact (inlr (e2.symm.trans e)).elim
  · rw [← (inr_pair e2 e).1]; exact g2
theorem item_fault {f : Nat → Nat} {T p q D : Nat} {A : Nat → Int32} (hA : okA A D) (hp : p ≤ T) (e : itemP f T (nn A) p = .inl q) : q ≤ T := by
  rcases item_le (f := f) (T := T) hA hp with ⟨u, e2, g⟩ | ⟨r2, p3, e2, -⟩
  · rw [← inl_same e2 e]; exact g
  · exact (inlr (e.symm.trans e2)).elim
/-- where the good items end -/
theorem sq_end {f : Nat → Nat} {T D : Nat} {A : Nat → Int32} (hT : T ≤ 120) (hA : okA A D) : ∃ m, m ≤ 60 ∧ (∀ k, k < m → gdT f T A k) ∧ ¬ gdT f T A m := by
  obtain ⟨m, h1, h2, h3⟩ := least (fun k => ¬ gdT f T A k) 61
  have hg : ∀ k, k < m → gdT f T A k := fun k hk => Classical.byContradiction (h2 k hk)
  have hm := (sq_ok hA hg m (Nat.le_refl _)).2
  exact ⟨m, by omega, hg, h3.resolve_left (by omega)⟩
/-- how it ends: with a fault, or well -/
def flT (f : Nat → Nat) (T : Nat) (A : Nat → Int32) (m q : Nat) : Prop := itemP f T (nn (sqT f T A m).1) (sqT f T A m).2 = .inl q ∨ ∃ r, itemP f T (nn (sqT f T A m).1) (sqT f T A m).2 = .inr (r, q) ∧ ts f T q ≠ 0 ∧ ts f T q ≠ 3
def wlT (f : Nat → Nat) (T : Nat) (A : Nat → Int32) (m : Nat) (r : zRec) (p' : Nat) : Prop := itemP f T (nn (sqT f T A m).1) (sqT f T A m).2 = .inr (r, p') ∧ ts f T p' = 0
theorem m1_sub {a : Nat} (h : a < 1000000) : ((-1) - nI a : Int32) < 0 := by
  have := pk_sneg (a := 0) (b := a + 1) (by omega) (by omega)
  rwa [show nI 0 - nI (a + 1) = (-1) - nI a from by
    rw [← nI_1, show nI 0 = 0 from rfl, show (-1 : Int32) = 0 - 1 from by decide, Int32.sub_sub, Int32.add_comm (nI a) 1]] at this
section TX
variable {f : Nat → Nat} {T m D : Nat} {A : Nat → Int32}
theorem c_read {M : zM} (h : TPc f T M) (hr : hrow M 23 = A) (hA : okA A D) (hm : m ≤ 60) (hg : ∀ k, k < m → gdT f T A k) (hng : ¬ gdT f T A m) : ∃ v N, f_X2_read 23 M = some (v, N) ∧ XF M N ∧ ((∃ q, flT f T A m q ∧ v = (-1) - nI (tb f T q)) ∨ ∃ r p', wlT f T A m r p' ∧ v = nI (m + 1) ∧ hrow N 23 = apI (sqT f T A m).1 r) := by
  have h120 := h.1
  unfold f_X2_read
  rw [Option.bind_some, Option.bind_some]
  have x0 : XF M (zU (zU M 36 0 1) 36 3 0) := XF_36 (fun a ha => by rw [zU_off ha, zU_off ha])
  obtain ⟨N1, s1, s2, s3⟩ := c_step (M := zU (zU M 36 0 1) 36 3 0) (XF_T h x0) (by rw [zU_at, if_neg (by omega), zU_same]) (zU_same _ _ _ _ : _ = nI 0) (Nat.zero_le T)
  have x1 : XF M N1 := XF_trans x0 (XF_36 s3)
  have hr1 : hrow N1 23 = A := by rw [hrow_36 s3, hrow_off (M := M) (fun a q1 q2 => by rw [zU_off (by omega), zU_off (by omega)])]; exact hr
  rw [s1, Option.bind_some]
  have key : ∃ z, zIter (f_X2_read_l16 23) 1000 (1, N1) = some z ∧ ∃ v N, z = (v, N) ∧ XF M N ∧ ((∃ q, flT f T A m q ∧ v = (-1) - nI (tb f T q)) ∨ ∃ r p', wlT f T A m r p' ∧ v = nI (m + 1) ∧ hrow N 23 = apI (sqT f T A m).1 r) := by
    refine zIter_inv (fun k st => ∃ N : zM, st = (nI (k + 1), N) ∧ LC f T N (sqT f T A k).2 ∧ hrow N 23 = (sqT f T A k).1 ∧ XF M N) _ m 1000 _ (by omega) ⟨N1, rfl, s2, hr1, x1⟩ (fun k st hk hI => ?_) (fun st hI => ?_)
    · obtain ⟨N, rfl, n1, n2, n3⟩ := hI
      obtain ⟨o1, o2, -⟩ := sq_ok hA hg k (by omega)
      obtain ⟨r, p', e, e3⟩ := hg k hk
      obtain ⟨v, N2, g1, g2, g3⟩ := c_item (XF_T h n3) n1 o2 n2 o1.1
      rw [f_X2_read_l16, if_neg (show ¬ (120 : Int32) < nI (k + 1) from nI_nlt (a := 120) (by omega) (by omega)), g1, Option.bind_some]
      rcases g3 with ⟨q, e2, -, -⟩ | ⟨r2, p2, e2, rfl, g4, g5⟩
      · exact (inlr (e2.symm.trans e)).elim
      · rw [← (inr_pair e2 e).2] at e3
        have hp2 := item_end o1 o2 e2
        obtain ⟨N3, t1, t2, t3⟩ := c_adv (XF_T h (XF_trans n3 g2)) g4 hp2
        have l1 : N2 36 1 = nI 3 := by rw [g4.2.1, e3]
        show ∃ s', ((if (1 : Int32) = 0 then _ else _) = some (Sum.inl s')) ∧ _
        rw [if_neg (by decide), l1, if_neg (show ¬ nI 3 = 0 by decide), if_pos (show nI 3 = 3 from rfl), t1, Option.bind_some, nI_1]
        exact ⟨_, rfl, N3, rfl, by rw [sq_next e2]; exact t2, by rw [sq_next e2, hrow_36 t3]; exact g5, XF_trans (XF_trans n3 g2) (XF_36 t3)⟩
    · obtain ⟨N, rfl, n1, n2, n3⟩ := hI
      obtain ⟨o1, o2, -⟩ := sq_ok hA hg m (Nat.le_refl _)
      obtain ⟨v, N2, g1, g2, g3⟩ := c_item (XF_T h n3) n1 o2 n2 o1.1
      rw [f_X2_read_l16, if_neg (show ¬ (120 : Int32) < nI (m + 1) from nI_nlt (a := 120) (by omega) (by omega)), g1, Option.bind_some]
      rcases g3 with ⟨q, e2, rfl, g4⟩ | ⟨r2, p2, e2, rfl, g4, g5⟩
      · show ∃ z, ((if (0 : Int32) = 0 then _ else _) = some (Sum.inr z)) ∧ _
        rw [if_pos rfl]
        unfold f_X2_read_j30
        rw [g4.2.2.1]
        exact ⟨_, rfl, _, N2, rfl, XF_trans n3 g2, Or.inl ⟨q, Or.inl e2, rfl⟩⟩
      · have hp2 := item_end o1 o2 e2
        have t5 := ts_lt f hp2
        show ∃ z, ((if (1 : Int32) = 0 then _ else _) = some (Sum.inr z)) ∧ _
        rw [if_neg (by decide), g4.2.1]
        by_cases c0 : ts f T p2 = 0
        · rw [if_pos (by rw [c0]; rfl)]
          exact ⟨_, rfl, _, N2, rfl, XF_trans n3 g2, Or.inr ⟨r2, p2, ⟨e2, c0⟩, rfl, g5⟩⟩
        · have c3 : ts f T p2 ≠ 3 := fun q => hng ⟨r2, p2, e2, q⟩
          rw [if_neg (nI_ne0 (by omega) (by omega)), if_neg (fun q : nI (ts f T p2) = 3 => c3 ((nI_eq (b := 3) (by omega) (by omega)).mp q))]
          unfold f_X2_read_j54
          rw [g4.2.2.1]
          exact ⟨_, rfl, _, N2, rfl, XF_trans n3 g2, Or.inl ⟨p2, Or.inr ⟨r2, e2, c0, c3⟩, rfl⟩⟩
  obtain ⟨z, k1, v, N, rfl, k2⟩ := key
  exact ⟨v, N, k1, k2⟩
/-- after a wrong must, the reference tells the fault -/
theorem m_j87w {N : zM} {c : Nat × Bool} {b : Bool} {q : Nat} (h : TPm f T N) (hL : AR f T N c) (hp : c.1 ≤ T) (e : muC f T c b = (q, true)) : ∃ N', f_X6_text_j87 (zbn b) N = some ((-1) - nI (tb f T q), N') ∧ N' 47 3 = N 47 3 ∧ N' 47 8 = 0 ∧ ∀ a, a ≠ 47 → N' a = N a := by
  obtain ⟨N1, a1, a2, a3⟩ := m_must h hL hp b
  rw [e] at a2
  unfold f_X6_text_j87
  have w13 : zU N1 47 8 0 47 13 = 1 := by rw [zU_at, if_neg (by omega), a2.2]; rfl
  have w9 : zU N1 47 8 0 47 9 = nI (tb f T q) := by rw [zU_at, if_neg (by omega), a2.1.1]
  rw [a1, Option.bind_some, Option.bind_some, w13, if_neg (by decide), w9]
  exact ⟨_, rfl, by rw [zU_at, if_neg (by omega), a3.1 3 (by omega) (by omega) (by omega) (by omega) (by omega)], zU_same _ _ _ _, fun a ha => by rw [zU_off ha, a3.2 a ha]⟩
theorem m_j74w {N : zM} {q : Nat} (h : TPm f T N) (hL : AR f T N (q, true)) (hp : q ≤ T) : ∃ N', f_X6_text_j74 N = some ((-1) - nI (tb f T q), N') ∧ N' 47 3 = N 47 3 ∧ N' 47 8 = 0 ∧ ∀ a, a ≠ 47 → N' a = N a := by
  unfold f_X6_text_j74
  by_cases c : N 47 11 = 0
  · rw [if_pos c]; exact m_j87w (b := true) h hL hp (mu_w f T q true)
  · rw [if_neg c]; exact m_j87w (b := false) h hL hp (mu_w f T q false)
/-- what stands written down behind the k-th item -/
def JT (f : Nat → Nat) (T : Nat) (A : Nat → Int32) (N0 : zM) (k : Nat) (N : zM) : Prop :=
  N 47 16 = nI (k + 1) ∧ GR N0 N ∧ (∀ j, j < k → ∃ r p', itemP f T (nn (sqT f T A j).1) (sqT f T A j).2 = .inr (r, p') ∧ itR N j r) ∧ ((∃ q, itemP f T (nn (sqT f T A k).1) (sqT f T A k).2 = .inl q ∧ AR f T N (q, true)) ∨ ∃ r p2, itemP f T (nn (sqT f T A k).1) (sqT f T A k).2 = .inr (r, p2) ∧ AR f T N (p2, false) ∧ itR N k r ∧ N 47 17 = nI (if r.1 < 7 then nn (sqT f T A k).1 + 1 else nn (sqT f T A k).1))
theorem m_one {N0 N : zM} (h : TPm f T N0) (hA : okA A D) (hm : m ≤ 60) (hg : ∀ k, k < m → gdT f T A k) {k : Nat} (hk : k < m) (hJ : JT f T A N0 k N) : ∃ N', f_X6_text_l33 N = some (.inl N') ∧ JT f T A N0 (k + 1) N' := by
  obtain ⟨j1, j2, j3, j4⟩ := hJ
  obtain ⟨o1, o2, -⟩ := sq_ok hA hg k (by omega)
  obtain ⟨o3, o4, -⟩ := sq_ok hA hg (k + 1) (by omega)
  obtain ⟨r, p', e, e3⟩ := hg k hk
  rcases j4 with ⟨q, e2, -⟩ | ⟨r2, p2, e2, l, it, n17⟩
  · exact (inlr (e2.symm.trans e)).elim
  · rw [← (inr_pair e2 e).2] at e3
    have hp2 := item_end o1 o2 e2
    have hT := GR_T h j2
    have h120 := h.1
    have l9 : N 47 9 = nI (tb f T p2) := l.1.1
    have l11 : N 47 11 = nI (min 3 (ts f T p2)) := l.1.2.2.1
    have tk := tok_TK f hp2
    have hb : tb f T p2 < T ∧ f (tb f T p2) = 59 := by
      obtain ⟨-, -, -, -, -, t6⟩ := tk
      rcases t6 with ⟨q, -⟩ | ⟨q, -⟩ | ⟨q, -⟩ | ⟨-, q1, -, -, -, q2, -⟩
      · omega
      · omega
      · omega
      · exact ⟨q1, q2.mp e3⟩
    have z54 : zrd N 54 (nI (tb f T p2)) = some 59 := by
      rw [rd (n := 120) rfl (by omega), (hT.2.2 _ (by omega)).1, hb.2]; rfl
    obtain ⟨N1, a1, a2, a3⟩ := m_must hT l hp2 true
    rw [mu_t] at a2
    have hnn : nn (sqT f T A (k + 1)).1 = if r2.1 < 7 then nn (sqT f T A k).1 + 1 else nn (sqT f T A k).1 := by
      rw [sq_next e2]; exact item_nn o1 o2 e2
    obtain ⟨N2, b1, b2, b3, b4, b5⟩ := m_readItem (n := nn (sqT f T A (k + 1)).1) (k := k + 1) (FR_T hT a3) a2 (te_le f hp2) (by rw [a3.1 16 (by omega) (by omega) (by omega) (by omega) (by omega), j1]) (by omega) (by rw [a3.1 17 (by omega) (by omega) (by omega) (by omega) (by omega), n17, hnn]) o3.1.2
    have hp3 : (sqT f T A (k + 1)).2 = te f T p2 := by rw [sq_next e2]
    refine ⟨N2, ?_, b2, GR_trans j2 (GR_trans (GR_FR a3) b4), fun j hj => ?_, ?_⟩
    · rw [f_X6_text_l33, l.2, if_pos (show zbn false = 0 by decide), l11, e3, if_pos (show nI (min 3 3) = 3 by decide), l9, z54, Option.bind_some, if_pos rfl, show f_X6_must 1 N = some N1 from a1, Option.bind_some, b1, Option.bind_some]
    · have h56 : ∀ i, i < 4 * (k + 1) → N2 56 i = N 56 i := fun i hi => by rw [b3 i hi, a3.2 56 (by omega)]
      by_cases ej : j = k
      · rw [ej]; exact ⟨r2, p2, e2, itR_congr it (by omega) h56⟩
      · obtain ⟨r3, p3, e4, e5⟩ := j3 j (by omega)
        exact ⟨r3, p3, e4, itR_congr e5 (by omega) h56⟩
    · rw [hp3]; exact b5
/-- the items told so, one behind the other -/
theorem m_apply {N : zM} {r : zRec} {p' : Nat} (hA : okA A D) (hm : m ≤ 60) (hg : ∀ k, k < m → gdT f T A k) (h48 : N 48 = A) (h16 : N 47 16 = nI (m + 1)) (hi : ∀ j, j < m → ∃ r p', itemP f T (nn (sqT f T A j).1) (sqT f T A j).2 = .inr (r, p') ∧ itR N j r) (he : itemP f T (nn (sqT f T A m).1) (sqT f T A m).2 = .inr (r, p')) (hr : itR N m r) : ∃ N', zIter f_X6_text_l113 1000 (0, 0, N) = some (nI (m + 1), N') ∧ N' 48 = apI (sqT f T A m).1 r ∧ ∀ a, a ≠ 48 → N' a = N a := by
  have key : ∃ z, zIter f_X6_text_l113 1000 (0, 0, N) = some z ∧ ∃ N', z = (nI (m + 1), N') ∧ N' 48 = apI (sqT f T A m).1 r ∧ ∀ a, a ≠ 48 → N' a = N a := by
    refine zIter_inv (fun k st => ∃ Q : zM, st = (nI k, nI k, Q) ∧ (k ≤ m → Q 48 = (sqT f T A k).1) ∧ (k = m + 1 → Q 48 = apI (sqT f T A m).1 r) ∧ ∀ a, a ≠ 48 → Q a = N a) _ (m + 1) 1000 _ (by omega) ⟨N, rfl, fun _ => h48, fun q => by omega, fun _ _ => rfl⟩ (fun k st hk hI => ?_) (fun st hI => ?_)
    · obtain ⟨Q, rfl, q1, -, q3⟩ := hI
      obtain ⟨o1, o2, -⟩ := sq_ok hA hg k (by omega)
      have get : ∃ rk pk, itemP f T (nn (sqT f T A k).1) (sqT f T A k).2 = .inr (rk, pk) ∧ itR N k rk ∧ (k = m → rk = r) := by
        by_cases ek : k = m
        · rw [ek]; exact ⟨r, p', he, hr, fun _ => rfl⟩
        · obtain ⟨rk, pk, e1, e2⟩ := hi k (by omega)
          exact ⟨rk, pk, e1, e2, fun c => absurd c ek⟩
      obtain ⟨rk, pk, e1, e2, e3⟩ := get
      have e2' : itR Q k rk := by
        unfold itR
        rw [q3 56 (by omega)]; exact e2
      obtain ⟨v, Q2, g1, g2, g3, g4⟩ := m_told (by omega) e2' (q1 (by omega)) o1 (item_okR o1 o2 e1)
      rw [f_X6_text_l113, q3 47 (by omega), h16, if_neg (nI_ge hk (by omega)), g1, Option.bind_some]
      show ∃ s', ((if 0 ≤ v then _ else _) = some (Sum.inl s')) ∧ _
      rw [if_pos g2, nI_1]
      refine ⟨_, rfl, Q2, rfl, fun hle => ?_, fun he2 => ?_, fun a ha => by rw [g4 a ha, q3 a ha]⟩
      · rw [g3, sq_next e1]
      · rw [g3, e3 (by omega), show k = m by omega]
    · obtain ⟨Q, rfl, -, q2, q3⟩ := hI
      rw [f_X6_text_l113, q3 47 (by omega), h16, if_pos (nI_le (Nat.le_refl _) (by omega))]
      exact ⟨_, rfl, Q, rfl, q2 rfl, q3⟩
  obtain ⟨z, k1, N', rfl, k2⟩ := key
  exact ⟨N', k1, k2⟩
theorem m_text {N : zM} (h : TPm f T N) (h48 : N 48 = A) (hA : okA A D) (hm : m ≤ 60) (hg : ∀ k, k < m → gdT f T A k) (hng : ¬ gdT f T A m) : ∃ v N', f_X6_text N = some (v, N') ∧ N' 47 3 = N 47 3 ∧ N' 47 8 = 0 ∧ (∀ a, a ≠ 47 → a ≠ 48 → a ≠ 56 → N' a = N a) ∧ ((∃ q, flT f T A m q ∧ v = (-1) - nI (tb f T q) ∧ N' 48 = A) ∨ ∃ r p', wlT f T A m r p' ∧ v = nI (m + 1) ∧ N' 48 = apI (sqT f T A m).1 r) := by
  have h120 := h.1
  have z1 : zrd (zU (zU (zU N 47 10 0) 47 13 0) 47 16 0) 48 1 = some (nI (nn A)) := by
    rw [← hA.1.1, ← h48, show N 48 1 = zU (zU (zU N 47 10 0) 47 13 0) 47 16 0 48 1 by rw [zU_off (by omega), zU_off (by omega), zU_off (by omega)]]
    exact rd48 (j := 1) (by omega)
  unfold f_X6_text
  rw [Option.bind_some, Option.bind_some, Option.bind_some, z1, Option.bind_some, Option.bind_some]
  have i10 : zU (zU (zU (zU N 47 10 0) 47 13 0) 47 16 0) 47 17 (nI (nn A)) 47 10 = nI 0 := by
    rw [zU_at, if_neg (by omega), zU_at, if_neg (by omega), zU_at, if_neg (by omega), zU_same]; rfl
  have i13 : zU (zU (zU (zU N 47 10 0) 47 13 0) 47 16 0) 47 17 (nI (nn A)) 47 13 = 0 := by
    rw [zU_at, if_neg (by omega), zU_at, if_neg (by omega), zU_same]
  have i16 : zU (zU (zU (zU N 47 10 0) 47 13 0) 47 16 0) 47 17 (nI (nn A)) 47 16 = nI 0 := by
    rw [zU_at, if_neg (by omega), zU_same]; rfl
  have i17 : zU (zU (zU (zU N 47 10 0) 47 13 0) 47 16 0) 47 17 (nI (nn A)) 47 17 = nI (nn A) := zU_same _ _ _ _
  have ij : ∀ j, j < 9 → zU (zU (zU (zU N 47 10 0) 47 13 0) 47 16 0) 47 17 (nI (nn A)) 47 j = N 47 j := fun j hj => by
    rw [zU_at, if_neg (by omega), zU_at, if_neg (by omega), zU_at, if_neg (by omega), zU_at, if_neg (by omega)]
  have io : ∀ a, a ≠ 47 → zU (zU (zU (zU N 47 10 0) 47 13 0) 47 16 0) 47 17 (nI (nn A)) a = N a := fun a ha => by
    rw [zU_off ha, zU_off ha, zU_off ha, zU_off ha]
  generalize zU (zU (zU (zU N 47 10 0) 47 13 0) 47 16 0) 47 17 (nI (nn A)) = N0 at i10 i13 i16 i17 ij io
  have hT0 : TPm f T N0 := TPm_congr h (ij 8 (by omega)) (io 54 (by omega))
  obtain ⟨N1, s1, s2, s3, s4⟩ := m_next hT0 i10 (Nat.zero_le T)
  have fr1 : FR N0 N1 := ⟨fun j a b c d _ => s3 j a b c d, s4⟩
  have hT1 : TPm f T N1 := FR_T hT0 fr1
  have a1 : AR f T N1 (0, false) := ⟨s2, by rw [s3 13 (by omega) (by omega) (by omega) (by omega), i13]; rfl⟩
  obtain ⟨N2, b1, b2, b3, b4, b5⟩ := m_readItem (n := nn A) (k := 0) hT1 a1 (Nat.zero_le T) (by rw [s3 16 (by omega) (by omega) (by omega) (by omega), i16]) (by omega) (by rw [s3 17 (by omega) (by omega) (by omega) (by omega), i17]) hA.1.2
  rw [s1, Option.bind_some, b1, Option.bind_some]
  have J0 : JT f T A N0 0 N2 := ⟨b2, GR_trans (GR_FR fr1) b4, fun j hj => by omega, b5⟩
  have key : ∃ z, zIter f_X6_text_l33 1000 N2 = some z ∧ ∃ v N', z = (v, N') ∧ N' 47 3 = N 47 3 ∧ N' 47 8 = 0 ∧ (∀ a, a ≠ 47 → a ≠ 48 → a ≠ 56 → N' a = N a) ∧ ((∃ q, flT f T A m q ∧ v = (-1) - nI (tb f T q) ∧ N' 48 = A) ∨ ∃ r p', wlT f T A m r p' ∧ v = nI (m + 1) ∧ N' 48 = apI (sqT f T A m).1 r) := by
    refine zIter_inv (fun k Q => JT f T A N0 k Q) _ m 1000 _ (by omega) J0 (fun k Q hk hI => m_one hT0 hA hm hg hk hI) (fun Q hI => ?_)
    obtain ⟨j1, j2, j3, j4⟩ := hI
    obtain ⟨o1, o2, -⟩ := sq_ok hA hg m (Nat.le_refl _)
    have hT := GR_T hT0 j2
    have q3 : Q 47 3 = N 47 3 := by rw [j2.1.1, ij 3 (by omega)]
    have q48 : Q 48 = A := by rw [j2.2 48 (by omega) (by omega), io 48 (by omega), h48]
    have qo : ∀ a, a ≠ 47 → a ≠ 56 → Q a = N a := fun a h1 h2 => by rw [j2.2 a h1 h2, io a h1]
    have bad : ∀ q, flT f T A m q → (∃ N', f_X6_text_j74 Q = some ((-1) - nI (tb f T q), N') ∧ N' 47 3 = Q 47 3 ∧ N' 47 8 = 0 ∧ ∀ a, a ≠ 47 → N' a = Q a) → ∃ z, ((f_X6_text_j74 Q).bind fun z => some (Sum.inr z) : Option (zM ⊕ (Int32 × zM))) = some (.inr z) ∧ ∃ v N', z = (v, N') ∧ N' 47 3 = N 47 3 ∧ N' 47 8 = 0 ∧ (∀ a, a ≠ 47 → a ≠ 48 → a ≠ 56 → N' a = N a) ∧ ((∃ q, flT f T A m q ∧ v = (-1) - nI (tb f T q) ∧ N' 48 = A) ∨ ∃ r p', wlT f T A m r p' ∧ v = nI (m + 1) ∧ N' 48 = apI (sqT f T A m).1 r) := by
      rintro q hq ⟨N', w1, w2, w3, w4⟩
      exact ⟨_, by rw [w1]; rfl, _, N', rfl, by rw [w2, q3], w3, fun a h1 h2 h3 => by rw [w4 a h1, qo a h1 h3], Or.inl ⟨q, hq, rfl, by rw [w4 48 (by omega), q48]⟩⟩
    rcases j4 with ⟨q, e2, l⟩ | ⟨r, p2, e2, l, it, -⟩
    · have hq := item_fault o1 o2 e2
      rw [f_X6_text_l33, l.2, if_neg (show ¬ zbn true = 0 by decide)]
      exact bad q (Or.inl e2) (m_j74w hT l hq)
    · have hp2 := item_end o1 o2 e2
      have t5 := ts_lt f hp2
      have c3 : ts f T p2 ≠ 3 := fun q => hng ⟨r, p2, e2, q⟩
      have l9 : Q 47 9 = nI (tb f T p2) := l.1.1
      have l11 : Q 47 11 = nI (min 3 (ts f T p2)) := l.1.2.2.1
      have to74 : f_X6_text_l33 Q = (f_X6_text_j74 Q).bind fun z => some (Sum.inr z) := by
        rw [f_X6_text_l33, l.2, if_pos (show zbn false = 0 by decide), l11]
        by_cases c4 : ts f T p2 = 4
        · have hb : tb f T p2 < T ∧ f (tb f T p2) ≠ 59 := by
            obtain ⟨-, -, -, -, -, t6⟩ := tok_TK f hp2
            rcases t6 with ⟨q, -⟩ | ⟨q, -⟩ | ⟨q, -⟩ | ⟨-, q1, -, -, -, q2, -⟩
            · omega
            · omega
            · omega
            · exact ⟨q1, fun q => c3 (q2.mpr q)⟩
          have z54 : zrd Q 54 (nI (tb f T p2)) = some (nI (f (tb f T p2))) := by
            rw [rd (n := 120) rfl (by omega), (hT.2.2 _ (by omega)).1]
          have f256 := (hT.2.2 (tb f T p2) (by omega)).2
          rw [c4, if_pos (show nI (min 3 4) = 3 by decide), l9, z54, Option.bind_some, if_neg (fun q : nI (f (tb f T p2)) = 59 => hb.2 ((nI_eq (b := 59) (by omega) (by omega)).mp q))]
        · rw [if_neg (fun q => by have := (nI_eq (b := 3) (by omega) (by omega)).mp q; omega)]
      rw [to74]
      by_cases c0 : ts f T p2 = 0
      · obtain ⟨N3, a1, a2, a3⟩ := m_must hT l hp2 true
        rw [mu_t] at a2
        have w8 : zU N3 47 8 0 47 13 = 0 := by rw [zU_at, if_neg (by omega), a2.2]; rfl
        have w56 : zU N3 47 8 0 56 = Q 56 := by rw [zU_off (by omega), a3.2 56 (by omega)]
        have itc : ∀ j rj, itR Q j rj → itR (zU N3 47 8 0) j rj := fun j rj hj => by
          unfold itR
          rw [w56]; exact hj
        obtain ⟨N4, d1, d2, d3⟩ := m_apply (N := zU N3 47 8 0) hA hm hg (by rw [zU_off (by omega), a3.2 48 (by omega), q48]) (by rw [zU_at, if_neg (by omega), a3.1 16 (by omega) (by omega) (by omega) (by omega) (by omega), j1]) (fun j hj => by
          obtain ⟨rj, pj, e5, e6⟩ := j3 j hj
          exact ⟨rj, pj, e5, itc j rj e6⟩) e2 (itc m r it)
        unfold f_X6_text_j74 f_X6_text_j87
        rw [l11, c0, if_pos (show nI (min 3 0) = 0 by decide), show f_X6_must 1 Q = some N3 from a1, Option.bind_some, Option.bind_some, w8, if_pos rfl, d1]
        refine ⟨_, rfl, _, N4, rfl, ?_, ?_, fun a h1 h2 h3 => ?_, Or.inr ⟨r, p2, ⟨e2, c0⟩, rfl, d2⟩⟩
        · rw [d3 47 (by omega), zU_at, if_neg (by omega), a3.1 3 (by omega) (by omega) (by omega) (by omega) (by omega), q3]
        · rw [d3 47 (by omega), zU_same]
        · rw [d3 a h2, zU_off h1, a3.2 a h1, qo a h1 h3]
      · refine bad p2 (Or.inr ⟨r, e2, c0, c3⟩) ?_
        unfold f_X6_text_j74
        rw [l11, if_neg (nI_ne0 (by omega) (by omega))]
        exact m_j87w (b := false) hT l hp2 (mu_f f T p2)
  obtain ⟨z, k1, v, N', rfl, k2⟩ := key
  exact ⟨v, N', k1, k2⟩
end TX
/-- what both may leave behind -/
theorem RR_new {M M2 : zM} {D : Nat} {A : Nat → Int32} (h : RR M D) (h1 : hrow M2 1 = A) (h2 : M2 48 = A) (hA : okA A D) (hf : ∀ a, RSc a → a ≠ 34 → M2 a = M a) (h47 : M2 47 3 = M 47 3) (h50 : ∀ j, 67 ≤ j → M2 50 j = 0) (h34 : M2 34 1 = 0) (h8 : M2 47 8 = 0) : RR M2 D := by
  obtain ⟨r0, r00, r1, r2, r3, r4, r5, r6, r7, r8⟩ := h
  have e0 := hf 0 (by unfold RSc; omega) (by omega)
  have e35 := hf 35 (by unfold RSc; omega) (by omega)
  have e38 := hf 38 (by unfold RSc; omega) (by omega)
  have e49 := hf 49 (by unfold RSc; omega) (by omega)
  have e51 := hf 51 (by unfold RSc; omega) (by omega)
  have e54 := hf 54 (by unfold RSc; omega) (by omega)
  have e57 := hf 57 (by unfold RSc; omega) (by omega)
  have e58 := hf 58 (by unfold RSc; omega) (by omega)
  have e59 := hf 59 (by unfold RSc; omega) (by omega)
  have eh : hrow M2 12 = hrow M 12 := hrow_off (fun a h1 h2 => hf a (by unfold RSc; omega) (by omega))
  refine ⟨by rw [h1, h2], by rw [h2]; exact hA, by rw [e49]; exact r1, h50, by rw [h47, e0]; exact r3, by rw [e0, e49, eh]; exact r4, by rw [e51, e38]; exact r5, by rw [e51, e38]; exact r6, ⟨by rw [h8, h34], by rw [h34]; exact ⟨0, by omega, rfl⟩, by rw [e54, e35]; exact r7.2.2⟩, fun s hs => ?_⟩
  have ea := hf (39 + 2 * s) (by unfold RSc; omega) (by omega)
  have eb := hf (40 + 2 * s) (by unfold RSc; omega) (by omega)
  rw [e57, e58, e59, ea, eb]
  exact r8 s hs
theorem fl_wl {f : Nat → Nat} {T m q p' : Nat} {A : Nat → Int32} {r : zRec} (h : flT f T A m q) (h2 : wlT f T A m r p') : False := by
  rcases h with e | ⟨r2, e, c, -⟩
  · exact inlr (e.symm.trans h2.1)
  · exact c (by rw [(inr_pair e h2.1).2]; exact h2.2)
theorem fl_fl {f : Nat → Nat} {T m q u : Nat} {A : Nat → Int32} (h : flT f T A m q) (h2 : flT f T A m u) : q = u := by
  rcases h with e | ⟨r, e, -, -⟩ <;> rcases h2 with e2 | ⟨r2, e2, -, -⟩
  · exact inl_same e e2
  · exact (inlr (e.symm.trans e2)).elim
  · exact (inlr (e2.symm.trans e)).elim
  · exact (inr_pair e e2).2
theorem pe_text : PE f_X5_text f_X6_text := by
  intro M D hD h
  obtain ⟨-, -, -, -, -, -, ⟨t1, ⟨T, hT, t2⟩, t3⟩, -⟩ := id h.2.2
  have hA := h.2.1
  have h48 := h.1
  generalize hAA : M 48 = A at hA h48
  have f35 : ∀ i, i < 120 → M 35 i = nI ((M 35 i).toNatClampNeg) ∧ (M 35 i).toNatClampNeg < 256 := fun i hi => by
    obtain ⟨b, hb, eb⟩ := (t3 i hi).2
    rw [eb, nI_clamp (by omega)]; exact ⟨rfl, by omega⟩
  generalize hff : (fun i => (M 35 i).toNatClampNeg) = f
  have f35' : ∀ i, i < 120 → M 35 i = nI (f i) ∧ f i < 256 := fun i hi => by rw [← hff]; exact f35 i hi
  have hTc : TPc f T M := ⟨hT, t2, f35'⟩
  obtain ⟨m, m1, m2, m3⟩ := sq_end (f := f) hT hA
  obtain ⟨M4, e1, e2, e3⟩ := h_become (M := M) isH_23 isH_1 (by omega)
  have x4 : XF M M4 := fun a q1 _ => e3 a (by omega)
  obtain ⟨v, M7, g1, g2, g3⟩ := c_read (XF_T hTc x4) (by rw [e2, ← h48]) hA m1 m2 m3
  have x7 := XF_trans x4 g2
  have ref : ∀ Q : zM, (∀ a, a = 47 ∨ a = 48 ∨ a = 54 → Q a = M a) → ∃ v N', f_X6_text Q = some (v, N') ∧ N' 47 3 = Q 47 3 ∧ N' 47 8 = 0 ∧ (∀ a, a ≠ 47 → a ≠ 48 → a ≠ 56 → N' a = Q a) ∧ ((∃ q, flT f T A m q ∧ v = (-1) - nI (tb f T q) ∧ N' 48 = A) ∨ ∃ r p', wlT f T A m r p' ∧ v = nI (m + 1) ∧ N' 48 = apI (sqT f T A m).1 r) := fun Q hQ => m_text ⟨hT, by rw [hQ 47 (by omega), t1, t2], fun i hi => by rw [hQ 54 (by omega), (t3 i hi).1]; exact f35' i hi⟩ (by rw [hQ 48 (by omega), hAA]) hA m1 m2 m3
  rcases g3 with ⟨q, c1, rfl⟩ | ⟨r, p', c1, rfl, c2⟩
  · have hneg : ((-1) - nI (tb f T q) : Int32) < 0 := by
      have hq : q ≤ T := by
        obtain ⟨o1, o2, -⟩ := sq_ok hA m2 m (Nat.le_refl _)
        rcases c1 with c | ⟨r, c, -, -⟩
        · exact item_fault o1 o2 c
        · exact item_end o1 o2 c
      exact m1_sub (by have h5 := (tok_TK f hq).2.1; have h6 := (tok_TK f hq).2.2.1; omega)
    have y7 : ∀ a, a ≠ 34 → (a < 23 ∨ 33 < a) → a ≠ 36 → zU M7 34 1 0 a = M a := fun a q1 q2 q3 => by rw [zU_off q1, x7 a q2 q3]
    obtain ⟨w, N, n1, n2, n3, n4, n5⟩ := ref (zU M7 34 1 0) (fun a ha => y7 a (by omega) (by omega) (by omega))
    rcases n5 with ⟨q2, d1, d2, d3⟩ | ⟨r, p', d1, -, -⟩
    · have eq : q2 = q := fl_fl d1 c1
      rw [d2, eq] at n1
      refine ⟨_, zU M7 34 1 0, N, ?_, n1, RR_mono (RR_new h (A := A) ?_ d3 hA (fun a q1 q3 => ?_) (by rw [n2, y7 47 (by omega) (by omega) (by omega)]) (fun j hj => by rw [n4 50 (by omega) (by omega) (by omega), y7 50 (by omega) (by omega) (by omega)]; exact RR_50 h j hj) (by rw [n4 34 (by omega) (by omega) (by omega), zU_same]) n3) (by omega)⟩
      · unfold f_X5_text
        rw [e1, Option.bind_some, g1, Option.bind_some]
        show (if ((-1) - nI (tb f T q) : Int32) < 0 then _ else _) = _
        rw [if_pos hneg]; rfl
      · rw [h48]; exact hrow_off (fun a q1 q3 => by rw [n4 a (by omega) (by omega) (by omega), y7 a (by omega) (by omega) (by omega)])
      · unfold RSc at q1
        rw [n4 a (by omega) (by omega) (by omega), y7 a q3 (by omega) (by omega)]
    · exact (fl_wl c1 d1).elim
  · obtain ⟨o1, o2, -⟩ := sq_ok hA m2 m (Nat.le_refl _)
    have hA2 : okA (apI (sqT f T A m).1 r) D := item_okA o1 o2 c1.1
    obtain ⟨M10, b1, b2, b3⟩ := h_become (M := M7) isH_1 isH_23 (by omega)
    have y7 : ∀ a, a ≠ 34 → (9 < a ∧ (a < 23 ∨ 33 < a) ∨ a = 0) → a ≠ 36 → zU M10 34 1 0 a = M a := fun a q1 q2 q3 => by rw [zU_off q1, b3 a (by omega), x7 a (by omega) q3]
    obtain ⟨w, N, n1, n2, n3, n4, n5⟩ := ref (zU M10 34 1 0) (fun a ha => y7 a (by omega) (by omega) (by omega))
    rcases n5 with ⟨q2, d1, -, -⟩ | ⟨r2, p2, d1, d2, d3⟩
    · exact (fl_wl d1 c1).elim
    · rw [(inr_pair d1.1 c1.1).1] at d3
      rw [d2] at n1
      refine ⟨_, zU M10 34 1 0, N, ?_, n1, RR_mono (RR_new h ?_ d3 hA2 (fun a q1 q3 => ?_) (by rw [n2, y7 47 (by omega) (by omega) (by omega)]) (fun j hj => by rw [n4 50 (by omega) (by omega) (by omega), y7 50 (by omega) (by omega) (by omega)]; exact RR_50 h j hj) (by rw [n4 34 (by omega) (by omega) (by omega), zU_same]) n3) (by omega)⟩
      · unfold f_X5_text
        rw [e1, Option.bind_some, g1, Option.bind_some]
        show (if nI (m + 1) < 0 then _ else _) = _
        rw [if_neg (nI_pos (by omega)), b1]; rfl
      · rw [hrow_off (M := M10) (fun a q1 q3 => by rw [n4 a (by omega) (by omega) (by omega), zU_off (by omega)]), b2, c2]
      · unfold RSc at q1
        rw [n4 a (by omega) (by omega) (by omega), y7 a q3 (by omega) (by omega)]
