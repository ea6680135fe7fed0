/-! ONE TOKEN ON: the class's reader, the reference's. -/
theorem TPc_congr {f : Nat → Nat} {T : Nat} {M N : zM} (h : TPc f T M) (h34 : N 34 = M 34) (h35 : N 35 = M 35) : TPc f T N := ⟨h.1, by rw [h34]; exact h.2.1, by rw [h35]; exact h.2.2⟩
theorem TPm_congr {f : Nat → Nat} {T : Nat} {M N : zM} (h : TPm f T M) (h47 : N 47 8 = M 47 8) (h54 : N 54 = M 54) : TPm f T N := ⟨h.1, by rw [h47]; exact h.2.1, by rw [h54]; exact h.2.2⟩
/-- the class's reader stands at the token read from e on -/
def LC (f : Nat → Nat) (T : Nat) (M : zM) (e : Nat) : Prop := M 36 0 = 1 ∧ M 36 1 = nI (ts f T e) ∧ M 36 2 = nI (tb f T e) ∧ M 36 3 = nI (te f T e) ∧ (ts f T e = 2 → M 36 4 = nI (tv f T e))
/-- the reference's -/
def LR (f : Nat → Nat) (T : Nat) (M : zM) (e : Nat) : Prop := M 47 9 = nI (tb f T e) ∧ M 47 10 = nI (te f T e) ∧ M 47 11 = nI (min 3 (ts f T e)) ∧ M 47 12 = nI (tv f T e)
theorem lt_t {f : Nat → Nat} {T j : Nat} (hf : j < T → f j < 256) (h : j < T ∧ ltN (f j)) : (if byI f T j < 97 then (0 : Int32) else if 122 < byI f T j then 0 else 1) = 1 := by rw [by_lt hf, if_pos h]
theorem lt_f {f : Nat → Nat} {T j : Nat} (hf : j < T → f j < 256) (h : ¬ (j < T ∧ ltN (f j))) : (if byI f T j < 97 then (0 : Int32) else if 122 < byI f T j then 0 else 1) = 0 := by rw [by_lt hf, if_neg h]
theorem dg_t {f : Nat → Nat} {T j : Nat} (hf : j < T → f j < 256) (h : j < T ∧ dgN (f j)) : (if byI f T j < 48 then (0 : Int32) else if 57 < byI f T j then 0 else 1) = 1 := by rw [by_dg hf, if_pos h]
theorem dg_f {f : Nat → Nat} {T j : Nat} (hf : j < T → f j < 256) (h : ¬ (j < T ∧ dgN (f j))) : (if byI f T j < 48 then (0 : Int32) else if 57 < byI f T j then 0 else 1) = 0 := by rw [by_dg hf, if_neg h]
theorem c_word {f : Nat → Nat} {T b e' : Nat} {M : zM} (h : TPc f T M) (h0 : M 36 0 = 1) (h3 : M 36 3 = nI b) (hb : b < e') (hT : e' ≤ T) (hl : ∀ j, b ≤ j → j < e' → ltN (f j)) (hx : e' < T → ¬ ltN (f e')) : ∃ M', f_X2_stepWord M = some M' ∧ M' 36 3 = nI e' ∧ (∀ j, j ≠ 3 → M' 36 j = M 36 j) ∧ ∀ a, a ≠ 36 → M' a = M a := by
  have h120 := h.1
  unfold f_X2_stepWord
  refine zIter_inv (fun k N => N 36 3 = nI (b + k) ∧ (∀ j, j ≠ 3 → N 36 j = M 36 j) ∧ ∀ a, a ≠ 36 → N a = M a) _ (e' - b) 1000 _ (by omega) ⟨h3, fun _ _ => rfl, fun _ _ => rfl⟩ (fun k N hk hI => ?_) (fun N hI => ?_)
  · obtain ⟨n1, n2, n3⟩ := hI
    have hN : TPc f T N := TPc_congr h (n3 34 (by omega)) (n3 35 (by omega))
    have n0 : N 36 0 = 1 := by rw [n2 0 (by omega), h0]
    rw [f_X2_stepWord_l0, n1, n0, if_neg (show ¬ (120 : Int32) ≤ nI (b + k) from nI_ge (b := 120) (by omega) (by decide)), if_neg (by decide), c_byteAt hN (by omega), Option.bind_some, f_isLetter_eq, Option.bind_some, lt_t (fun q => (h.2.2 _ (by omega)).2) ⟨by omega, hl _ (by omega) (by omega)⟩, if_neg (by decide), nI_1]
    exact ⟨_, rfl, zU_same _ _ _ _, fun j hj => by rw [zU_at, if_neg (fun q => hj q.2)]; exact n2 j hj, fun a ha => by rw [zU_off ha]; exact n3 a ha⟩
  · obtain ⟨n1, n2, n3⟩ := hI
    rw [show b + (e' - b) = e' by omega] at n1
    have hN : TPc f T N := TPc_congr h (n3 34 (by omega)) (n3 35 (by omega))
    have n0 : N 36 0 = 1 := by rw [n2 0 (by omega), h0]
    rw [f_X2_stepWord_l0, n1, n0]
    by_cases c : (120 : Int32) ≤ nI e'
    · rw [if_pos c]; exact ⟨_, rfl, n1, n2, n3⟩
    · rw [if_neg c, if_neg (by decide), c_byteAt hN (by omega), Option.bind_some, f_isLetter_eq, Option.bind_some, lt_f (fun q => (h.2.2 _ (by omega)).2) (fun q => hx q.1 q.2), if_pos rfl]
      exact ⟨_, rfl, n1, n2, n3⟩
theorem c_number {f : Nat → Nat} {T b e' : Nat} {M : zM} (h : TPc f T M) (h0 : M 36 0 = 1) (h3 : M 36 3 = nI b) (hb : b < e') (hT : e' ≤ T) (hl : ∀ j, b ≤ j → j < e' → dgN (f j)) (hx : e' < T → ¬ dgN (f e')) : ∃ M', f_X2_stepNumber M = some M' ∧ M' 36 3 = nI e' ∧ M' 36 4 = nI (nvN f b (e' - b)) ∧ (∀ j, j ≠ 3 → j ≠ 4 → M' 36 j = M 36 j) ∧ ∀ a, a ≠ 36 → M' a = M a := by
  have h120 := h.1
  unfold f_X2_stepNumber
  rw [Option.bind_some]
  refine zIter_inv (fun k N => N 36 3 = nI (b + k) ∧ N 36 4 = nI (nvN f b k) ∧ (∀ j, j ≠ 3 → j ≠ 4 → N 36 j = M 36 j) ∧ ∀ a, a ≠ 36 → N a = M a) _ (e' - b) 1000 _ (by omega) ⟨by rw [zU_at, if_neg (by omega)]; exact h3, zU_same _ _ _ _, fun j h1 h2 => by rw [zU_at, if_neg (fun q => h2 q.2)], fun a ha => zU_off ha⟩ (fun k N hk hI => ?_) (fun N hI => ?_)
  · obtain ⟨n1, n4, n2, n3⟩ := hI
    have hN : TPc f T N := TPc_congr h (n3 34 (by omega)) (n3 35 (by omega))
    have n0 : N 36 0 = 1 := by rw [n2 0 (by omega) (by omega), h0]
    have hd := hl (b + k) (by omega) (by omega)
    have hby : byI f T (b + k) = nI (f (b + k)) := by unfold byI; rw [if_pos (by omega)]
    have hv := nvN_le f b k
    rw [f_X2_stepNumber_l5, n1, n0, if_neg (show ¬ (120 : Int32) ≤ nI (b + k) from nI_ge (b := 120) (by omega) (by decide)), if_neg (by decide), c_byteAt hN (by omega), Option.bind_some, f_isDigit_eq, Option.bind_some, dg_t (fun q => (h.2.2 _ (by omega)).2) ⟨by omega, hd⟩, if_neg (by decide), if_neg (by decide), Option.bind_some, n4, hby, dig_c hv hd, min_c (by have := hd.2; omega), Option.bind_some, zU_at, if_neg (by omega), n1, nI_1]
    refine ⟨_, rfl, zU_same _ _ _ _, ?_, fun j h1 h2 => ?_, fun a ha => by rw [zU_off ha, zU_off ha]; exact n3 a ha⟩
    · rw [zU_at, if_neg (by omega), zU_same]; rfl
    · rw [zU_at, if_neg (fun q => h1 q.2), zU_at, if_neg (fun q => h2 q.2)]; exact n2 j h1 h2
  · obtain ⟨n1, n4, n2, n3⟩ := hI
    rw [show b + (e' - b) = e' by omega] at n1
    have hN : TPc f T N := TPc_congr h (n3 34 (by omega)) (n3 35 (by omega))
    have n0 : N 36 0 = 1 := by rw [n2 0 (by omega) (by omega), h0]
    rw [f_X2_stepNumber_l5, n1, n0]
    by_cases c : (120 : Int32) ≤ nI e'
    · rw [if_pos c]; exact ⟨_, rfl, n1, n4, n2, n3⟩
    · rw [if_neg c, if_neg (by decide), c_byteAt hN (by omega), Option.bind_some, f_isDigit_eq, Option.bind_some, dg_f (fun q => (h.2.2 _ (by omega)).2) (fun q => hx q.1 q.2), if_pos rfl]
      exact ⟨_, rfl, n1, n4, n2, n3⟩
theorem c_j46 {f : Nat → Nat} {T e b e' s v : Nat} {M : zM} (h : TPc f T M) (h0 : M 36 0 = 1) (h2 : M 36 2 = nI b) (hk : TK f T e b e' s v) : ∃ M', f_X2_step_j46 M = some M' ∧ (M' 36 0 = 1 ∧ M' 36 1 = nI s ∧ M' 36 2 = nI b ∧ M' 36 3 = nI e' ∧ (s = 2 → M' 36 4 = nI v)) ∧ ∀ a, a ≠ 36 → M' a = M a := by
  have h120 := h.1
  obtain ⟨k1, k2, k3, k4, k5, k6⟩ := hk
  have m0 : zU M 36 3 (M 36 2) 36 0 = 1 := by rw [zU_at, if_neg (by omega)]; exact h0
  have m2 : zU M 36 3 (M 36 2) 36 2 = nI b := by rw [zU_at, if_neg (by omega)]; exact h2
  have m3 : zU M 36 3 (M 36 2) 36 3 = nI b := by rw [zU_same]; exact h2
  have mo : ∀ a, a ≠ 36 → zU M 36 3 (M 36 2) a = M a := fun a ha => zU_off ha
  unfold f_X2_step_j46
  rw [Option.bind_some]
  generalize zU M 36 3 (M 36 2) = N at m0 m2 m3 mo
  have hN : TPc f T N := TPc_congr h (mo 34 (by omega)) (mo 35 (by omega))
  rw [m0, if_neg (by decide), m2, c_byteAt hN (by omega), Option.bind_some, f_isLetter_eq, f_isDigit_eq]
  have u : ∀ x, zU N 36 1 x 36 0 = 1 ∧ zU N 36 1 x 36 2 = nI b ∧ zU N 36 1 x 36 3 = nI b ∧ zU N 36 1 x 36 1 = x ∧ ∀ a, a ≠ 36 → zU N 36 1 x a = M a := fun x => ⟨by rw [zU_at, if_neg (by omega)]; exact m0, by rw [zU_at, if_neg (by omega)]; exact m2, by rw [zU_at, if_neg (by omega)]; exact m3, zU_same _ _ _ _, fun a ha => by rw [zU_off ha]; exact mo a ha⟩
  rcases k6 with ⟨rfl, rfl, rfl, rfl⟩ | ⟨rfl, q1, q2, q3, rfl⟩ | ⟨rfl, q1, q2, q3, q4⟩ | ⟨q0, q1, q2, q3, q4, q5, rfl⟩
  · rw [if_pos ((by_m1 (fun q => (h.2.2 _ (by omega)).2)).mpr (by omega))]
    obtain ⟨u0, u2, u3, u1, uo⟩ := u 0
    exact ⟨_, rfl, ⟨u0, u1, u2, u3, fun q => (by cases q)⟩, uo⟩
  · have hb : b < T := by omega
    rw [if_neg (fun q => (by_m1 (fun q => (h.2.2 _ (by omega)).2)).mp q hb), Option.bind_some, lt_t (fun q => (h.2.2 _ (by omega)).2) ⟨hb, q2 b (Nat.le_refl _) q1⟩, if_neg (by decide), Option.bind_some]
    obtain ⟨u0, u2, u3, u1, uo⟩ := u 1
    obtain ⟨P, p1, p2, p3, p4⟩ := c_word (M := zU N 36 1 1) (TPc_congr h (uo 34 (by omega)) (uo 35 (by omega))) u0 u3 q1 k3 q2 q3
    rw [p1, Option.bind_some]
    exact ⟨P, rfl, ⟨by rw [p3 0 (by omega)]; exact u0, by rw [p3 1 (by omega)]; exact u1, by rw [p3 2 (by omega)]; exact u2, p2, fun q => (by cases q)⟩, fun a ha => by rw [p4 a ha]; exact uo a ha⟩
  · have hb : b < T := by omega
    have hd := q2 b (Nat.le_refl _) q1
    rw [if_neg (fun q => (by_m1 (fun q => (h.2.2 _ (by omega)).2)).mp q hb), Option.bind_some, lt_f (fun q => (h.2.2 _ (by omega)).2) (fun q => by have h1 := q.2.1; have h3 := hd.2; omega), if_pos rfl, Option.bind_some, dg_t (fun q => (h.2.2 _ (by omega)).2) ⟨hb, hd⟩, if_neg (by decide), Option.bind_some]
    obtain ⟨u0, u2, u3, u1, uo⟩ := u 2
    obtain ⟨P, p1, p2, p5, p3, p4⟩ := c_number (M := zU N 36 1 2) (TPc_congr h (uo 34 (by omega)) (uo 35 (by omega))) u0 u3 q1 k3 q2 q3
    rw [p1, Option.bind_some]
    exact ⟨P, rfl, ⟨by rw [p3 0 (by omega) (by omega)]; exact u0, by rw [p3 1 (by omega) (by omega)]; exact u1, by rw [p3 2 (by omega) (by omega)]; exact u2, p2, fun _ => by rw [p5, q4]⟩, fun a ha => by rw [p4 a ha]; exact uo a ha⟩
  · have j129 : ∀ x : Nat, ∃ M', f_X2_step_j129 (nI x) N = some M' ∧ (M' 36 0 = 1 ∧ M' 36 1 = nI x ∧ M' 36 2 = nI b ∧ M' 36 3 = nI (b + 1)) ∧ ∀ a, a ≠ 36 → M' a = M a := fun x => by
      obtain ⟨u0, u2, u3, u1, uo⟩ := u (nI x)
      unfold f_X2_step_j129
      rw [Option.bind_some, u2, nI_1, Option.bind_some]
      exact ⟨_, rfl, ⟨by rw [zU_at, if_neg (by omega)]; exact u0, by rw [zU_at, if_neg (by omega)]; exact u1, by rw [zU_at, if_neg (by omega)]; exact u2, zU_same _ _ _ _⟩, fun a ha => by rw [zU_off ha]; exact uo a ha⟩
    rw [if_neg (fun q => (by_m1 (fun q => (h.2.2 _ (by omega)).2)).mp q q1), Option.bind_some, lt_f (fun q => (h.2.2 _ (by omega)).2) (fun q => q3 q.2), if_pos rfl, Option.bind_some, dg_f (fun q => (h.2.2 _ (by omega)).2) (fun q => q4 q.2), if_pos rfl]
    have e59 : (byI f T b = 59) ↔ b < T ∧ f b = 59 := by_eq (c := 59) (fun q => (h.2.2 _ (by omega)).2) (by omega)
    by_cases c : f b = 59
    · rw [if_pos (e59.mpr ⟨q1, c⟩)]
      obtain ⟨P, p1, p2, p3⟩ := j129 3
      have hs : s = 3 := q5.mpr c
      subst hs; subst q2
      exact ⟨P, p1, ⟨p2.1, p2.2.1, p2.2.2.1, p2.2.2.2, fun q => (by cases q)⟩, p3⟩
    · rw [if_neg (fun q => c (e59.mp q).2)]
      obtain ⟨P, p1, p2, p3⟩ := j129 4
      have hs : s = 4 := q0.resolve_left (fun q => c (q5.mp q))
      subst hs; subst q2
      exact ⟨P, p1, ⟨p2.1, p2.2.1, p2.2.2.1, p2.2.2.2, fun q => (by cases q)⟩, p3⟩
theorem c_step {f : Nat → Nat} {T e : Nat} {M : zM} (h : TPc f T M) (h0 : M 36 0 = 1) (h3 : M 36 3 = nI e) (he : e ≤ T) : ∃ M', f_X2_step M = some M' ∧ LC f T M' e ∧ ∀ a, a ≠ 36 → M' a = M a := by
  have h120 := h.1
  have hk := tok_TK f he
  obtain ⟨k1, k2, k3, k4, k5, -⟩ := id hk
  unfold f_X2_step
  rw [Option.bind_some]
  refine zIter_inv (fun k N => N 36 0 = 1 ∧ N 36 2 = nI (e + k) ∧ ∀ a, a ≠ 36 → N a = M a) _ (tb f T e - e) 1000 _ (by omega) ⟨by rw [zU_at, if_neg (by omega)]; exact h0, by rw [zU_same]; exact h3, fun a ha => zU_off ha⟩ (fun k N hI1 hI => ?_) (fun N hI => ?_)
  · obtain ⟨n0, n2, n3⟩ := hI
    have hN : TPc f T N := TPc_congr h (n3 34 (by omega)) (n3 35 (by omega))
    rw [f_X2_step_l8, n2, n0, if_neg (show ¬ (120 : Int32) ≤ nI (e + k) from nI_ge (b := 120) (by omega) (by decide)), if_neg (by decide), c_byteAt hN (by omega), Option.bind_some, if_pos (show byI f T (e + k) = 32 from (by_eq (j := e + k) (c := 32) (fun q => (h.2.2 (e + k) (by omega)).2) (by omega)).mpr ⟨by omega, k4 _ (by omega) (by omega)⟩), nI_1]
    exact ⟨_, rfl, by rw [zU_at, if_neg (by omega)]; exact n0, zU_same _ _ _ _, fun a ha => by rw [zU_off ha]; exact n3 a ha⟩
  · obtain ⟨n0, n2, n3⟩ := hI
    rw [show e + (tb f T e - e) = tb f T e by omega] at n2
    have hN : TPc f T N := TPc_congr h (n3 34 (by omega)) (n3 35 (by omega))
    obtain ⟨P, p1, p2, p3⟩ := c_j46 hN n0 n2 hk
    have fin : ∃ r, ((f_X2_step_j46 N).bind fun z => some (Sum.inr z) : Option (zM ⊕ zM)) = some (.inr r) ∧ LC f T r e ∧ ∀ a, a ≠ 36 → r a = M a := ⟨P, by rw [p1]; rfl, p2, fun a ha => by rw [p3 a ha]; exact n3 a ha⟩
    rw [f_X2_step_l8, n2, n0]
    by_cases c : (120 : Int32) ≤ nI (tb f T e)
    · rw [if_pos c]; exact fin
    · rw [if_neg c, if_neg (by decide), c_byteAt hN (by omega), Option.bind_some, if_neg (fun q => by
        have := (by_eq (c := 32) (fun q => (h.2.2 _ (by omega)).2) (by omega)).mp q
        exact k5 this.1 this.2)]
      exact fin
theorem m_j34 {f : Nat → Nat} {T e b e' s v : Nat} {M : zM} (h : TPm f T M) (h9 : M 47 9 = nI b) (hk : TK f T e b e' s v) : ∃ M', f_X6_next_j34 M = some M' ∧ (M' 47 9 = nI b ∧ M' 47 10 = nI e' ∧ M' 47 11 = nI (min 3 s) ∧ M' 47 12 = nI v) ∧ (∀ j, j ≠ 9 → j ≠ 10 → j ≠ 11 → j ≠ 12 → M' 47 j = M 47 j) ∧ ∀ a, a ≠ 47 → M' a = M a := by
  have h120 := h.1
  obtain ⟨k1, k2, k3, k4, k5, k6⟩ := hk
  unfold f_X6_next_j34
  rw [h9, m_byteAt h (by omega), Option.bind_some, Option.bind_some, Option.bind_some]
  have m9 : zU (zU M 47 10 (nI b)) 47 12 0 47 9 = nI b := by rw [zU_at, if_neg (by omega), zU_at, if_neg (by omega)]; exact h9
  have m10 : zU (zU M 47 10 (nI b)) 47 12 0 47 10 = nI b := by rw [zU_at, if_neg (by omega), zU_same]
  have m12 : zU (zU M 47 10 (nI b)) 47 12 0 47 12 = 0 := zU_same _ _ _ _
  have mj : ∀ j, j ≠ 10 → j ≠ 12 → zU (zU M 47 10 (nI b)) 47 12 0 47 j = M 47 j := fun j h1 h2 => by rw [zU_at, if_neg (fun q => h2 q.2), zU_at, if_neg (fun q => h1 q.2)]
  have mo : ∀ a, a ≠ 47 → zU (zU M 47 10 (nI b)) 47 12 0 a = M a := fun a ha => by rw [zU_off ha, zU_off ha]
  generalize zU (zU M 47 10 (nI b)) 47 12 0 = N at m9 m10 m12 mj mo
  rw [m_within_eq, m_within_eq]
  have u : ∀ x, zU N 47 11 x 47 9 = nI b ∧ zU N 47 11 x 47 10 = nI b ∧ zU N 47 11 x 47 12 = 0 ∧ zU N 47 11 x 47 11 = x ∧ (∀ j, j ≠ 10 → j ≠ 11 → j ≠ 12 → zU N 47 11 x 47 j = M 47 j) ∧ ∀ a, a ≠ 47 → zU N 47 11 x a = M a := fun x => ⟨by rw [zU_at, if_neg (by omega)]; exact m9, by rw [zU_at, if_neg (by omega)]; exact m10, by rw [zU_at, if_neg (by omega)]; exact m12, zU_same _ _ _ _, fun j h1 h2 h3 => by rw [zU_at, if_neg (fun q => h2 q.2)]; exact mj j h1 h3, fun a ha => by rw [zU_off ha]; exact mo a ha⟩
  have tp : ∀ Q : zM, Q 47 8 = M 47 8 → (∀ a, a ≠ 47 → Q a = M a) → TPm f T Q := fun Q q1 q2 => TPm_congr h q1 (q2 54 (by omega))
  have by0 : (0 ≤ byI f T b) ↔ b < T := by
    unfold byI
    by_cases c : b < T
    · rw [if_pos c]; exact ⟨fun _ => c, fun _ => nI_pos' (by have := (h.2.2 b (by omega)).2; omega)⟩
    · rw [if_neg c]; exact ⟨fun q => absurd q (by decide), fun q => absurd q c⟩
  rcases k6 with ⟨rfl, rfl, rfl, rfl⟩ | ⟨rfl, q1, q2, q3, rfl⟩ | ⟨rfl, q1, q2, q3, q4⟩ | ⟨q0, q1, q2, q3, q4, q5, rfl⟩
  · rw [if_neg (fun q => absurd (by0.mp q) (by omega))]
    obtain ⟨u9, u10, u12, u11, uj, uo⟩ := u 0
    exact ⟨_, rfl, ⟨u9, u10, u11, u12⟩, fun j h1 h2 h3 h4 => uj j h2 h3 h4, uo⟩
  · have hb : b < T := by omega
    rw [if_pos (by0.mpr hb), Option.bind_some, lt_t (fun q => (h.2.2 _ (by omega)).2) ⟨hb, q2 b (Nat.le_refl _) q1⟩, if_neg (by decide), Option.bind_some]
    obtain ⟨u9, u10, u12, u11, uj, uo⟩ := u 1
    generalize zU N 47 11 1 = P at u9 u10 u12 u11 uj uo
    refine zIter_inv (fun k R => R 47 10 = nI (b + k) ∧ (∀ j, j ≠ 10 → R 47 j = P 47 j) ∧ ∀ a, a ≠ 47 → R a = P a) _ (e' - b) 1000 _ (by omega) ⟨u10, fun _ _ => rfl, fun _ _ => rfl⟩ (fun k R hk hI => ?_) (fun R hI => ?_)
    · obtain ⟨n1, n2, n3⟩ := hI
      have hR : TPm f T R := tp R (by rw [n2 8 (by omega), uj 8 (by omega) (by omega) (by omega)]) (fun a ha => by rw [n3 a ha, uo a ha])
      rw [f_X6_next_l84, n1, m_byteAt hR (by omega), Option.bind_some, m_within_eq, Option.bind_some, lt_t (fun q => (h.2.2 _ (by omega)).2) ⟨by omega, q2 _ (by omega) (by omega)⟩, if_neg (by decide), nI_1]
      exact ⟨_, rfl, zU_same _ _ _ _, fun j hj => by rw [zU_at, if_neg (fun q => hj q.2)]; exact n2 j hj, fun a ha => by rw [zU_off ha]; exact n3 a ha⟩
    · obtain ⟨n1, n2, n3⟩ := hI
      rw [show b + (e' - b) = e' by omega] at n1
      have hR : TPm f T R := tp R (by rw [n2 8 (by omega), uj 8 (by omega) (by omega) (by omega)]) (fun a ha => by rw [n3 a ha, uo a ha])
      rw [f_X6_next_l84, n1, m_byteAt hR (by omega), Option.bind_some, m_within_eq, Option.bind_some, lt_f (fun q => (h.2.2 _ (by omega)).2) (fun q => q3 q.1 q.2), if_pos rfl]
      exact ⟨R, rfl, ⟨by rw [n2 9 (by omega)]; exact u9, n1, by rw [n2 11 (by omega)]; exact u11, by rw [n2 12 (by omega)]; exact u12⟩, fun j h1 h2 h3 h4 => by rw [n2 j h2]; exact uj j h2 h3 h4, fun a ha => by rw [n3 a ha]; exact uo a ha⟩
  · have hb : b < T := by omega
    have hd := q2 b (Nat.le_refl _) q1
    rw [if_pos (by0.mpr hb), Option.bind_some, lt_f (fun q => (h.2.2 _ (by omega)).2) (fun q => by have h1 := q.2.1; have h3 := hd.2; omega), if_pos rfl, Option.bind_some, dg_t (fun q => (h.2.2 _ (by omega)).2) ⟨hb, hd⟩, if_neg (by decide), Option.bind_some]
    obtain ⟨u9, u10, u12, u11, uj, uo⟩ := u 2
    generalize zU N 47 11 2 = P at u9 u10 u12 u11 uj uo
    refine zIter_inv (fun k R => R 47 10 = nI (b + k) ∧ R 47 12 = nI (nvN f b k) ∧ (∀ j, j ≠ 10 → j ≠ 12 → R 47 j = P 47 j) ∧ ∀ a, a ≠ 47 → R a = P a) _ (e' - b) 1000 _ (by omega) ⟨u10, u12, fun _ _ _ => rfl, fun _ _ => rfl⟩ (fun k R hk hI => ?_) (fun R hI => ?_)
    · obtain ⟨n1, n4, n2, n3⟩ := hI
      have hR : TPm f T R := tp R (by rw [n2 8 (by omega) (by omega), uj 8 (by omega) (by omega) (by omega)]) (fun a ha => by rw [n3 a ha, uo a ha])
      have hdk := q2 (b + k) (by omega) (by omega)
      have hby : byI f T (b + k) = nI (f (b + k)) := by unfold byI; rw [if_pos (by omega)]
      have hv := nvN_le f b k
      rw [f_X6_next_l131, n1, m_byteAt hR (by omega), Option.bind_some, m_within_eq, Option.bind_some, dg_t (fun q => (h.2.2 _ (by omega)).2) ⟨by omega, hdk⟩, if_neg (by decide), Option.bind_some, n4, hby, Int32.mul_comm 10 (nI (nvN f b k)), dig_c hv hdk, min_c (by have := hdk.2; omega), Option.bind_some, zU_at, if_neg (by omega), n1, nI_1]
      refine ⟨_, rfl, zU_same _ _ _ _, ?_, fun j h1 h2 => ?_, fun a ha => by rw [zU_off ha, zU_off ha]; exact n3 a ha⟩
      · rw [zU_at, if_neg (by omega), zU_same]; rfl
      · rw [zU_at, if_neg (fun q => h1 q.2), zU_at, if_neg (fun q => h2 q.2)]; exact n2 j h1 h2
    · obtain ⟨n1, n4, n2, n3⟩ := hI
      rw [show b + (e' - b) = e' by omega] at n1
      have hR : TPm f T R := tp R (by rw [n2 8 (by omega) (by omega), uj 8 (by omega) (by omega) (by omega)]) (fun a ha => by rw [n3 a ha, uo a ha])
      rw [f_X6_next_l131, n1, m_byteAt hR (by omega), Option.bind_some, m_within_eq, Option.bind_some, dg_f (fun q => (h.2.2 _ (by omega)).2) (fun q => q3 q.1 q.2), if_pos rfl]
      exact ⟨R, rfl, ⟨by rw [n2 9 (by omega) (by omega)]; exact u9, n1, by rw [n2 11 (by omega) (by omega)]; exact u11, by rw [n4, q4]⟩, fun j h1 h2 h3 h4 => by rw [n2 j h2 h4]; exact uj j h2 h3 h4, fun a ha => by rw [n3 a ha]; exact uo a ha⟩
  · rw [if_pos (by0.mpr q1), Option.bind_some, lt_f (fun q => (h.2.2 _ (by omega)).2) (fun q => q3 q.2), if_pos rfl, Option.bind_some, dg_f (fun q => (h.2.2 _ (by omega)).2) (fun q => q4 q.2), if_pos rfl, Option.bind_some]
    obtain ⟨u9, u10, u12, u11, uj, uo⟩ := u 3
    rw [u10, nI_1, Option.bind_some]
    have hs : min 3 s = 3 := by omega
    subst q2
    rw [hs]
    exact ⟨_, rfl, ⟨by rw [zU_at, if_neg (by omega)]; exact u9, zU_same _ _ _ _, by rw [zU_at, if_neg (by omega)]; exact u11, by rw [zU_at, if_neg (by omega)]; exact u12⟩, fun j h1 h2 h3 h4 => by rw [zU_at, if_neg (fun q => h2 q.2)]; exact uj j h2 h3 h4, fun a ha => by rw [zU_off ha]; exact uo a ha⟩
theorem m_next {f : Nat → Nat} {T e : Nat} {M : zM} (h : TPm f T M) (h10 : M 47 10 = nI e) (he : e ≤ T) : ∃ M', f_X6_next M = some M' ∧ LR f T M' e ∧ (∀ j, j ≠ 9 → j ≠ 10 → j ≠ 11 → j ≠ 12 → M' 47 j = M 47 j) ∧ ∀ a, a ≠ 47 → M' a = M a := by
  have h120 := h.1
  have hk := tok_TK f he
  obtain ⟨k1, k2, k3, k4, k5, -⟩ := id hk
  unfold f_X6_next
  rw [Option.bind_some]
  refine zIter_inv (fun k N => N 47 9 = nI (e + k) ∧ (∀ j, j ≠ 9 → N 47 j = M 47 j) ∧ ∀ a, a ≠ 47 → N a = M a) _ (tb f T e - e) 1000 _ (by omega) ⟨by rw [zU_same]; exact h10, fun j hj => by rw [zU_at, if_neg (fun q => hj q.2)], fun a ha => zU_off ha⟩ (fun k N hI1 hI => ?_) (fun N hI => ?_)
  · obtain ⟨n1, n2, n3⟩ := hI
    have hN : TPm f T N := TPm_congr h (n2 8 (by omega)) (n3 54 (by omega))
    rw [f_X6_next_l8, n1, m_byteAt hN (by omega), Option.bind_some, if_pos (show byI f T (e + k) = 32 from (by_eq (j := e + k) (c := 32) (fun q => (h.2.2 (e + k) (by omega)).2) (by omega)).mpr ⟨by omega, k4 _ (by omega) (by omega)⟩), nI_1]
    exact ⟨_, rfl, zU_same _ _ _ _, fun j hj => by rw [zU_at, if_neg (fun q => hj q.2)]; exact n2 j hj, fun a ha => by rw [zU_off ha]; exact n3 a ha⟩
  · obtain ⟨n1, n2, n3⟩ := hI
    rw [show e + (tb f T e - e) = tb f T e by omega] at n1
    have hN : TPm f T N := TPm_congr h (n2 8 (by omega)) (n3 54 (by omega))
    obtain ⟨P, p1, p2, p3, p4⟩ := m_j34 hN n1 hk
    rw [f_X6_next_l8, n1, m_byteAt hN (by omega), Option.bind_some, if_neg (fun q => by
        have := (by_eq (c := 32) (fun q => (h.2.2 _ (by omega)).2) (by omega)).mp q
        exact k5 this.1 this.2), p1]
    exact ⟨P, rfl, p2, fun j h1 h2 h3 h4 => by rw [p3 j h1 h2 h3 h4, n2 j h1], fun a ha => by rw [p4 a ha, n3 a ha]⟩
