/-! GROUPS IN PEACE. -/
set_option maxRecDepth 100000 in
theorem g_dif : ∀ s, s < 256 → ∀ c, c < 256 → nI s &&& (nI c ^^^ (-1)) = nI (dif s c) := by decide +kernel
set_option maxRecDepth 100000 in
theorem g_prev : ∀ s, s < 256 → ∀ c, c < 256 → nI c &&& nI s = nI (c &&& s) := by decide +kernel
set_option maxRecDepth 100000 in
theorem g_gap : ∀ s, s < 256 → ∀ c, c < 256 → c &&& s = c → ∀ j, j < c - ((c - 1) &&& s) - 1 → (((c - 1) &&& s) + 1 + j) &&& s ≠ ((c - 1) &&& s) + 1 + j := by decide +kernel
/-- in peace -/
def pcA (A : Nat → Int32) (m : Nat) : Prop := pairsN A m = 0
theorem sumN_0 {f : Nat → Nat} : ∀ n, sumN f n = 0 → ∀ i, i < n → f i = 0 := by
  intro n
  induction n with
  | zero => intro _ i hi; omega
  | succ n ih =>
    intro h i hi
    have h' : sumN f n + f n = 0 := h
    by_cases e : i = n
    · subst e; omega
    · exact ih (by omega) i (by omega)
theorem pc_iff {A : Nat → Int32} (hF : okF A) (hn : okN A) (m : Nat) : pcA A m ↔ ∀ x, x < nn A → ∀ y, y < nn A → m.testBit x = true → m.testBit y = true → foeO A x = some y → False := by
  constructor
  · intro h x hx y hy bx bY hf
    have hq : qN A m = 0 := by rw [← pairs_eq hF hn m]; exact h
    have ne : x ≠ y := fun e => (foeO_lt hF hn hx hf).2.1 e.symm
    have key : ∀ a b, a < nn A → b < a → (foeO A a = some b ∨ foeO A b = some a) → m.testBit a = true → m.testBit b = true → False := by
      intro a b ha hb hq2 h1 h2
      have z1 := sumN_0 _ hq a ha
      have z2 := sumN_0 _ z1 b hb
      unfold qu at z2
      rw [if_pos ⟨h1, h2, hq2⟩] at z2
      cases z2
    by_cases lt : y < x
    · exact key x y hx lt (Or.inl hf) bx bY
    · exact key y x hy (by omega) (Or.inr hf) bY bx
  · intro h
    show pairsN A m = 0
    unfold pairsN
    rw [sumN_congr (g := fun _ => 0) (nn A) (fun i hi => ?_), sumN_zero]
    unfold hitN
    cases hf : foeO A i with
    | none => rfl
    | some f =>
      show (if _ then 1 else 0) = 0
      rw [if_neg (fun e => h i hi f (foeO_lt hF hn hi hf).1 e.1 e.2.1 hf)]
/-- in two groups, in three -/
def twoA (A : Nat → Int32) (s : Nat) : Prop := ∃ c, c < 256 ∧ c &&& s = c ∧ pcA A c ∧ pcA A (dif s c)
def triA (A : Nat → Int32) (s : Nat) : Prop := ∃ c, c < 256 ∧ c &&& s = c ∧ pcA A c ∧ twoA A (dif s c)
theorem sub_bit {c s : Nat} (h : c &&& s = c) {i : Nat} (hi : c.testBit i = true) : s.testBit i = true := by
  rw [← h, Nat.testBit_and] at hi
  exact (Bool.and_eq_true_iff.mp hi).2
theorem sub_of {c s : Nat} (h : ∀ i, c.testBit i = true → s.testBit i = true) : c &&& s = c := by
  refine set_ext (fun i => ?_)
  rw [Nat.testBit_and]
  cases hc : c.testBit i with
  | false => rfl
  | true => rw [h i hc]; rfl
theorem tri_all {A : Nat → Int32} (hF : okF A) (hn : okN A) : triA A (2 ^ nn A - 1) := by
  have h8 := hn.2
  have hp := pow_le (nn A) (by omega)
  have hall : 2 ^ nn A - 1 < 256 := by omega
  obtain ⟨col, c1, c2⟩ := colours (fun i => if i < nn A then foeO A i else none) (nn A) (fun i e => by
    by_cases c : i < nn A
    · rw [if_pos c] at e; exact (foeO_lt hF hn c e).2.1 rfl
    · rw [if_neg c] at e; cases e) _ (fun _ => true) rfl
  have cc : ∀ x, x < nn A → ∀ y, y < nn A → foeO A x = some y → col x ≠ col y := fun x hx y hy hf => c2 x hx y hy rfl rfl (by rw [if_pos hx]; exact hf)
  have am : ∀ i, (2 ^ nn A - 1).testBit i = decide (i < nn A) := fun i => Nat.testBit_two_pow_sub_one _ _
  have pcol : ∀ (k m : Nat), (∀ i, m.testBit i = true → col i = k) → pcA A m := fun k m hm => (pc_iff hF hn m).mpr (fun x hx y hy bx bY hf => cc x hx y hy hf ((hm x bx).trans (hm y bY).symm))
  generalize hm0 : mkM (fun i => decide (i < nn A) && decide (col i = 0)) 8 = m0
  generalize hm1 : mkM (fun i => decide (i < nn A) && decide (col i = 1)) 8 = m1
  have b0 : ∀ i, m0.testBit i = (decide (i < 8) && (decide (i < nn A) && decide (col i = 0))) := fun i => by rw [← hm0, mkM_bit]
  have b1 : ∀ i, m1.testBit i = (decide (i < 8) && (decide (i < nn A) && decide (col i = 1))) := fun i => by rw [← hm1, mkM_bit]
  have l0 : m0 < 256 := by rw [← hm0]; exact mkM_lt _
  have l1 : m1 < 256 := by rw [← hm1]; exact mkM_lt _
  have g0 : ∀ i, m0.testBit i = true → i < nn A ∧ col i = 0 := fun i h => by
    rw [b0] at h; simp at h; exact h.2
  have g1 : ∀ i, m1.testBit i = true → i < nn A ∧ col i = 1 := fun i h => by
    rw [b1] at h; simp at h; exact h.2
  refine ⟨m0, l0, sub_of (fun i h => by rw [am]; simp [(g0 i h).1]), pcol 0 m0 (fun i h => (g0 i h).2), m1, l1, sub_of (fun i h => ?_), pcol 1 m1 (fun i h => (g1 i h).2), pcol 2 _ (fun i h => ?_)⟩
  · rw [dif_bit hall, am, b0]; simp [(g1 i h).1, (g1 i h).2]
  · rw [dif_bit (dif_lt _ hall _ l0), dif_bit hall, am, b0, b1] at h
    have h3 := c1 i
    by_cases h5 : i < nn A
    · have h6 : i < 8 := by omega
      simp [h5, h6] at h
      omega
    · simp [h5] at h
/-- what the reference keeps of a set -/
def gvA (A : Nat → Int32) (s v : Nat) : Prop := v ≤ 8 ∧ (v = 0 ↔ s = 0) ∧ (v ≤ 1 ↔ pcA A s) ∧ (v ≤ 2 ↔ twoA A s) ∧ (triA A s → v ≤ 3)
theorem dif_0 {s : Nat} (hs : s < 256) : dif s 0 = s := set_ext (fun i => by rw [dif_bit hs, Nat.zero_testBit]; simp)
theorem dif_self {s : Nat} (hs : s < 256) : dif s s = 0 := set_ext (fun i => by rw [dif_bit hs, Nat.zero_testBit]; cases s.testBit i <;> rfl)
theorem dif_all {s c : Nat} (hs : s < 256) (hc : c &&& s = c) (h : dif s c = 0) : c = s := set_ext (fun i => by
  have h1 : (dif s c).testBit i = false := by rw [h, Nat.zero_testBit]
  rw [dif_bit hs] at h1
  cases h2 : c.testBit i with
  | true => rw [sub_bit hc h2]
  | false => rw [h2] at h1; simpa using h1.symm)
theorem dif_less {s c : Nat} (hs : s < 256) (hc : c &&& s = c) (h0 : c ≠ 0) : dif s c < s := by
  refine Nat.lt_of_le_of_ne Nat.and_le_left (fun e => h0 (set_ext (fun i => ?_)))
  have h1 : (dif s c).testBit i = s.testBit i := by rw [e]
  rw [dif_bit hs] at h1
  rw [Nat.zero_testBit]
  cases h2 : c.testBit i with
  | false => rfl
  | true => rw [h2, sub_bit hc h2] at h1; cases h1
theorem pc_0 {A : Nat → Int32} (hF : okF A) (hn : okN A) : pcA A 0 := (pc_iff hF hn 0).mpr (fun x _ _ _ b _ _ => by rw [Nat.zero_testBit] at b; cases b)
theorem gv_0 {A : Nat → Int32} (hF : okF A) (hn : okN A) : gvA A 0 0 := ⟨by omega, by simp, ⟨fun _ => pc_0 hF hn, fun _ => by omega⟩, ⟨fun _ => ⟨0, by omega, rfl, pc_0 hF hn, pc_0 hF hn⟩, fun _ => by omega⟩, fun _ => by omega⟩
/-- the least over all parts that were looked at -/
theorem gv_step {A : Nat → Int32} (hF : okF A) (hn : okN A) {s l : Nat} {g : Nat → Nat} (hs : s < 256) (h0 : s ≠ 0) (hg : ∀ t, t < s → gvA A t (g t)) (h1 : 1 ≤ l) (h8 : l ≤ 8) (ha : ∀ d, d ≠ 0 → d &&& s = d → pcA A d → l ≤ 1 + g (dif s d)) (hb : l = 8 ∨ ∃ d, d ≠ 0 ∧ d &&& s = d ∧ pcA A d ∧ l = 1 + g (dif s d)) : gvA A s l := by
  have l1 : pcA A s → l ≤ 1 := fun hp => by
    have := ha s h0 (Nat.and_self s) hp
    rw [dif_self hs, (hg 0 (by omega)).2.1.mpr rfl] at this
    exact this
  have l2 : twoA A s → l ≤ 2 := by
    rintro ⟨c, hc, hcs, p1, p2⟩
    by_cases e : c = 0
    · subst e; rw [dif_0 hs] at p2; have := l1 p2; omega
    · have := ha c e hcs p1
      have := (hg _ (dif_less hs hcs e)).2.2.1.mpr p2
      omega
  refine ⟨h8, ⟨fun e => by omega, fun e => absurd e h0⟩, ⟨fun hl => ?_, l1⟩, ⟨fun hl => ?_, l2⟩, ?_⟩
  · rcases hb with e | ⟨d, d0, ds, dp, e⟩
    · omega
    · have := (hg _ (dif_less hs ds d0)).2.1.mp (by omega)
      rw [← dif_all hs ds this]; exact dp
  · rcases hb with e | ⟨d, d0, ds, dp, e⟩
    · omega
    · have := (hg _ (dif_less hs ds d0)).2.2.1.mp (by omega)
      exact ⟨d, Nat.lt_of_le_of_lt (by rw [← ds]; exact Nat.and_le_right) hs, ds, dp, this⟩
  · rintro ⟨c, hc, hcs, p1, p2⟩
    by_cases e : c = 0
    · subst e; rw [dif_0 hs] at p2; have := l2 p2; omega
    · have := ha c e hcs p1
      have := (hg _ (dif_less hs hcs e)).2.2.2.1.mpr p2
      omega
theorem rd53 {M : zM} {j : Nat} (hj : j < 256) : zrd M 53 (nI j) = some (M 53 j) := rd (n := 256) rfl hj
theorem wr53 {M : zM} {j : Nat} {v : Int32} (hj : j < 256) : zwr M 53 (nI j) v = some (zU M 53 j v) := wr (n := 256) rfl hj
theorem m_groups_in {M : zM} {A : Nat → Int32} {D s : Nat} {y1 : Int32} {g : Nat → Nat} (hA : okA A D) (h48 : M 48 = A) (hs : s < 256) (h0 : s ≠ 0) (hg : ∀ t, t < s → M 53 t = nI (g t) ∧ gvA A t (g t)) : ∃ l, gvA A s l ∧ zIter (f_X6_groups_l31 y1 (nI s) M) 1000 (8, nI s) = some (.inl (nI (s + 1), zU M 53 s (nI l))) := by
  have hF := hA.2.2.1
  have hn := hA.1
  have key : ∃ r, zIter (f_X6_groups_l31 y1 (nI s) M) 1000 (8, nI s) = some r ∧ ∃ l, gvA A s l ∧ r = .inl (nI (s + 1), zU M 53 s (nI l)) := by
    refine zIter_mu (fun q => ∃ l c : Nat, q = (nI l, nI c) ∧ c &&& s = c ∧ 1 ≤ l ∧ l ≤ 8 ∧ (∀ d, c < d → d &&& s = d → pcA A d → l ≤ 1 + g (dif s d)) ∧ (l = 8 ∨ ∃ d, d ≠ 0 ∧ d &&& s = d ∧ pcA A d ∧ l = 1 + g (dif s d))) (fun q => q.2.toNatClampNeg) _ ?_ 1000 _ ?_ ⟨8, s, rfl, Nat.and_self s, by omega, by omega, fun d hd hds => ?_, Or.inl rfl⟩
    · rintro q ⟨l, c, rfl, hcs, hl1, hl8, ha, hb⟩
      have hc : c < 256 := Nat.lt_of_le_of_lt (by rw [← hcs]; exact Nat.and_le_right) hs
      rw [f_X6_groups_l31]
      by_cases c0 : c = 0
      · subst c0
        right
        rw [if_pos (show nI 0 ≤ 0 by decide)]
        unfold f_X6_groups_j78
        rw [wr53 hs, Option.bind_some, nI_1]
        exact ⟨_, rfl, l, gv_step hF hn hs h0 (fun t ht => (hg t ht).2) hl1 hl8 (fun d d0 ds dp => ha d (by omega) ds dp) hb, rfl⟩
      · left
        obtain ⟨c', rfl⟩ : ∃ c', c = c' + 1 := ⟨c - 1, by omega⟩
        rw [if_neg (nI_nle (by omega) (by omega)), m_isPeace hA h48 hc, Option.bind_some]
        have hpe : (c' + 1 - 1) = c' := by omega
        have hle : c' &&& s ≤ c' := Nat.and_le_left
        have nxt : ∀ x, f_X6_groups_j66 y1 (nI s) (nI (c' + 1)) x M = some (.inl (x, nI (c' &&& s))) := fun x => by
          unfold f_X6_groups_j66
          rw [nI_pred, g_prev s hs c' (by omega)]; rfl
        have sub2 : (c' &&& s) &&& s = c' &&& s := by rw [Nat.and_assoc, Nat.and_self]
        have gap : ∀ d, c' &&& s < d → d &&& s = d → c' + 1 < d ∨ d = c' + 1 := by
          intro d h1 h2
          refine Classical.byContradiction (fun h3 => ?_)
          have := g_gap s hs (c' + 1) hc hcs (d - (c' &&& s) - 1) (by rw [hpe]; omega)
          rw [hpe, show (c' &&& s) + 1 + (d - (c' &&& s) - 1) = d by omega] at this
          exact this h2
        have mu : ∀ x : Int32, ((x, nI (c' &&& s)) : Int32 × Int32).2.toNatClampNeg < ((nI l, nI (c' + 1)) : Int32 × Int32).2.toNatClampNeg := fun x => by
          show (nI (c' &&& s)).toNatClampNeg < (nI (c' + 1)).toNatClampNeg
          rw [nI_clamp (by omega), nI_clamp (by omega)]; omega
        by_cases hp : pairsN A (c' + 1) = 0
        · have hlt := dif_less hs hcs c0
          obtain ⟨e1, e2⟩ := hg _ hlt
          have g8 := e2.1
          rw [if_pos hp, if_neg (by decide), g_dif s hs _ hc, rd53 (by omega), Option.bind_some, e1, nxt]
          rw [show (1 : Int32) + nI (g (dif s (c' + 1))) = nI (1 + g (dif s (c' + 1))) from nI_add 1 _]
          by_cases lt : 1 + g (dif s (c' + 1)) < l
          · rw [if_pos (nI_lt lt (by omega))]
            refine ⟨_, rfl, ⟨1 + g (dif s (c' + 1)), c' &&& s, rfl, sub2, by omega, by omega, fun d h1 h2 h3 => ?_, Or.inr ⟨c' + 1, c0, hcs, hp, rfl⟩⟩, mu _⟩
            rcases gap d h1 h2 with h4 | h4
            · have := ha d h4 h2 h3; omega
            · subst h4; exact Nat.le_refl _
          · rw [if_neg (nI_nlt (by omega) (by omega))]
            refine ⟨_, rfl, ⟨l, c' &&& s, rfl, sub2, hl1, hl8, fun d h1 h2 h3 => ?_, hb⟩, mu _⟩
            rcases gap d h1 h2 with h4 | h4
            · exact ha d h4 h2 h3
            · subst h4; omega
        · rw [if_neg hp, if_pos rfl, nxt]
          refine ⟨_, rfl, ⟨l, c' &&& s, rfl, sub2, hl1, hl8, fun d h1 h2 h3 => ?_, hb⟩, mu _⟩
          rcases gap d h1 h2 with h4 | h4
          · exact ha d h4 h2 h3
          · subst h4; exact absurd h3 hp
    · show (nI s).toNatClampNeg < 1000
      rw [nI_clamp (by omega)]; omega
    · exfalso
      have : d ≤ s := by rw [← hds]; exact Nat.and_le_right
      omega
  obtain ⟨r, k1, l, k2, rfl⟩ := key
  exact ⟨l, k2, k1⟩
theorem m_groups {M : zM} {A : Nat → Int32} {D : Nat} (hA : okA A D) (h48 : M 48 = A) : ∃ v M2, f_X6_groups M = some (nI v, M2) ∧ gvA A (2 ^ nn A - 1) v ∧ ∀ a, a ≠ 53 → M2 a = M a := by
  have hF := hA.2.2.1
  have hn := hA.1
  have h8 := hn.2
  have hp := pow_le (nn A) (by omega)
  have hp1 : 1 ≤ 2 ^ nn A := Nat.one_le_two_pow
  have z1 : zrd M 48 1 = some (nI (nn A)) := by rw [← hA.1.1, ← h48]; exact rd48 (j := 1) (by omega)
  have w0 : zwr M 53 0 0 = some (zU M 53 0 0) := wr53 (j := 0) (by omega)
  have key : ∃ r, zIter (f_X6_groups_l20 (nI (2 ^ nn A - 1))) 1000 (1, zU M 53 0 0) = some r ∧ ∃ v M2, r = (nI v, M2) ∧ gvA A (2 ^ nn A - 1) v ∧ ∀ a, a ≠ 53 → M2 a = M a := by
    refine zIter_inv (fun k q => ∃ N : zM, ∃ g : Nat → Nat, q = (nI (k + 1), N) ∧ (∀ t, t < k + 1 → N 53 t = nI (g t) ∧ gvA A t (g t)) ∧ ∀ a, a ≠ 53 → N a = M a) _ (2 ^ nn A - 1) 1000 _ (by omega) ⟨_, fun _ => 0, rfl, fun t ht => ?_, fun a ha => zU_off ha⟩ (fun k q hk hI => ?_) (fun q hI => ?_)
    · have : t = 0 := by omega
      subst this
      exact ⟨by rw [zU_same]; rfl, gv_0 hF hn⟩
    · obtain ⟨N, g, rfl, hg, hN⟩ := hI
      obtain ⟨l, l1, l2⟩ := m_groups_in (M := N) (y1 := nI (2 ^ nn A - 1)) (s := k + 1) hA (by rw [hN 48 (by omega), h48]) (by omega) (by omega) hg
      rw [f_X6_groups_l20, if_neg (nI_nlt (by omega) (by omega)), l2]
      refine ⟨_, rfl, _, fun t => if t = k + 1 then l else g t, rfl, fun t ht => ?_, fun a ha => by rw [zU_off ha, hN a ha]⟩
      by_cases e : t = k + 1
      · subst e
        show _ = nI (if k + 1 = k + 1 then l else g (k + 1)) ∧ gvA A (k + 1) (if k + 1 = k + 1 then l else g (k + 1))
        rw [if_pos rfl, zU_same]; exact ⟨rfl, l1⟩
      · show _ = nI (if t = k + 1 then l else g t) ∧ gvA A t (if t = k + 1 then l else g t)
        rw [if_neg e, zU_at, if_neg (fun c => e c.2)]
        exact hg t (by omega)
    · obtain ⟨N, g, rfl, hg, hN⟩ := hI
      obtain ⟨e1, e2⟩ := hg (2 ^ nn A - 1) (by omega)
      rw [f_X6_groups_l20, if_pos (nI_lt (by omega) (by omega))]
      unfold f_X6_groups_j91
      rw [rd53 (by omega), Option.bind_some, e1]
      exact ⟨_, rfl, _, N, rfl, e2, hN⟩
  obtain ⟨r, k1, v, M2, rfl, k2, k3⟩ := key
  refine ⟨v, M2, ?_, k2, k3⟩
  unfold f_X6_groups
  rw [z1, Option.bind_some, bit_n _ (by omega), show (nI (2 ^ nn A) - 1 : Int32) = nI (2 ^ nn A - 1) from nI_sub (k := 1) hp1, Option.bind_some, w0, Option.bind_some, k1]
theorem pe_groups {M : zM} {D : Nat} (h : RR M D) : ∃ r M2, f_X5_groups M = some r ∧ f_X6_groups M = some (r, M2) ∧ RR M2 (D + 60) := by
  have hA := h.2.1
  have h48 := h.1
  generalize hAA : M 48 = A at hA h48
  have hF := hA.2.2.1
  have hn := hA.1
  have h8 := hn.2
  have hp := pow_le (nn A) (by omega)
  have hp1 : 1 ≤ 2 ^ nn A := Nat.one_le_two_pow
  have e0 : M 1 0 = nI (nn A) := by rw [← hA.1.1, h48]; rfl
  obtain ⟨v, M2, g1, g2, g3⟩ := m_groups hA hAA
  have hR : RR M2 (D + 60) := RR_mono (RR_congr (M := M) (fun a ha => g3 a (by unfold RSc at ha; omega)) ⟨by rw [g3 47 (by omega)], by rw [g3 47 (by omega)]⟩ (fun j hj => by rw [g3 50 (by omega)]; exact RR_50 h j hj) h) (by omega)
  refine ⟨nI v, M2, ?_, g1, hR⟩
  have tri := g2.2.2.2.2 (tri_all hF hn)
  have hall : 2 ^ nn A - 1 < 256 := by omega
  unfold f_X5_groups
  rw [e0, bit_n _ (by omega), show (nI (2 ^ nn A) - 1 : Int32) = nI (2 ^ nn A - 1) from nI_sub (k := 1) hp1, Option.bind_some]
  generalize hall2 : 2 ^ nn A - 1 = all at g2 hall tri
  by_cases c0 : all = 0
  · have : v = 0 := g2.2.1.mpr c0
    subst c0; subst this
    rw [if_pos (show nI 0 = 0 from rfl)]; rfl
  · have v0 : v ≠ 0 := fun e => c0 (g2.2.1.mp e)
    rw [if_neg (nI_ne0 (by omega) (by omega)), h_isPeaceful hA h48.symm hall, Option.bind_some]
    by_cases c1 : pairsN A all = 0
    · have : v ≤ 1 := g2.2.2.1.mpr c1
      have : v = 1 := by omega
      subst this
      rw [if_pos c1, if_neg (by decide)]; rfl
    · have v1 : ¬ v ≤ 1 := fun e => c1 (g2.2.2.1.mp e)
      rw [if_neg c1, if_pos rfl]
      have key : ∃ r, zIter (f_X5_groups_l33 (nI all) M) 1000 0 = some r ∧ r = nI v := by
        refine zIter_may (fun k q => q = nI k ∧ ∀ c, c < k → ¬ (pcA A c ∧ pcA A (dif all c))) _ (all + 1) 1000 _ (by omega) ⟨rfl, fun c hc => by omega⟩ (fun k q hk hI => ?_) (fun q hI => ?_)
        · obtain ⟨rfl, hno⟩ := hI
          have no : ¬ (pcA A k ∧ pcA A (dif all k)) → ∀ c, c < k + 1 → ¬ (pcA A c ∧ pcA A (dif all c)) := fun h1 c hc => by
            by_cases e : c = k
            · subst e; exact h1
            · exact hno c (by omega)
          rw [f_X5_groups_l33, if_neg (nI_nlt (by omega) (by omega)), h_isPeaceful hA h48.symm (by omega), Option.bind_some]
          by_cases p1 : pairsN A k = 0
          · rw [if_pos p1, if_neg (by decide), g_dif all hall k (by omega), h_isPeaceful hA h48.symm (dif_lt _ hall _ (by omega)), Option.bind_some]
            by_cases p2 : pairsN A (dif all k) = 0
            · right
              have hsub : k &&& all = k := by
                refine sub_of (fun i hi => ?_)
                rw [← hall2, Nat.testBit_two_pow_sub_one, decide_eq_true_eq]
                refine Nat.not_le.mp (fun hge => ?_)
                have hkl : k < 2 ^ nn A := by omega
                rw [Nat.testBit_lt_two_pow (Nat.lt_of_lt_of_le hkl (Nat.pow_le_pow_right (by omega) hge))] at hi
                cases hi
              have : v ≤ 2 := g2.2.2.2.1.mpr ⟨k, by omega, hsub, p1, p2⟩
              have : v = 2 := by omega
              subst this
              rw [if_pos p2, if_neg (by decide)]
              exact ⟨_, rfl, rfl⟩
            · left
              rw [if_neg p2, if_pos rfl, nI_1]
              exact ⟨_, rfl, rfl, no (fun e => p2 e.2)⟩
          · left
            rw [if_neg p1, if_pos rfl, nI_1]
            exact ⟨_, rfl, rfl, no (fun e => p1 e.1)⟩
        · obtain ⟨rfl, hno⟩ := hI
          have v2 : ¬ v ≤ 2 := fun e => by
            obtain ⟨c, _, hcs, p1, p2⟩ := g2.2.2.2.1.mp e
            have : c ≤ all := by rw [← hcs]; exact Nat.and_le_right
            exact hno c (by omega) ⟨p1, p2⟩
          have : v = 3 := by omega
          subst this
          rw [f_X5_groups_l33, if_pos (nI_lt (by omega) (by omega))]
          exact ⟨_, rfl, rfl⟩
      obtain ⟨r, k1, rfl⟩ := key
      exact k1
