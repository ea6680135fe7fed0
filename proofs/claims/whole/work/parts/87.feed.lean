/-! FEEDING THE TAPE; SHEETS COPIED. -/
theorem sh_mod (x r : Int32) (c : Nat) (hc : c = 1 ∨ c = 256 ∨ c = 65536 ∨ c = 16777216) (h : r.toInt = x.toInt / (c : Int)) : r.toBitVec.toNat % 256 = x.toBitVec.toNat / c % 256 := by
  have e1 : r.toInt = r.toBitVec.toInt := rfl
  have e2 : x.toInt = x.toBitVec.toInt := rfl
  rw [e1, e2, BitVec.toInt_eq_toNat_cond, BitVec.toInt_eq_toNat_cond] at h
  have h3 := r.toBitVec.isLt
  have h4 := x.toBitVec.isLt
  generalize r.toBitVec.toNat = R at *
  generalize x.toBitVec.toNat = X at *
  rcases hc with rfl | rfl | rfl | rfl
  all_goals (split at h <;> split at h <;> omega)
/-- the j-th byte of a number -/
def byN (x : Int32) (j : Nat) : Nat := x.toBitVec.toNat / 2 ^ (8 * j) % 256
theorem byN_lt (x : Int32) (j : Nat) : byN x j < 256 := Nat.mod_lt _ (by omega)
theorem f_byte (x : Int32) {j : Nat} (hj : j < 4) : ((((x : Int32).toUInt32 >>> (((8 * nI j) : Int32).toUInt32 &&& Int32.toUInt32 31)).toInt32) &&& 255) = nI (byN x j) := by
  have hs : (((8 * nI j : Int32).toUInt32 &&& Int32.toUInt32 31).toBitVec % 32).toNat = 8 * j := (by decide : ∀ j, j < 4 → (((8 * nI j : Int32).toUInt32 &&& Int32.toUInt32 31).toBitVec % 32).toNat = 8 * j) j hj
  rw [pk_and _ 8 (by decide), pk_ushr x (8 * nI j) (8 * j) hs]; rfl
theorem m_byte (x : Int32) {j : Nat} (hj : j < 4) : ((x >>> ((8 * nI j) &&& 31)) &&& 255) = nI (byN x j) := by
  have hs : (((8 * nI j &&& 31 : Int32)).toBitVec.smod 32).toNat = 8 * j := (by decide : ∀ j, j < 4 → (((8 * nI j &&& 31 : Int32)).toBitVec.smod 32).toNat = 8 * j) j hj
  have e := pk_shr x (8 * nI j &&& 31) (8 * j) hs
  rw [Int.shiftRight_eq_div_pow] at e
  rw [pk_and _ 8 (by decide)]
  have hc : 2 ^ (8 * j) = 1 ∨ 2 ^ (8 * j) = 256 ∨ 2 ^ (8 * j) = 65536 ∨ 2 ^ (8 * j) = 16777216 := (by decide : ∀ j, j < 4 → 2 ^ (8 * j) = 1 ∨ 2 ^ (8 * j) = 256 ∨ 2 ^ (8 * j) = 65536 ∨ 2 ^ (8 * j) = 16777216) j hj
  have := sh_mod x _ (2 ^ (8 * j)) hc e
  unfold byN
  rw [← this]
/-- bytes put behind a tape of T -/
def fdA (F : Nat → Int32) (x : Int32) (T n : Nat) : Nat → Nat → Int32
  | 0 => F
  | k + 1 => upd (fdA F x T n k) (T + k) (nI (byN x (n - 1 - k)))
theorem fdA_eq {F G : Nat → Int32} (x : Int32) (T n : Nat) (h : ∀ i, i < 120 → F i = G i ∧ nb (G i) 255) : ∀ k, ∀ i, i < 120 → fdA F x T n k i = fdA G x T n k i ∧ nb (fdA G x T n k i) 255 := by
  intro k
  induction k with
  | zero => exact h
  | succ k ih =>
    intro i hi
    show upd _ _ _ i = upd _ _ _ i ∧ nb (upd _ _ _ i) 255
    rw [upd_at, upd_at]
    by_cases c : i = T + k
    · rw [if_pos c, if_pos c]; exact ⟨rfl, _, by have := byN_lt x (n - 1 - k); omega, rfl⟩
    · rw [if_neg c, if_neg c]; exact ih i hi
theorem h_feed {M : zM} {x : Int32} {T n : Nat} (hn : n ≤ 4) (h1 : M 34 1 = nI T) (hT : T + n ≤ 120) : ∃ M', zIter (f_X5_feed_l39 x) 1000 (uW n, M) = some (nI (T + n), M') ∧ M' 34 1 = nI (T + n) ∧ M' 35 = fdA (M 35) x T n n ∧ ∀ a, a ≠ 34 → a ≠ 35 → M' a = M a := by
  have key : ∃ r, zIter (f_X5_feed_l39 x) 1000 (uW n, M) = some r ∧ ∃ M', r = (nI (T + n), M') ∧ M' 34 1 = nI (T + n) ∧ M' 35 = fdA (M 35) x T n n ∧ ∀ a, a ≠ 34 → a ≠ 35 → M' a = M a := by
    refine zIter_inv (fun k st => ∃ N : zM, st = (uW (n - k), N) ∧ N 34 1 = nI (T + k) ∧ N 35 = fdA (M 35) x T n k ∧ ∀ a, a ≠ 34 → a ≠ 35 → N a = M a) _ n 1000 _ (by omega) ⟨M, rfl, h1, rfl, fun _ _ _ => rfl⟩ (fun k st hk hI => ?_) (fun st hI => ?_)
    · obtain ⟨N, rfl, n1, n2, n3⟩ := hI
      have e : n - k = (n - 1 - k) + 1 := by omega
      have e2 : n - (k + 1) = n - 1 - k := by omega
      have w35 : zwr N 35 (nI (T + k)) (nI (byN x (n - 1 - k))) = some (zU N 35 (T + k) (nI (byN x (n - 1 - k)))) := wr (n := 120) rfl (by omega)
      rw [e, uW_s, f_X5_feed_l39, if_neg (nI_pos (by omega)), f_byte x (by omega)]
      unfold f_X4_append
      rw [n1, if_neg (show ¬ (120 : Int32) ≤ nI (T + k) from nI_ge (b := 120) (by omega) (by decide)), w35, Option.bind_some, zU_off (show 34 ≠ 35 by omega), n1, nI_1]
      refine ⟨_, rfl, zU (zU N 35 (T + k) (nI (byN x (n - 1 - k)))) 34 1 (nI (T + k + 1)), ?_, zU_same _ _ _ _, ?_, fun a h1 h2 => by rw [zU_off h1, zU_off h2, n3 a h1 h2]⟩
      · show (nI (n - 1 - k) + (-1), _) = _
        rw [show nI (n - 1 - k) + (-1) = uW (n - (k + 1)) by rw [e2]; exact (Int32.sub_eq_add_neg ..).symm]
      · rw [zU_off (by omega), zU_row, n2]; rfl
    · obtain ⟨N, rfl, n1, n2, n3⟩ := hI
      rw [Nat.sub_self, uW_0, f_X5_feed_l39, if_pos (by decide), n1]
      exact ⟨_, rfl, N, rfl, n1, n2, n3⟩
  obtain ⟨r, k1, N, rfl, k2⟩ := key
  exact ⟨N, k1, k2⟩
theorem m_feed {M : zM} {x : Int32} {T n : Nat} (hn : n ≤ 4) (h1 : M 47 8 = nI T) (hT : T + n ≤ 120) : ∃ M', zIter (f_X6_feed_l38 x) 1000 (uW n, M) = some (nI (T + n), M') ∧ M' 47 8 = nI (T + n) ∧ M' 47 3 = M 47 3 ∧ M' 54 = fdA (M 54) x T n n ∧ ∀ a, a ≠ 47 → a ≠ 54 → M' a = M a := by
  have key : ∃ r, zIter (f_X6_feed_l38 x) 1000 (uW n, M) = some r ∧ ∃ M', r = (nI (T + n), M') ∧ M' 47 8 = nI (T + n) ∧ M' 47 3 = M 47 3 ∧ M' 54 = fdA (M 54) x T n n ∧ ∀ a, a ≠ 47 → a ≠ 54 → M' a = M a := by
    refine zIter_inv (fun k st => ∃ N : zM, st = (uW (n - k), N) ∧ N 47 8 = nI (T + k) ∧ N 47 3 = M 47 3 ∧ N 54 = fdA (M 54) x T n k ∧ ∀ a, a ≠ 47 → a ≠ 54 → N a = M a) _ n 1000 _ (by omega) ⟨M, rfl, h1, rfl, rfl, fun _ _ _ => rfl⟩ (fun k st hk hI => ?_) (fun st hI => ?_)
    · obtain ⟨N, rfl, n1, n4, n2, n3⟩ := hI
      have e : n - k = (n - 1 - k) + 1 := by omega
      have e2 : n - (k + 1) = n - 1 - k := by omega
      have w54 : zwr N 54 (nI (T + k)) (nI (byN x (n - 1 - k))) = some (zU N 54 (T + k) (nI (byN x (n - 1 - k)))) := wr (n := 120) rfl (by omega)
      rw [e, uW_s, f_X6_feed_l38, if_neg (nI_pos (by omega)), m_byte x (by omega), n1, w54, Option.bind_some, zU_off (show 47 ≠ 54 by omega), n1, nI_1]
      refine ⟨_, rfl, zU (zU N 54 (T + k) (nI (byN x (n - 1 - k)))) 47 8 (nI (T + k + 1)), ?_, zU_same _ _ _ _, ?_, ?_, fun a h1 h2 => by rw [zU_off h1, zU_off h2, n3 a h1 h2]⟩
      · show (nI (n - 1 - k) + (-1), _) = _
        rw [show nI (n - 1 - k) + (-1) = uW (n - (k + 1)) by rw [e2]; exact (Int32.sub_eq_add_neg ..).symm]
      · rw [zU_at, if_neg (by omega), zU_off (by omega), n4]
      · rw [zU_off (by omega), zU_row, n2]; rfl
    · obtain ⟨N, rfl, n1, n4, n2, n3⟩ := hI
      rw [Nat.sub_self, uW_0, f_X6_feed_l38, if_pos (by decide), n1]
      exact ⟨_, rfl, N, rfl, n1, n4, n2, n3⟩
  obtain ⟨r, k1, N, rfl, k2⟩ := key
  exact ⟨N, k1, k2⟩
theorem pe_feed (x y : Int32) : PE (f_X5_feed x y) (f_X6_feed x y) := by
  intro M D hD h
  obtain ⟨-, -, -, -, -, -, ⟨t1, ⟨T, hT, t2⟩, t3⟩, -⟩ := h.2.2
  by_cases hy : inB y 1 4
  · obtain ⟨n, hn, rfl⟩ := (inB_nI (n := 4) (by omega)).mp (show inB y 0 4 from ⟨fun c => hy.1 (Int32.lt_trans c (by decide)), hy.2⟩)
    have n0 : n ≠ 0 := fun e => by subst e; exact hy.1 (by decide)
    have en : nI n - 1 = uW n := rfl
    have e120 : (120 : Int32) - nI n = nI (120 - n) := nI_sub (a := 120) (by omega)
    by_cases hf : T + n ≤ 120
    · obtain ⟨N, k1, k2, k3, k4⟩ := h_feed (x := x) hn t2 hf
      obtain ⟨P, g1, g2, g5, g3, g4⟩ := m_feed (M := N) (x := x) hn (by rw [k4 47 (by omega) (by omega), t1, t2]) hf
      refine ⟨nI (T + n), N, P, ?_, ?_, RR_mono (RR_tape h (fun a h1 h2 h3 h4 => by rw [g4 a h4 h3, k4 a h1 h2]) (by rw [g5, k4 47 (by omega) (by omega)]) ⟨?_, ?_, ?_⟩) (by omega)⟩
      · unfold f_X5_feed
        rw [f_within_eq, Option.bind_some, wi_t hy, if_neg (by decide), t2, e120, if_pos (nI_le (by omega) (by omega)), Option.bind_some, en, k1]
      · unfold f_X6_feed
        rw [m_within_eq, Option.bind_some, wi_t hy, if_neg (by decide), k4 47 (by omega) (by omega), t1, t2, nI_add, if_pos (show nI (T + n) ≤ 120 from nI_le (b := 120) hf (by omega)), Option.bind_some, en, g1]
      · rw [g2, g4 34 (by omega) (by omega), k2]
      · rw [g4 34 (by omega) (by omega), k2]; exact ⟨_, hf, rfl⟩
      · rw [g3, g4 35 (by omega) (by omega), k3, k4 54 (by omega) (by omega)]
        exact fdA_eq x T n t3 n
    · refine pe_find h 1 (by omega) ?_ (fun M1 hf2 => ?_)
      · unfold f_X5_feed
        rw [f_within_eq, Option.bind_some, wi_t hy, if_neg (by decide), t2, e120, if_neg (nI_ge (by omega) (by omega)), bind_pair]; rfl
      · unfold f_X6_feed
        rw [m_within_eq, Option.bind_some, wi_t hy, if_neg (by decide), hf2 47 (by omega), t1, t2, nI_add, if_neg (show ¬ nI (T + n) ≤ 120 from nI_ge (a := 120) (by omega) (by omega)), bind_pair]; rfl
  · refine pe_find h 0 (by omega) ?_ (fun M1 hf => ?_)
    · unfold f_X5_feed
      rw [f_within_eq, Option.bind_some, wi_f hy, if_pos rfl, bind_pair]; rfl
    · unfold f_X6_feed
      rw [m_within_eq, Option.bind_some, wi_f hy, if_pos rfl, bind_pair]; rfl
/-- a sheet has n numbers from one on -/
def hasN (x n : Int32) (L : Nat) : Prop := ∃ f m, x = nI f ∧ n = nI m ∧ f + m ≤ L
theorem f_has_eq {M : zM} {q : Nat} {x n : Int32} {L : Nat} (hL : M q 2 = nI L) (h40 : L ≤ 40) : (hasN x n L ∧ f_X3_has q x n M = some 1) ∨ (¬ hasN x n L ∧ f_X3_has q x n M = some 0) := by
  unfold f_X3_has
  by_cases c1 : x < 0
  · rw [if_pos c1]; right
    refine ⟨?_, rfl⟩
    rintro ⟨f, m, rfl, -, hf⟩
    exact nI_pos (by omega) c1
  · rw [if_neg c1]
    by_cases c2 : n < 0
    · rw [if_pos c2]; right
      refine ⟨?_, rfl⟩
      rintro ⟨f, m, -, rfl, hf⟩
      exact nI_pos (by omega) c2
    · obtain ⟨f, hf, rfl⟩ := nI_of c1
      obtain ⟨m, hm, rfl⟩ := nI_of c2
      have iff : hasN (nI f) (nI m) L ↔ f + m ≤ L := by
        constructor
        · rintro ⟨f2, m2, e1, e2, h3⟩
          have := (nI_eq hf (by omega)).mp e1
          have := (nI_eq hm (by omega)).mp e2
          omega
        · intro h3; exact ⟨f, m, rfl, rfl, h3⟩
      rw [if_neg c2, hL, iff]
      by_cases c3 : L < f
      · rw [if_pos (nI_lt c3 hf)]; right; exact ⟨by omega, rfl⟩
      · rw [if_neg (nI_nlt (by omega) (by omega)), nI_sub (by omega)]
        by_cases c4 : L - f < m
        · rw [if_pos (nI_lt c4 hm)]; right; exact ⟨by omega, rfl⟩
        · rw [if_neg (nI_nlt (by omega) (by omega))]; left; exact ⟨by omega, rfl⟩
theorem lN_cmp {f m L : Nat} (hf : f < 2 ^ 31) (hm : m < 2 ^ 31) (hL : L ≤ 40) : (lN L < lN f + lN m) ↔ L < f + m := by
  rw [lN_add, Int64.lt_iff_toInt_lt, show (lN L).toInt = (L : Int) from lg_ofNat_toInt (by omega), show (lN (f + m)).toInt = ((f + m : Nat) : Int) from lg_ofNat_toInt (by omega)]
  omega
/-- numbers that came from one row's part into another's -/
def cpA (G : Nat → Int32) (a b n : Nat) : Nat → Int32 := fun i => if b ≤ i ∧ i < b + n then G (a + (i - b)) else G i
theorem m_cp2 {M : zM} {t g n : Nat} {H : Nat → Int32} (ht : t < 4) (hg : g + n ≤ 40) (h60 : ∀ i, i < n → M 60 i = H i) : ∃ M', zIter (f_X6_copy_l165 (nI t) (nI g) (nI n)) 1000 (0, M) = some (nI n, M') ∧ (∀ i, M' 59 i = if 40 * t + g ≤ i ∧ i < 40 * t + g + n then H (i - (40 * t + g)) else M 59 i) ∧ ∀ a, a ≠ 59 → M' a = M a := by
  have key : ∃ r, zIter (f_X6_copy_l165 (nI t) (nI g) (nI n)) 1000 (0, M) = some r ∧ ∃ M', r = (nI n, M') ∧ (∀ i, M' 59 i = if 40 * t + g ≤ i ∧ i < 40 * t + g + n then H (i - (40 * t + g)) else M 59 i) ∧ ∀ a, a ≠ 59 → M' a = M a := by
    refine zIter_inv (fun k st => ∃ N : zM, st = (nI k, N) ∧ (∀ i, N 59 i = if 40 * t + g ≤ i ∧ i < 40 * t + g + k then H (i - (40 * t + g)) else M 59 i) ∧ ∀ a, a ≠ 59 → N a = M a) _ n 1000 _ (by omega) ⟨M, rfl, fun i => by rw [if_neg (by omega)], fun _ _ => rfl⟩ (fun k st hk hI => ?_) (fun st hI => ?_)
    · obtain ⟨N, rfl, n1, n2⟩ := hI
      have z60 : zrd N 60 (nI k) = some (H k) := by rw [rd (n := 40) rfl (by omega), n2 60 (by omega), h60 k hk]
      have w59 : zwr N 59 (((40 : Int32) * nI t + nI g) + nI k) (H k) = some (zU N 59 (40 * t + g + k) (H k)) := by
        rw [show (40 : Int32) * nI t = nI (40 * t) from pk_mul 40 t, nI_add, nI_add]
        exact wr (n := 160) rfl (by omega)
      rw [f_X6_copy_l165, if_neg (nI_ge hk (by omega)), z60, Option.bind_some, w59, Option.bind_some, nI_1]
      refine ⟨_, rfl, _, rfl, fun i => ?_, fun a ha => by rw [zU_off ha, n2 a ha]⟩
      rw [zU_at]
      by_cases c : i = 40 * t + g + k
      · rw [if_pos ⟨rfl, c⟩, if_pos (by omega), show i - (40 * t + g) = k by omega]
      · rw [if_neg (fun q => c q.2), n1 i]
        by_cases d : 40 * t + g ≤ i ∧ i < 40 * t + g + k
        · rw [if_pos d, if_pos (by omega)]
        · rw [if_neg d, if_neg (by omega)]
    · obtain ⟨N, rfl, n1, n2⟩ := hI
      rw [f_X6_copy_l165, if_pos (nI_le (Nat.le_refl _) (by omega))]
      exact ⟨_, rfl, N, rfl, n1, n2⟩
  obtain ⟨r, k1, N, rfl, k2⟩ := key
  exact ⟨N, k1, k2⟩
theorem m_cp1 {M : zM} {s f t g n : Nat} (hs : s < 4) (ht : t < 4) (hf : f + n ≤ 40) (hg : g + n ≤ 40) : ∃ M', zIter (f_X6_copy_l128 (nI s) (nI f) (nI t) (nI g) (nI n)) 1000 (0, M) = some (nI n, M') ∧ (∀ i, M' 59 i = if 40 * t + g ≤ i ∧ i < 40 * t + g + n then M 59 (40 * s + f + (i - (40 * t + g))) else M 59 i) ∧ ∀ a, a ≠ 59 → a ≠ 60 → M' a = M a := by
  have key : ∃ r, zIter (f_X6_copy_l128 (nI s) (nI f) (nI t) (nI g) (nI n)) 1000 (0, M) = some r ∧ ∃ M', r = (nI n, M') ∧ (∀ i, M' 59 i = if 40 * t + g ≤ i ∧ i < 40 * t + g + n then M 59 (40 * s + f + (i - (40 * t + g))) else M 59 i) ∧ ∀ a, a ≠ 59 → a ≠ 60 → M' a = M a := by
    refine zIter_inv (fun k st => ∃ N : zM, st = (nI k, N) ∧ (∀ i, i < k → N 60 i = M 59 (40 * s + f + i)) ∧ ∀ a, a ≠ 60 → N a = M a) _ n 1000 _ (by omega) ⟨M, rfl, fun i hi => by omega, fun _ _ => rfl⟩ (fun k st hk hI => ?_) (fun st hI => ?_)
    · obtain ⟨N, rfl, n1, n2⟩ := hI
      have z59 : zrd N 59 (((40 : Int32) * nI s + nI f) + nI k) = some (M 59 (40 * s + f + k)) := by
        rw [show (40 : Int32) * nI s = nI (40 * s) from pk_mul 40 s, nI_add, nI_add, rd (n := 160) rfl (by omega), n2 59 (by omega)]
      rw [f_X6_copy_l128, if_neg (nI_ge hk (by omega)), z59, Option.bind_some, wr (n := 40) rfl (by omega), Option.bind_some, nI_1]
      refine ⟨_, rfl, _, rfl, fun i hi => ?_, fun a ha => by rw [zU_off ha, n2 a ha]⟩
      rw [zU_at]
      by_cases c : i = k
      · rw [if_pos ⟨rfl, c⟩, c]
      · rw [if_neg (fun q => c q.2)]; exact n1 i (by omega)
    · obtain ⟨N, rfl, n1, n2⟩ := hI
      obtain ⟨P, g1, g2, g3⟩ := m_cp2 (M := N) (t := t) (g := g) (n := n) (H := fun i => M 59 (40 * s + f + i)) ht hg n1
      rw [f_X6_copy_l128, if_pos (nI_le (Nat.le_refl _) (by omega))]
      unfold f_X6_copy_j162
      rw [g1]
      refine ⟨_, rfl, P, rfl, fun i => ?_, fun a h1 h2 => by rw [g3 a h1, n2 a h2]⟩
      rw [g2 i, n2 59 (by omega)]
  obtain ⟨r, k1, N, rfl, k2⟩ := key
  exact ⟨N, k1, k2⟩
theorem cp40 {M : zM} {s t f g m : Nat} (hs : s < 4) (ht : t < 4) (hf : f + m ≤ 40) (hg : g + m ≤ 40) : zcp M (40 + 2 * s) (nI f) (40 + 2 * t) (nI g) (nI m) = some (zCp M (40 + 2 * s) (40 + 2 * t) f g m) := by
  unfold zcp
  rw [shSh hs, shSh ht]
  simp only []
  rw [nI_clamp (show f < 2 ^ 31 by omega), nI_clamp (show g < 2 ^ 31 by omega), nI_clamp (show m < 2 ^ 31 by omega), if_neg]
  intro c
  rcases c with c | c | c | c | c
  · exact nI_pos (by omega) c
  · exact nI_pos (by omega) c
  · exact nI_pos (by omega) c
  · omega
  · omega
theorem c_ref {q : Nat} {s : Nat} (hs : s < 4) (h : zrr 37 (nI s) = some q) : q = 39 + 2 * s := by rw [sheet_ref s hs] at h; exact (Option.some.inj h).symm
theorem pe_copy (x f t g n : Int32) : PE (f_X5_copy x f t g n) (f_X6_copy x f t g n) := by
  intro M D hD h
  by_cases hx : inB x 0 3
  · by_cases ht : inB t 0 3
    · obtain ⟨s, hs, rfl⟩ := (inB_nI (n := 3) (by omega)).mp hx
      obtain ⟨t, ht4, rfl⟩ := (inB_nI (n := 3) (by omega)).mp ht
      obtain ⟨b1, b2, b3, b4, ⟨L, hL, b5⟩, b6⟩ := h.2.2.2.2.2.2.2.2.2 s (by omega)
      obtain ⟨c1, c2, c3, c4, ⟨K, hK, c5⟩, c6⟩ := h.2.2.2.2.2.2.2.2.2 t (by omega)
      have rs := sheet_ref s (by omega)
      have rt := sheet_ref t (by omega)
      have e2 : M (39 + 2 * s) 2 = nI L := by rw [← b2, b5]
      have e3 : M (39 + 2 * t) 2 = nI K := by rw [← c2, c5]
      have z57 : ∀ (N : zM) u, u < 4 → N 57 = M 57 → zrd N 57 (nI u) = some (M 57 u) := fun N u hu hN => by rw [rd (n := 4) rfl hu, hN]
      have z58 : ∀ (N : zM) u, u < 4 → N 58 = M 58 → zrd N 58 (nI u) = some (M 58 u) := fun N u hu hN => by rw [rd (n := 4) rfl hu, hN]
      by_cases hb : M (39 + 2 * s) 1 = 0
      · refine pe_find h 5 (by omega) ?_ (fun M1 hf => ?_)
        · unfold f_X5_copy f_X5_copy_j44
          rw [f_isSheet_eq, Option.bind_some, wi_t hx, if_neg (by decide), f_isSheet_eq, Option.bind_some, wi_t ht, if_neg (by decide), rs, Option.bind_some, if_pos hb, bind_pair]; rfl
        · unfold f_X6_copy f_X6_copy_j39
          rw [m_isSheet_eq, Option.bind_some, wi_t hx, if_neg (by decide), m_isSheet_eq, Option.bind_some, wi_t ht, if_neg (by decide), z57 M1 s (by omega) (hf 57 (by omega)), Option.bind_some, b1, if_pos hb, bind_pair]; rfl
      · by_cases hc : M (39 + 2 * t) 1 = 0
        · refine pe_find h 5 (by omega) ?_ (fun M1 hf => ?_)
          · unfold f_X5_copy f_X5_copy_j44
            rw [f_isSheet_eq, Option.bind_some, wi_t hx, if_neg (by decide), f_isSheet_eq, Option.bind_some, wi_t ht, if_neg (by decide), rs, Option.bind_some, if_neg hb, rt, Option.bind_some, if_pos hc, bind_pair]; rfl
          · unfold f_X6_copy f_X6_copy_j39
            rw [m_isSheet_eq, Option.bind_some, wi_t hx, if_neg (by decide), m_isSheet_eq, Option.bind_some, wi_t ht, if_neg (by decide), z57 M1 s (by omega) (hf 57 (by omega)), Option.bind_some, b1, if_neg hb, z57 M1 t (by omega) (hf 57 (by omega)), Option.bind_some, c1, if_pos hc, bind_pair]; rfl
        · by_cases hd : M (39 + 2 * s) 1 = M (39 + 2 * t) 1
          · have cls : f_X5_copy (nI s) f (nI t) g n M = (f_X3_has (39 + 2 * s) f n M).bind fun v30 => if v30 = 0 then f_X5_copy_j108 M else (f_X3_has (39 + 2 * t) g n M).bind fun v35 => if v35 = 0 then f_X5_copy_j108 M else (zcp M (39 + 2 * s + 1) f (39 + 2 * t + 1) g n).bind fun M41 => some (n, M41) := by
              unfold f_X5_copy
              rw [f_isSheet_eq, Option.bind_some, wi_t hx, if_neg (by decide), f_isSheet_eq, Option.bind_some, wi_t ht, if_neg (by decide), rs, Option.bind_some, if_neg hb, rt, Option.bind_some, if_neg hc, Option.bind_some, Option.bind_some, if_pos hd, Option.bind_some]
              rfl
            have mod : ∀ N : zM, N 57 = M 57 → N 58 = M 58 → f_X6_copy (nI s) f (nI t) g n N = if f < 0 then f_X6_copy_j118 N else if g < 0 then f_X6_copy_j118 N else if n < 0 then f_X6_copy_j118 N else if 0 < (lg_cmp (((f : Int32).toInt64) + ((n : Int32).toInt64)) ((nI L).toInt64)) then f_X6_copy_j118 N else if (lg_cmp (((g : Int32).toInt64) + ((n : Int32).toInt64)) ((nI K).toInt64)) ≤ 0 then zIter (f_X6_copy_l128 (nI s) f (nI t) g n) 1000 (0, N) else f_X6_copy_j118 N := fun N h7 h8 => by
              unfold f_X6_copy
              rw [m_isSheet_eq, Option.bind_some, wi_t hx, if_neg (by decide), m_isSheet_eq, Option.bind_some, wi_t ht, if_neg (by decide), z57 N s (by omega) h7, Option.bind_some, b1, if_neg hb, z57 N t (by omega) h7, Option.bind_some, c1, if_neg hc, Option.bind_some, Option.bind_some, if_pos hd, z58 N s (by omega) h8, z58 N t (by omega) h8, b5, c5]
              rfl
            have jf : f_X5_copy_j108 M = f_X5_finding 0 M := by unfold f_X5_copy_j108; rw [bind_pair]
            have jm : ∀ N : zM, f_X6_copy_j118 N = f_X6_finding (-1000001) N := fun N => by unfold f_X6_copy_j118; rw [bind_pair]
            have mno : ∀ N : zM, N 57 = M 57 → N 58 = M 58 → (¬ hasN f n L ∨ ¬ hasN g n K) → f_X6_copy (nI s) f (nI t) g n N = f_X6_finding (-1000001) N := by
              intro N h7 h8 hno
              rw [mod N h7 h8, jm]
              by_cases q1 : f < 0
              · rw [if_pos q1]
              by_cases q2 : g < 0
              · rw [if_neg q1, if_pos q2]
              by_cases q3 : n < 0
              · rw [if_neg q1, if_neg q2, if_pos q3]
              rw [if_neg q1, if_neg q2, if_neg q3]
              obtain ⟨f, hf, rfl⟩ := nI_of q1
              obtain ⟨g, hg, rfl⟩ := nI_of q2
              obtain ⟨n, hn, rfl⟩ := nI_of q3
              rw [nI_l hf, nI_l hg, nI_l hn, nI_l (show L < 2 ^ 31 by omega), nI_l (show K < 2 ^ 31 by omega)]
              by_cases w1 : L < f + n
              · rw [if_pos ((lg_cmp_gt _ _).mpr ((lN_cmp hf hn hL).mpr w1))]
              · by_cases w2 : K < g + n
                · rw [if_neg (fun q => w1 ((lN_cmp hf hn hL).mp ((lg_cmp_gt _ _).mp q))), if_neg (fun q => absurd ((lN_cmp hg hn hK).mpr w2) (Int64.not_lt.mpr ((lg_cmp_le _ _).mp q)))]
                · exfalso
                  rcases hno with q | q
                  · exact q ⟨f, n, rfl, rfl, by omega⟩
                  · exact q ⟨g, n, rfl, rfl, by omega⟩
            rcases f_has_eq (x := f) (n := n) e2 hL with ⟨h1, r1⟩ | ⟨h1, r1⟩
            · rcases f_has_eq (x := g) (n := n) e3 hK with ⟨h2, r2⟩ | ⟨h2, r2⟩
              · obtain ⟨f, m, rfl, rfl, hfm⟩ := h1
                obtain ⟨g, m2, rfl, em, hgm⟩ := h2
                have em2 : m = m2 := (nI_eq (by omega) (by omega)).mp em
                subst em2
                have ecp : zcp M (39 + 2 * s + 1) (nI f) (39 + 2 * t + 1) (nI g) (nI m) = some (zCp M (40 + 2 * s) (40 + 2 * t) f g m) := by
                  rw [show 39 + 2 * s + 1 = 40 + 2 * s by omega, show 39 + 2 * t + 1 = 40 + 2 * t by omega]
                  exact cp40 (by omega) (by omega) (by omega) (by omega)
                have off : ∀ a, a ≠ 40 + 2 * t → zCp M (40 + 2 * s) (40 + 2 * t) f g m a = M a := fun a ha => by unfold zCp; rw [if_neg ha]
                have at_ : zCp M (40 + 2 * s) (40 + 2 * t) f g m (40 + 2 * t) = va_cpy (M (40 + 2 * s)) (M (40 + 2 * t)) f g m := by unfold zCp; rw [if_pos rfl]
                generalize zCp M (40 + 2 * s) (40 + 2 * t) f g m = N at ecp off at_
                obtain ⟨P, g1, g2, g3⟩ := m_cp1 (M := N) (s := s) (f := f) (t := t) (g := g) (n := m) (by omega) (by omega) (by omega) (by omega)
                refine ⟨nI m, N, P, ?_, ?_, RR_mono (RR_sheets h (fun a h1 h2 h3 h4 h5 => by rw [g3 a h4 h5, off a (by omega)]) (fun u hu => ?_)) (by omega)⟩
                · rw [cls, r1, Option.bind_some, if_neg (by decide), r2, Option.bind_some, if_neg (by decide), ecp]; rfl
                · rw [mod N (off 57 (by omega)) (off 58 (by omega)), if_neg (nI_pos (by omega)), if_neg (nI_pos (by omega)), if_neg (nI_pos (by omega)), nI_l (show f < 2 ^ 31 by omega), nI_l (show g < 2 ^ 31 by omega), nI_l (show m < 2 ^ 31 by omega), nI_l (show L < 2 ^ 31 by omega), nI_l (show K < 2 ^ 31 by omega), if_neg (fun q => by have := (lN_cmp (by omega) (by omega) hL).mp ((lg_cmp_gt _ _).mp q); omega), if_pos ((lg_cmp_le _ _).mpr (Int64.not_lt.mp (fun q => by have := (lN_cmp (by omega) (by omega) hK).mp q; omega))), g1]
                · obtain ⟨d1, d2, d3, d4, d5, d6⟩ := h.2.2.2.2.2.2.2.2.2 u hu
                  rw [g3 57 (by omega) (by omega), off 57 (by omega), g3 58 (by omega) (by omega), off 58 (by omega), g3 (39 + 2 * u) (by omega) (by omega), off (39 + 2 * u) (by omega), g3 (40 + 2 * u) (by omega) (by omega)]
                  refine ⟨d1, d2, fun i hi => ?_, d4, d5, d6⟩
                  rw [g2, off 59 (by omega)]
                  by_cases e : u = t
                  · subst e
                    rw [at_]
                    by_cases q : g ≤ i ∧ i < g + m
                    · rw [if_pos (by omega), pk_cpy_in q.1 q.2, show 40 * s + f + (40 * u + i - (40 * u + g)) = 40 * s + (f + (i - g)) by omega, b3 _ (by omega)]
                    · rw [if_neg (by omega), pk_cpy_out (by omega), d3 i hi]
                  · rw [if_neg (by omega), off _ (by omega), d3 i hi]
              · refine pe_find h 0 (by omega) ?_ (fun M1 hf => ?_)
                · rw [cls, r1, Option.bind_some, if_neg (by decide), r2, Option.bind_some, if_pos rfl, jf]; rfl
                · exact mno M1 (hf 57 (by omega)) (hf 58 (by omega)) (Or.inr h2)
            · refine pe_find h 0 (by omega) ?_ (fun M1 hf => ?_)
              · rw [cls, r1, Option.bind_some, if_pos rfl, jf]; rfl
              · exact mno M1 (hf 57 (by omega)) (hf 58 (by omega)) (Or.inl h1)
          · refine pe_find h 2 (by omega) ?_ (fun M1 hf => ?_)
            · unfold f_X5_copy
              rw [f_isSheet_eq, Option.bind_some, wi_t hx, if_neg (by decide), f_isSheet_eq, Option.bind_some, wi_t ht, if_neg (by decide), rs, Option.bind_some, if_neg hb, rt, Option.bind_some, if_neg hc, Option.bind_some, Option.bind_some, if_neg hd, bind_pair]; rfl
            · unfold f_X6_copy
              rw [m_isSheet_eq, Option.bind_some, wi_t hx, if_neg (by decide), m_isSheet_eq, Option.bind_some, wi_t ht, if_neg (by decide), z57 M1 s (by omega) (hf 57 (by omega)), Option.bind_some, b1, if_neg hb, z57 M1 t (by omega) (hf 57 (by omega)), Option.bind_some, c1, if_neg hc, Option.bind_some, Option.bind_some, if_neg hd, bind_pair]; rfl
    · refine pe_find h 0 (by omega) ?_ (fun M1 hf => ?_)
      · unfold f_X5_copy f_X5_copy_j14
        rw [f_isSheet_eq, Option.bind_some, wi_t hx, if_neg (by decide), f_isSheet_eq, Option.bind_some, wi_f ht, if_pos rfl, bind_pair]; rfl
      · unfold f_X6_copy f_X6_copy_j14
        rw [m_isSheet_eq, Option.bind_some, wi_t hx, if_neg (by decide), m_isSheet_eq, Option.bind_some, wi_f ht, if_pos rfl, bind_pair]; rfl
  · refine pe_find h 0 (by omega) ?_ (fun M1 hf => ?_)
    · unfold f_X5_copy f_X5_copy_j14
      rw [f_isSheet_eq, Option.bind_some, wi_f hx, if_pos rfl, bind_pair]; rfl
    · unfold f_X6_copy f_X6_copy_j14
      rw [m_isSheet_eq, Option.bind_some, wi_f hx, if_pos rfl, bind_pair]; rfl
