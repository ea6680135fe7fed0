/-! WISHES THAT FIT A SHEET. -/
theorem or9 : ∀ m, m < 512 → ∀ k, k < 9 → nI m ||| (1 <<< (nI k &&& 31)) = nI (m ||| 2 ^ k) := by decide +kernel
theorem or9b : ∀ m, m < 512 → ∀ k, k < 9 → nI (2 * m) ||| (2 <<< (nI k &&& 31)) = nI (2 * (m ||| 2 ^ k)) := by decide +kernel
theorem half9 : ∀ m, m < 512 → nI (2 * m) >>> ((1 : Int32) &&& 31) = nI m := by decide +kernel
theorem bit9 : ∀ m, m < 512 → ∀ k, k < 9 → ((nI m >>> (nI k &&& 31)) &&& 1) = (if m.testBit k then 1 else 0) := by decide +kernel
def popc9 (m : Nat) : Nat := ((List.range 9).filter (fun i => m.testBit i)).length
theorem bits9_c : ∀ m, m < 512 → f_J6_bitCount_0f7a4 (nI m) zM0 = some (nI (popc9 m)) ∧ f_X6_bits (nI m) zM0 = some (nI (popc9 m)) := by decide +kernel
def low9 (m : Nat) : Nat := ((List.range 9).find? (fun i => m.testBit i)).getD 9
theorem low9_c : ∀ m, m < 512 → m ≠ 0 → f_X5_lowest (nI m) zM0 = some (nI (low9 m)) ∧ low9 m < 9 ∧ m.testBit (low9 m) = true ∧ ∀ j, j < low9 m → m.testBit j = false := by decide +kernel
theorem has9 {m k : Nat} (h : m < 512) (hk : k < 9) (M : zM) : f_X6_has (nI m) (nI k) M = some (if m.testBit k then 1 else 0) := by
  unfold f_X6_has
  rw [bit9 m h k hk]
  cases m.testBit k <;> simp
theorem mkM_pow (p : Nat → Bool) (k : Nat) : mkM p k < 2 ^ k := by
  refine Nat.lt_pow_two_of_testBit _ (fun i hi => ?_)
  rw [mkM_bit, decide_eq_false (by omega), Bool.false_and]
theorem mkM_512 (p : Nat → Bool) {k : Nat} (h : k ≤ 9) : mkM p k < 512 := Nat.lt_of_lt_of_le (mkM_pow p k) (Nat.pow_le_pow_right (by omega) h : 2 ^ k ≤ 2 ^ 9)
/-- a day's purse is as told -/
def okD (F B : Nat → Int32) (p d : Nat) : Prop := F d = -1 ∨ F d = daysA B d (55 + p)
noncomputable def fitB (F B : Nat → Int32) (p L : Nat) : Bool := @decide (∀ d, d < L → okD F B p d) (Classical.propDecidable _)
theorem fitB_of {F B : Nat → Int32} {p L m : Nat} (hm : m ≤ L) (h1 : ∀ k, k < m → ¬ ¬ okD F B p k) (h2 : m = L ∨ ¬ okD F B p m) : fitB F B p L = decide (m = L) := by
  unfold fitB
  by_cases e : m = L
  · subst e
    rw [decide_eq_true rfl]
    exact @decide_eq_true _ (Classical.propDecidable _) (fun d hd => Classical.byContradiction (h1 d hd))
  · rw [decide_eq_false e]
    exact @decide_eq_false _ (Classical.propDecidable _) (fun c => h2.resolve_left e (c m (by omega)))
theorem h_j18t {N : zM} {s p k : Nat} {x y : Int32} (hs : s < 4) (hp : p < 6) (hk : k < 40) (hF : N (40 + 2 * s) k = x) (hr : hrow N 23 (55 + p) = y) (q : x = -1 ∨ x = y) : f_X0_pays_j18 23 (39 + 2 * s) (nI p) (nI k) N = some (.inl (nI (k + 1), N)) := by
  rw [hrow_purse _ _ hp] at hr
  have e1 : zrd N (39 + 2 * s + 1) (nI k) = some x := by
    rw [show 39 + 2 * s + 1 = 40 + 2 * s by omega, rd (n := 40) (shSh hs) hk, hF]
  have e2 : zrd N (23 + 6) (nI p) = some y := by rw [rd (n := 6) rfl hp, hr]
  unfold f_X0_pays_j18
  rw [e1, Option.bind_some]
  by_cases c : x = -1
  · rw [if_pos c, nI_1]; rfl
  · have c2 : x = y := q.resolve_left c
    rw [if_neg c, Option.bind_some, e2, Option.bind_some, if_pos c2, nI_1]; rfl
theorem h_j18f {N : zM} {s p k : Nat} {x y : Int32} (hs : s < 4) (hp : p < 6) (hk : k < 40) (hF : N (40 + 2 * s) k = x) (hr : hrow N 23 (55 + p) = y) (q : ¬ (x = -1 ∨ x = y)) : f_X0_pays_j18 23 (39 + 2 * s) (nI p) (nI k) N = some (.inr (0, N)) := by
  rw [hrow_purse _ _ hp] at hr
  have e1 : zrd N (39 + 2 * s + 1) (nI k) = some x := by
    rw [show 39 + 2 * s + 1 = 40 + 2 * s by omega, rd (n := 40) (shSh hs) hk, hF]
  have e2 : zrd N (23 + 6) (nI p) = some y := by rw [rd (n := 6) rfl hp, hr]
  unfold f_X0_pays_j18
  rw [e1, Option.bind_some, if_neg (fun c => q (Or.inl c)), Option.bind_some, e2, Option.bind_some, if_neg (fun c => q (Or.inr c))]
theorem h_pays {M : zM} {F B : Nat → Int32} {s p L D : Nat} (hA : okA B D) (hD : D ≤ 40000) (hr : hrow M 23 = B) (hs : s < 4) (hp : p < 6) (hL : L ≤ 40) (h2 : M (39 + 2 * s) 2 = nI L) (hF : M (40 + 2 * s) = F) : ∃ M', f_X0_pays 23 (39 + 2 * s) (nI p) M = some (if fitB F B p L = true then 1 else 0, M') ∧ ∀ a, (a < 23 ∨ 33 < a) → M' a = M a := by
  obtain ⟨m, hm, m1, m2⟩ := least (fun k => ¬ okD F B p k) L
  have ef := fitB_of hm m1 m2
  have key : ∃ r, zIter (f_X0_pays_l2 23 (39 + 2 * s) (nI p)) 1000 (0, M) = some r ∧ ∃ N : zM, r = (if fitB F B p L = true then 1 else 0, N) ∧ ∀ a, (a < 23 ∨ 33 < a) → N a = M a := by
    refine zIter_inv (fun k st => ∃ N : zM, st = (nI k, N) ∧ hrow N 23 = daysA B (k - 1) ∧ ∀ a, (a < 23 ∨ 33 < a) → N a = M a) _ m 1000 _ (by omega) ⟨M, rfl, hr, fun _ _ => rfl⟩ (fun k st hk hI => ?_) (fun st hI => ?_)
    · obtain ⟨N, rfl, n1, n2⟩ := hI
      have hok : okD F B p k := Classical.byContradiction (m1 k hk)
      have q2 : N (39 + 2 * s) 2 = nI L := by rw [n2 _ (by omega), h2]
      rw [f_X0_pays_l2, q2, if_neg (nI_ge (by omega) (by omega))]
      cases k with
      | zero =>
        rw [if_pos (show nI 0 ≤ 0 by decide), h_j18t (y := daysA B 0 (55 + p)) hs hp (by omega) (by rw [n2 _ (by omega), hF]) (by rw [n1]) hok]
        exact ⟨_, rfl, N, rfl, n1, n2⟩
      | succ k =>
        rw [Nat.add_sub_cancel] at n1
        obtain ⟨N2, q1, q3, -, q4⟩ := h_step (M := N) isH_23 hA (by omega) n1
        rw [if_neg (nI_nle (by omega) (by omega)), q1, Option.bind_some, h_j18t (y := daysA B (k + 1) (55 + p)) hs hp (by omega) (by rw [q4 _ (by omega), n2 _ (by omega), hF]) (by rw [q3]) hok]
        exact ⟨_, rfl, N2, rfl, by rw [Nat.add_sub_cancel]; exact q3, fun a ha => by rw [q4 a (by omega), n2 a ha]⟩
    · obtain ⟨N, rfl, n1, n2⟩ := hI
      have q2 : N (39 + 2 * s) 2 = nI L := by rw [n2 _ (by omega), h2]
      rw [f_X0_pays_l2, q2, ef]
      by_cases e : m = L
      · rw [if_pos (nI_le (by omega) (by omega)), decide_eq_true e, if_pos rfl]
        exact ⟨_, rfl, N, rfl, n2⟩
      · have hno : ¬ okD F B p m := m2.resolve_left e
        rw [if_neg (nI_ge (by omega) (by omega)), decide_eq_false e, if_neg (show ¬ false = true by decide)]
        cases m with
        | zero =>
          rw [if_pos (show nI 0 ≤ 0 by decide), h_j18f (y := daysA B 0 (55 + p)) hs hp (by omega) (by rw [n2 _ (by omega), hF]) (by rw [n1]) hno]
          exact ⟨_, rfl, N, rfl, n2⟩
        | succ m =>
          rw [Nat.add_sub_cancel] at n1
          obtain ⟨N2, q1, q3, -, q4⟩ := h_step (M := N) isH_23 hA (by omega) n1
          rw [if_neg (nI_nle (by omega) (by omega)), q1, Option.bind_some, h_j18f (y := daysA B (m + 1) (55 + p)) hs hp (by omega) (by rw [q4 _ (by omega), n2 _ (by omega), hF]) (by rw [q3]) hno]
          exact ⟨_, rfl, N2, rfl, fun a ha => by rw [q4 a (by omega), n2 a ha]⟩
  obtain ⟨r, k1, N, rfl, k2⟩ := key
  exact ⟨N, k1, k2⟩
theorem m_wentSo {M : zM} {F B : Nat → Int32} {s p L D : Nat} (hA : okA B D) (hD : D ≤ 40000) (h48 : M 48 = B) (hs : s < 4) (hp : p < 6) (hL : L ≤ 40) (h2 : M 58 s = nI L) (hF : ∀ i, i < 40 → M 59 (40 * s + i) = F i) (h50 : ∀ j, 67 ≤ j → M 50 j = 0) : ∃ M', f_X6_wentSo (nI s) (nI p) M = some (if fitB F B p L = true then 1 else 0, M') ∧ MS M M' := by
  obtain ⟨m, hm, m1, m2⟩ := least (fun k => ¬ okD F B p k) L
  have ef := fitB_of hm m1 m2
  have hz := hA.2.2.2.2.2.2.2.2.2
  obtain ⟨N0, a1, a2, a3⟩ := m_aside (M := M) (by rw [h48]; exact hz) h50
  rw [h48] at a2
  have n048 : N0 48 = B := by rw [a3 48 (by omega), h48]
  have z58 : ∀ N : zM, (∀ a, a ≠ 48 → a ≠ 52 → N a = N0 a) → zrd N 58 (nI s) = some (nI L) := fun N hN => by rw [rd (n := 4) rfl hs, hN 58 (by omega) (by omega), a3 58 (by omega), h2]
  have z59 : ∀ (N : zM) k, (∀ a, a ≠ 48 → a ≠ 52 → N a = N0 a) → k < 40 → zrd N 59 ((40 : Int32) * nI s + nI k) = some (F k) := fun N k hN hk => by
    rw [show (40 : Int32) * nI s = nI (40 * s) from pk_mul 40 s, nI_add, rd (n := 160) rfl (by omega), hN 59 (by omega) (by omega), a3 59 (by omega), hF k hk]
  have fin : ∀ (N : zM) (k : Nat) (y : Int32), k ≤ 50 → N 48 = daysA B k → (∀ a, a ≠ 48 → a ≠ 52 → N a = N0 a) → (y = 0 ∨ y = 1) → ∃ M', f_X6_wentSo_j81 y N = some (y, M') ∧ MS M M' := by
    intro N k y hk hN hF hy
    have n50 : N 50 = B := by rw [hF 50 (by omega) (by omega), a2]
    obtain ⟨M2, c1, c2, c3⟩ := m_copyRow (M := N) (a := 50) (b := 48) (Or.inr (Or.inr rfl)) (Or.inl rfl) (by omega) (by rw [n50]; exact hz) (by rw [hN]; exact (okA_days hA k (by omega)).2.2.2.2.2.2.2.2.2)
    have zb : zbo y = some y := by rcases hy with rfl | rfl <;> rfl
    refine ⟨M2, ?_, fun a h1 h3 h4 => by rw [c3 a h1, hF a h1 h4, a3 a h3], by rw [c2, n50, h48], fun j hj => by rw [c3 50 (by omega), n50]; exact hz j hj⟩
    unfold f_X6_wentSo_j81
    rw [c1, Option.bind_some, zb]; rfl
  have step : ∀ (N : zM) (k : Nat), k < L → N 48 = daysA B k → (∀ a, a ≠ 48 → a ≠ 52 → N a = N0 a) → ∃ N2, f_X6_wentSo_l16 (nI s) (nI p) (1, nI k, N) = some (.inl (@ite _ (okD F B p k) (Classical.propDecidable _) 1 0, nI (k + 1), N2)) ∧ N2 48 = daysA B (k + 1) ∧ ∀ a, a ≠ 48 → a ≠ 52 → N2 a = N0 a := by
    intro N k hk hN hF2
    obtain ⟨N2, q1, q3, -, q4⟩ := m_step (M := N) hA (by omega) hN
    have e48 : zrd N 48 (55 + nI p) = some (daysA B k (55 + p)) := by
      rw [show (55 : Int32) + nI p = nI (55 + p) from nI_add 55 p, rd48 (by omega), hN]
    have j70 : ∀ x, f_X6_wentSo_j70 (nI s) (nI p) (nI k) x N = some (.inl (x, nI (k + 1), N2)) := fun x => by
      unfold f_X6_wentSo_j70
      rw [q1, Option.bind_some, nI_1]; rfl
    refine ⟨N2, ?_, q3, fun a h1 h3 => by rw [q4 a h1 h3, hF2 a h1 h3]⟩
    rw [f_X6_wentSo_l16, z58 N hF2, Option.bind_some, if_neg (nI_ge hk (by omega)), if_neg (by decide), z59 N k hF2 (by omega), Option.bind_some]
    unfold f_X6_wentSo_j65
    by_cases c : F k = -1
    · rw [if_pos c, j70, if_pos (show okD F B p k from Or.inl c)]
    · rw [if_neg c, e48, Option.bind_some]
      by_cases c2 : F k = daysA B k (55 + p)
      · rw [if_pos c2, j70, if_pos (show okD F B p k from Or.inr c2)]
      · rw [if_neg c2, j70, if_neg (show ¬ okD F B p k from fun q => q.elim c c2)]
  have key : ∃ r, zIter (f_X6_wentSo_l16 (nI s) (nI p)) 1000 (1, 0, N0) = some r ∧ ∃ M', r = (if fitB F B p L = true then 1 else 0, M') ∧ MS M M' := by
    refine zIter_inv (fun k st => ∃ N : zM, st = (if k ≤ m then 1 else 0, nI k, N) ∧ N 48 = daysA B k ∧ ∀ a, a ≠ 48 → a ≠ 52 → N a = N0 a) _ (if m = L then m else m + 1) 1000 _ (by split <;> omega) ⟨N0, by rw [if_pos (by omega)]; rfl, n048, fun _ _ _ => rfl⟩ (fun k st hk hI => ?_) (fun st hI => ?_)
    · obtain ⟨N, rfl, n1, n2⟩ := hI
      have hkm : k ≤ m ∧ k < L := by
        by_cases e : m = L
        · rw [if_pos e] at hk; omega
        · rw [if_neg e] at hk; omega
      obtain ⟨N2, q1, q2, q3⟩ := step N k hkm.2 n1 n2
      rw [if_pos hkm.1, q1]
      refine ⟨_, rfl, N2, ?_, q2, q3⟩
      by_cases e : k < m
      · have hok : okD F B p k := Classical.byContradiction (m1 k e)
        rw [if_pos hok, if_pos (by omega)]
      · have ekm : k = m := by omega
        have hno : ¬ okD F B p k := by rw [ekm]; exact m2.resolve_left (by omega)
        rw [if_neg hno, if_neg (by omega)]
    · obtain ⟨N, rfl, n1, n2⟩ := hI
      rw [ef]
      by_cases e : m = L
      · rw [if_pos e] at n1 ⊢
        obtain ⟨M', w1, w2⟩ := fin N m 1 (by omega) n1 n2 (Or.inr rfl)
        rw [if_pos (Nat.le_refl _), f_X6_wentSo_l16, z58 N n2, Option.bind_some, if_pos (nI_le (by omega) (by omega)), w1, decide_eq_true e, if_pos rfl]
        exact ⟨_, rfl, M', rfl, w2⟩
      · rw [if_neg e] at n1 ⊢
        obtain ⟨M', w1, w2⟩ := fin N (m + 1) 0 (by omega) n1 n2 (Or.inl rfl)
        rw [if_neg (by omega), f_X6_wentSo_l16, z58 N n2, Option.bind_some, w1, decide_eq_false e, if_neg (show ¬ false = true by decide)]
        by_cases c : nI L ≤ nI (m + 1)
        · rw [if_pos c]
          exact ⟨_, rfl, M', rfl, w2⟩
        · rw [if_neg c, if_pos rfl]
          exact ⟨_, rfl, M', rfl, w2⟩
  obtain ⟨r, k1, N, rfl, k2⟩ := key
  refine ⟨N, ?_, k2⟩
  unfold f_X6_wentSo
  rw [a1, Option.bind_some]
  exact k1
/-- the wishes one could have -/
def uW (k : Nat) : Int32 := nI k - 1
theorem uW_0 : uW 0 = -1 := by decide
theorem uW_s (k : Nat) : uW (k + 1) = nI k := nI_pred k
theorem uW_1 (k : Nat) : uW k + 1 = nI k := Int32.sub_add_cancel _ _
theorem uW_u (k : Nat) : uW k + 1 = uW (k + 1) := by rw [uW_1, uW_s]
noncomputable def fitW (F A : Nat → Int32) (p L : Nat) : Nat → Bool := fun k => fitB F (upd A (61 + p) (uW k)) p L
theorem h_fitting {M : zM} {F A : Nat → Int32} {s p L D : Nat} (hA : okA A D) (hD : D ≤ 40000) (h1 : hrow M 1 = A) (hs : s < 4) (hp : p < 6) (hL : L ≤ 40) (h2 : M (39 + 2 * s) 2 = nI L) (hF : M (40 + 2 * s) = F) : ∃ M', f_X5_fitting (39 + 2 * s) (nI p) M = some (nI (mkM (fitW F A p L) (nn A + 1)), M') ∧ ∀ a, (a < 23 ∨ 33 < a) → M' a = M a := by
  have h8 := hA.1.2
  have e0 : M 1 0 = nI (nn A) := by rw [← hA.1.1, ← h1]; rfl
  have hAk : ∀ k, k < nn A + 1 → okA (upd A (61 + p) (uW k)) D := fun k hk => okA_setW hA (by omega) (by
    cases k with
    | zero => exact Or.inl uW_0
    | succ k => exact Or.inr ⟨k, by omega, uW_s k⟩)
  have b1 : ∀ k, k < nn A + 1 → ¬ nI (nn A) ≤ uW k := fun k hk => (by decide : ∀ n, n < 9 → ∀ k, k < n + 1 → ¬ nI n ≤ nI k - 1) (nn A) (by omega) k hk
  have key : ∃ r, zIter (f_X5_fitting_l5 (39 + 2 * s) (nI p)) 1000 (0, (-1), M) = some r ∧ ∃ N : zM, r = (nI (mkM (fitW F A p L) (nn A + 1)), N) ∧ ∀ a, (a < 23 ∨ 33 < a) → N a = M a := by
    refine zIter_inv (fun k st => ∃ N : zM, st = (nI (mkM (fitW F A p L) k), uW k, N) ∧ ∀ a, (a < 23 ∨ 33 < a) → N a = M a) _ (nn A + 1) 1000 _ (by omega) ⟨M, by rw [uW_0]; rfl, fun _ _ => rfl⟩ (fun k st hk hI => ?_) (fun st hI => ?_)
    · obtain ⟨N, rfl, hN⟩ := hI
      obtain ⟨N1, e1, e2, e3⟩ := h_become (M := N) isH_23 isH_1 (by omega)
      have er : hrow N1 23 = A := by rw [e2, ← h1]; exact hrow_off (fun a h1 h2 => hN a (by omega))
      have er2 : hrow (zU N1 30 p (uW k)) 23 = upd A (61 + p) (uW k) := by
        rw [show zU N1 30 p (uW k) = zU N1 (23 + 7) p (uW k) from rfl, hrow_uW _ _ _ (by omega), er]
      have hz : ∀ a, (a < 23 ∨ 33 < a) → zU N1 30 p (uW k) a = M a := fun a ha => by rw [zU_off (by omega), e3 a (by omega), hN a ha]
      obtain ⟨N2, f1, f2⟩ := h_pays (M := zU N1 30 p (uW k)) (hAk k hk) hD er2 hs hp hL (by rw [hz _ (by omega), h2]) (by rw [hz _ (by omega), hF])
      have hF2 : ∀ a, (a < 23 ∨ 33 < a) → N2 a = M a := fun a ha => by rw [f2 a ha, hz a ha]
      have m5 := mkM_512 (fitW F A p L) (k := k) (by omega)
      have s1 : mkM (fitW F A p L) (k + 1) = if fitW F A p L k = true then mkM (fitW F A p L) k ||| 2 ^ k else mkM (fitW F A p L) k := rfl
      rw [f_X5_fitting_l5, hN 1 (by omega), e0, if_neg (b1 k hk), e1, Option.bind_some, wr (n := 6) rfl (by omega), Option.bind_some, f1, Option.bind_some]
      show ∃ s', ((if (if fitB F (upd A (61 + p) (uW k)) p L = true then (1 : Int32) else 0) = 0 then _ else _) = some (Sum.inl s')) ∧ _
      by_cases c : fitW F A p L k = true
      · rw [if_pos (show fitB F (upd A (61 + p) (uW k)) p L = true from c), if_neg (show ¬ (1 : Int32) = 0 by decide), uW_1, or9 _ m5 k (by omega), Option.bind_some, ← uW_s]
        exact ⟨_, rfl, N2, by rw [s1, if_pos c], hF2⟩
      · rw [if_neg (show ¬ fitB F (upd A (61 + p) (uW k)) p L = true from c), if_pos rfl, uW_u]
        exact ⟨_, rfl, N2, by rw [s1, if_neg c], hF2⟩
    · obtain ⟨N, rfl, hN⟩ := hI
      rw [f_X5_fitting_l5, hN 1 (by omega), e0, uW_s, if_pos (nI_le (Nat.le_refl _) (by omega))]
      exact ⟨_, rfl, N, rfl, hN⟩
  obtain ⟨r, k1, N, rfl, k2⟩ := key
  exact ⟨N, k1, k2⟩
theorem m_fitting {M : zM} {F A : Nat → Int32} {s p L D : Nat} (hA : okA A D) (hD : D ≤ 40000) (h48 : M 48 = A) (hs : s < 4) (hp : p < 6) (hL : L ≤ 40) (h2 : M 58 s = nI L) (hF : ∀ i, i < 40 → M 59 (40 * s + i) = F i) (h50 : ∀ j, 67 ≤ j → M 50 j = 0) : ∃ M', f_X6_fitting (nI s) (nI p) M = some (nI (mkM (fitW F A p L) (nn A + 1)), M') ∧ MS M M' := by
  have h8 := hA.1.2
  have hAk : ∀ k, k < nn A + 1 → okA (upd A (61 + p) (uW k)) D := fun k hk => okA_setW hA (by omega) (by
    cases k with
    | zero => exact Or.inl uW_0
    | succ k => exact Or.inr ⟨k, by omega, uW_s k⟩)
  have b1 : ∀ k, k < nn A + 1 → ¬ nI (nn A) ≤ uW k := fun k hk => (by decide : ∀ n, n < 9 → ∀ k, k < n + 1 → ¬ nI n ≤ nI k - 1) (nn A) (by omega) k hk
  have p61 : (61 : Int32) + nI p = nI (61 + p) := nI_add 61 p
  have z1 : ∀ (P : zM) w, P 48 = upd A (61 + p) w → zrd P 48 1 = some (nI (nn A)) := fun P w hP => by
    rw [← hA.1.1, show A 1 = P 48 1 by rw [hP, upd_at, if_neg (by omega)]]
    exact rd48 (j := 1) (by omega)
  have key : ∃ r, zIter (f_X6_fitting_l16 (nI s) (nI p) (A (61 + p))) 1000 (0, (-1), M) = some r ∧ ∃ N : zM, r = (nI (mkM (fitW F A p L) (nn A + 1)), N) ∧ MS M N := by
    refine zIter_inv (fun k st => ∃ P : zM, st = (nI (2 * mkM (fitW F A p L) k), uW k, P) ∧ (∃ w, P 48 = upd A (61 + p) w) ∧ (∀ a, a ≠ 48 → a ≠ 50 → a ≠ 52 → P a = M a) ∧ ∀ j, 67 ≤ j → P 50 j = 0) _ (nn A + 1) 1000 _ (by omega) ⟨M, by rw [uW_0]; rfl, ⟨A (61 + p), by rw [h48, upd_self]⟩, fun _ _ _ _ => rfl, h50⟩ (fun k st hk hI => ?_) (fun st hI => ?_)
    · obtain ⟨P, rfl, ⟨w, hw⟩, hN, hz⟩ := hI
      have p48 : zU P 48 (61 + p) (uW k) 48 = upd A (61 + p) (uW k) := by rw [zU_row, hw, upd_upd]
      obtain ⟨N2, f1, f2⟩ := m_wentSo (M := zU P 48 (61 + p) (uW k)) (F := F) (s := s) (p := p) (L := L) (hAk k hk) hD p48 hs hp hL (by rw [zU_off (by omega), hN 58 (by omega) (by omega) (by omega), h2]) (fun i hi => by rw [zU_off (by omega), hN 59 (by omega) (by omega) (by omega), hF i hi]) (fun j hj => by rw [zU_off (by omega)]; exact hz j hj)
      have hF2 : (∃ w, N2 48 = upd A (61 + p) w) ∧ (∀ a, a ≠ 48 → a ≠ 50 → a ≠ 52 → N2 a = M a) ∧ ∀ j, 67 ≤ j → N2 50 j = 0 := ⟨⟨uW k, by rw [f2.2.1, p48]⟩, fun a h1 h3 h4 => by rw [f2.1 a h1 h3 h4, zU_off h1, hN a h1 h3 h4], f2.2.2⟩
      have m5 := mkM_512 (fitW F A p L) (k := k) (by omega)
      have s1 : mkM (fitW F A p L) (k + 1) = if fitW F A p L k = true then mkM (fitW F A p L) k ||| 2 ^ k else mkM (fitW F A p L) k := rfl
      rw [f_X6_fitting_l16, z1 P w hw, Option.bind_some, if_neg (b1 k hk), p61, wr48 (by omega), Option.bind_some, f1, Option.bind_some]
      show ∃ s', ((if (if fitB F (upd A (61 + p) (uW k)) p L = true then (1 : Int32) else 0) = 0 then _ else _) = some (Sum.inl s')) ∧ _
      by_cases c : fitW F A p L k = true
      · rw [if_pos (show fitB F (upd A (61 + p) (uW k)) p L = true from c), if_neg (show ¬ (1 : Int32) = 0 by decide), uW_1, or9b _ m5 k (by omega), Option.bind_some, ← uW_s]
        exact ⟨_, rfl, N2, by rw [s1, if_pos c], hF2⟩
      · rw [if_neg (show ¬ fitB F (upd A (61 + p) (uW k)) p L = true from c), if_pos rfl, m_or0, Option.bind_some, uW_u]
        exact ⟨_, rfl, N2, by rw [s1, if_neg c], hF2⟩
    · obtain ⟨P, rfl, ⟨w, hw⟩, hN, hz⟩ := hI
      have m5 := mkM_512 (fitW F A p L) (k := nn A + 1) (by omega)
      rw [f_X6_fitting_l16, z1 P w hw, Option.bind_some, uW_s, if_pos (nI_le (Nat.le_refl _) (by omega))]
      unfold f_X6_fitting_j68
      rw [p61, wr48 (by omega), Option.bind_some, half9 _ m5]
      exact ⟨_, rfl, _, rfl, fun a h1 h3 h4 => by rw [zU_off h1, hN a h1 h3 h4], by rw [zU_row, hw, upd_upd, upd_self, h48], fun j hj => by rw [zU_off (by omega)]; exact hz j hj⟩
  obtain ⟨r, k1, N, rfl, k2⟩ := key
  refine ⟨N, ?_, k2⟩
  unfold f_X6_fitting
  rw [p61, rd48 (by omega), Option.bind_some, h48]
  exact k1
theorem f_fault_eq {M : zM} {s : Nat} (hs : s < 4) (y : Int32) : f_X5_faultOfFit (nI s) y M = some (if M (39 + 2 * s) 1 = 0 then 5 else if (if y < 0 then (0 : Int32) else if 5 < y then 0 else 1) = 0 then 0 else -1) := by
  have hx : inB (nI s) 0 3 := (inB_nI (n := 3) (by omega)).mpr ⟨s, by omega, rfl⟩
  unfold f_X5_faultOfFit
  rw [f_isSheet_eq, Option.bind_some, wi_t hx, if_neg (by decide), sheet_ref s hs, Option.bind_some]
  by_cases hb : M (39 + 2 * s) 1 = 0
  · rw [if_pos hb, if_pos hb]
  · rw [if_neg hb, if_neg hb, f_isPerson_eq, Option.bind_some, if_some]
theorem f_fault_no {M : zM} {x : Int32} (hx : ¬ inB x 0 3) (y : Int32) : f_X5_faultOfFit x y M = some 0 := by
  unfold f_X5_faultOfFit
  rw [f_isSheet_eq, Option.bind_some, wi_f hx, if_pos rfl]
theorem pe_fits (x y : Int32) : PE (f_X5_fits x y) (f_X6_fits x y) := by
  intro M D hD h
  by_cases hx : inB x 0 3
  · obtain ⟨s, hs, rfl⟩ := (inB_nI (n := 3) (by omega)).mp hx
    obtain ⟨b1, b2, b3, b4, ⟨L, hL, b5⟩, b6⟩ := h.2.2.2.2.2.2.2.2.2 s (by omega)
    have e2 : M (39 + 2 * s) 2 = nI L := by rw [← b2, b5]
    by_cases hb : M (39 + 2 * s) 1 = 0
    · refine pe_find h 5 (by omega) ?_ (fun M1 hf => ?_)
      · unfold f_X5_fits
        rw [f_fault_eq (by omega), if_pos hb, Option.bind_some, if_neg (by decide), bind_pair]; rfl
      · have hl : f_X6_lacks (nI s) M1 = some (-1000006) := by rw [m_lacks_eq (by omega), hf 57 (by omega), b1, if_pos hb]
        unfold f_X6_fits f_X6_fits_j15 f_X6_fits_j34
        rw [hl, Option.bind_some, if_neg (by decide), Option.bind_some, if_neg (by decide), Option.bind_some, bind_pair]; rfl
    · by_cases hy : inB y 0 5
      · obtain ⟨p, hp, rfl⟩ := (inB_nI (n := 5) (by omega)).mp hy
        have hA := h.2.1
        have h48 := h.1
        generalize hAA : M 48 = A at hA h48
        have h8 := hA.1.2
        generalize hFF : M (40 + 2 * s) = F at b3
        obtain ⟨N, k1, k2⟩ := h_fitting (M := M) hA hD h48.symm (by omega : s < 4) (by omega : p < 6) hL e2 hFF
        have hc : CS M N := CS_trial k2
        have m5 := mkM_512 (fitW F A p L) (k := nn A + 1) (by omega)
        obtain ⟨N2, g1, g2⟩ := m_fitting (M := N) (F := F) (s := s) (p := p) (L := L) hA hD (by rw [hc 48 (by omega), hAA]) (by omega) (by omega) hL (by rw [hc 58 (by omega), b5]) (fun i hi => by rw [hc 59 (by omega), b3 i hi]) (fun j hj => by rw [hc 50 (by omega)]; exact RR_50 h j hj)
        generalize mkM (fitW F A p L) (nn A + 1) = m at k1 g1 m5
        obtain ⟨c1, c2⟩ := bits9_c m m5
        refine pe_scr h (r := nI (popc9 m)) (M1 := N) ?_ hc ⟨N2, ?_, g2⟩
        · unfold f_X5_fits
          rw [f_fault_eq (by omega), if_neg hb, wi_t hy, if_neg (by decide), Option.bind_some, if_pos (by decide), sheet_ref s (by omega), Option.bind_some, k1, Option.bind_some]
          show (f_J6_bitCount_0f7a4 (nI m) N).bind _ = _
          rw [(j_bits _ N zM0).trans c1]; rfl
        · have hl : f_X6_lacks (nI s) N = some 0 := by rw [m_lacks_eq (by omega), hc 57 (by omega), b1, if_neg hb]
          unfold f_X6_fits
          rw [hl, Option.bind_some, if_pos rfl, m_isPerson_eq, Option.bind_some, wi_t hy, if_neg (by decide), g1, Option.bind_some]
          show (f_X6_bits (nI m) N2).bind _ = _
          rw [show f_X6_bits (nI m) N2 = _ from c2]; rfl
      · refine pe_find h 0 (by omega) ?_ (fun M1 hf => ?_)
        · unfold f_X5_fits
          rw [f_fault_eq (by omega), if_neg hb, wi_f hy, if_pos rfl, Option.bind_some, if_neg (by decide), bind_pair]; rfl
        · have hl : f_X6_lacks (nI s) M1 = some 0 := by rw [m_lacks_eq (by omega), hf 57 (by omega), b1, if_neg hb]
          unfold f_X6_fits f_X6_fits_j15 f_X6_fits_j34
          rw [hl, Option.bind_some, if_pos rfl, m_isPerson_eq, Option.bind_some, wi_f hy, if_pos rfl, Option.bind_some, if_pos rfl, bind_pair]; rfl
  · refine pe_find h 0 (by omega) ?_ (fun M1 hf => ?_)
    · unfold f_X5_fits
      rw [f_fault_no hx, Option.bind_some, if_neg (by decide), bind_pair]; rfl
    · unfold f_X6_fits f_X6_fits_j15 f_X6_fits_j34
      rw [m_lacks_no hx, Option.bind_some, if_neg (by decide), Option.bind_some, if_neg (by decide), Option.bind_some, bind_pair]; rfl
theorem m_wish_l {m : Nat} (hm : m < 512) (h0 : m ≠ 0) (M : zM) : zIter (f_X6_wish_l59 (nI m) M) 1000 0 = some (nI (low9 m) - 1, M) := by
  obtain ⟨-, l9, lb, lo⟩ := low9_c m hm h0
  refine zIter_steps (fun k => nI k) (low9 m) 1000 _ (by omega) (fun k hk => ?_) ?_
  · rw [f_X6_wish_l59, has9 hm (by omega), Option.bind_some, lo k hk, if_neg (show ¬ false = true by decide), if_pos rfl, nI_1]; rfl
  · rw [f_X6_wish_l59, has9 hm l9, Option.bind_some, lb, if_pos rfl, if_neg (show ¬ (1 : Int32) = 0 by decide)]
theorem pe_wish (x y : Int32) : PE (f_X5_wish x y) (f_X6_wish x y) := by
  intro M D hD h
  by_cases hx : inB x 0 3
  · obtain ⟨s, hs, rfl⟩ := (inB_nI (n := 3) (by omega)).mp hx
    obtain ⟨b1, b2, b3, b4, ⟨L, hL, b5⟩, b6⟩ := h.2.2.2.2.2.2.2.2.2 s (by omega)
    have e2 : M (39 + 2 * s) 2 = nI L := by rw [← b2, b5]
    by_cases hb : M (39 + 2 * s) 1 = 0
    · refine pe_find h 5 (by omega) ?_ (fun M1 hf => ?_)
      · unfold f_X5_wish
        rw [f_fault_eq (by omega), if_pos hb, Option.bind_some, if_neg (by decide), bind_pair]; rfl
      · have hl : f_X6_lacks (nI s) M1 = some (-1000006) := by rw [m_lacks_eq (by omega), hf 57 (by omega), b1, if_pos hb]
        unfold f_X6_wish f_X6_wish_j15 f_X6_wish_j34
        rw [hl, Option.bind_some, if_neg (by decide), Option.bind_some, if_neg (by decide), Option.bind_some, bind_pair]; rfl
    · by_cases hy : inB y 0 5
      · obtain ⟨p, hp, rfl⟩ := (inB_nI (n := 5) (by omega)).mp hy
        have hA := h.2.1
        have h48 := h.1
        generalize hAA : M 48 = A at hA h48
        have h8 := hA.1.2
        generalize hFF : M (40 + 2 * s) = F at b3
        obtain ⟨N, k1, k2⟩ := h_fitting (M := M) hA hD h48.symm (by omega : s < 4) (by omega : p < 6) hL e2 hFF
        have hc : CS M N := CS_trial k2
        have m5 := mkM_512 (fitW F A p L) (k := nn A + 1) (by omega)
        have mod : ∀ Q : zM, (∀ a, a ≠ 38 → Q a = N a) → ∃ N2, f_X6_fitting (nI s) (nI p) Q = some (nI (mkM (fitW F A p L) (nn A + 1)), N2) ∧ MS Q N2 := fun Q hQ => m_fitting (M := Q) (F := F) (s := s) (p := p) (L := L) hA hD (by rw [hQ 48 (by omega), hc 48 (by omega), hAA]) (by omega) (by omega) hL (by rw [hQ 58 (by omega), hc 58 (by omega), b5]) (fun i hi => by rw [hQ 59 (by omega), hc 59 (by omega), b3 i hi]) (fun j hj => by rw [hQ 50 (by omega), hc 50 (by omega)]; exact RR_50 h j hj)
        generalize mkM (fitW F A p L) (nn A + 1) = m at k1 mod m5
        have hl : ∀ Q : zM, (∀ a, a ≠ 38 → Q a = N a) → f_X6_lacks (nI s) Q = some 0 := fun Q hQ => by rw [m_lacks_eq (by omega), hQ 57 (by omega), hc 57 (by omega), b1, if_neg hb]
        by_cases c : m = 0
        · refine pe_find2 h 3 (by omega) (M8 := N) ?_ hc (fun Q hQ => ?_)
          · unfold f_X5_wish
            rw [f_fault_eq (by omega), if_neg hb, wi_t hy, if_neg (by decide), Option.bind_some, if_pos (by decide), sheet_ref s (by omega), Option.bind_some, k1, Option.bind_some, c]
            show (if nI 0 = 0 then _ else _ : Option (Int32 × zM)) = _
            rw [if_pos (show nI 0 = 0 from rfl), bind_pair]; rfl
          · obtain ⟨N2, g1, g2⟩ := mod Q hQ
            refine ⟨N2, ?_, g2⟩
            unfold f_X6_wish
            rw [hl Q hQ, Option.bind_some, if_pos rfl, m_isPerson_eq, Option.bind_some, wi_t hy, if_neg (by decide), g1, Option.bind_some, c]
            show (if nI 0 = 0 then _ else _ : Option (Int32 × zM)) = _
            rw [if_pos (show nI 0 = 0 from rfl), bind_pair]; rfl
        · obtain ⟨N2, g1, g2⟩ := mod N (fun _ _ => rfl)
          obtain ⟨w1, -⟩ := low9_c m m5 c
          have nz : ¬ nI m = 0 := nI_ne0 (by omega) (by omega)
          refine pe_scr h (r := nI (low9 m) - 1) (M1 := N) ?_ hc ⟨N2, ?_, g2⟩
          · unfold f_X5_wish
            rw [f_fault_eq (by omega), if_neg hb, wi_t hy, if_neg (by decide), Option.bind_some, if_pos (by decide), sheet_ref s (by omega), Option.bind_some, k1, Option.bind_some]
            show (if nI m = 0 then _ else _ : Option (Int32 × zM)) = _
            rw [if_neg nz, show f_X5_lowest (nI m) N = _ from w1]; rfl
          · unfold f_X6_wish
            rw [hl N (fun _ _ => rfl), Option.bind_some, if_pos rfl, m_isPerson_eq, Option.bind_some, wi_t hy, if_neg (by decide), g1, Option.bind_some]
            show (if nI m = 0 then _ else _ : Option (Int32 × zM)) = _
            rw [if_neg nz, m_wish_l m5 c]
      · refine pe_find h 0 (by omega) ?_ (fun M1 hf => ?_)
        · unfold f_X5_wish
          rw [f_fault_eq (by omega), if_neg hb, wi_f hy, if_pos rfl, Option.bind_some, if_neg (by decide), bind_pair]; rfl
        · have hl : f_X6_lacks (nI s) M1 = some 0 := by rw [m_lacks_eq (by omega), hf 57 (by omega), b1, if_neg hb]
          unfold f_X6_wish f_X6_wish_j15 f_X6_wish_j34
          rw [hl, Option.bind_some, if_pos rfl, m_isPerson_eq, Option.bind_some, wi_f hy, if_pos rfl, Option.bind_some, if_pos rfl, bind_pair]; rfl
  · refine pe_find h 0 (by omega) ?_ (fun M1 hf => ?_)
    · unfold f_X5_wish
      rw [f_fault_no hx, Option.bind_some, if_neg (by decide), bind_pair]; rfl
    · unfold f_X6_wish f_X6_wish_j15 f_X6_wish_j34
      rw [m_lacks_no hx, Option.bind_some, if_neg (by decide), Option.bind_some, if_neg (by decide), Option.bind_some, bind_pair]; rfl
