/-! DAYS GO BY; houses copied, rows copied. -/
theorem daysA_succ (A : Nat → Int32) (k : Nat) : daysA A (k + 1) = dayA (daysA A k) (orderN (daysA A k)) := rfl
theorem h_pass {M : zM} {t n D : Nat} (h : isH t) (hA : okA (hrow M t) D) (hn : n ≤ 200) (hD : D + n ≤ 99999) : ∃ M', f_X0_pass t (nI n) M = some M' ∧ hrow M' t = daysA (hrow M t) n ∧ ∀ a, (a < t ∨ t + 10 < a) → M' a = M a := by
  unfold f_X0_pass
  refine zIter_inv (fun k s => ∃ N : zM, s = (nI k, N) ∧ hrow N t = daysA (hrow M t) k ∧ ∀ a, (a < t ∨ t + 10 < a) → N a = M a) _ n 1000 _ (by omega) ⟨M, rfl, rfl, fun _ _ => rfl⟩ (fun k s hk hI => ?_) (fun s hI => ?_)
  · obtain ⟨N, rfl, hr, hF9⟩ := hI
    have hk2 := okA_days hA k (by omega)
    rw [← hr] at hk2
    obtain ⟨ho, h3⟩ := okA_order hk2
    obtain ⟨d, hd, h0⟩ := hk2.2.2.2.1
    obtain ⟨N2, e1, e2, -, e4⟩ := h_passDay h ho h3 h0 (by omega) hk2.1 hk2.2.1 hk2.2.2.1
    rw [f_X0_pass_l2, if_neg (nI_ge hk (by omega)), e1, Option.bind_some, nI_1, Option.bind_some]
    exact ⟨_, rfl, N2, rfl, by rw [e2, daysA_succ, hr], fun a ha => by rw [e4 a ha]; exact hF9 a ha⟩
  · obtain ⟨N, rfl, hr, hF9⟩ := hI
    rw [f_X0_pass_l2, if_pos (nI_le (Nat.le_refl _) (by omega))]
    exact ⟨_, rfl, hr, hF9⟩
theorem m_days {M : zM} {n D : Nat} (hA : okA (M 48) D) (hn : n ≤ 200) (hD : D + n ≤ 99999) : ∃ M', f_X6_days (nI n) M = some M' ∧ M' 48 = daysA (M 48) n ∧ ∀ a, a ≠ 48 → a ≠ 52 → M' a = M a := by
  unfold f_X6_days
  refine zIter_inv (fun k s => ∃ N : zM, s = (nI k, N) ∧ N 48 = daysA (M 48) k ∧ ∀ a, a ≠ 48 → a ≠ 52 → N a = M a) _ n 1000 _ (by omega) ⟨M, rfl, rfl, fun _ _ _ => rfl⟩ (fun k s hk hI => ?_) (fun s hI => ?_)
  · obtain ⟨N, rfl, hr, hF9⟩ := hI
    have hk2 := okA_days hA k (by omega)
    rw [← hr] at hk2
    obtain ⟨ho, h3⟩ := okA_order hk2
    obtain ⟨N2, e1, e2, -, e4⟩ := m_day ho h3 hk2.1 hk2.2.1 hk2.2.2.1
    rw [f_X6_days_l2, if_neg (nI_ge hk (by omega)), e1, Option.bind_some, nI_1, Option.bind_some]
    exact ⟨_, rfl, N2, rfl, by rw [e2, daysA_succ, hr], fun a h1 h2 => by rw [e4 a h1 h2]; exact hF9 a h1 h2⟩
  · obtain ⟨N, rfl, hr, hF9⟩ := hI
    rw [f_X6_days_l2, if_pos (nI_le (Nat.le_refl _) (by omega))]
    exact ⟨_, rfl, hr, hF9⟩
theorem zCp_at (M : zM) (a b n q j : Nat) : zCp M a b 0 0 n q j = if q = b ∧ j < n then M a j else M q j := by
  unfold zCp va_cpy
  by_cases h : q = b
  · subst h
    by_cases h2 : j < n
    · rw [if_pos rfl, if_pos (show 0 ≤ j ∧ j < 0 + n by omega), if_pos (show q = q ∧ j < n from ⟨rfl, h2⟩)]; congr 1; omega
    · rw [if_pos rfl, if_neg (show ¬ (0 ≤ j ∧ j < 0 + n) by omega), if_neg (fun c => h2 c.2)]
  · rw [if_neg h, if_neg (fun c => h c.1)]
theorem zCp_off {M : zM} {a b n q : Nat} (h : q ≠ b) : zCp M a b 0 0 n q = M q := by unfold zCp; rw [if_neg h]
theorem cpn {M : zM} {a b n : Nat} (ha : sh a = .inl n) (hb : sh b = .inl n) (hn : n < 1000) : zcp M a 0 b 0 (nI n) = some (zCp M a b 0 0 n) := by
  unfold zcp
  rw [ha, hb]
  simp only []
  rw [if_neg, nI_clamp (by omega)]
  · rfl
  · have z : (0 : Int32).toNatClampNeg = 0 := rfl
    rw [nI_clamp (by omega), z]
    intro c
    rcases c with c | c | c | c | c
    · exact absurd c (by decide)
    · exact absurd c (by decide)
    · exact nI_pos (by omega) c
    · omega
    · omega
/-- a house becomes another -/
theorem h_become {M : zM} {t u : Nat} (ht : isH t) (hu : isH u) (htu : t ≠ u) : ∃ M', f_X0_become t u M = some M' ∧ hrow M' t = hrow M u ∧ ∀ a, (a < t ∨ t + 8 < a) → M' a = M a := by
  obtain ⟨t1, t2, t3, t4, t5, t6, t7, t8, -⟩ := shA ht
  obtain ⟨u1, u2, u3, u4, u5, u6, u7, u8, -⟩ := shA hu
  have far : u + 10 < t ∨ t + 10 < u := by
    rcases ht with rfl | rfl | rfl <;> rcases hu with rfl | rfl | rfl <;> first | omega | exact absurd rfl htu
  have c8 : ∀ {M : zM} {a b : Nat}, sh a = .inl 8 → sh b = .inl 8 → zcp M a 0 b 0 8 = some (zCp M a b 0 0 8) := fun h1 h2 => cpn (n := 8) h1 h2 (by omega)
  have c6 : ∀ {M : zM} {a b : Nat}, sh a = .inl 6 → sh b = .inl 6 → zcp M a 0 b 0 6 = some (zCp M a b 0 0 6) := fun h1 h2 => cpn (n := 6) h1 h2 (by omega)
  have c10 : ∀ {M : zM} {a b : Nat}, sh a = .inl 10 → sh b = .inl 10 → zcp M a 0 b 0 10 = some (zCp M a b 0 0 10) := fun h1 h2 => cpn (n := 10) h1 h2 (by omega)
  unfold f_X0_become
  simp only [Option.bind_some, c8 u1 t1, c8 u2 t2, c8 u3 t3, c8 u4 t4, c8 u5 t5, c6 u6 t6, c6 u7 t7, c10 u8 t8]
  refine ⟨_, rfl, ?_, fun a ha => ?_⟩
  · have nt : ∀ k, k ≤ 10 → ¬ (u + k = t) := fun k hk => by omega
    have ntt : ∀ k l, k ≤ 10 → l ≤ 10 → ¬ (u + k = t + l) := fun k l hk hl => by omega
    have n0 : ¬ (u = t) := by omega
    have n1 : ∀ l, l ≤ 10 → ¬ (u = t + l) := fun l hl => by omega
    have s0 : ∀ l, 1 ≤ l → ¬ (t = t + l) := fun l hl => by omega
    have s1 : ∀ l, 1 ≤ l → ¬ (t + l = t) := fun l hl => by omega
    have s2 : ∀ k l, k ≠ l → ¬ (t + k = t + l) := fun k l h => by omega
    refine hrow_congr ⟨?_, ?_, ?_, ?_, ?_⟩ (fun i hi => ?_) (fun f hf i hi => ?_) (fun p hp => ?_) (fun p hp => ?_)
    · simp [zU_at, zCp_at, n0, n1, s0]
    · simp [zU_at, zCp_at, n0, n1, s0]
    · simp [zU_at, zCp_at, n0, n1, s0]
    · simp [zU_at, zCp_at, n0, n1, s0]
    · simp [zU_at, zCp_at, n0, n1, s0]
    · simp [zU_at, zCp_at, s1, s2, ntt, nt, hi]
    · match f, hf with
      | 0, _ => simp [zU_at, zCp_at, s1, s2, ntt, nt, hi]
      | 1, _ => simp [zU_at, zCp_at, s1, s2, ntt, nt, hi, Nat.add_assoc]
      | 2, _ => simp [zU_at, zCp_at, s1, s2, ntt, nt, hi, Nat.add_assoc]
      | 3, _ => simp [zU_at, zCp_at, s1, s2, ntt, nt, hi, Nat.add_assoc]
      | 4, _ => simp [zU_at, zCp_at, s1, s2, ntt, nt, hi, Nat.add_assoc]
    · simp [zU_at, zCp_at, s1, s2, ntt, nt, hp]
    · simp [zU_at, zCp_at, s1, s2, ntt, nt, hp]
  · rw [zU_off (by omega), zU_off (by omega), zU_off (by omega), zU_off (by omega), zCp_off (by omega), zCp_off (by omega), zCp_off (by omega), zCp_off (by omega), zCp_off (by omega), zCp_off (by omega), zCp_off (by omega), zCp_off (by omega), zU_off (by omega)]
/-- rows of the reference -/
def isR (a : Nat) : Prop := a = 48 ∨ a = 49 ∨ a = 50
theorem shR {a : Nat} (h : isR a) : sh a = .inl 67 := by rcases h with rfl | rfl | rfl <;> rfl
theorem m_copyRow {M : zM} {a b : Nat} (ha : isR a) (hb : isR b) (hab : a ≠ b) (za : ∀ j, 67 ≤ j → M a j = 0) (zb : ∀ j, 67 ≤ j → M b j = 0) : ∃ M', f_X6_copyRow a b M = some M' ∧ M' b = M a ∧ ∀ q, q ≠ b → M' q = M q := by
  unfold f_X6_copyRow
  refine zIter_inv (fun k s => ∃ N : zM, s = (nI k, N) ∧ (∀ j, N b j = if j < k then M a j else M b j) ∧ ∀ q, q ≠ b → N q = M q) _ 67 1000 _ (by omega) ⟨M, rfl, fun j => by rw [if_neg (by omega)], fun _ _ => rfl⟩ (fun k s hk hI => ?_) (fun s hI => ?_)
  · obtain ⟨N, rfl, hN, hF⟩ := hI
    rw [f_X6_copyRow_l2, if_neg (show ¬ (67 : Int32) ≤ nI k from nI_ge (b := 67) hk (by decide)), rd (shR ha) hk, Option.bind_some, wr (shR hb) hk, Option.bind_some, nI_1, Option.bind_some]
    refine ⟨_, rfl, _, rfl, fun j => ?_, fun q hq => (zU_off hq).trans (hF q hq)⟩
    rw [zU_at, hF a hab]
    by_cases h : j = k
    · subst h; rw [if_pos ⟨rfl, rfl⟩, if_pos (by omega)]
    · rw [if_neg (fun c => h c.2), hN j]
      by_cases h1 : j < k
      · rw [if_pos h1, if_pos (by omega)]
      · rw [if_neg h1, if_neg (by omega)]
  · obtain ⟨N, rfl, hN, hF⟩ := hI
    rw [f_X6_copyRow_l2, if_pos (show (67 : Int32) ≤ nI 67 from nI_le (Nat.le_refl _) (by omega))]
    refine ⟨_, rfl, ?_, hF⟩
    funext j
    rw [hN j]
    by_cases h : j < 67
    · rw [if_pos h]
    · rw [if_neg h, za j (by omega), zb j (by omega)]
