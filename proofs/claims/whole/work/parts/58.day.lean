/-! A DAY, as the class has it. -/
theorem h_pay {N : zM} {t p j : Nat} {A pu de we : Nat → Int32} (h : isH t) (hp : p < 6) (hj : j < 8) (hr : hrow N t = rwX A pu de we) : ∃ N', f_X0_pay t (nI p) (nI j) N = some N' ∧ hrow N' t = rwX A (upd pu p (pu p - minI (dueF (nm A j 0) (nm A j 1) (we j) (de j)) (pu p))) (upd de j (minI 99999 (de j + dueF (nm A j 0) (nm A j 1) (we j) (de j) - minI (dueF (nm A j 0) (nm A j 1) (we j) (de j)) (pu p)))) we ∧ ∀ a, a ≠ t + 6 → a ≠ t + 4 → N' a = N a := by
  obtain ⟨-, -, -, h4, -, h6, -⟩ := shA h
  have ed : f_X0_due t (nI j) N = some (dueF (nm A j 0) (nm A j 1) (we j) (de j)) := by
    rw [h_due h hj, hr]
    unfold dueA
    rw [rwX_we _ _ _ _ hj, rwX_de _ _ _ _ hj, rwX_nm _ _ _ _ hj (by omega) (by omega) (by omega), rwX_nm _ _ _ _ hj (by omega) (by omega) (by omega)]
  generalize dueF (nm A j 0) (nm A j 1) (we j) (de j) = due at *
  have ep : N (t + 6) p = pu p := by rw [← hrow_purse N t hp, hr, rwX_pu _ _ _ _ hp]
  have eb : N (t + 4) j = de j := by
    have := hrow_name N t hj (show 3 < 5 by omega)
    rw [hr] at this
    rw [← rwX_de A pu de we hj]
    exact this.symm
  unfold f_X0_pay
  rw [ed, Option.bind_some, rd h6 hp, Option.bind_some, Option.bind_some, Option.bind_some, wr h6 hp, Option.bind_some, rd h4 hj, Option.bind_some, wr h4 hj, Option.bind_some, ep, zU_off (show t + 4 ≠ t + 6 by omega), eb]
  refine ⟨_, rfl, ?_, fun a h1 h2 => by rw [zU_off h2, zU_off h1]⟩
  rw [hrow_uN _ t _ (show 3 < 5 by omega) hj, hrow_uP _ t _ hp, hr, rwX_uP _ _ _ _ _ hp, rwX_uD _ _ _ _ _ hj]
  rfl
theorem h_fade {N : zM} {t j : Nat} {A pu de we : Nat → Int32} (h : isH t) (hj : j < 8) (hr : hrow N t = rwX A pu de we) : ∃ N', f_X0_fade t (nI j) N = some N' ∧ hrow N' t = rwX A pu de (upd we j (minI 99 (we j + fadeF (nm A j 0)))) ∧ ∀ a, a ≠ t + 3 → N' a = N a := by
  obtain ⟨h1, -, h3, -⟩ := shA h
  have ew : N (t + 3) j = we j := by
    have := hrow_name N t hj (show 2 < 5 by omega)
    rw [hr] at this
    rw [← rwX_we A pu de we hj]
    exact this.symm
  have ek : N (t + 1) j = nm A j 0 := by
    have := hrow_name N t hj (show 0 < 5 by omega)
    rw [hr] at this
    rw [← rwX_nm A pu de we hj (show 0 < 5 by omega) (by omega) (by omega)]
    exact this.symm
  unfold f_X0_fade
  rw [rd h3 hj, Option.bind_some, rd h1 hj, Option.bind_some, f_fades_eq, Option.bind_some, wr h3 hj, Option.bind_some, ew, ek]
  refine ⟨_, rfl, ?_, fun a h9 => zU_off h9⟩
  rw [hrow_uN _ t _ (show 2 < 5 by omega) hj, hr, rwX_uE _ _ _ _ _ hj]
  rfl
theorem nn_congr {A B : Nat → Int32} (h : A 1 = B 1) : nn A = nn B := by unfold nn; rw [h]
theorem h_draws {N : zM} {t p : Nat} {d : Option Nat} (h : isH t) (hp : p < 6) (hd : N (t + 10) p = iv d) (hn : N t 0 = nI (nn (hrow N t))) (h8 : nn (hrow N t) ≤ 8) (hj : ∀ j, d = some j → j < nn (hrow N t)) : f_X0_draws t (nI p) N = some (if d = none then 0 else 1) := by
  obtain ⟨-, -, -, -, -, -, -, -, -, h10⟩ := shA h
  unfold f_X0_draws
  rw [rd h10 hp, Option.bind_some, Option.bind_some, hd]
  cases d with
  | none => rw [if_pos (by decide), if_pos rfl]
  | some j =>
    have hj := hj j rfl
    rw [if_neg (show ¬ iv (some j) < 0 from nI_pos (by omega)), hn, if_neg (show ¬ nI (nn (hrow N t)) ≤ iv (some j) from nI_ge hj (by omega)), if_neg (by intro e; cases e)]
theorem pairsN_congr {A B : Nat → Int32} (h1 : nn A = nn B) (h : ∀ i, i < nn A → nm A i 4 = nm B i 4) (hF : okF A) (hn : okN A) (m : Nat) : pairsN A m = pairsN B m := by
  unfold pairsN
  rw [← h1]
  refine sumN_congr _ (fun i hi => ?_)
  have e : ∀ i, i < nn A → foeO A i = foeO B i := fun i hi => by unfold foeO; rw [h i hi]
  unfold hitN
  rw [← e i hi]
  cases hf : foeO A i with
  | none => rfl
  | some f => simp only []; rw [e f (foeO_lt hF hn hi hf).1]
/-- the sets of the drawn, and its quarrels -/
theorem h_pairsDrawn {N : zM} {t o : Nat} {A : Nat → Int32} (h : isH t) (ho : o < 720) (hn : okN A) (hw : okW A) (hF : okF A) (hd : ∀ p, p < 6 → N (t + 10) p = iv (drP A o p)) (h1 : hrow N t 1 = A 1) (h4 : ∀ i, i < 8 → nm (hrow N t) i 4 = nm A i 4) : f_X0_pairsDrawn t N = some (nI (pairsN A (setK A o 6))) := by
  have hnn : nn (hrow N t) = nn A := nn_congr h1
  have hn' : okN (hrow N t) := by unfold okN; rw [hnn, h1]; exact hn
  have hF' : okF (hrow N t) := fun i hi => by
    rw [hnn] at hi ⊢
    rw [h4 i (by have := hn.2; omega)]
    exact hF i hi
  obtain ⟨-, -, -, -, -, -, -, -, -, h10⟩ := shA h
  unfold f_X0_pairsDrawn
  refine zIter_steps (fun k => (nI (setK A o k), nI k)) 6 1000 _ (by omega) (fun p hp => ?_) ?_
  · have hs : ∀ j, drP A o p = some j → j < nn (hrow N t) := fun j hj => by rw [hnn]; exact (drP_spec hn hw ho hp hj).1
    rw [f_X0_pairsDrawn_l4, if_neg (show ¬ (6 : Int32) ≤ nI p from nI_ge (b := 6) hp (by decide)), h_draws h hp (hd p hp) hn'.1 hn'.2 hs, Option.bind_some]
    cases hc : drP A o p with
    | none =>
      rw [if_pos rfl, if_pos rfl, nI_1, Option.bind_some]
      simp only [setK, hc]
    | some j =>
      have hj8 : j < 8 := by have := hs j hc; have := hn'.2; omega
      rw [if_neg (show ¬ (some j = none) by intro e; cases e), if_neg (show ¬ ((1 : Int32) = 0) by decide), rd h10 hp, Option.bind_some, hd p hp, hc]
      show ((some (nI (setK A o p) ||| (1 <<< (nI j &&& 31)))).bind _) = _
      rw [m_or1 _ (setK_lt hn hw ho p (by omega)) j hj8, nI_1, Option.bind_some, Option.bind_some]
      simp only [setK, hc]
  · rw [f_X0_pairsDrawn_l4, if_pos (show (6 : Int32) ≤ nI 6 from nI_le (Nat.le_refl _) (by omega))]
    unfold f_X0_pairsDrawn_j35
    rw [h_pairsIn h (setK_lt hn hw ho 6 (by omega)) hF' hn', ← pairsN_congr (A := A) hnn.symm (fun i hi => (h4 i (by have := hn.2; omega)).symm) hF hn]
    rfl
/-- a day, on a row -/
noncomputable def dayA (A : Nat → Int32) (o : Nat) : Nat → Int32 := upd (upd (rwX A (puK A o 6) (deK A o 6) (weK A o 6)) 4 (minI 99999 (A 4 + nI (pairsN A (setK A o 6))))) 0 (A 0 + 1)
theorem puK_succ {A : Nat → Int32} {o k j : Nat} (h : drP A o k = some j) : upd (puK A o k) k (puK A o k k - paid A k j) = puK A o (k + 1) := by
  funext p
  unfold puK upd
  by_cases e : p = k
  · subst e; rw [if_pos rfl, if_neg (Nat.lt_irrefl _), if_pos (by omega), h]
  · rw [if_neg e]
    show (if p < k then _ else _) = (if p < k + 1 then _ else _)
    by_cases h1 : p < k
    · rw [if_pos h1, if_pos (show p < k + 1 by omega)]
    · rw [if_neg h1, if_neg (show ¬ p < k + 1 by omega)]
theorem puK_none {A : Nat → Int32} {o k : Nat} (h : drP A o k = none) : puK A o (k + 1) = puK A o k := by
  funext p
  unfold puK
  by_cases e : p = k
  · subst e; rw [if_pos (by omega), if_neg (Nat.lt_irrefl _), h]
  · by_cases h1 : p < k
    · rw [if_pos h1, if_pos (by omega)]
    · rw [if_neg h1, if_neg (by omega)]
theorem who_succN {A : Nat → Int32} {o k : Nat} (h : drP A o k = none) (j : Nat) : who A o (k + 1) j = who A o k j := by rw [who, if_neg (by rw [h]; intro e; cases e)]
theorem deK_none {A : Nat → Int32} {o k : Nat} (h : drP A o k = none) : deK A o (k + 1) = deK A o k := by funext j; unfold deK; rw [who_succN h]
theorem weK_none {A : Nat → Int32} {o k : Nat} (h : drP A o k = none) : weK A o (k + 1) = weK A o k := by funext j; unfold weK; rw [who_succN h]
theorem deK_succ {A : Nat → Int32} {o k j : Nat} (h : drP A o k = some j) : upd (deK A o k) j (minI 99999 (nm A j 3 + dueA A j - paid A k j)) = deK A o (k + 1) := by
  funext i
  unfold deK upd
  rw [who]
  by_cases e : i = j
  · subst e; rw [if_pos rfl, if_pos h]
  · rw [if_neg e, if_neg (by rw [h]; intro c; cases c; exact e rfl)]
theorem weK_succ {A : Nat → Int32} {o k j : Nat} (h : drP A o k = some j) : upd (weK A o k) j (minI 99 (nm A j 2 + fadeF (nm A j 0))) = weK A o (k + 1) := by
  funext i
  unfold weK upd
  rw [who]
  by_cases e : i = j
  · subst e; rw [if_pos rfl, if_pos h]
  · rw [if_neg e, if_neg (by rw [h]; intro c; cases c; exact e rfl)]
theorem h_passDay {M : zM} {t o d : Nat} (h : isH t) (ho : o < 720) (h3 : hrow M t 3 = nI o) (h0 : hrow M t 0 = nI d) (hd99 : d < 99999) (hn : okN (hrow M t)) (hw : okW (hrow M t)) (hF : okF (hrow M t)) : ∃ M', f_X0_passDay t M = some M' ∧ hrow M' t = dayA (hrow M t) o ∧ (∀ p, p < 6 → M' (t + 10) p = iv (drP (hrow M t) o p)) ∧ ∀ a, (a < t ∨ t + 10 < a) → M' a = M a := by
  obtain ⟨-, -, -, -, -, -, -, -, -, h10⟩ := shA h
  have e9 : M t 9 = nI o := h3
  obtain ⟨M1, e1, hd1, hf1⟩ := h_draw h ho hn hw
  have hr1 : hrow M1 t = hrow M t := hrow_off (fun a h1 h2 => hf1 a (by omega) (by omega))
  generalize hA : hrow M t = A at *
  have hdp := drP_row (D := M1 (t + 10)) ho hd1
  unfold f_X0_passDay
  rw [e9, e1, Option.bind_some]
  have h8 := hn.2
  have key : ∃ r, zIter (f_X0_passDay_l10 t) 1000 (0, M1) = some r ∧ (hrow r t = dayA A o ∧ (∀ p, p < 6 → r (t + 10) p = iv (drP A o p)) ∧ ∀ a, (a < t ∨ t + 10 < a) → r a = M a) := by
    refine zIter_inv (fun k s => ∃ N : zM, s = (nI k, N) ∧ hrow N t = rwX A (puK A o k) (deK A o k) (weK A o k) ∧ N (t + 10) = M1 (t + 10) ∧ ∀ a, (a < t ∨ t + 10 < a) → N a = M a) _ 6 1000 _ (by omega) ⟨M1, rfl, ?_, rfl, fun a ha => hf1 a (by omega) (by omega)⟩ (fun k s hk hI => ?_) (fun s hI => ?_)
    · rw [hr1]
      have e1 : puK A o 0 = fun p => A (55 + p) := by funext p; unfold puK; rw [if_neg (by omega)]
      have e2 : deK A o 0 = fun j => nm A j 3 := rfl
      have e3 : weK A o 0 = fun j => nm A j 2 := rfl
      rw [e1, e2, e3, rwX_self]
    · obtain ⟨N, rfl, hr, hdN, hF9⟩ := hI
      have hnn : nn (hrow N t) = nn A := nn_congr (by rw [hr, rwX_lo _ _ _ _ (by omega)])
      have hN0 : N t 0 = nI (nn (hrow N t)) := by
        have : hrow N t 1 = A 1 := by rw [hr, rwX_lo _ _ _ _ (by omega)]
        rw [hnn, ← hn.1, ← this]; rfl
      have hs : ∀ j, drP A o k = some j → j < nn (hrow N t) := fun j hj => by rw [hnn]; exact (drP_spec hn hw ho hk hj).1
      rw [f_X0_passDay_l10, if_neg (show ¬ (6 : Int32) ≤ nI k from nI_ge (b := 6) hk (by decide)), h_draws h hk (by rw [hdN]; exact hdp k hk) hN0 (by omega) hs, Option.bind_some]
      cases hc : drP A o k with
      | none =>
        rw [if_pos rfl, if_pos rfl, nI_1, Option.bind_some]
        exact ⟨_, rfl, N, rfl, by rw [puK_none hc, deK_none hc, weK_none hc]; exact hr, hdN, hF9⟩
      | some j =>
        have hj8 : j < 8 := by have := hs j hc; omega
        rw [if_neg (show ¬ (some j = none) by intro e; cases e), if_neg (show ¬ ((1 : Int32) = 0) by decide), rd h10 hk, Option.bind_some, hdN, hdp k hk, hc]
        show ∃ s', ((f_X0_pay t (nI k) (nI j) N).bind _) = _ ∧ _
        -- who draws j hasn't been before
        have hno : who A o k j = none := who_none k (fun p hp e => by have := drP_apart hn hw ho (by omega) hk e hc; omega)
        have de0 : deK A o k j = nm A j 3 := by unfold deK; rw [hno]
        have we0 : weK A o k j = nm A j 2 := by unfold weK; rw [hno]
        have pu0 : puK A o k k = A (55 + k) := by unfold puK; rw [if_neg (Nat.lt_irrefl _)]
        obtain ⟨N2, p1, p2, p3⟩ := h_pay h hk hj8 hr
        rw [de0, we0] at p2
        have ed : dueF (nm A j 0) (nm A j 1) (nm A j 2) (nm A j 3) = dueA A j := rfl
        have epd : minI (dueA A j) (puK A o k k) = paid A k j := by rw [pu0]; rfl
        rw [ed, epd, puK_succ hc, deK_succ hc] at p2
        obtain ⟨N3, q1, q2, q3⟩ := h_fade h hj8 p2
        rw [we0, weK_succ hc] at q2
        rw [p1, Option.bind_some, rd h10 hk, Option.bind_some, p3 (t + 10) (by omega) (by omega), hdN, hdp k hk, hc]
        show ∃ s', ((f_X0_fade t (nI j) N2).bind _) = _ ∧ _
        rw [q1, Option.bind_some, nI_1, Option.bind_some]
        exact ⟨_, rfl, N3, rfl, q2, by rw [q3 _ (by omega), p3 _ (by omega) (by omega)]; exact hdN, fun a ha => by rw [q3 a (by omega), p3 a (by omega) (by omega)]; exact hF9 a ha⟩
    · obtain ⟨N, rfl, hr, hdN, hF9⟩ := hI
      have hpd := h_pairsDrawn (N := N) h ho hn hw hF (fun p hp => by rw [hdN]; exact hdp p hp) (by rw [hr, rwX_lo _ _ _ _ (by omega)]) (fun i hi => by rw [hr, rwX_nm _ _ _ _ hi (by omega) (by omega) (by omega)])
      have e11 : N t 11 = A 4 := by
        have : hrow N t 4 = A 4 := by rw [hr, rwX_lo _ _ _ _ (by omega)]
        exact this
      have e10 : N t 10 = A 0 := by
        have : hrow N t 0 = A 0 := by rw [hr, rwX_lo _ _ _ _ (by omega)]
        exact this
      rw [f_X0_passDay_l10, if_pos (show (6 : Int32) ≤ nI 6 from nI_le (Nat.le_refl _) (by omega))]
      unfold f_X0_passDay_j51
      rw [hpd, Option.bind_some, Option.bind_some, Option.bind_some, e11]
      have ez : ∀ v, zU N t 11 v t 10 = A 0 := fun v => by rw [zU_at, if_neg (by omega), e10]
      rw [ez]
      have eday : (if A 0 + 1 < 99999 then A 0 + 1 else 99999) = A 0 + 1 := by
        rw [h0, nI_1]
        by_cases hlt : d + 1 < 99999
        · rw [if_pos (show nI (d + 1) < (99999 : Int32) from nI_lt (b := 99999) hlt (by decide))]
        · have : d + 1 = 99999 := by omega
          rw [this]; rfl
      rw [eday]
      refine ⟨_, rfl, ?_, fun p hp => ?_, fun a ha => ?_⟩
      · have r0 : (10 : Nat) = rp 0 := rfl
        have r4 : (11 : Nat) = rp 4 := rfl
        rw [r0, hrow_uF _ t 0 _ (by omega), r4, hrow_uF _ t 4 _ (by omega), hr]
        rfl
      · rw [zU_off (show t + 10 ≠ t by omega), zU_off (show t + 10 ≠ t by omega), hdN]
        exact hdp p hp
      · rw [zU_off (by omega), zU_off (by omega)]
        exact hF9 a ha
  exact key
