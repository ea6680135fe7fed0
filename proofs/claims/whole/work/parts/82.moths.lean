/-! MOTHS. -/
abbrev zMo (z : Int32) : Int32 := z * 1103515245 + 12345
abbrev uN (z : Int32) : Int32 := ((z : Int32).toUInt32 >>> ((8 : Int32).toUInt32 &&& Int32.toUInt32 31)).toInt32
abbrev pN (z : Int32) : Int32 := uN z - uN z / 16 * 16
theorem uN_is (z : Int32) : ∃ k, k < 2 ^ 24 ∧ uN z = nI k := by
  refine ⟨(z.toUInt32 >>> ((8 : Int32).toUInt32 &&& Int32.toUInt32 31)).toNat, ?_, ?_⟩
  · rw [UInt32.toNat_shiftRight, show ((8 : Int32).toUInt32 &&& Int32.toUInt32 31).toNat % 32 = 8 from by decide, Nat.shiftRight_eq_div_pow]
    have := z.toUInt32.toNat_lt
    omega
  · show (z.toUInt32 >>> ((8 : Int32).toUInt32 &&& Int32.toUInt32 31)).toInt32 = nI (z.toUInt32 >>> ((8 : Int32).toUInt32 &&& Int32.toUInt32 31)).toNat
    generalize z.toUInt32 >>> ((8 : Int32).toUInt32 &&& Int32.toUInt32 31) = v
    apply Int32.toBitVec_inj.mp
    show v.toBitVec = BitVec.ofNat 32 v.toNat
    exact ((BitVec.ofNat_toNat 32 v.toBitVec).trans (BitVec.setWidth_eq v.toBitVec)).symm
theorem pN_is (z : Int32) : ∃ j, j < 16 ∧ pN z = nI j := by
  obtain ⟨k, hk, e⟩ := uN_is z
  refine ⟨k % 16, Nat.mod_lt _ (by omega), ?_⟩
  show uN z - uN z / 16 * 16 = _
  rw [e]
  have hd : nI k / 16 = nI (k / 16) := by
    apply Int32.toInt_inj.mp
    rw [Int32.toInt_div_of_ne_right _ _ (by decide), nI_toInt (by omega), nI_toInt (by omega)]
    show (k : Int).tdiv 16 = _
    rw [Int.tdiv_eq_ediv_of_nonneg (by omega)]
    omega
  rw [hd, show nI (k / 16) * 16 = nI (k / 16 * 16) from pk_mul (k / 16) 16, nI_sub (by omega)]
  congr 1
  omega

def capW (w : Int32) : Int32 := if w + 10 < 99 then w + 10 else 99
theorem capW_nb {w : Int32} (h : nb w 99) : nb (capW w) 99 := by
  obtain ⟨k, hk, rfl⟩ := h
  unfold capW
  rw [show nI k + 10 = nI (k + 10) from nI_add k 10]
  by_cases c : nI (k + 10) < 99
  · rw [if_pos c]
    have := (nI_ltI (a := k + 10) (b := 99) (by omega) (by omega)).mp c
    exact ⟨k + 10, by omega, rfl⟩
  · rw [if_neg c]; exact ⟨99, by omega, rfl⟩
def mothA (A : Nat → Int32) : Nat → Int32 :=
  if A 1 ≤ pN (zMo (A 2)) then upd A 2 (zMo (A 2)) else upd (upd A 2 (zMo (A 2))) (15 + 5 * (pN (zMo (A 2))).toNatClampNeg + 2) (capW (A (15 + 5 * (pN (zMo (A 2))).toNatClampNeg + 2)))
theorem okA_moth {A : Nat → Int32} {D : Nat} (h : okA A D) : okA (mothA A) D := by
  obtain ⟨j, hj, ej⟩ := pN_is (zMo (A 2))
  unfold mothA
  by_cases c : A 1 ≤ pN (zMo (A 2))
  · rw [if_pos c]; exact okA_set2 h
  · rw [if_neg c]
    have h8 := h.1.2
    rw [ej, h.1.1] at c
    have hj8 : j < 8 := Nat.not_le.mp (fun q => c (nI_le (by omega) (by omega)))
    rw [ej, nI_clamp (by omega)]
    exact okA_setN (okA_set2 h) hj8 (by omega) (fun c => by omega) (fun c => by omega) (fun _ => capW_nb (h.2.2.2.2.2.2.1 j hj8).2.2.1) (fun c => by omega) (fun c => by omega)
theorem h_moth {M : zM} {A : Nat → Int32} {D : Nat} (hA : okA A D) (hr : hrow M 1 = A) : ∃ M', f_X0_moth 1 M = some M' ∧ hrow M' 1 = mothA A ∧ ∀ a, a ≠ 1 → a ≠ 4 → M' a = M a := by
  obtain ⟨j, hj, ej⟩ := pN_is (zMo (A 2))
  have e12 : M 1 12 = A 2 := by rw [← hr]; rfl
  have e0 : M 1 0 = A 1 := by rw [← hr]; rfl
  have s12 : zU M 1 12 (zMo (A 2)) 1 12 = zMo (A 2) := zU_same ..
  have s0 : zU M 1 12 (zMo (A 2)) 1 0 = A 1 := by rw [zU_at, if_neg (by omega), e0]
  have sr : hrow (zU M 1 12 (zMo (A 2))) 1 = upd A 2 (zMo (A 2)) := by
    rw [show zU M 1 12 (zMo (A 2)) = zU M 1 (rp 2) (zMo (A 2)) from rfl, hrow_uF _ _ _ _ (by omega), hr]
  have sf : ∀ a, a ≠ 1 → zU M 1 12 (zMo (A 2)) a = M a := fun a ha => zU_off ha
  unfold f_X0_moth
  rw [e12]
  show ∃ M', ((some (zU M 1 12 (zMo (A 2)))).bind _) = some M' ∧ _
  generalize zU M 1 12 (zMo (A 2)) = N at s12 s0 sr sf
  rw [Option.bind_some, s12]
  show ∃ M', ((some (pN (zMo (A 2)))).bind _) = some M' ∧ _
  rw [Option.bind_some, s0]
  by_cases c : A 1 ≤ pN (zMo (A 2))
  · rw [if_pos c]
    exact ⟨N, rfl, by unfold mothA; rw [if_pos c]; exact sr, fun a h1 _ => sf a h1⟩
  · rw [if_neg c]
    have h8 := hA.1.2
    have c2 := c
    rw [ej, hA.1.1] at c2
    have hj8 : j < 8 := Nat.not_le.mp (fun q => c2 (nI_le (by omega) (by omega)))
    have e4 : N 4 j = A (15 + 5 * j + 2) := by
      rw [sf 4 (by omega), ← hr]; exact (hrow_name M 1 hj8 (f := 2) (by omega)).symm
    rw [ej, rd (n := 8) rfl hj8, Option.bind_some, show N (1 + 3) j = _ from e4]
    show ∃ M', ((zwr N 4 (nI j) (capW (A (15 + 5 * j + 2)))).bind _) = some M' ∧ _
    rw [wr (n := 8) rfl hj8]
    refine ⟨_, rfl, ?_, fun a h1 h2 => by rw [zU_off h2, sf a h1]⟩
    rw [show zU N 4 j (capW (A (15 + 5 * j + 2))) = zU N (1 + 1 + 2) j (capW (A (15 + 5 * j + 2))) from rfl, hrow_uN _ _ _ (by omega) hj8, sr]
    unfold mothA
    rw [if_neg c, ej, nI_clamp (by omega)]

noncomputable def mdA (A : Nat → Int32) : Nat → Nat → Int32
  | 0 => A
  | k + 1 => daysA (mothA (mdA A k)) 1
theorem okA_md {A : Nat → Int32} {D : Nat} (h : okA A D) : ∀ k, D + k < 2000000 → okA (mdA A k) (D + k) := by
  intro k
  induction k with
  | zero => intro _; exact h
  | succ k ih => intro hk; exact okA_days (okA_moth (ih (by omega))) 1 (by omega)
theorem pe_moths (x : Int32) : PE (f_X5_moths x) (f_X6_moths x) := by
  intro M D hD h
  by_cases hx : inB x 1 20
  · obtain ⟨n, hn1, hn, rfl⟩ := (inB_lo (a := 1) (n := 20) (by omega) (by omega)).mp hx
    have hA := h.2.1
    have h48 := h.1
    generalize hAA : M 48 = A at hA h48
    obtain ⟨d, hd, ed⟩ := hA.2.2.2.1
    have e10 : M 1 10 = nI d := by rw [← ed, h48]; rfl
    have hle : nI (d + n) ≤ 99999 := nI_le (b := 99999) (by omega) (by omega)
    have hAk := fun k (hk : k ≤ n) => okA_md hA k (by omega)
    have key : ∃ r, zIter (f_X5_moths_l38 (nI n)) 1000 (0, M) = some r ∧ ∃ N : zM, r = (nI (popc (hung (mdA A n))), N) ∧ hrow N 1 = mdA A n ∧ ∀ a, (a < 1 ∨ 11 < a) → N a = M a := by
      refine zIter_inv (fun k s => ∃ N : zM, s = (nI k, N) ∧ hrow N 1 = mdA A k ∧ ∀ a, (a < 1 ∨ 11 < a) → N a = M a) _ n 1000 _ (by omega) ⟨M, rfl, h48.symm, fun _ _ => rfl⟩ (fun k s hk hI => ?_) (fun s hI => ?_)
      · obtain ⟨N, rfl, n1, n2⟩ := hI
        obtain ⟨N1, a1, a2, a3⟩ := h_moth (hAk k (by omega)) n1
        obtain ⟨N2, c1, c2, -, c4⟩ := h_step (M := N1) (k := 0) isH_1 (okA_moth (hAk k (by omega))) (by omega) a2
        rw [f_X5_moths_l38, if_neg (nI_ge hk (by omega)), a1, Option.bind_some, c1, Option.bind_some, nI_1]
        exact ⟨_, rfl, N2, rfl, c2, fun a ha => by rw [c4 a (by omega), a3 a (by omega) (by omega), n2 a ha]⟩
      · obtain ⟨N, rfl, n1, n2⟩ := hI
        have hn' := (hAk n (Nat.le_refl _)).1
        rw [f_X5_moths_l38, if_pos (nI_le (Nat.le_refl _) (by omega))]
        unfold f_X5_moths_j63
        rw [h_hanging isH_1 (by rw [n1]; exact hn'), n1, Option.bind_some, j_bitCount (hung_lt hn')]
        exact ⟨_, rfl, N, rfl, n1, n2⟩
    obtain ⟨r, k1, N, rfl, k2, k3⟩ := key
    have n48 : N 48 = A := by rw [k3 48 (by omega), hAA]
    have key2 : ∃ r, zIter (f_X6_moths_l39 (nI n)) 1000 (0, N) = some r ∧ ∃ P : zM, r = (nI (popc (hung (mdA A n))), P) ∧ P 48 = mdA A n ∧ ∀ a, a ≠ 48 → a ≠ 52 → P a = N a := by
      refine zIter_inv (fun k s => ∃ P : zM, s = (nI k, P) ∧ P 48 = mdA A k ∧ ∀ a, a ≠ 48 → a ≠ 52 → P a = N a) _ n 1000 _ (by omega) ⟨N, rfl, n48, fun _ _ _ => rfl⟩ (fun k s hk hI => ?_) (fun s hI => ?_)
      · obtain ⟨P, rfl, n1, n2⟩ := hI
        have hB := hAk k (by omega)
        have emd : mdA A (k + 1) = daysA (mothA (mdA A k)) 1 := rfl
        rw [emd]
        generalize mdA A k = B at n1 hB
        obtain ⟨j, hj, ej⟩ := pN_is (zMo (B 2))
        have h8 := hB.1.2
        have dr : f_X6_drawnNumber P = some (uN (zMo (B 2)), zU P 48 2 (zMo (B 2))) := by
          have z2 : ∀ Q : zM, zrd Q 48 2 = some (Q 48 2) := fun Q => rd48 (j := 2) (by omega)
          have w2 : ∀ (Q : zM) v, zwr Q 48 2 v = some (zU Q 48 2 v) := fun Q v => wr48 (j := 2) (by omega)
          unfold f_X6_drawnNumber
          rw [z2, Option.bind_some, w2, Option.bind_some, z2, Option.bind_some, zU_same, n1]
        have q48 : zU P 48 2 (zMo (B 2)) 48 = upd B 2 (zMo (B 2)) := by rw [zU_row, n1]
        have qf : ∀ a, a ≠ 48 → zU P 48 2 (zMo (B 2)) a = P a := fun a ha => zU_off ha
        generalize zU P 48 2 (zMo (B 2)) = Q at dr q48 qf
        have q1 : Q 48 1 = B 1 := by rw [q48, upd_at, if_neg (by omega)]
        have fin : ∀ R : zM, R 48 = mothA B → (∀ a, a ≠ 48 → R a = P a) → ∃ s', f_X6_moths_j84 (nI n) (nI k) R = some (Sum.inl s') ∧ ∃ P2 : zM, s' = (nI (k + 1), P2) ∧ P2 48 = daysA (mothA B) 1 ∧ ∀ a, a ≠ 48 → a ≠ 52 → P2 a = N a := by
          intro R hR hRf
          obtain ⟨N2, c1, c2, -, c4⟩ := m_step (M := R) (k := 0) (okA_moth hB) (by omega) hR
          unfold f_X6_moths_j84
          rw [c1, Option.bind_some, nI_1]
          exact ⟨_, rfl, N2, rfl, c2, fun a h1 h2 => by rw [c4 a h1 h2, hRf a h1, n2 a h1 h2]⟩
        rw [f_X6_moths_l39, if_neg (nI_ge hk (by omega)), dr, Option.bind_some]
        show ∃ s', (((some (pN (zMo (B 2)))).bind _) = some (Sum.inl s')) ∧ _
        rw [Option.bind_some, ej, m_isName_eq, q1, Option.bind_some]
        by_cases c : B 1 ≤ pN (zMo (B 2))
        · have hno : ¬ inB (nI j) 0 (B 1 - 1) := fun w => by
            rw [hB.1.1] at w
            obtain ⟨i, i1, i2⟩ := (inB_last h8).mp w
            have := (nI_eq (by omega) (by omega)).mp i2
            rw [ej, hB.1.1] at c
            exact nI_ge (show j < nn B by omega) (by omega) c
          rw [wi_f hno, if_pos rfl]
          exact fin Q (by unfold mothA; rw [if_pos c]; exact q48) qf
        · have c2 := c
          rw [ej, hB.1.1] at c2
          have hjn : j < nn B := Nat.not_le.mp (fun q => c2 (nI_le (by omega) (by omega)))
          have hyes : inB (nI j) 0 (B 1 - 1) := by rw [hB.1.1]; exact (inB_last h8).mpr ⟨j, hjn, rfl⟩
          have ew : nm (Q 48) j 2 = B (15 + 5 * j + 2) := by
            show Q 48 (15 + 5 * j + 2) = _
            rw [q48, upd_at, if_neg (by omega)]
          rw [wi_t hyes, if_neg (by decide), show f_X6_place (nI j) 2 Q = some (nI (15 + 5 * j + 2)) from m_place j 2 Q, Option.bind_some, show f_X6_nameIs (nI j) 2 Q = some (nm (Q 48) j 2) from m_nameIs (by omega) (f := 2) (by omega), Option.bind_some, ew]
          show ∃ s', (((zwr Q 48 (nI (15 + 5 * j + 2)) (capW (B (15 + 5 * j + 2)))).bind _) = some (Sum.inl s')) ∧ _
          rw [wr48 (by omega), Option.bind_some]
          exact fin _ (by unfold mothA; rw [if_neg c, ej, nI_clamp (by omega), zU_row, q48]) (fun a ha => by rw [zU_off ha, qf a ha])
      · obtain ⟨P, rfl, n1, n2⟩ := hI
        have hn' := (hAk n (Nat.le_refl _)).1
        rw [f_X6_moths_l39, if_pos (nI_le (Nat.le_refl _) (by omega))]
        unfold f_X6_moths_j94
        rw [m_hungNow (by rw [n1]; exact hn'), n1, Option.bind_some, m_bits (hung_lt hn')]
        exact ⟨_, rfl, P, rfl, n1, n2⟩
    obtain ⟨r, q1, P, rfl, q2, q3⟩ := key2
    refine ⟨nI (popc (hung (mdA A n))), N, P, ?_, ?_, RR_mono (RR_house (M1 := N) (E := D + n) (A := mdA A n) h (fun a ha => k3 a (by omega)) ⟨fun a ha => q3 a (by omega) (by omega), ⟨by rw [q3 47 (by omega) (by omega)], by rw [q3 47 (by omega) (by omega)]⟩, fun i hi => by rw [q3 50 (by omega) (by omega), k3 50 (by omega)]; exact RR_50 h i hi⟩ k2 q2 (hAk n (Nat.le_refl _)) (by omega)) (by omega)⟩
    · unfold f_X5_moths
      rw [f_within_eq, Option.bind_some, wi_t hx, if_neg (by decide), e10, nI_add, if_pos hle, k1]
    · have z0 : zrd N 48 0 = some (nI d) := by
        rw [show (0 : Int32) = nI 0 from rfl, rd48 (by omega), n48, ed]
      unfold f_X6_moths
      rw [m_within_eq, Option.bind_some, wi_t hx, if_neg (by decide), z0, Option.bind_some, nI_add, if_pos hle, q1]
  · refine pe_find h 0 (by omega) ?_ (fun M1 hf => ?_)
    · unfold f_X5_moths
      rw [f_within_eq, Option.bind_some, wi_f hx, if_pos rfl, bind_pair]; rfl
    · unfold f_X6_moths
      rw [m_within_eq, Option.bind_some, wi_f hx, if_pos rfl, bind_pair]; rfl
