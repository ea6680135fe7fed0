/-! MOTHS. -/
abbrev zMo (z : Int32) : Int32 := z * 1103515245 + 12345
abbrev uN (z : Int32) : Int32 := ((z : Int32).toUInt32 >>> ((8 : Int32).toUInt32 &&& Int32.toUInt32 31)).toInt32
abbrev pN (z : Int32) : Int32 := uN z - uN z / 16 * 16
theorem uN_is (z : Int32) : ∃ k, k < 2 ^ 24 ∧ uN z = nI k := by
  refine ⟨(z.toUInt32 >>> ((8 : Int32).toUInt32 &&& Int32.toUInt32 31)).toNat, ?_, ?_⟩
  · rw [UInt32.toNat_shiftRight, show ((8 : Int32).toUInt32 &&& Int32.toUInt32 31).toNat % 32 = 8 from by decide, Nat.shiftRight_eq_div_pow]
    have := z.toUInt32.toNat_lt
    omega
  · show (z.toUInt32 >>> ((8 : Int32).toUInt32 &&& Int32.toUInt32 31)).toInt32 = nI (z.toUInt32 >>> ((8 : Int32).toUInt32 &&& Int32.toUInt32 31)).toNat
    generalize z.toUInt32 >>> ((8 : Int32).toUInt32 &&& Int32.toUInt32 31) = v
    apply Int32.toBitVec_inj.mp
    show v.toBitVec = BitVec.ofNat 32 v.toNat
    exact ((BitVec.ofNat_toNat 32 v.toBitVec).trans (BitVec.setWidth_eq v.toBitVec)).symm
theorem pN_is (z : Int32) : ∃ j, j < 16 ∧ pN z = nI j := by
  obtain ⟨k, hk, e⟩ := uN_is z
  refine ⟨k % 16, Nat.mod_lt _ (by omega), ?_⟩
  show uN z - uN z / 16 * 16 = _
  rw [e]
  have hd : nI k / 16 = nI (k / 16) := by
    apply Int32.toInt_inj.mp
    rw [Int32.toInt_div_of_ne_right _ _ (by decide), nI_toInt (by omega), nI_toInt (by omega)]
    show (k : Int).tdiv 16 = _
    rw [Int.tdiv_eq_ediv_of_nonneg (by omega)]
    omega
  rw [hd, show nI (k / 16) * 16 = nI (k / 16 * 16) from pk_mul (k / 16) 16, nI_sub (by omega)]
  congr 1
  omega

def capW (w : Int32) : Int32 := if w + 10 < 99 then w + 10 else 99
theorem capW_nb {w : Int32} (h : nb w 99) : nb (capW w) 99 := by
  obtain ⟨k, hk, rfl⟩ := h
  unfold capW
  rw [show nI k + 10 = nI (k + 10) from nI_add k 10]
  by_cases c : nI (k + 10) < 99
  · rw [if_pos c]
    have := (nI_ltI (a := k + 10) (b := 99) (by omega) (by omega)).mp c
    exact ⟨k + 10, by omega, rfl⟩
  · rw [if_neg c]; exact ⟨99, by omega, rfl⟩
def mothA (A : Nat → Int32) : Nat → Int32 :=
  if A 1 ≤ pN (zMo (A 2)) then upd A 2 (zMo (A 2)) else upd (upd A 2 (zMo (A 2))) (15 + 5 * (pN (zMo (A 2))).toNatClampNeg + 2) (capW (A (15 + 5 * (pN (zMo (A 2))).toNatClampNeg + 2)))
theorem okA_moth {A : Nat → Int32} {D : Nat} (h : okA A D) : okA (mothA A) D := by
  obtain ⟨j, hj, ej⟩ := pN_is (zMo (A 2))
  unfold mothA
  by_cases c : A 1 ≤ pN (zMo (A 2))
  · rw [if_pos c]; exact okA_set2 h
  · rw [if_neg c]
    have h8 := h.1.2
    rw [ej, h.1.1] at c
    have hj8 : j < 8 := Nat.not_le.mp (fun q => c (nI_le (by omega) (by omega)))
    rw [ej, nI_clamp (by omega)]
    exact okA_setN (okA_set2 h) hj8 (by omega) (fun c => by omega) (fun c => by omega) (fun _ => capW_nb (h.2.2.2.2.2.2.1 j hj8).2.2.1) (fun c => by omega) (fun c => by omega)
theorem h_moth {M : zM} {A : Nat → Int32} {D : Nat} (hA : okA A D) (hr : hrow M 1 = A) : ∃ M', f_X0_moth 1 M = some M' ∧ hrow M' 1 = mothA A ∧ ∀ a, a ≠ 1 → a ≠ 4 → M' a = M a := by
  obtain ⟨j, hj, ej⟩ := pN_is (zMo (A 2))
  have e12 : M 1 12 = A 2 := by rw [← hr]; rfl
  have e0 : M 1 0 = A 1 := by rw [← hr]; rfl
  have s12 : zU M 1 12 (zMo (A 2)) 1 12 = zMo (A 2) := zU_same ..
  have s0 : zU M 1 12 (zMo (A 2)) 1 0 = A 1 := by rw [zU_at, if_neg (by omega), e0]
  have sr : hrow (zU M 1 12 (zMo (A 2))) 1 = upd A 2 (zMo (A 2)) := by
    rw [show zU M 1 12 (zMo (A 2)) = zU M 1 (rp 2) (zMo (A 2)) from rfl, hrow_uF _ _ _ _ (by omega), hr]
  have sf : ∀ a, a ≠ 1 → zU M 1 12 (zMo (A 2)) a = M a := fun a ha => zU_off ha
  unfold f_X0_moth
  rw [e12]
  show ∃ M', ((some (zU M 1 12 (zMo (A 2)))).bind _) = some M' ∧ _
  generalize zU M 1 12 (zMo (A 2)) = N at s12 s0 sr sf
  rw [Option.bind_some, s12]
  show ∃ M', ((some (pN (zMo (A 2)))).bind _) = some M' ∧ _
  rw [Option.bind_some, s0]
  by_cases c : A 1 ≤ pN (zMo (A 2))
  · rw [if_pos c]
    exact ⟨N, rfl, by unfold mothA; rw [if_pos c]; exact sr, fun a h1 _ => sf a h1⟩
  · rw [if_neg c]
    have h8 := hA.1.2
    have c2 := c
    rw [ej, hA.1.1] at c2
    have hj8 : j < 8 := Nat.not_le.mp (fun q => c2 (nI_le (by omega) (by omega)))
    have e4 : N 4 j = A (15 + 5 * j + 2) := by
      rw [sf 4 (by omega), ← hr]; exact (hrow_name M 1 hj8 (f := 2) (by omega)).symm
    rw [ej, rd (n := 8) rfl hj8, Option.bind_some, show N (1 + 3) j = _ from e4]
    show ∃ M', ((zwr N 4 (nI j) (capW (A (15 + 5 * j + 2)))).bind _) = some M' ∧ _
    rw [wr (n := 8) rfl hj8]
    refine ⟨_, rfl, ?_, fun a h1 h2 => by rw [zU_off h2, sf a h1]⟩
    rw [show zU N 4 j (capW (A (15 + 5 * j + 2))) = zU N (1 + 1 + 2) j (capW (A (15 + 5 * j + 2))) from rfl, hrow_uN _ _ _ (by omega) hj8, sr]
    unfold mothA
    rw [if_neg c, ej, nI_clamp (by omega)]
