/-! MOTHS. -/
abbrev zMo (z : Int32) : Int32 := z * 1103515245 + 12345
abbrev uN (z : Int32) : Int32 := ((z : Int32).toUInt32 >>> ((8 : Int32).toUInt32 &&& Int32.toUInt32 31)).toInt32
abbrev pN (z : Int32) : Int32 := uN z - uN z / 16 * 16
theorem uN_is (z : Int32) : ∃ k, k < 2 ^ 24 ∧ uN z = nI k := by
  refine ⟨(z.toUInt32 >>> ((8 : Int32).toUInt32 &&& Int32.toUInt32 31)).toNat, ?_, ?_⟩
  · rw [UInt32.toNat_shiftRight, show ((8 : Int32).toUInt32 &&& Int32.toUInt32 31).toNat % 32 = 8 from by decide, Nat.shiftRight_eq_div_pow]
    have := z.toUInt32.toNat_lt
    omega
  · show (z.toUInt32 >>> ((8 : Int32).toUInt32 &&& Int32.toUInt32 31)).toInt32 = nI (z.toUInt32 >>> ((8 : Int32).toUInt32 &&& Int32.toUInt32 31)).toNat
    generalize z.toUInt32 >>> ((8 : Int32).toUInt32 &&& Int32.toUInt32 31) = v
    apply Int32.toBitVec_inj.mp
    show v.toBitVec = BitVec.ofNat 32 v.toNat
    exact ((BitVec.ofNat_toNat 32 v.toBitVec).trans (BitVec.setWidth_eq v.toBitVec)).symm
theorem pN_is (z : Int32) : ∃ j, j < 16 ∧ pN z = nI j := by
  obtain ⟨k, hk, e⟩ := uN_is z
  refine ⟨k % 16, Nat.mod_lt _ (by omega), ?_⟩
  show uN z - uN z / 16 * 16 = _
  rw [e]
  have hd : nI k / 16 = nI (k / 16) := by
    apply Int32.toInt_inj.mp
    rw [Int32.toInt_div_of_ne_right _ _ (by decide), nI_toInt (by omega), nI_toInt (by omega)]
    show (k : Int).tdiv 16 = _
    rw [Int.tdiv_eq_ediv_of_nonneg (by omega)]
    omega
  rw [hd, show nI (k / 16) * 16 = nI (k / 16 * 16) from pk_mul (k / 16) 16, nI_sub (by omega)]
  congr 1
  omega
