/-! ORDERS: who stands where. st o k: who stands at place k of order o. -/
def st (o k : Nat) : Nat := ((f_X6_standsAt (nI o) (nI k) zM0).getD 0).toNatClampNeg
set_option maxRecDepth 100000 in
theorem st_c : ∀ o, o < 720 → ∀ k, k < 6 → f_X6_standsAt (nI o) (nI k) zM0 = some (nI (st o k)) ∧ st o k < 6 := by decide +kernel
theorem m_stands {o k : Nat} (ho : o < 720) (hk : k < 6) (M : zM) : f_X6_standsAt (nI o) (nI k) M = some (nI (st o k)) := (st_c o ho k hk).1
theorem st_lt {o k : Nat} (ho : o < 720) (hk : k < 6) : st o k < 6 := (st_c o ho k hk).2
/-- the class's way: the number to the bases 1, 2, .. -/
def luR (o : Nat) : Nat → Nat
  | 0 => o
  | k + 1 => luR o k / (k + 1)
def luL (o : Nat) : Nat → Nat → Nat
  | 0 => fun _ => 0
  | k + 1 => fun j => if j = 5 - k then luR o k % (k + 1) else if 5 - k < j then (if luL o k j < luR o k % (k + 1) then luL o k j else luL o k j + 1) else 0
set_option maxRecDepth 100000 in
theorem lu_c : ∀ o, o < 720 → ∀ k, k < 6 → luL o 6 k = st o k := by decide +kernel
set_option maxRecDepth 100000 in
theorem st_perm : ∀ o, o < 720 → ∀ p, p < 6 → ∃ k, k < 6 ∧ st o k = p := by decide +kernel
set_option maxRecDepth 100000 in
theorem st_inj : ∀ o, o < 720 → ∀ k, k < 6 → ∀ j, j < 6 → st o k = st o j → k = j := by decide +kernel
