/-! THE LINE: the class's lineUp is the reference's order. -/
theorem dv {a b : Nat} (ha : a < 2 ^ 31) (h0 : 0 < b) (hb : b < 2 ^ 31) : zdv (nI a) (nI b) = some (nI (a / b)) := by
  unfold zdv
  rw [if_neg (nI_ne0 h0 hb), pk_div ha h0 hb]
theorem rm {a b : Nat} (ha : a < 2 ^ 31) (h0 : 0 < b) (hb : b < 2 ^ 31) : zrm (nI a) (nI b) = some (nI (a % b)) := by
  unfold zrm
  rw [if_neg (nI_ne0 h0 hb), pk_rem ha h0 hb]
theorem luR_le (o : Nat) : ∀ k, luR o k ≤ o := by
  intro k
  induction k with
  | zero => exact Nat.le_refl _
  | succ k ih => exact Nat.le_trans (Nat.div_le_self _ _) ih
theorem luL_le (o : Nat) : ∀ k, ∀ j, luL o k j ≤ k := by
  intro k
  induction k with
  | zero => intro j; exact Nat.le_refl _
  | succ k ih =>
    intro j
    unfold luL
    have hm : luR o k % (k + 1) < k + 1 := Nat.mod_lt _ (by omega)
    have := ih j
    split
    · omega
    · split
      · split <;> omega
      · omega
theorem luL_succ (o k j : Nat) : luL o (k + 1) j = if j = 5 - k then luR o k % (k + 1) else if 5 - k < j then (if luL o k j < luR o k % (k + 1) then luL o k j else luL o k j + 1) else 0 := rfl
theorem h_lineUp {M : zM} {t o : Nat} (h : isH t) (ho : o < 720) : ∃ M', f_X0_lineUp t (nI o) M = some M' ∧ (∀ k, k < 6 → M' (t + 9) k = nI (st o k)) ∧ ∀ a, a ≠ t + 9 → M' a = M a := by
  obtain ⟨-, -, -, -, -, -, -, -, h9, -⟩ := shA h
  unfold f_X0_lineUp
  refine zIter_inv (fun k s => ∃ N : zM, s = (nI (luR o k), (if k < 6 then nI (5 - k) else -1), N) ∧ (∀ j, 6 ≤ j + k → j < 6 → N (t + 9) j = nI (luL o k j)) ∧ ∀ a, a ≠ t + 9 → N a = M a) _ 6 1000 _ (by omega) ⟨M, rfl, fun j hj h6 => by omega, fun _ _ => rfl⟩ (fun k s hk hI => ?_) (fun s hI => ?_)
  · obtain ⟨N, rfl, hN, hF⟩ := hI
    have hr : luR o k < 2 ^ 31 := Nat.lt_of_le_of_lt (luR_le o k) (by omega)
    rw [f_X0_lineUp_l4, if_pos hk, if_neg (nI_pos (by omega))]
    have e6 : (6 : Int32) - nI (5 - k) = nI (k + 1) := by
      rw [show (6 : Int32) = nI 6 from rfl, pk_sub (by omega)]
      congr 1; omega
    rw [e6, Option.bind_some, rm hr (by omega) (by omega), Option.bind_some, wr h9 (by omega), Option.bind_some, dv hr (by omega) (by omega), Option.bind_some, nI_1, Option.bind_some]
    generalize hv : luR o k % (k + 1) = v
    have hv6 : v < 6 := by rw [← hv]; exact Nat.lt_of_lt_of_le (Nat.mod_lt _ (by omega)) (by omega)
    -- the people behind
    have key : ∃ r, zIter (f_X0_lineUp_l34 t (nI (luR o k / (k + 1))) (nI (5 - k))) 1000 (nI (5 - k + 1), zU N (t + 9) (5 - k) (nI v)) = some r ∧ (fun r => ∃ N' : zM, r = .inl (nI (luR o (k + 1)), (if k + 1 < 6 then nI (5 - (k + 1)) else -1), N') ∧ (∀ j, j < 6 → N' (t + 9) j = if j = 5 - k then nI v else if 5 - k < j then (if luL o k j < v then nI (luL o k j) else nI (luL o k j + 1)) else N (t + 9) j) ∧ ∀ a, a ≠ t + 9 → N' a = N a) r := by
      refine zIter_inv (b := f_X0_lineUp_l34 t (nI (luR o k / (k + 1))) (nI (5 - k))) (fun b s => ∃ N' : zM, s = (nI (5 - k + 1 + b), N') ∧ (∀ j, j < 6 → N' (t + 9) j = if j = 5 - k then nI v else if 5 - k < j ∧ j < 5 - k + 1 + b then (if luL o k j < v then nI (luL o k j) else nI (luL o k j + 1)) else N (t + 9) j) ∧ ∀ a, a ≠ t + 9 → N' a = N a) (fun r => ∃ N' : zM, r = .inl (nI (luR o (k + 1)), (if k + 1 < 6 then nI (5 - (k + 1)) else -1), N') ∧ (∀ j, j < 6 → N' (t + 9) j = if j = 5 - k then nI v else if 5 - k < j then (if luL o k j < v then nI (luL o k j) else nI (luL o k j + 1)) else N (t + 9) j) ∧ ∀ a, a ≠ t + 9 → N' a = N a) k 1000 (nI (5 - k + 1), zU N (t + 9) (5 - k) (nI v)) (by omega) ⟨_, rfl, fun j hj => by
          rw [zU_at]
          by_cases hj2 : j = 5 - k
          · subst hj2; simp
          · rw [if_neg (by omega), if_neg hj2, if_neg (by omega)], fun a ha => zU_off ha⟩ (fun b s hb hI => ?_) (fun s hI => ?_)
      · obtain ⟨N', rfl, hN', hF'⟩ := hI
        have eb : N' (t + 9) (5 - k + 1 + b) = nI (luL o k (5 - k + 1 + b)) := by
          rw [hN' _ (by omega), if_neg (by omega), if_neg (by omega)]
          exact hN _ (by omega) (by omega)
        have ev : N' (t + 9) (5 - k) = nI v := by rw [hN' _ (by omega), if_pos rfl]
        have hl := luL_le o k (5 - k + 1 + b)
        rw [f_X0_lineUp_l34, if_neg (show ¬ (6 : Int32) ≤ nI (5 - k + 1 + b) from nI_ge (b := 6) (by omega) (by decide)), rd h9 (by omega), Option.bind_some, rd h9 (by omega), Option.bind_some, eb, ev]
        by_cases hlt : luL o k (5 - k + 1 + b) < v
        · rw [if_pos (nI_lt hlt (by omega)), Option.bind_some, nI_1]
          refine ⟨_, rfl, N', rfl, fun j hj => ?_, hF'⟩
          rw [hN' j hj]
          by_cases hj2 : j = 5 - k
          · rw [if_pos hj2, if_pos hj2]
          · rw [if_neg hj2, if_neg hj2]
            by_cases hj3 : j = 5 - k + 1 + b
            · subst hj3
              rw [if_neg (by omega), if_pos (by omega), if_pos hlt]
              exact hN _ (by omega) (by omega)
            · by_cases hj4 : 5 - k < j ∧ j < 5 - k + 1 + b
              · rw [if_pos hj4, if_pos (show 5 - k < j ∧ j < 5 - k + 1 + (b + 1) by omega)]
              · rw [if_neg hj4, if_neg (show ¬ (5 - k < j ∧ j < 5 - k + 1 + (b + 1)) by omega)]
        · rw [if_neg (nI_nlt (by omega) (by omega)), Option.bind_some, nI_1, wr h9 (by omega), Option.bind_some, nI_1, Option.bind_some]
          refine ⟨_, rfl, _, rfl, fun j hj => ?_, fun a ha => (zU_off ha).trans (hF' a ha)⟩
          rw [zU_at]
          by_cases hj3 : j = 5 - k + 1 + b
          · subst hj3
            rw [if_pos ⟨rfl, rfl⟩, if_neg (by omega), if_pos (by omega), if_neg hlt]
          · rw [if_neg (by omega), hN' j hj]
            by_cases hj2 : j = 5 - k
            · rw [if_pos hj2, if_pos hj2]
            · rw [if_neg hj2, if_neg hj2]
              by_cases hj4 : 5 - k < j ∧ j < 5 - k + 1 + b
              · rw [if_pos hj4, if_pos (show 5 - k < j ∧ j < 5 - k + 1 + (b + 1) by omega)]
              · rw [if_neg hj4, if_neg (show ¬ (5 - k < j ∧ j < 5 - k + 1 + (b + 1)) by omega)]
      · obtain ⟨N', rfl, hN', hF'⟩ := hI
        have e1 : 5 - k + 1 + k = 6 := by omega
        have em : nI (5 - k) + (-1) = if k + 1 < 6 then nI (5 - (k + 1)) else -1 := by
          by_cases h5 : k + 1 < 6
          · rw [if_pos h5, show 5 - k = (5 - (k + 1)) + 1 by omega, pk_m1]
          · rw [if_neg h5, show 5 - k = 0 by omega]; rfl
        rw [f_X0_lineUp_l34, e1, if_pos (show (6 : Int32) ≤ nI 6 from nI_le (Nat.le_refl _) (by omega)), em, Option.bind_some]
        refine ⟨_, rfl, N', rfl, fun j hj => ?_, hF'⟩
        rw [hN' j hj]
        by_cases hj2 : j = 5 - k
        · rw [if_pos hj2, if_pos hj2]
        · rw [if_neg hj2, if_neg hj2]
          by_cases hj4 : 5 - k < j
          · rw [if_pos ⟨hj4, by omega⟩, if_pos hj4]
          · rw [if_neg (by omega), if_neg hj4]
    obtain ⟨r, hr1, N', rfl, hN', hF'⟩ := key
    refine ⟨_, hr1, N', rfl, fun j hj h6 => ?_, fun a ha => (hF' a ha).trans (hF a ha)⟩
    rw [hN' j h6, luL_succ, hv]
    by_cases hj2 : j = 5 - k
    · rw [if_pos hj2, if_pos hj2]
    · rw [if_neg hj2, if_neg hj2, if_pos (show 5 - k < j by omega), if_pos (show 5 - k < j by omega)]
      split <;> rfl
  · obtain ⟨N, rfl, hN, hF⟩ := hI
    rw [f_X0_lineUp_l4]
    simp only [Nat.lt_irrefl, if_false]
    rw [if_pos (by decide)]
    refine ⟨_, rfl, fun k hk => ?_, hF⟩
    rw [hN k (by omega) hk, lu_c o ho k hk]
