/-! MORE OF THE SAME. -/
theorem isH_ne {t : Nat} (h : isH t) (n : Nat) (hn : n < 800 := by decide) : t + n ≠ 900 := by rcases h with rfl | rfl | rfl <;> omega
theorem isS_ne {t : Nat} (h : isS t) (n : Nat) (hn : n < 800 := by decide) : t + n ≠ 900 := by rcases h with rfl | rfl | rfl | rfl <;> omega
theorem zB_chk {β τ : Type} {c : Prop} [Decidable c] {a : Option β} {K : β → Option τ} {y : τ} (h : (if c then none else a).bind K = some y) : ¬ c ∧ a.bind K = some y := by
  by_cases hc : c
  · rw [if_pos hc] at h; cases h
  · rw [if_neg hc] at h; exact ⟨hc, h⟩
section ZI
variable {E : zEv} {cc : ByteArray} {nL pc fr lo : Nat} {own : String} {L : List (Nat × Value)} {S : List Value} {M : zM}
theorem V_iinck {i : Nat} (n : Int) (k : Int32) {x : Int32} (q : Nat) (v : Int32) (L2 : List (Nat × Value)) (Z : zC E cc nL own fr lo) (hk : Int32.ofInt n = k) (hn : i < nL) (hq : L[q]? = some (i, .int x)) (hv : x + k = v) (hL : (i, Value.int v) :: L.filter (fun q => !(q.1 == i) && !(q.1 + 1 == i && q.2.category == 2)) = L2) (hd : decode cc pc = .ok (.iinc i n, 3)) (kk : VV E nL (pc + 3) L2 S M) : VV E nL pc L S M := by
  subst hk
  exact V_iinc q v L2 Z hn hq hv hL hd kk
end ZI
theorem isH_ltp {t : Nat} (h : isH t) (n : Nat) (hn : n < 38 := by decide) : t + n < NC := by rcases h with rfl | rfl | rfl <;> (unfold NC; omega)
theorem isS_ltp {t : Nat} (h : isS t) (n : Nat) (hn : n < 16 := by decide) : t + n < NC := by rcases h with rfl | rfl | rfl | rfl <;> (unfold NC; omega)
