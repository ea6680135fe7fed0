/-! STRINGS: the constants' length and characters (the JDK's own methods walked). -/
theorem isH_ne {t : Nat} (h : isH t) (n : Nat) (hn : n < 800 := by decide) : t + n ≠ 900 := by rcases h with rfl | rfl | rfl <;> omega
theorem isS_ne {t : Nat} (h : isS t) (n : Nat) (hn : n < 800 := by decide) : t + n ≠ 900 := by rcases h with rfl | rfl | rfl | rfl <;> omega
theorem zB_chk {β τ : Type} {c : Prop} [Decidable c] {a : Option β} {K : β → Option τ} {y : τ} (h : (if c then none else a).bind K = some y) : ¬ c ∧ a.bind K = some y := by
  by_cases hc : c
  · rw [if_pos hc] at h; cases h
  · rw [if_neg hc] at h; exact ⟨hc, h⟩
section ZS
variable {E : zEv} {cc : ByteArray} {nL pc fr lo : Nat} {own : String} {L : List (Nat × Value)} {S : List Value} {M : zM}
theorem V_strlen {w index : Nat} (Z : zC E cc nL own fr lo) (hw : w < 13) (hl : Cond.methodLink own index ⟨"java/lang/String", "length", "()I"⟩ ∈ zTB) (hd : decode cc pc = .ok (.invokevirtual index, 3)) (hR : (decide (6 ≤ fr) && decide ((S.map fun v => v.category).sum + 160 ≤ lo)) = true) (k : VV E nL (pc + 3) L (.int (zsl w) :: S) M) : VV E nL pc L (.ref (1000 + w) :: S) M := sorry
theorem V_strchar {w index : Nat} {i v : Int32} (Z : zC E cc nL own fr lo) (hw : w < 13) (hv : zsc w i = some v) (hl : Cond.methodLink own index ⟨"java/lang/String", "charAt", "(I)C"⟩ ∈ zTB) (hd : decode cc pc = .ok (.invokevirtual index, 3)) (hR : (decide (6 ≤ fr) && decide ((S.map fun v => v.category).sum + 160 ≤ lo)) = true) (k : VV E nL (pc + 3) L (.int v :: S) M) : VV E nL pc L (.int i :: .ref (1000 + w) :: S) M := sorry
end ZS
theorem isH_ltp {t : Nat} (h : isH t) (n : Nat) (hn : n < 38 := by decide) : t + n < NC := by rcases h with rfl | rfl | rfl <;> (unfold NC; omega)
