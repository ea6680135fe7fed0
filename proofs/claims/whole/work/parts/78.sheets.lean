/-! THE SHEETS. -/
theorem sheet_ref : ∀ s, s < 4 → zrr 37 (nI s) = some (39 + 2 * s) := by decide
theorem shSh {s : Nat} (h : s < 4) : sh (40 + 2 * s) = .inl 40 := by
  rcases (show s = 0 ∨ s = 1 ∨ s = 2 ∨ s = 3 by omega) with rfl | rfl | rfl | rfl <;> rfl
theorem f_isSheet_eq {M : zM} (x : Int32) : f_X5_isSheet x M = some (if x < 0 then 0 else if 3 < x then 0 else 1) := by
  unfold f_X5_isSheet
  rw [f_within_eq, Option.bind_some, zbo_if]; rfl
theorem m_isSheet_eq {M : zM} (x : Int32) : f_X6_isSheet x M = some (if x < 0 then 0 else if 3 < x then 0 else 1) := by
  unfold f_X6_isSheet
  rw [m_within_eq, Option.bind_some, zbo_if]; rfl
theorem inB_lastN {x : Int32} {n : Nat} (hn : n < 100000) : inB x 0 (nI n - 1) ↔ ∃ j, j < n ∧ x = nI j := by
  cases n with
  | zero =>
    constructor
    · rintro ⟨h1, h2⟩
      exfalso
      obtain ⟨j, hj, e⟩ := nI_of h1
      subst e
      exact h2 (Int32.lt_iff_toInt_lt.mpr (by rw [nI_toInt hj]; show (-1 : Int) < _; omega))
    · rintro ⟨j, hj, _⟩; omega
  | succ n =>
    rw [nI_pred, inB_nI (by omega)]
    constructor
    · rintro ⟨j, hj, e⟩; exact ⟨j, by omega, e⟩
    · rintro ⟨j, hj, e⟩; exact ⟨j, by omega, e⟩
/-- what becomes of the sheets alone -/
theorem RR_sheets {M M2 : zM} {D : Nat} (h : RR M D) (hf : ∀ a, (a < 39 ∨ 46 < a) → a ≠ 57 → a ≠ 58 → a ≠ 59 → a ≠ 60 → M2 a = M a) (h8 : ∀ s, s < 4 → M2 57 s = M2 (39 + 2 * s) 1 ∧ M2 58 s = M2 (39 + 2 * s) 2 ∧ (∀ i, i < 40 → M2 59 (40 * s + i) = M2 (40 + 2 * s) i) ∧ okB (M2 57 s) ∧ nb (M2 58 s) 40 ∧ (M2 57 s = 0 → M2 58 s = 0)) : RR M2 D := by
  obtain ⟨r0, r00, r1, r2, r3, r4, r5, r6, r7, r8⟩ := h
  have g : ∀ a, (a < 39 ∨ (46 < a ∧ a < 57)) → M2 a = M a := fun a ha => hf a (by omega) (by omega) (by omega) (by omega) (by omega)
  have eh1 : hrow M2 1 = hrow M 1 := hrow_off (fun a h1 h2 => g a (by omega))
  have eh12 : hrow M2 12 = hrow M 12 := hrow_off (fun a h1 h2 => g a (by omega))
  exact ⟨by rw [g 48 (by omega), eh1]; exact r0, by rw [g 48 (by omega)]; exact r00, by rw [g 49 (by omega)]; exact r1, by rw [g 50 (by omega)]; exact r2, by rw [g 47 (by omega), g 0 (by omega)]; exact r3, by rw [g 0 (by omega), g 49 (by omega), eh12]; exact r4, by rw [g 51 (by omega), g 38 (by omega)]; exact r5, by rw [g 51 (by omega), g 38 (by omega)]; exact r6, by rw [g 47 (by omega), g 34 (by omega), g 54 (by omega), g 35 (by omega)]; exact r7, h8⟩
def cutV (b v : Int32) : Int32 := if b = 8 then (v : Int32).toInt8.toInt32 else if b = 16 then (v : Int32).toInt16.toInt32 else v
theorem pe_write (x y z : Int32) : PE (f_X5_write x y z) (f_X6_write x y z) := by
  intro M D hD h
  by_cases hx : inB x 0 3
  · obtain ⟨s, hs, rfl⟩ := (inB_nI (n := 3) (by omega)).mp hx
    obtain ⟨b1, b2, b3, b4, ⟨L, hL, b5⟩, b6⟩ := h.2.2.2.2.2.2.2.2.2 s (by omega)
    have z57 : ∀ N : zM, N 57 = M 57 → zrd N 57 (nI s) = some (M (39 + 2 * s) 1) := fun N hN => by
      rw [rd (n := 4) rfl (by omega), hN, b1]
    have z58 : ∀ N : zM, N 58 = M 58 → zrd N 58 (nI s) = some (nI L) := fun N hN => by
      rw [rd (n := 4) rfl (by omega), hN, b5]
    have e2 : M (39 + 2 * s) 2 = nI L := by rw [← b2, b5]
    by_cases hb : M (39 + 2 * s) 1 = 0
    · refine pe_find h 5 (by omega) ?_ (fun M1 hf => ?_)
      · unfold f_X5_write
        rw [f_isSheet_eq, Option.bind_some, wi_t hx, if_neg (by decide), sheet_ref s (by omega), Option.bind_some, if_pos hb, bind_pair]; rfl
      · unfold f_X6_write
        rw [m_isSheet_eq, Option.bind_some, wi_t hx, if_neg (by decide), z57 M1 (hf 57 (by omega)), Option.bind_some, if_pos hb, bind_pair]; rfl
    · by_cases hy : inB y 0 (nI L - 1)
      · obtain ⟨i, hi, rfl⟩ := (inB_lastN (n := L) (by omega)).mp hy
        have hput : f_X3_put (39 + 2 * s) (nI i) z M = some (zU M (40 + 2 * s) i (cutV (M (39 + 2 * s) 1) z)) := by
          have w : ∀ v, zwr M (39 + 2 * s + 1) (nI i) v = some (zU M (40 + 2 * s) i v) := fun v => by
            rw [show 39 + 2 * s + 1 = 40 + 2 * s by omega]; exact wr (n := 40) (shSh (by omega)) (by omega)
          unfold f_X3_put cutV
          rw [w, w, w]
          repeat' split
          all_goals rfl
        have hf : ∀ a, a ≠ 40 + 2 * s → zU M (40 + 2 * s) i (cutV (M (39 + 2 * s) 1) z) a = M a := fun a ha => zU_off ha
        have hcut : ∀ N : zM, f_X6_cutTo z (M (39 + 2 * s) 1) N = some (cutV (M (39 + 2 * s) 1) z) := fun N => by
          unfold f_X6_cutTo cutV
          repeat' split
          all_goals rfl
        have hrow59 : zU M (40 + 2 * s) i (cutV (M (39 + 2 * s) 1) z) (40 + 2 * s) = upd (M (40 + 2 * s)) i (cutV (M (39 + 2 * s) 1) z) := zU_row ..
        generalize hv : cutV (M (39 + 2 * s) 1) z = v at hput hf hcut hrow59
        generalize hN : zU M (40 + 2 * s) i v = N at hput hf hrow59
        refine ⟨1, N, zU N 59 (40 * s + i) v, ?_, ?_, RR_mono (RR_sheets h (fun a h1 h2 h3 h4 h5 => by rw [zU_off h4, hf a (by omega)]) (fun t ht => ?_)) (by omega)⟩
        · unfold f_X5_write
          rw [f_isSheet_eq, Option.bind_some, wi_t hx, if_neg (by decide), sheet_ref s (by omega), Option.bind_some, if_neg hb, Option.bind_some, f_within_eq, e2, Option.bind_some, wi_t hy, if_neg (by decide), Option.bind_some, hput]; rfl
        · unfold f_X6_write
          rw [m_isSheet_eq, Option.bind_some, wi_t hx, if_neg (by decide), z57 N (hf 57 (by omega)), Option.bind_some, if_neg hb, z58 N (hf 58 (by omega)), Option.bind_some, m_within_eq, Option.bind_some, wi_t hy, if_neg (by decide), Option.bind_some, hcut, Option.bind_some, show ((40 : Int32) * nI s + nI i) = nI (40 * s + i) from by
            rw [show (40 : Int32) * nI s = nI (40 * s) from pk_mul 40 s, nI_add], wr (n := 160) rfl (by omega)]; rfl
        · obtain ⟨c1, c2, c3, c4, c5, c6⟩ := h.2.2.2.2.2.2.2.2.2 t ht
          have q57 : zU N 59 (40 * s + i) v 57 = M 57 := by rw [zU_off (by omega), hf 57 (by omega)]
          have q58 : zU N 59 (40 * s + i) v 58 = M 58 := by rw [zU_off (by omega), hf 58 (by omega)]
          have q39 : zU N 59 (40 * s + i) v (39 + 2 * t) = M (39 + 2 * t) := by rw [zU_off (by omega), hf _ (by omega)]
          rw [q57, q58, q39]
          refine ⟨c1, c2, fun j hj => ?_, c4, c5, c6⟩
          rw [zU_at, hf 59 (by omega), zU_off (show 40 + 2 * t ≠ 59 by omega)]
          by_cases e : t = s
          · subst e
            rw [hrow59, upd_at]
            by_cases e2 : j = i
            · subst e2; rw [if_pos ⟨rfl, rfl⟩, if_pos rfl]
            · rw [if_neg (by omega), if_neg e2]; exact c3 j hj
          · rw [if_neg (by omega), hf (40 + 2 * t) (by omega)]; exact c3 j hj
      · refine pe_find h 0 (by omega) ?_ (fun M1 hf => ?_)
        · unfold f_X5_write
          rw [f_isSheet_eq, Option.bind_some, wi_t hx, if_neg (by decide), sheet_ref s (by omega), Option.bind_some, if_neg hb, Option.bind_some, f_within_eq, e2, Option.bind_some, wi_f hy, if_pos rfl, bind_pair]; rfl
        · unfold f_X6_write
          rw [m_isSheet_eq, Option.bind_some, wi_t hx, if_neg (by decide), z57 M1 (hf 57 (by omega)), Option.bind_some, if_neg hb, z58 M1 (hf 58 (by omega)), Option.bind_some, m_within_eq, Option.bind_some, wi_f hy, if_pos rfl, bind_pair]; rfl
  · refine pe_find h 0 (by omega) ?_ (fun M1 hf => ?_)
    · unfold f_X5_write
      rw [f_isSheet_eq, Option.bind_some, wi_f hx, if_pos rfl, bind_pair]; rfl
    · unfold f_X6_write
      rw [m_isSheet_eq, Option.bind_some, wi_f hx, if_pos rfl, bind_pair]; rfl
