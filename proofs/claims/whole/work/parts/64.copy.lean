/-! copies of states on both sides -/
theorem cp_row {n : Nat} (hn : n < 2 ^ 31) (N : Nat) (f g : Nat → Int32) : fX7_copyRow N n n f g = some (va_cpy f g 0 0 n) := by
  have e0 : Int32.toNatClampNeg (0 : Int32) = 0 := by decide
  have en : Int32.toNatClampNeg (nI n) = n := nI_clamp hn
  have h1 : ¬ (nI n) < 0 := nI_pos hn
  unfold fX7_copyRow
  show (if acb 0 0 (if nI n < nI n then nI n else nI n) n n = true then some (va_cpy f g (Int32.toNatClampNeg 0) (Int32.toNatClampNeg 0) (Int32.toNatClampNeg (if nI n < nI n then nI n else nI n))) else none) = _
  rw [ite_self, e0, en, if_pos]
  unfold acb
  rw [e0, en, Nat.zero_add, Nat.ble_eq_true_of_le (Nat.le_refl n)]
  simp [h1]
theorem cpy_in {f g : Nat → Int32} {n j : Nat} (h : j < n) : va_cpy f g 0 0 n j = f j := sb_cpy0 h
theorem cp_bl (N : Nat) (b b' : MM) : ∃ y, fX0_copyFrom N b b' = some y ∧ ∀ l, blC b' l → blC y l := by
  unfold fX0_copyFrom
  rw [cp_row (by omega), Option.bind_some, cp_row (by omega), Option.bind_some, cp_row (by omega), Option.bind_some, cp_row (by omega), Option.bind_some, cp_row (by omega), Option.bind_some]
  refine ⟨_, rfl, fun l hl => ?_⟩
  obtain ⟨h60, h0, h1⟩ := hl
  refine ⟨h60, h0, fun k x hk => ?_⟩
  have hlt : k < 60 := Nat.lt_of_lt_of_le (List.getElem?_eq_some_iff.mp hk).1 h60
  obtain ⟨a1, a2, a3, a4, a5⟩ := h1 k x hk
  refine ⟨?_, ?_, ?_, ?_, fun c hc => ?_⟩
  · exact (cpy_in hlt).trans a1
  · exact (cpy_in hlt).trans a2
  · exact (cpy_in hlt).trans a3
  · exact (cpy_in hlt).trans a4
  · exact (cpy_in (show 6 * k + c < 360 by omega)).trans (a5 c hc)
theorem cp_st (N : Nat) (tb ta oa ob : MM) : ∃ y, fX4_copyFrom N tb ta oa ob = some y ∧ ∀ z, stC oa ob z → stC y.2 y.1 z := by
  obtain ⟨yb, hb, hB⟩ := cp_bl N tb ob
  unfold fX4_copyFrom
  rw [cp_row (by omega), Option.bind_some, cp_row (by omega), Option.bind_some, cp_row (by omega), Option.bind_some, cp_row (by omega), Option.bind_some, cp_row (by omega), Option.bind_some, cp_row (by omega), Option.bind_some, cp_row (by omega), Option.bind_some, cp_row (by omega), Option.bind_some, cp_row (by omega), Option.bind_some, cp_row (by omega), Option.bind_some, cp_row (by omega), Option.bind_some, hb, Option.bind_some]
  refine ⟨_, rfl, fun z hz => ⟨?_, hB z.2 hz.2⟩⟩
  obtain ⟨h0, h1, h2, h3, h4, h5⟩ := hz.1
  refine ⟨h0, h1, h2, fun k t k1 k2 ht => ?_, fun k c k1 k2 hc => ?_, fun t j ht hj => ?_⟩
  · have hk : k = 3 ∨ k = 4 ∨ k = 5 ∨ k = 6 ∨ k = 7 ∨ k = 8 := by omega
    rcases hk with rfl | rfl | rfl | rfl | rfl | rfl <;> exact (cpy_in ht).trans (h3 _ t k1 k2 ht)
  · have hk : k = 9 ∨ k = 10 ∨ k = 11 ∨ k = 12 := by omega
    rcases hk with rfl | rfl | rfl | rfl <;> exact (cpy_in hc).trans (h4 _ c k1 k2 hc)
  · have e : va_cpy (oa 13) (ta 13) 0 0 200 j = oa 13 j := cpy_in (by omega)
    show (va_cpy (oa 13) (ta 13) 0 0 200 j).toBitVec.getLsbD t = _
    rw [e]
    exact h5 t j ht hj
/-- the model's copies: 667 places -/
theorem cp_8 {a b n0 n1 N : Nat} (hN : 667 < N) (h0 : a + 667 ≤ n0) (h1 : b + 667 ≤ n1) (h0' : n0 < 2 ^ 30) (h1' : n1 < 2 ^ 30) (f g : Nat → Int32) : ∃ y, fX8_copies N (nI a) (nI b) n0 n1 f g = some y ∧ (∀ j, j < 667 → y (b + j) = f (a + j)) ∧ ∀ j, j < b ∨ b + 667 ≤ j → y j = g j := by
  unfold fX8_copies
  obtain ⟨y, ⟨hy1, hy2⟩, e⟩ := lp_run (fun n i (w : Nat → Int32) => fX8_copies_L3 N (fun (_ : Int32) (v : Nat → Int32) => some v) (nI a) (nI b) n0 n1 f n (nI i) w) (fun w => some w) 667 (fun i w => (∀ j, j < i → w (b + j) = f (a + j)) ∧ ∀ j, j < b ∨ b + i ≤ j → w j = g j)
    (fun n w hw => by
      show fX8_copies_L3 N _ (nI a) (nI b) n0 n1 f (n + 1) (nI 667) w = _
      rw [fX8_copies_L3, if_pos (show (667 : Int32) ≤ nI 667 by decide)])
    (fun n i w hi hw => by
      have e1 : (nI b) + (nI i) = nI (b + i) := nI_add b i
      have e2 : (nI a) + (nI i) = nI (a + i) := nI_add a i
      refine ⟨upd w (b + i) (f (a + i)), ⟨fun j hj => ?_, fun j hj => ?_⟩, ?_⟩
      · by_cases hji : j = i
        · subst hji
          exact upd_eq _ _ _
        · rw [upd_ne (by omega)]
          exact hw.1 j (by omega)
      · rw [upd_ne (by omega)]
        exact hw.2 j (by omega)
      · show fX8_copies_L3 N _ (nI a) (nI b) n0 n1 f (n + 1) (nI i) w = _
        rw [fX8_copies_L3, if_neg (show ¬ (667 : Int32) ≤ nI i from nI_ge (b := 667) hi (by omega))]
        rw [e1, e2, if_pos (ib_nI (by omega) (by omega)), if_pos (ib_nI (by omega) (by omega)), nI_clamp (by omega), nI_clamp (by omega), nI_1]) 667 N 0 g (by omega) hN ⟨fun j hj => absurd hj (by omega), fun j _ => rfl⟩
  exact ⟨y, e, hy1, hy2⟩
