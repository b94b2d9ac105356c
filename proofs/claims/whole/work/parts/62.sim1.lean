theorem sm_type (x1 : Int32) (cv : Nat → MM) (u : MM) (h : RR cv u) : ∃ (y : Int32 × MM) (z : Int32 × MM), fX7_type NF x1 (cv 1) (cv 0) = some y ∧ fX8_type NF x1 u = some z ∧ y.1 = z.1 ∧ RR (up cv 1 y.2) z.2 := by
  obtain ⟨⟨n, hn, h1, h2, h3⟩, hs, hr⟩ := h
  unfold fX7_type fX8_type
  rw [in_eq]
  rcases in_01 (x := x1) (A := 0) (B := 255) (a := 0) (b := 255) rfl rfl (by omega) (by omega) NF with h0 | ⟨h0, w, -, hw, rfl⟩
  · rw [h0]
    exact ⟨_, _, rfl, rfl, rfl, ⟨n, hn, h1, h2, h3⟩, hs, hr⟩
  · rw [h0, Option.bind_some, Option.bind_some, if_neg (show ¬ (1 : Int32) = 0 by decide), if_neg (show ¬ (1 : Int32) = 0 by decide)]
    unfold fX6_add
    rw [h1, h2]
    by_cases hn2 : n = 120
    · subst hn2
      rw [if_neg (show ¬ nI 120 < (120 : Int32) by decide), if_pos (show nI 120 = (120 : Int32) from rfl), Option.bind_some, if_pos rfl]
      exact ⟨_, _, rfl, rfl, rfl, ⟨120, hn, h1, h2, h3⟩, hs, hr⟩
    · have hlt : nI n < (120 : Int32) := nI_lt (b := 120) (by omega) (by omega)
      have hne : ¬ nI n = (120 : Int32) := fun q => hn2 ((nI_eq (a := n) (b := 120) (by omega) (by omega)).mp q)
      have hc : Int32.toNatClampNeg (nI n) = n := nI_clamp (by omega)
      rw [if_pos hlt, if_neg hne, if_pos (ib_nI (by omega) (by omega)), if_pos (ib_nI (by omega) (by omega)), Option.bind_some, if_neg (by show ¬ (1 : Int32) = 0; decide)]
      refine ⟨_, _, rfl, rfl, rfl, ⟨n + 1, by omega, nI_1 n, nI_1 n, fun j hj => ?_⟩, hs, hr⟩
      show ∃ w' : Nat, w' ≤ 255 ∧ upd (cv 1 0) (Int32.toNatClampNeg (nI n)) (vp_nar .char (((nI w).toUInt32 % 65536).toInt32)) j = nI w' ∧ upd (u 26) (Int32.toNatClampNeg (nI n)) (nI w) j = nI w'
      rw [hc, chr_nI hw]
      by_cases hj2 : j = n
      · subst hj2
        exact ⟨w, hw, upd_eq _ _ _, upd_eq _ _ _⟩
      · obtain ⟨w', a1, a2, a3⟩ := h3 j (by omega)
        exact ⟨w', a1, by rw [upd_ne hj2]; exact a2, by rw [upd_ne hj2]; exact a3⟩
theorem sm_clear (cv : Nat → MM) (u : MM) (h : RR cv u) : ∃ (y : Int32 × MM) (z : Int32 × MM), fX7_clear NF (cv 1) (cv 0) = some y ∧ fX8_clear NF u = some z ∧ y.1 = z.1 ∧ RR (up cv 1 y.2) z.2 := by
  obtain ⟨⟨n, hn, h1, h2, h3⟩, hs, hr⟩ := h
  exact ⟨_, _, rfl, rfl, h1.trans h2.symm, ⟨0, by omega, rfl, rfl, fun j hj => absurd hj (by omega)⟩, hs, hr⟩
theorem sm_forget (cv : Nat → MM) (u : MM) (h : RR cv u) : ∃ (y : Int32 × MM) (z : Int32 × MM), fX7_forget NF (cv 0) = some y ∧ fX8_forget NF u = some z ∧ y.1 = z.1 ∧ RR (up cv 0 y.2) z.2 := by
  obtain ⟨ht, ⟨n, hn, h1, h2, h3⟩, hr⟩ := h
  exact ⟨_, _, rfl, rfl, h1.trans h2.symm, ht, ⟨0, by omega, rfl, rfl, fun j hj => absurd hj (by omega)⟩, hr⟩
theorem sm_sees (x1 x2 : Int32) (cv : Nat → MM) (u : MM) (h : RR cv u) : ∃ (y : Int32 × MM) (z : Int32 × MM), fX7_sees NF x1 x2 (cv 0) = some y ∧ fX8_sees NF x1 x2 u = some z ∧ y.1 = z.1 ∧ RR (up cv 0 y.2) z.2 := by
  obtain ⟨ht, ⟨n, hn, h1, h2, h3⟩, hr⟩ := h
  unfold fX7_sees fX8_sees
  rw [in_eq, in_eq]
  rcases in_01 (x := x1) (A := 1) (B := 40) (a := 1) (b := 40) rfl rfl (by omega) (by omega) NF with h0 | ⟨h0, w, hw1, hw, rfl⟩
  · rw [h0]
    exact ⟨_, _, rfl, rfl, rfl, ht, ⟨n, hn, h1, h2, h3⟩, hr⟩
  · rw [h0, Option.bind_some, Option.bind_some, if_neg (show ¬ (1 : Int32) = 0 by decide), if_neg (show ¬ (1 : Int32) = 0 by decide)]
    rcases in_01 (x := x2) (A := 0) (B := 9999) (a := 0) (b := 9999) rfl rfl (by omega) (by omega) NF with h0 | ⟨h0, q, -, hq, rfl⟩
    · rw [h0]
      exact ⟨_, _, rfl, rfl, rfl, ht, ⟨n, hn, h1, h2, h3⟩, hr⟩
    · rw [h0, Option.bind_some, Option.bind_some, if_neg (show ¬ (1 : Int32) = 0 by decide), if_neg (show ¬ (1 : Int32) = 0 by decide), h1, h2]
      by_cases hn2 : n = 4
      · subst hn2
        rw [if_neg (show ¬ nI 4 < (4 : Int32) by decide), if_pos (show nI 4 = (4 : Int32) from rfl)]
        exact ⟨_, _, rfl, rfl, rfl, ht, ⟨4, hn, h1, h2, h3⟩, hr⟩
      · have hlt : nI n < (4 : Int32) := nI_lt (b := 4) (by omega) (by omega)
        have hne : ¬ nI n = (4 : Int32) := fun q => hn2 ((nI_eq (a := n) (b := 4) (by omega) (by omega)).mp q)
        have hc : Int32.toNatClampNeg (nI n) = n := nI_clamp (by omega)
        have hib : ib (nI n) 4 = true := ib_nI (by omega) (by omega)
        rw [if_pos hlt, if_neg hne, if_pos hib, if_pos hib, if_pos hib, if_pos hib]
        refine ⟨_, _, rfl, rfl, rfl, ht, ⟨n + 1, by omega, nI_1 n, nI_1 n, fun j hj => ?_⟩, hr⟩
        show ∃ a q' : Nat, 1 ≤ a ∧ a ≤ 40 ∧ q' ≤ 9999 ∧ upd (cv 0 10) (Int32.toNatClampNeg (nI n)) (nI w) j = nI a ∧ upd (u 23) (Int32.toNatClampNeg (nI n)) (nI w) j = nI a ∧ upd (cv 0 11) (Int32.toNatClampNeg (nI n)) (nI q) j = nI q' ∧ upd (u 24) (Int32.toNatClampNeg (nI n)) (nI q) j = nI q'
        rw [hc]
        by_cases hj2 : j = n
        · subst hj2
          exact ⟨w, q, hw1, hw, hq, upd_eq _ _ _, upd_eq _ _ _, upd_eq _ _ _, upd_eq _ _ _⟩
        · obtain ⟨a, q', a1, a2, a3, a4, a5, a6, a7⟩ := h3 j (by omega)
          exact ⟨a, q', a1, a2, a3, by rw [upd_ne hj2]; exact a4, by rw [upd_ne hj2]; exact a5, by rw [upd_ne hj2]; exact a6, by rw [upd_ne hj2]; exact a7⟩
