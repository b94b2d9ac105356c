theorem stM_congr {s s' : Nat → Int32} {z : AS} (h : ∀ j, j < 667 → s' j = s j) (hm : stM s z) : stM s' z := by
  obtain ⟨⟨a0, a1, a2, a3, a4, a5⟩, b60, b0, b1⟩ := hm
  refine ⟨⟨by rw [h _ (by omega)]; exact a0, by rw [h _ (by omega)]; exact a1, by rw [h _ (by omega)]; exact a2, fun k t hk ht => by rw [h _ (by omega)]; exact a3 k t hk ht, fun k c hk hc => by rw [h _ (by omega)]; exact a4 k c hk hc, fun t j ht hj => by rw [h _ (by omega)]; exact a5 t j ht hj⟩, b60, by rw [h _ (by omega)]; exact b0, fun k x hk => ?_⟩
  have hlt : k < 60 := Nat.lt_of_lt_of_le (List.getElem?_eq_some_iff.mp hk).1 b60
  obtain ⟨c1, c2, c3, c4, c5⟩ := b1 k x hk
  exact ⟨by rw [h _ (by omega)]; exact c1, by rw [h _ (by omega)]; exact c2, by rw [h _ (by omega)]; exact c3, by rw [h _ (by omega)]; exact c4, fun c hc => by rw [h _ (by omega)]; exact c5 c hc⟩
theorem rSt_congr {S : RW} {a b : MM} {s s' : Nat → Int32} (h : ∀ j, j < 667 → s' j = s j) (hm : rSt S a b s) : rSt S a b s' := by
  obtain ⟨z, h1, h2, h3, h4⟩ := hm
  exact ⟨z, h1, stM_congr h h2, h3, h4⟩
theorem rSt_now {S : RW} {a b : MM} {s : Nat → Int32} (hm : rSt S a b s) : a 0 0 = s 0 := by
  obtain ⟨z, h1, h2, h3, h4⟩ := hm
  exact h1.1.1.trans h2.1.1.symm
theorem mul667 (w : Nat) : (667 : Int32) * nI w = nI (667 * w) := pk_mul 667 w
theorem sm_keep (x1 : Int32) (cv : Nat → MM) (u : MM) (h : RR cv u) : ∃ (y : Int32 × MM × MM × MM × MM × MM × MM) (z : Int32 × MM), fX7_keep NF x1 (cv 4) (cv 5) (cv 27) (cv 28) (cv 29) (cv 30) (cv 31) (cv 32) (cv 0) = some y ∧ fX8_keep NF x1 u = some z ∧ y.1 = z.1 ∧ RR (up (up (up (up (up (up cv 27 y.2.1) 28 y.2.2.1) 29 y.2.2.2.1) 30 y.2.2.2.2.1) 31 y.2.2.2.2.2.1) 32 y.2.2.2.2.2.2) z.2 := by
  have hR := h
  obtain ⟨ht, hs, S, sR, sC, sM, h0, hh, h1, h2⟩ := h
  unfold fX7_keep fX8_keep
  rw [in_eq]
  rcases in_01 (x := x1) (A := 0) (B := 1) (a := 0) (b := 1) rfl rfl (by omega) (by omega) NF with e | ⟨e, w, -, hw, rfl⟩
  · rw [e]
    exact ⟨_, _, rfl, rfl, rfl, hR⟩
  · rw [e, Option.bind_some, Option.bind_some, if_neg (show ¬ (1 : Int32) = 0 by decide), if_neg (show ¬ (1 : Int32) = 0 by decide)]
    obtain ⟨k8, q1, q2, q3⟩ := cp_8 (a := 0) (b := 667 * w) (n0 := 667) (n1 := 1334) (N := NF) (by decide) (by omega) (by omega) (by omega) (by omega) (u 16) (u 19)
    have q1 : fX8_copies NF (0 : Int32) ((667 : Int32) * nI w) 667 1334 (u 16) (u 19) = some k8 := by rw [mul667]; exact q1
    rw [q1, Option.bind_some, if_pos (ib_nI (by omega) (by omega)), if_pos (show ib (0 : Int32) 667 = true by decide)]
    have hc : Int32.toNatClampNeg (nI w) = w := nI_clamp (by omega)
    have hcopy : ∀ a b : MM, ∃ y, fX4_copyFrom NF b a (cv 4) (cv 5) = some y ∧ rSt S y.2 y.1 (fun j => k8 (667 * w + j)) := by
      intro a b
      obtain ⟨y, p1, p2⟩ := cp_st NF b a (cv 4) (cv 5)
      refine ⟨y, p1, ?_⟩
      obtain ⟨z, z1, z2, z3, z4⟩ := h0
      exact ⟨z, p2 z z1, stM_congr (fun j hj => (q2 j hj).trans (by rw [Nat.zero_add])) z2, z3, z4⟩
    have hw2 : w = 0 ∨ w = 1 := by omega
    rcases hw2 with rfl | rfl
    · rw [if_pos (show nI 0 = (0 : Int32) from rfl)]
      obtain ⟨y, p1, p2⟩ := hcopy (cv 28) (cv 29)
      unfold fX2_take
      rw [p1, Option.bind_some, Option.bind_some]
      refine ⟨_, _, rfl, rfl, rSt_now h0, ht, hs, S, sR, sC, sM, h0, hh, ?_, ?_⟩
      · exact ⟨1, by omega, rfl, by show upd (u 20) (Int32.toNatClampNeg (nI 0)) (vp_nar .boolean (1 : Int32)) 0 = _; rw [hc]; rfl, fun _ => p2⟩
      · obtain ⟨v, v1, v2, v3, v4⟩ := h2
        refine ⟨v, v1, v2, ?_, fun hv => ?_⟩
        · show upd (u 20) (Int32.toNatClampNeg (nI 0)) (vp_nar .boolean (1 : Int32)) 1 = _
          rw [hc, upd_ne (by omega)]
          exact v3
        · exact rSt_congr (fun j hj => q3 _ (Or.inr (by omega))) (v4 hv)
    · rw [if_neg (show ¬ nI 1 = (0 : Int32) by decide)]
      obtain ⟨y, p1, p2⟩ := hcopy (cv 31) (cv 32)
      unfold fX2_take
      rw [p1, Option.bind_some, Option.bind_some]
      refine ⟨_, _, rfl, rfl, rSt_now h0, ht, hs, S, sR, sC, sM, h0, hh, ?_, ?_⟩
      · obtain ⟨v, v1, v2, v3, v4⟩ := h1
        refine ⟨v, v1, v2, ?_, fun hv => ?_⟩
        · show upd (u 20) (Int32.toNatClampNeg (nI 1)) (vp_nar .boolean (1 : Int32)) 0 = _
          rw [hc, upd_ne (by omega)]
          exact v3
        · exact rSt_congr (fun j hj => q3 _ (Or.inl (by omega))) (v4 hv)
      · exact ⟨1, by omega, rfl, by show upd (u 20) (Int32.toNatClampNeg (nI 1)) (vp_nar .boolean (1 : Int32)) 1 = _; rw [hc]; rfl, fun _ => p2⟩
theorem sm_back (x1 : Int32) (cv : Nat → MM) (u : MM) (h : RR cv u) : ∃ (y : Int32 × MM × MM × MM) (z : Int32 × MM), fX7_back NF x1 (cv 4) (cv 5) (cv 10) (cv 27) (cv 28) (cv 29) (cv 30) (cv 31) (cv 32) (cv 0) = some y ∧ fX8_back NF x1 u = some z ∧ y.1 = z.1 ∧ RR (up (up (up cv 4 y.2.1) 5 y.2.2.1) 10 y.2.2.2) z.2 := by
  have hR := h
  obtain ⟨ht, hs, S, sR, sC, sM, h0, hh, h1, h2⟩ := h
  unfold fX7_back fX8_back
  rw [in_eq]
  rcases in_01 (x := x1) (A := 0) (B := 1) (a := 0) (b := 1) rfl rfl (by omega) (by omega) NF with e | ⟨e, w, -, hw, rfl⟩
  · rw [e]
    exact ⟨_, _, rfl, rfl, rfl, hR⟩
  · rw [e, Option.bind_some, Option.bind_some, if_neg (show ¬ (1 : Int32) = 0 by decide), if_neg (show ¬ (1 : Int32) = 0 by decide), if_pos (ib_nI (by omega) (by omega)), nI_clamp (by omega)]
    obtain ⟨k8, q1, q2, q3⟩ := cp_8 (a := 667 * w) (b := 0) (n0 := 1334) (n1 := 667) (N := NF) (by decide) (by omega) (by omega) (by omega) (by omega) (u 19) (u 16)
    have q1 : fX8_copies NF ((667 : Int32) * nI w) (0 : Int32) 1334 667 (u 19) (u 16) = some k8 := by rw [mul667]; exact q1
    have e0 : Int32.toNatClampNeg (0 : Int32) = 0 := by decide
    have hcopy : ∀ a b : MM, rSt S a b (fun j => u 19 (667 * w + j)) → ∃ y, fX4_copyFrom NF (cv 5) (cv 4) a b = some y ∧ rSt S y.2 y.1 k8 := by
      intro a b hab
      obtain ⟨y, p1, p2⟩ := cp_st NF (cv 5) (cv 4) a b
      refine ⟨y, p1, ?_⟩
      obtain ⟨z, z1, z2, z3, z4⟩ := hab
      exact ⟨z, p2 z z1, stM_congr (fun j hj => by have := q2 j hj; rw [Nat.zero_add] at this; exact this) z2, z3, z4⟩
    have hw2 : w = 0 ∨ w = 1 := by omega
    rcases hw2 with rfl | rfl
    · rw [if_pos (show nI 0 = (0 : Int32) from rfl)]
      obtain ⟨v, v1, v2, v3, v4⟩ := id h1
      have v2 : cv 27 0 0 = nI v := v2
      rw [v2, v3]
      by_cases hv : v = 1
      · subst hv
        rw [if_neg (show ¬ nI 1 = (0 : Int32) by decide), if_neg (show ¬ nI 1 = (0 : Int32) by decide)]
        obtain ⟨y, p1, p2⟩ := hcopy (cv 28) (cv 29) (v4 rfl)
        rw [p1, q1, Option.bind_some, Option.bind_some, if_pos (show ib (0 : Int32) 667 = true by decide), e0]
        obtain ⟨n0, n1, m1, m2, m3, m4, m5, m6⟩ := hh
        exact ⟨_, _, rfl, rfl, rSt_now p2, ht, hs, S, sR, sC, sM, p2, ⟨0, n1, by omega, m2, rfl, m4, rfl, fun i hi => absurd hi (by omega)⟩, h1, h2⟩
      · have hv0 : v = 0 := by omega
        subst hv0
        rw [if_pos (show nI 0 = (0 : Int32) from rfl), if_pos (show nI 0 = (0 : Int32) from rfl)]
        exact ⟨_, _, rfl, rfl, rfl, hR⟩
    · rw [if_neg (show ¬ nI 1 = (0 : Int32) by decide)]
      obtain ⟨v, v1, v2, v3, v4⟩ := id h2
      have v2 : cv 30 0 0 = nI v := v2
      rw [v2, v3]
      by_cases hv : v = 1
      · subst hv
        rw [if_neg (show ¬ nI 1 = (0 : Int32) by decide), if_neg (show ¬ nI 1 = (0 : Int32) by decide)]
        obtain ⟨y, p1, p2⟩ := hcopy (cv 31) (cv 32) (v4 rfl)
        rw [p1, q1, Option.bind_some, Option.bind_some, if_pos (show ib (0 : Int32) 667 = true by decide), e0]
        obtain ⟨n0, n1, m1, m2, m3, m4, m5, m6⟩ := hh
        exact ⟨_, _, rfl, rfl, rSt_now p2, ht, hs, S, sR, sC, sM, p2, ⟨0, n1, by omega, m2, rfl, m4, rfl, fun i hi => absurd hi (by omega)⟩, h1, h2⟩
      · have hv0 : v = 0 := by omega
        subst hv0
        rw [if_pos (show nI 0 = (0 : Int32) from rfl), if_pos (show nI 0 = (0 : Int32) from rfl)]
        exact ⟨_, _, rfl, rfl, rfl, hR⟩
