theorem sm_count (x1 : Int32) (cv : Nat → MM) (u : MM) (h : RR cv u) : ∃ (y : Int32) (z : Int32 × MM), fX7_count NF x1 (cv 1) (cv 2) (cv 4) (cv 5) (cv 10) (cv 0) = some y ∧ fX8_count NF x1 u = some z ∧ y = z.1 ∧ RR cv z.2 := by
  have hR := h
  obtain ⟨⟨n, hn, t1, t2, t3⟩, ⟨m, hm, k1, k2, k3⟩, S, sR, sC, sM, ⟨z, ⟨q1, q3⟩, ⟨q2, q4⟩, hI, h199⟩, ⟨a, w, w1, w2, w3, w4, w5, w6⟩, -, -⟩ := h
  unfold fX7_count fX8_count
  by_cases h0 : x1 = (0 : Int32)
  · rw [if_pos h0, if_pos h0]
    exact ⟨_, _, rfl, rfl, sC.1.trans sM.1.symm, hR⟩
  rw [if_neg h0, if_neg h0]
  by_cases h1 : x1 = (1 : Int32)
  · rw [if_pos h1, if_pos h1]
    exact ⟨_, _, rfl, rfl, sC.2.1.trans sM.2.1.symm, hR⟩
  rw [if_neg h1, if_neg h1]
  by_cases h2 : x1 = (2 : Int32)
  · rw [if_pos h2, if_pos h2]
    rw [if_pos (show ib (1 : Int32) 667 = true by decide)]
    exact ⟨_, _, rfl, rfl, (q1.2.1).trans (q2.2.1).symm, hR⟩
  rw [if_neg h2, if_neg h2]
  by_cases h3 : x1 = (3 : Int32)
  · rw [if_pos h3, if_pos h3]
    exact ⟨_, _, rfl, rfl, sC.2.2.1.trans sM.2.2.1.symm, hR⟩
  rw [if_neg h3, if_neg h3]
  by_cases h4 : x1 = (4 : Int32)
  · rw [if_pos h4, if_pos h4]
    exact ⟨_, _, rfl, rfl, sC.2.2.2.1.trans sM.2.2.2.1.symm, hR⟩
  rw [if_neg h4, if_neg h4]
  by_cases h5 : x1 = (5 : Int32)
  · rw [if_pos h5, if_pos h5]
    exact ⟨_, _, rfl, rfl, sC.2.2.2.2.1.trans sM.2.2.2.2.1.symm, hR⟩
  rw [if_neg h5, if_neg h5]
  by_cases h6 : x1 = (6 : Int32)
  · rw [if_pos h6, if_pos h6]
    rw [if_pos (show ib (0 : Int32) 667 = true by decide)]
    exact ⟨_, _, rfl, rfl, q1.1.trans q2.1.symm, hR⟩
  rw [if_neg h6, if_neg h6]
  by_cases h7 : x1 = (7 : Int32)
  · rw [if_pos h7, if_pos h7]
    rw [if_pos (show ib (3 : Int32) 667 = true by decide)]
    exact ⟨_, _, rfl, rfl, q3.2.1.trans q4.2.1.symm, hR⟩
  rw [if_neg h7, if_neg h7]
  by_cases h8 : x1 = (8 : Int32)
  · rw [if_pos h8, if_pos h8]
    rw [if_pos (show ib (2 : Int32) 667 = true by decide)]
    exact ⟨_, _, rfl, rfl, q1.2.2.1.trans q2.2.2.1.symm, hR⟩
  rw [if_neg h8, if_neg h8]
  by_cases h9 : x1 = (9 : Int32)
  · rw [if_pos h9, if_pos h9]
    exact ⟨_, _, rfl, rfl, k1.trans k2.symm, hR⟩
  rw [if_neg h9, if_neg h9]
  by_cases h10 : x1 = (10 : Int32)
  · rw [if_pos h10, if_pos h10]
    exact ⟨_, _, rfl, rfl, t1.trans t2.symm, hR⟩
  rw [if_neg h10, if_neg h10]
  by_cases h11 : x1 = (11 : Int32)
  · rw [if_pos h11, if_pos h11]
    exact ⟨_, _, rfl, rfl, w3.trans w5.symm, hR⟩
  rw [if_neg h11, if_neg h11]
  exact ⟨_, _, rfl, rfl, rfl, hR⟩
