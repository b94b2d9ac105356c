/-! small things of both sides -/
theorem in_eq (N : Nat) (x a b : Int32) : fX7_isWithin N x a b = fX8_in N x a b := rfl
theorem in_01 {x A B : Int32} {a b : Nat} (hA : A = nI a) (hB : B = nI b) (ha : a < 2 ^ 31) (hb : b < 2 ^ 31) (N : Nat) : fX8_in N x A B = some 0 ∨ (fX8_in N x A B = some 1 ∧ ∃ w : Nat, a ≤ w ∧ w ≤ b ∧ x = nI w) := by
  unfold fX8_in
  subst hA
  subst hB
  by_cases h1 : x < nI a
  · left; rw [if_pos h1]
  · rw [if_neg h1]
    by_cases h2 : nI b < x
    · left; rw [if_pos h2]
    · right
      rw [if_neg h2]
      refine ⟨rfl, ?_⟩
      rw [Int32.lt_iff_toInt_lt, nI_toInt ha] at h1
      rw [Int32.lt_iff_toInt_lt, nI_toInt hb] at h2
      have h0 : ¬ x < 0 := by
        rw [Int32.lt_iff_toInt_lt, Int32.toInt_zero]
        omega
      obtain ⟨w, hw, rfl⟩ := nI_of h0
      rw [nI_toInt hw] at h1 h2
      exact ⟨w, by omega, by omega, rfl⟩
theorem in_yes {a b w : Nat} (h1 : a ≤ w) (h2 : w ≤ b) (hb : b < 2 ^ 31) (N : Nat) : fX8_in N (nI w) (nI a) (nI b) = some 1 := by
  unfold fX8_in
  rw [if_neg (nI_nlt h1 (by omega)), if_neg (nI_nlt h2 hb)]
theorem chr_nI {w : Nat} (h : w ≤ 255) : vp_nar .char (((nI w).toUInt32 % 65536).toInt32) = nI w := by
  rw [pk_vc, pk_char, pk_tn (by omega), Nat.mod_eq_of_lt (by omega)]
theorem upd_eq (f : Nat → Int32) (k : Nat) (x : Int32) : upd f k x k = x := pk_us
theorem upd_ne {f : Nat → Int32} {k j : Nat} {x : Int32} (h : j ≠ k) : upd f k x j = f j := pk_un h
