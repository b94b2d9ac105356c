/-! the ring of the class and the row of the model: one more state kept, one taken back -/
theorem min8 {n : Nat} (hn : n ≤ 8) : (if (nI n + (1 : Int32)) < (8 : Int32) then (nI n + (1 : Int32)) else (8 : Int32)) = nI (min 8 (n + 1)) := by
  have e : nI n + (1 : Int32) = nI (n + 1) := nI_1 n
  rw [e]
  by_cases h : n + 1 < 8
  · rw [if_pos (show nI (n + 1) < (8 : Int32) from nI_lt (b := 8) h (by omega)), Nat.min_eq_right (by omega)]
  · rw [if_neg (show ¬ nI (n + 1) < (8 : Int32) from nI_nlt (b := 8) (by omega) (by omega)), Nat.min_eq_left (by omega)]
    rfl
set_option maxHeartbeats 4000000 in
theorem rem_7 (cv : Nat → MM) {w n : Nat} (hw : w < 8) (hn : n ≤ 8) (h0 : cv 10 0 0 = nI n) (h1 : cv 10 1 0 = nI w) : ∃ y, fX1_remember NF (cv 11) (cv 12) (cv 13) (cv 14) (cv 15) (cv 16) (cv 17) (cv 18) (cv 19) (cv 20) (cv 21) (cv 22) (cv 23) (cv 24) (cv 25) (cv 26) (cv 10) (cv 4) (cv 5) = some y ∧ ∀ cv' : Nat → MM, cv' 11 = y.1 → cv' 12 = y.2.1 → cv' 13 = y.2.2.1 → cv' 14 = y.2.2.2.1 → cv' 15 = y.2.2.2.2.1 → cv' 16 = y.2.2.2.2.2.1 → cv' 17 = y.2.2.2.2.2.2.1 → cv' 18 = y.2.2.2.2.2.2.2.1 → cv' 19 = y.2.2.2.2.2.2.2.2.1 → cv' 20 = y.2.2.2.2.2.2.2.2.2.1 → cv' 21 = y.2.2.2.2.2.2.2.2.2.2.1 → cv' 22 = y.2.2.2.2.2.2.2.2.2.2.2.1 → cv' 23 = y.2.2.2.2.2.2.2.2.2.2.2.2.1 → cv' 24 = y.2.2.2.2.2.2.2.2.2.2.2.2.2.1 → cv' 25 = y.2.2.2.2.2.2.2.2.2.2.2.2.2.2.1 → cv' 26 = y.2.2.2.2.2.2.2.2.2.2.2.2.2.2.2.1 → cv' 10 = y.2.2.2.2.2.2.2.2.2.2.2.2.2.2.2.2 → cv' 10 0 0 = nI (min 8 (n + 1)) ∧ cv' 10 1 0 = nI ((w + 1) % 8) ∧ (∀ z, stC (cv 4) (cv 5) z → stC (hvA cv' ((w + 1) % 8)) (hvB cv' ((w + 1) % 8)) z) ∧ ∀ p, p < 8 → p ≠ (w + 1) % 8 → hvA cv' p = hvA cv p ∧ hvB cv' p = hvB cv p := by
  unfold fX1_remember
  rw [h0, h1, min8 hn]
  have hw8 : w = 0 ∨ w = 1 ∨ w = 2 ∨ w = 3 ∨ w = 4 ∨ w = 5 ∨ w = 6 ∨ w = 7 := by omega
  rcases hw8 with rfl | rfl | rfl | rfl | rfl | rfl | rfl | rfl
  · obtain ⟨z, z1, z2⟩ := cp_st NF (cv 14) (cv 13) (cv 4) (cv 5)
    rw [if_neg (by decide), if_pos (by decide), z1, Option.bind_some]
    refine ⟨_, rfl, fun cv' e0 e1 e2 e3 e4 e5 e6 e7 e8 e9 e10 e11 e12 e13 e14 e15 e16 => ?_⟩
    dsimp only at e0 e1 e2 e3 e4 e5 e6 e7 e8 e9 e10 e11 e12 e13 e14 e15 e16
    refine ⟨by rw [e16]; rfl, by rw [e16]; rfl, fun q hq => ?_, fun p hp hne => ?_⟩
    · have := z2 q hq
      show stC (cv' 13) (cv' 14) q
      rw [e2, e3]
      exact this
    · have hp8 : p = 0 ∨ p = 1 ∨ p = 2 ∨ p = 3 ∨ p = 4 ∨ p = 5 ∨ p = 6 ∨ p = 7 := by omega
      rcases hp8 with rfl | rfl | rfl | rfl | rfl | rfl | rfl | rfl
      · exact ⟨e0, e1⟩
      · exact absurd rfl hne
      · exact ⟨e4, e5⟩
      · exact ⟨e6, e7⟩
      · exact ⟨e8, e9⟩
      · exact ⟨e10, e11⟩
      · exact ⟨e12, e13⟩
      · exact ⟨e14, e15⟩
  · obtain ⟨z, z1, z2⟩ := cp_st NF (cv 16) (cv 15) (cv 4) (cv 5)
    rw [if_neg (by decide), if_neg (by decide), if_pos (by decide), z1, Option.bind_some]
    refine ⟨_, rfl, fun cv' e0 e1 e2 e3 e4 e5 e6 e7 e8 e9 e10 e11 e12 e13 e14 e15 e16 => ?_⟩
    dsimp only at e0 e1 e2 e3 e4 e5 e6 e7 e8 e9 e10 e11 e12 e13 e14 e15 e16
    refine ⟨by rw [e16]; rfl, by rw [e16]; rfl, fun q hq => ?_, fun p hp hne => ?_⟩
    · have := z2 q hq
      show stC (cv' 15) (cv' 16) q
      rw [e4, e5]
      exact this
    · have hp8 : p = 0 ∨ p = 1 ∨ p = 2 ∨ p = 3 ∨ p = 4 ∨ p = 5 ∨ p = 6 ∨ p = 7 := by omega
      rcases hp8 with rfl | rfl | rfl | rfl | rfl | rfl | rfl | rfl
      · exact ⟨e0, e1⟩
      · exact ⟨e2, e3⟩
      · exact absurd rfl hne
      · exact ⟨e6, e7⟩
      · exact ⟨e8, e9⟩
      · exact ⟨e10, e11⟩
      · exact ⟨e12, e13⟩
      · exact ⟨e14, e15⟩
  · obtain ⟨z, z1, z2⟩ := cp_st NF (cv 18) (cv 17) (cv 4) (cv 5)
    rw [if_neg (by decide), if_neg (by decide), if_neg (by decide), if_pos (by decide), z1, Option.bind_some]
    refine ⟨_, rfl, fun cv' e0 e1 e2 e3 e4 e5 e6 e7 e8 e9 e10 e11 e12 e13 e14 e15 e16 => ?_⟩
    dsimp only at e0 e1 e2 e3 e4 e5 e6 e7 e8 e9 e10 e11 e12 e13 e14 e15 e16
    refine ⟨by rw [e16]; rfl, by rw [e16]; rfl, fun q hq => ?_, fun p hp hne => ?_⟩
    · have := z2 q hq
      show stC (cv' 17) (cv' 18) q
      rw [e6, e7]
      exact this
    · have hp8 : p = 0 ∨ p = 1 ∨ p = 2 ∨ p = 3 ∨ p = 4 ∨ p = 5 ∨ p = 6 ∨ p = 7 := by omega
      rcases hp8 with rfl | rfl | rfl | rfl | rfl | rfl | rfl | rfl
      · exact ⟨e0, e1⟩
      · exact ⟨e2, e3⟩
      · exact ⟨e4, e5⟩
      · exact absurd rfl hne
      · exact ⟨e8, e9⟩
      · exact ⟨e10, e11⟩
      · exact ⟨e12, e13⟩
      · exact ⟨e14, e15⟩
  · obtain ⟨z, z1, z2⟩ := cp_st NF (cv 20) (cv 19) (cv 4) (cv 5)
    rw [if_neg (by decide), if_neg (by decide), if_neg (by decide), if_neg (by decide), if_pos (by decide), z1, Option.bind_some]
    refine ⟨_, rfl, fun cv' e0 e1 e2 e3 e4 e5 e6 e7 e8 e9 e10 e11 e12 e13 e14 e15 e16 => ?_⟩
    dsimp only at e0 e1 e2 e3 e4 e5 e6 e7 e8 e9 e10 e11 e12 e13 e14 e15 e16
    refine ⟨by rw [e16]; rfl, by rw [e16]; rfl, fun q hq => ?_, fun p hp hne => ?_⟩
    · have := z2 q hq
      show stC (cv' 19) (cv' 20) q
      rw [e8, e9]
      exact this
    · have hp8 : p = 0 ∨ p = 1 ∨ p = 2 ∨ p = 3 ∨ p = 4 ∨ p = 5 ∨ p = 6 ∨ p = 7 := by omega
      rcases hp8 with rfl | rfl | rfl | rfl | rfl | rfl | rfl | rfl
      · exact ⟨e0, e1⟩
      · exact ⟨e2, e3⟩
      · exact ⟨e4, e5⟩
      · exact ⟨e6, e7⟩
      · exact absurd rfl hne
      · exact ⟨e10, e11⟩
      · exact ⟨e12, e13⟩
      · exact ⟨e14, e15⟩
  · obtain ⟨z, z1, z2⟩ := cp_st NF (cv 22) (cv 21) (cv 4) (cv 5)
    rw [if_neg (by decide), if_neg (by decide), if_neg (by decide), if_neg (by decide), if_neg (by decide), if_pos (by decide), z1, Option.bind_some]
    refine ⟨_, rfl, fun cv' e0 e1 e2 e3 e4 e5 e6 e7 e8 e9 e10 e11 e12 e13 e14 e15 e16 => ?_⟩
    dsimp only at e0 e1 e2 e3 e4 e5 e6 e7 e8 e9 e10 e11 e12 e13 e14 e15 e16
    refine ⟨by rw [e16]; rfl, by rw [e16]; rfl, fun q hq => ?_, fun p hp hne => ?_⟩
    · have := z2 q hq
      show stC (cv' 21) (cv' 22) q
      rw [e10, e11]
      exact this
    · have hp8 : p = 0 ∨ p = 1 ∨ p = 2 ∨ p = 3 ∨ p = 4 ∨ p = 5 ∨ p = 6 ∨ p = 7 := by omega
      rcases hp8 with rfl | rfl | rfl | rfl | rfl | rfl | rfl | rfl
      · exact ⟨e0, e1⟩
      · exact ⟨e2, e3⟩
      · exact ⟨e4, e5⟩
      · exact ⟨e6, e7⟩
      · exact ⟨e8, e9⟩
      · exact absurd rfl hne
      · exact ⟨e12, e13⟩
      · exact ⟨e14, e15⟩
  · obtain ⟨z, z1, z2⟩ := cp_st NF (cv 24) (cv 23) (cv 4) (cv 5)
    rw [if_neg (by decide), if_neg (by decide), if_neg (by decide), if_neg (by decide), if_neg (by decide), if_neg (by decide), if_pos (by decide), z1, Option.bind_some]
    refine ⟨_, rfl, fun cv' e0 e1 e2 e3 e4 e5 e6 e7 e8 e9 e10 e11 e12 e13 e14 e15 e16 => ?_⟩
    dsimp only at e0 e1 e2 e3 e4 e5 e6 e7 e8 e9 e10 e11 e12 e13 e14 e15 e16
    refine ⟨by rw [e16]; rfl, by rw [e16]; rfl, fun q hq => ?_, fun p hp hne => ?_⟩
    · have := z2 q hq
      show stC (cv' 23) (cv' 24) q
      rw [e12, e13]
      exact this
    · have hp8 : p = 0 ∨ p = 1 ∨ p = 2 ∨ p = 3 ∨ p = 4 ∨ p = 5 ∨ p = 6 ∨ p = 7 := by omega
      rcases hp8 with rfl | rfl | rfl | rfl | rfl | rfl | rfl | rfl
      · exact ⟨e0, e1⟩
      · exact ⟨e2, e3⟩
      · exact ⟨e4, e5⟩
      · exact ⟨e6, e7⟩
      · exact ⟨e8, e9⟩
      · exact ⟨e10, e11⟩
      · exact absurd rfl hne
      · exact ⟨e14, e15⟩
  · obtain ⟨z, z1, z2⟩ := cp_st NF (cv 26) (cv 25) (cv 4) (cv 5)
    rw [if_neg (by decide), if_neg (by decide), if_neg (by decide), if_neg (by decide), if_neg (by decide), if_neg (by decide), if_neg (by decide), if_pos (by decide), z1, Option.bind_some]
    refine ⟨_, rfl, fun cv' e0 e1 e2 e3 e4 e5 e6 e7 e8 e9 e10 e11 e12 e13 e14 e15 e16 => ?_⟩
    dsimp only at e0 e1 e2 e3 e4 e5 e6 e7 e8 e9 e10 e11 e12 e13 e14 e15 e16
    refine ⟨by rw [e16]; rfl, by rw [e16]; rfl, fun q hq => ?_, fun p hp hne => ?_⟩
    · have := z2 q hq
      show stC (cv' 25) (cv' 26) q
      rw [e14, e15]
      exact this
    · have hp8 : p = 0 ∨ p = 1 ∨ p = 2 ∨ p = 3 ∨ p = 4 ∨ p = 5 ∨ p = 6 ∨ p = 7 := by omega
      rcases hp8 with rfl | rfl | rfl | rfl | rfl | rfl | rfl | rfl
      · exact ⟨e0, e1⟩
      · exact ⟨e2, e3⟩
      · exact ⟨e4, e5⟩
      · exact ⟨e6, e7⟩
      · exact ⟨e8, e9⟩
      · exact ⟨e10, e11⟩
      · exact ⟨e12, e13⟩
      · exact absurd rfl hne
  · obtain ⟨z, z1, z2⟩ := cp_st NF (cv 12) (cv 11) (cv 4) (cv 5)
    rw [if_pos (by decide), z1, Option.bind_some]
    refine ⟨_, rfl, fun cv' e0 e1 e2 e3 e4 e5 e6 e7 e8 e9 e10 e11 e12 e13 e14 e15 e16 => ?_⟩
    dsimp only at e0 e1 e2 e3 e4 e5 e6 e7 e8 e9 e10 e11 e12 e13 e14 e15 e16
    refine ⟨by rw [e16]; rfl, by rw [e16]; rfl, fun q hq => ?_, fun p hp hne => ?_⟩
    · have := z2 q hq
      show stC (cv' 11) (cv' 12) q
      rw [e0, e1]
      exact this
    · have hp8 : p = 0 ∨ p = 1 ∨ p = 2 ∨ p = 3 ∨ p = 4 ∨ p = 5 ∨ p = 6 ∨ p = 7 := by omega
      rcases hp8 with rfl | rfl | rfl | rfl | rfl | rfl | rfl | rfl
      · exact absurd rfl hne
      · exact ⟨e2, e3⟩
      · exact ⟨e4, e5⟩
      · exact ⟨e6, e7⟩
      · exact ⟨e8, e9⟩
      · exact ⟨e10, e11⟩
      · exact ⟨e12, e13⟩
      · exact ⟨e14, e15⟩
theorem notes_8 (u : MM) {n : Nat} (hn : n ≤ 8) (h17 : u 17 0 = nI n) : ∃ y, fX8_notes NF u = some y ∧ (∀ k, k ≠ 17 → k ≠ 18 → y k = u k) ∧ y 17 0 = nI (min 8 (n + 1)) ∧ (∀ j, j < 667 → y 18 (667 * (min 8 (n + 1) - 1) + j) = u 16 j) ∧ ∀ i j, i + 1 < min 8 (n + 1) → j < 667 → y 18 (667 * (min 8 (n + 1) - 2 - i) + j) = u 18 (667 * (n - 1 - i) + j) := by
  unfold fX8_notes
  rw [h17]
  by_cases h8 : n = 8
  · subst h8
    rw [if_pos (show nI 8 = (8 : Int32) from rfl)]
    obtain ⟨w, ⟨w1, w2⟩, e⟩ := lp_run (fun m i (w : MM) => fX8_notes_L11 NF (fun (_ : Int32) (v0_2 : MM) => ((fX8_copies NF (0 : Int32) ((667 : Int32) * ((v0_2 17 0) - (1 : Int32))) 667 5336 (v0_2 16) (v0_2 18)).bind (fun y3 => some (st (st (st v0_2 17 (fun _ => ((v0_2 17 0) - (1 : Int32)))) 18 y3) 17 (fun _ => (((v0_2 17 0) - (1 : Int32)) + (1 : Int32))))))) m (nI i) w) (fun (v0_2 : MM) => ((fX8_copies NF (0 : Int32) ((667 : Int32) * ((v0_2 17 0) - (1 : Int32))) 667 5336 (v0_2 16) (v0_2 18)).bind (fun y3 => some (st (st (st v0_2 17 (fun _ => ((v0_2 17 0) - (1 : Int32)))) 18 y3) 17 (fun _ => (((v0_2 17 0) - (1 : Int32)) + (1 : Int32))))))) 4669 (fun i w => (∀ k, k ≠ 18 → w k = u k) ∧ ∀ j, (j < i → w 18 j = u 18 (j + 667)) ∧ (i ≤ j → w 18 j = u 18 j))
      (fun m w hw => by
        show fX8_notes_L11 NF _ (m + 1) (nI 4669) w = _
        rw [fX8_notes_L11, if_pos (show (4669 : Int32) ≤ nI 4669 by decide)])
      (fun m i w hi hw => by
        have e1 : (nI i) + (667 : Int32) = nI (i + 667) := nI_add i 667
        refine ⟨st w 18 (upd (w 18) i (w 18 (i + 667))), ⟨fun k hk => ?_, fun j => ⟨fun hj => ?_, fun hj => ?_⟩⟩, ?_⟩
        · rw [st_ne (Ne.symm hk)]
          exact hw.1 k hk
        · rw [st_eq]
          by_cases hji : j = i
          · subst hji
            rw [upd_eq]
            exact (hw.2 (j + 667)).2 (by omega)
          · rw [upd_ne hji]
            exact (hw.2 j).1 (by omega)
        · rw [st_eq, upd_ne (by omega)]
          exact (hw.2 j).2 (by omega)
        · show fX8_notes_L11 NF _ (m + 1) (nI i) w = _
          rw [fX8_notes_L11, if_neg (show ¬ (4669 : Int32) ≤ nI i from nI_ge (b := 4669) hi (by omega)), e1, if_pos (ib_nI (by omega) (by omega)), if_pos (ib_nI (by omega) (by omega)), nI_clamp (by omega), nI_clamp (by omega), nI_1]) 4669 NF 0 u (by omega) (by decide) ⟨fun _ _ => rfl, fun j => ⟨fun hj => absurd hj (by omega), fun _ => rfl⟩⟩
    have e : fX8_notes_L11 NF (fun (x1_2 : Int32) (v0_2 : MM) => ((fX8_copies NF (0 : Int32) ((667 : Int32) * ((v0_2 17 0) - (1 : Int32))) 667 5336 (v0_2 16) (v0_2 18)).bind (fun y3 => some (st (st (st v0_2 17 (fun _ => ((v0_2 17 0) - (1 : Int32)))) 18 y3) 17 (fun _ => (((v0_2 17 0) - (1 : Int32)) + (1 : Int32))))))) NF (0 : Int32) u = _ := e
    rw [e, w1 17 (by omega), h17]
    obtain ⟨c, c1, c2, c3⟩ := cp_8 (a := 0) (b := 667 * 7) (n0 := 667) (n1 := 5336) (N := NF) (by decide) (by omega) (by omega) (by omega) (by omega) (w 16) (w 18)
    have c1 : fX8_copies NF (0 : Int32) ((667 : Int32) * (nI 8 - (1 : Int32))) 667 5336 (w 16) (w 18) = some c := c1
    rw [c1, Option.bind_some]
    refine ⟨_, rfl, fun k k1 k2 => ?_, rfl, fun j hj => ?_, fun i j hi hj => ?_⟩
    · rw [st_ne (Ne.symm k1), st_ne (Ne.symm k2), st_ne (Ne.symm k1)]
      exact w1 k k2
    · show c (667 * 7 + j) = _
      rw [c2 j hj, w1 16 (by omega), Nat.zero_add]
    · have hi : i + 1 < 8 := hi
      show c (667 * (8 - 2 - i) + j) = u 18 (667 * (8 - 1 - i) + j)
      rw [c3 _ (Or.inl (by omega)), (w2 _).1 (by omega)]
      exact congrArg (u 18) (by omega)
  · rw [if_neg (show ¬ nI n = (8 : Int32) from fun q => h8 ((nI_eq (a := n) (b := 8) (by omega) (by omega)).mp q)), mul667]
    have hm : min 8 (n + 1) = n + 1 := Nat.min_eq_right (by omega)
    obtain ⟨c, c1, c2, c3⟩ := cp_8 (a := 0) (b := 667 * n) (n0 := 667) (n1 := 5336) (N := NF) (by decide) (by omega) (by omega) (by omega) (by omega) (u 16) (u 18)
    have c1 : fX8_copies NF (0 : Int32) (nI (667 * n)) 667 5336 (u 16) (u 18) = some c := c1
    rw [c1, Option.bind_some, hm]
    refine ⟨_, rfl, fun k k1 k2 => ?_, nI_1 n, fun j hj => ?_, fun i j hi hj => ?_⟩
    · rw [st_ne (Ne.symm k1), st_ne (Ne.symm k2)]
    · show c (667 * (n + 1 - 1) + j) = _
      rw [Nat.add_sub_cancel, c2 j hj, Nat.zero_add]
    · show c (667 * (n + 1 - 2 - i) + j) = u 18 (667 * (n - 1 - i) + j)
      rw [c3 _ (Or.inl (by omega))]
      exact congrArg (u 18) (by omega)
/-- both sides keep the state that is -/
theorem rem_sim {S : RW} {cv : Nat → MM} {u : MM} (hh : rHist S cv u) (h0 : rSt S (cv 4) (cv 5) (u 16)) : ∃ y y', fX1_remember NF (cv 11) (cv 12) (cv 13) (cv 14) (cv 15) (cv 16) (cv 17) (cv 18) (cv 19) (cv 20) (cv 21) (cv 22) (cv 23) (cv 24) (cv 25) (cv 26) (cv 10) (cv 4) (cv 5) = some y ∧ fX8_notes NF u = some y' ∧ (∀ k, k ≠ 17 → k ≠ 18 → y' k = u k) ∧ ∀ cv' : Nat → MM, cv' 11 = y.1 → cv' 12 = y.2.1 → cv' 13 = y.2.2.1 → cv' 14 = y.2.2.2.1 → cv' 15 = y.2.2.2.2.1 → cv' 16 = y.2.2.2.2.2.1 → cv' 17 = y.2.2.2.2.2.2.1 → cv' 18 = y.2.2.2.2.2.2.2.1 → cv' 19 = y.2.2.2.2.2.2.2.2.1 → cv' 20 = y.2.2.2.2.2.2.2.2.2.1 → cv' 21 = y.2.2.2.2.2.2.2.2.2.2.1 → cv' 22 = y.2.2.2.2.2.2.2.2.2.2.2.1 → cv' 23 = y.2.2.2.2.2.2.2.2.2.2.2.2.1 → cv' 24 = y.2.2.2.2.2.2.2.2.2.2.2.2.2.1 → cv' 25 = y.2.2.2.2.2.2.2.2.2.2.2.2.2.2.1 → cv' 26 = y.2.2.2.2.2.2.2.2.2.2.2.2.2.2.2.1 → cv' 10 = y.2.2.2.2.2.2.2.2.2.2.2.2.2.2.2.2 → rHist S cv' y' := by
  obtain ⟨n, w, hn, hw, a1, a2, a3, a4⟩ := hh
  obtain ⟨y, y1, y2⟩ := rem_7 cv hw hn a1 a2
  obtain ⟨y', z1, z2, z3, z4, z5⟩ := notes_8 u hn a3
  refine ⟨y, y', y1, z1, z2, fun cv' e0 e1 e2 e3 e4 e5 e6 e7 e8 e9 e10 e11 e12 e13 e14 e15 e16 => ?_⟩
  obtain ⟨b1, b2, b3, b4⟩ := y2 cv' e0 e1 e2 e3 e4 e5 e6 e7 e8 e9 e10 e11 e12 e13 e14 e15 e16
  refine ⟨min 8 (n + 1), (w + 1) % 8, by omega, by omega, b1, b2, z3, fun i hi => ?_⟩
  by_cases hi0 : i = 0
  · subst hi0
    rw [show ((w + 1) % 8 + 8 - 0) % 8 = (w + 1) % 8 by omega]
    obtain ⟨z, q1, q2, q3, q4⟩ := h0
    exact ⟨z, b3 z q1, stM_congr (fun j hj => by rw [show min 8 (n + 1) - 1 - 0 = min 8 (n + 1) - 1 by omega]; exact z4 j hj) q2, q3, q4⟩
  · obtain ⟨i, rfl⟩ : ∃ k, i = k + 1 := ⟨i - 1, by omega⟩
    have hp : ((w + 1) % 8 + 8 - (i + 1)) % 8 = (w + 8 - i) % 8 := by omega
    rw [hp]
    obtain ⟨c1, c2⟩ := b4 ((w + 8 - i) % 8) (by omega) (by omega)
    rw [c1, c2]
    have h4 := a4 i (by omega)
    exact rSt_congr (fun j hj => by rw [show min 8 (n + 1) - 1 - (i + 1) = min 8 (n + 1) - 2 - i by omega]; exact z5 i j hi hj) h4
