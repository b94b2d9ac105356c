/-- what a call of the state's own leaves of the rest -/
theorem rr_fin {cv cv' : Nat → MM} {u u' : MM} {S : RW} (h : rText cv u ∧ rSeen cv u ∧ suR S ∧ suC (cv 2) S ∧ suM u S ∧ rImg S cv u 0 ∧ rImg S cv u 1) (hu : ∀ k, 1 ≤ k → k ≤ 26 → (k ≤ 7 ∨ 19 ≤ k) → k ≠ 21 → u' k = u k) (c0 : cv' 0 = cv 0) (c1 : cv' 1 = cv 1) (c2 : cv' 2 = cv 2) (c27 : cv' 27 = cv 27) (c28 : cv' 28 = cv 28) (c29 : cv' 29 = cv 29) (c30 : cv' 30 = cv 30) (c31 : cv' 31 = cv 31) (c32 : cv' 32 = cv 32) (k0 : rSt S (cv' 4) (cv' 5) (u' 16)) (k1 : rHist S cv' u') : RR cv' u' := by
  obtain ⟨ht, hs, sR, sC, sM, h1, h2⟩ := h
  refine ⟨?_, ?_, S, sR, ?_, ?_, k0, k1, ?_, ?_⟩
  · unfold rText
    rw [c1, hu 25 (by omega) (by omega) (by omega) (by omega), hu 26 (by omega) (by omega) (by omega) (by omega)]
    exact ht
  · unfold rSeen
    rw [c0, hu 22 (by omega) (by omega) (by omega) (by omega), hu 23 (by omega) (by omega) (by omega) (by omega), hu 24 (by omega) (by omega) (by omega) (by omega)]
    exact hs
  · rw [c2]
    exact sC
  · unfold suM
    rw [hu 1 (by omega) (by omega) (by omega) (by omega), hu 2 (by omega) (by omega) (by omega) (by omega), hu 3 (by omega) (by omega) (by omega) (by omega), hu 4 (by omega) (by omega) (by omega) (by omega), hu 5 (by omega) (by omega) (by omega) (by omega), hu 6 (by omega) (by omega) (by omega) (by omega), hu 7 (by omega) (by omega) (by omega) (by omega)]
    exact sM
  · unfold rImg
    rw [hu 19 (by omega) (by omega) (by omega) (by omega), hu 20 (by omega) (by omega) (by omega) (by omega)]
    show ∃ w : Nat, w ≤ 1 ∧ cv' 27 0 0 = nI w ∧ u 20 0 = nI w ∧ (w = 1 → rSt S (cv' 28) (cv' 29) (fun j => u 19 (667 * 0 + j)))
    rw [c27, c28, c29]
    exact h1
  · unfold rImg
    rw [hu 19 (by omega) (by omega) (by omega) (by omega), hu 20 (by omega) (by omega) (by omega) (by omega)]
    show ∃ w : Nat, w ≤ 1 ∧ cv' 30 0 0 = nI w ∧ u 20 1 = nI w ∧ (w = 1 → rSt S (cv' 31) (cv' 32) (fun j => u 19 (667 * 1 + j)))
    rw [c30, c31, c32]
    exact h2
theorem ar_eq (r : RW) (k : Nat) (f : Nat → Nat) : ar r k f k = f := by simp [ar]
theorem ar_ne {r : RW} {k q : Nat} {f : Nat → Nat} (h : q ≠ k) : ar r k f q = r q := by simp [ar, h]
theorem sm_widens (x1 : Int32) (cv : Nat → MM) (u : MM) (h : RR cv u) : ∃ (y : Int32 × MM × MM × MM × MM × MM × MM × MM × MM × MM × MM × MM × MM × MM × MM × MM × MM × MM × MM) (z : Int32 × MM), fX7_widens NF x1 (cv 4) (cv 5) (cv 10) (cv 11) (cv 12) (cv 13) (cv 14) (cv 15) (cv 16) (cv 17) (cv 18) (cv 19) (cv 20) (cv 21) (cv 22) (cv 23) (cv 24) (cv 25) (cv 26) (cv 0) = some y ∧ fX8_widens NF x1 u = some z ∧ y.1 = z.1 ∧ RR (up (up (up (up (up (up (up (up (up (up (up (up (up (up (up (up (up (up cv 4 y.2.1) 10 y.2.2.1) 11 y.2.2.2.1) 12 y.2.2.2.2.1) 13 y.2.2.2.2.2.1) 14 y.2.2.2.2.2.2.1) 15 y.2.2.2.2.2.2.2.1) 16 y.2.2.2.2.2.2.2.2.1) 17 y.2.2.2.2.2.2.2.2.2.1) 18 y.2.2.2.2.2.2.2.2.2.2.1) 19 y.2.2.2.2.2.2.2.2.2.2.2.1) 20 y.2.2.2.2.2.2.2.2.2.2.2.2.1) 21 y.2.2.2.2.2.2.2.2.2.2.2.2.2.1) 22 y.2.2.2.2.2.2.2.2.2.2.2.2.2.2.1) 23 y.2.2.2.2.2.2.2.2.2.2.2.2.2.2.2.1) 24 y.2.2.2.2.2.2.2.2.2.2.2.2.2.2.2.2.1) 25 y.2.2.2.2.2.2.2.2.2.2.2.2.2.2.2.2.2.1) 26 y.2.2.2.2.2.2.2.2.2.2.2.2.2.2.2.2.2.2) z.2 := by
  have hR := h
  unfold fX7_widens fX8_widens
  rw [in_eq]
  rcases in_01 (x := x1) (A := 0) (B := 60) (a := 0) (b := 60) rfl rfl (by omega) (by omega) NF with e | ⟨e, w, -, hw, rfl⟩
  · rw [e]
    exact ⟨_, _, rfl, rfl, rfl, hR⟩
  · rw [e, Option.bind_some, Option.bind_some, if_neg (show ¬ (1 : Int32) = 0 by decide), if_neg (show ¬ (1 : Int32) = 0 by decide), if_pos (show ib (1 : Int32) 667 = true by decide)]
    have e1 : Int32.toNatClampNeg (1 : Int32) = 1 := by decide
    rw [e1]
    obtain ⟨ht, hs, S, sR, sC, sM, h0, hh, h1, h2⟩ := id h
    obtain ⟨y, y', r1, r2, r3, r4⟩ := rem_sim (u := st u 0 (fun _ => (0 : Int32))) hh h0
    obtain ⟨z, z1, z2, z3, z4⟩ := id h0
    have a1 : cv 4 1 0 = nI (z.1 1 0) := z1.1.2.1
    have m1 : u 16 1 = nI (z.1 1 0) := z2.1.2.1
    have hz : z.1 1 0 ≤ 60 := z3.1.2.1
    have hq : nI w = nI (z.1 1 0) ↔ w = z.1 1 0 := nI_eq (by omega) (by omega)
    rw [a1, m1]
    by_cases hw2 : w = z.1 1 0
    · rw [if_pos (hq.mpr hw2), if_pos (hq.mpr hw2).symm]
      exact ⟨_, _, rfl, rfl, rfl, hR⟩
    · rw [if_neg (fun q => hw2 (hq.mp q)), if_neg (fun q => hw2 (hq.mp q.symm)), r1, r2, Option.bind_some, Option.bind_some, if_pos (show ib (1 : Int32) 667 = true by decide)]
      refine ⟨_, _, rfl, rfl, rfl, rr_fin ⟨ht, hs, sR, sC, sM, h1, h2⟩ ?_ rfl rfl rfl rfl rfl rfl rfl rfl rfl ?_ (r4 _ rfl rfl rfl rfl rfl rfl rfl rfl rfl rfl rfl rfl rfl rfl rfl rfl rfl)⟩
      · intro k k1 k2 k3 k4
        show st y' 16 _ k = u k
        rw [st_ne (by omega), r3 k (by omega) (by omega), st_ne (by omega)]
      · have hy16 : y' 16 = u 16 := r3 16 (by omega) (by omega)
        show rSt S (st (cv 4) 1 (fun _ => nI w)) (cv 5) (upd (y' 16) 1 (nI w))
        rw [hy16]
        obtain ⟨⟨p0, p1, p2, p3, p4, p5⟩, pb⟩ := z1
        obtain ⟨⟨q0, q1, q2, q3, q4, q5⟩, q60, qb0, qb⟩ := z2
        obtain ⟨⟨i0, i1, i2, i3, i4, i5⟩, ib1, ib2⟩ := z3
        refine ⟨(ar z.1 1 (fun _ => w), z.2), ⟨⟨p0, rfl, p2, fun k t k1 k2 ht => ?_, fun k c k1 k2 hc => ?_, fun t j ht hj => ?_⟩, pb⟩, ⟨⟨?_, upd_eq _ _ _, ?_, fun k t hk ht => ?_, fun k c hk hc => ?_, fun t j ht hj => ?_⟩, q60, ?_, fun k x hk => ?_⟩, ⟨⟨i0, hw, i2, i3, ?_, ?_⟩, ib1, ib2⟩, z4⟩
        · show st (cv 4) 1 _ k t = nI (ar z.1 1 _ k t)
          rw [st_ne (by omega), ar_ne (by omega)]
          exact p3 k t k1 k2 ht
        · show st (cv 4) 1 _ k c = nI (ar z.1 1 _ k c)
          rw [st_ne (by omega), ar_ne (by omega)]
          exact p4 k c k1 k2 hc
        · show (st (cv 4) 1 _ 13 j).toBitVec.getLsbD t = decide (ar z.1 1 _ (20 + t) j = 1)
          rw [ar_ne (by omega)]
          exact p5 t j ht hj
        · rw [upd_ne (by omega)]
          exact q0
        · rw [upd_ne (by omega)]
          exact q2
        · rw [upd_ne (by omega)]
          show _ = nI (ar z.1 1 _ (3 + k) t)
          rw [ar_ne (by omega)]
          exact q3 k t hk ht
        · rw [upd_ne (by omega)]
          show _ = nI (ar z.1 1 _ (9 + k) c)
          rw [ar_ne (by omega)]
          exact q4 k c hk hc
        · rw [upd_ne (by omega)]
          show _ = decide (ar z.1 1 _ (20 + t) j = 1)
          rw [ar_ne (by omega)]
          exact q5 t j ht hj
        · rw [upd_ne (by omega)]
          exact qb0
        · obtain ⟨c1, c2, c3, c4, c5⟩ := qb k x hk
          exact ⟨by rw [upd_ne (by omega)]; exact c1, by rw [upd_ne (by omega)]; exact c2, by rw [upd_ne (by omega)]; exact c3, by rw [upd_ne (by omega)]; exact c4, fun c hc => by rw [upd_ne (by omega)]; exact c5 c hc⟩
        · exact i4
        · intro k c k1 k2 hc
          show ar z.1 1 _ k c = 0
          rw [ar_ne (by omega)]
          exact i5 k c k1 k2 hc
set_option maxHeartbeats 4000000 in
theorem tb_7 (cv : Nat → MM) {w n : Nat} (hw : w < 8) (hn : n ≤ 8) (h0 : cv 10 0 0 = nI n) (h1 : cv 10 1 0 = nI w) : (n = 0 → fX1_takeBack NF (cv 11) (cv 12) (cv 13) (cv 14) (cv 15) (cv 16) (cv 17) (cv 18) (cv 19) (cv 20) (cv 21) (cv 22) (cv 23) (cv 24) (cv 25) (cv 26) (cv 10) (cv 4) (cv 5) = some ((0 : Int32), cv 10, cv 4, cv 5)) ∧ (n ≠ 0 → ∃ y, fX1_takeBack NF (cv 11) (cv 12) (cv 13) (cv 14) (cv 15) (cv 16) (cv 17) (cv 18) (cv 19) (cv 20) (cv 21) (cv 22) (cv 23) (cv 24) (cv 25) (cv 26) (cv 10) (cv 4) (cv 5) = some y ∧ y.1 = (1 : Int32) ∧ y.2.1 0 0 = nI (n - 1) ∧ y.2.1 1 0 = nI ((w + 7) % 8) ∧ ∀ z, stC (hvA cv w) (hvB cv w) z → stC y.2.2.1 y.2.2.2 z) := by
  unfold fX1_takeBack
  rw [h0, h1]
  have hn0 : ¬ n = 0 → ¬ nI n ≤ 0 := fun h => nI_nle (by omega) (by omega)
  have hw8 : w = 0 ∨ w = 1 ∨ w = 2 ∨ w = 3 ∨ w = 4 ∨ w = 5 ∨ w = 6 ∨ w = 7 := by omega
  have hm : ¬ n = 0 → nI n - (1 : Int32) = nI (n - 1) := fun h => pk_sub (b := 1) (by omega)
  rcases hw8 with rfl | rfl | rfl | rfl | rfl | rfl | rfl | rfl
  · rw [if_pos (by decide)]
    refine ⟨fun h => ?_, fun h => ?_⟩
    · subst h
      rw [if_pos (show nI 0 ≤ (0 : Int32) by decide)]
    · rw [if_neg (hn0 h)]
      obtain ⟨z, z1, z2⟩ := cp_st NF (cv 5) (cv 4) (cv 11) (cv 12)
      rw [z1, Option.bind_some]
      exact ⟨_, rfl, rfl, hm h, rfl, z2⟩
  · rw [if_neg (by decide), if_pos (by decide)]
    refine ⟨fun h => ?_, fun h => ?_⟩
    · subst h
      rw [if_pos (show nI 0 ≤ (0 : Int32) by decide)]
    · rw [if_neg (hn0 h)]
      obtain ⟨z, z1, z2⟩ := cp_st NF (cv 5) (cv 4) (cv 13) (cv 14)
      rw [z1, Option.bind_some]
      exact ⟨_, rfl, rfl, hm h, rfl, z2⟩
  · rw [if_neg (by decide), if_neg (by decide), if_pos (by decide)]
    refine ⟨fun h => ?_, fun h => ?_⟩
    · subst h
      rw [if_pos (show nI 0 ≤ (0 : Int32) by decide)]
    · rw [if_neg (hn0 h)]
      obtain ⟨z, z1, z2⟩ := cp_st NF (cv 5) (cv 4) (cv 15) (cv 16)
      rw [z1, Option.bind_some]
      exact ⟨_, rfl, rfl, hm h, rfl, z2⟩
  · rw [if_neg (by decide), if_neg (by decide), if_neg (by decide), if_pos (by decide)]
    refine ⟨fun h => ?_, fun h => ?_⟩
    · subst h
      rw [if_pos (show nI 0 ≤ (0 : Int32) by decide)]
    · rw [if_neg (hn0 h)]
      obtain ⟨z, z1, z2⟩ := cp_st NF (cv 5) (cv 4) (cv 17) (cv 18)
      rw [z1, Option.bind_some]
      exact ⟨_, rfl, rfl, hm h, rfl, z2⟩
  · rw [if_neg (by decide), if_neg (by decide), if_neg (by decide), if_neg (by decide), if_pos (by decide)]
    refine ⟨fun h => ?_, fun h => ?_⟩
    · subst h
      rw [if_pos (show nI 0 ≤ (0 : Int32) by decide)]
    · rw [if_neg (hn0 h)]
      obtain ⟨z, z1, z2⟩ := cp_st NF (cv 5) (cv 4) (cv 19) (cv 20)
      rw [z1, Option.bind_some]
      exact ⟨_, rfl, rfl, hm h, rfl, z2⟩
  · rw [if_neg (by decide), if_neg (by decide), if_neg (by decide), if_neg (by decide), if_neg (by decide), if_pos (by decide)]
    refine ⟨fun h => ?_, fun h => ?_⟩
    · subst h
      rw [if_pos (show nI 0 ≤ (0 : Int32) by decide)]
    · rw [if_neg (hn0 h)]
      obtain ⟨z, z1, z2⟩ := cp_st NF (cv 5) (cv 4) (cv 21) (cv 22)
      rw [z1, Option.bind_some]
      exact ⟨_, rfl, rfl, hm h, rfl, z2⟩
  · rw [if_neg (by decide), if_neg (by decide), if_neg (by decide), if_neg (by decide), if_neg (by decide), if_neg (by decide), if_pos (by decide)]
    refine ⟨fun h => ?_, fun h => ?_⟩
    · subst h
      rw [if_pos (show nI 0 ≤ (0 : Int32) by decide)]
    · rw [if_neg (hn0 h)]
      obtain ⟨z, z1, z2⟩ := cp_st NF (cv 5) (cv 4) (cv 23) (cv 24)
      rw [z1, Option.bind_some]
      exact ⟨_, rfl, rfl, hm h, rfl, z2⟩
  · rw [if_neg (by decide), if_neg (by decide), if_neg (by decide), if_neg (by decide), if_neg (by decide), if_neg (by decide), if_neg (by decide), if_pos (by decide)]
    refine ⟨fun h => ?_, fun h => ?_⟩
    · subst h
      rw [if_pos (show nI 0 ≤ (0 : Int32) by decide)]
    · rw [if_neg (hn0 h)]
      obtain ⟨z, z1, z2⟩ := cp_st NF (cv 5) (cv 4) (cv 25) (cv 26)
      rw [z1, Option.bind_some]
      exact ⟨_, rfl, rfl, hm h, rfl, z2⟩
theorem sm_undo (cv : Nat → MM) (u : MM) (h : RR cv u) : ∃ (y : Int32 × MM × MM × MM) (z : Int32 × MM), fX7_undo NF (cv 4) (cv 5) (cv 10) (cv 11) (cv 12) (cv 13) (cv 14) (cv 15) (cv 16) (cv 17) (cv 18) (cv 19) (cv 20) (cv 21) (cv 22) (cv 23) (cv 24) (cv 25) (cv 26) (cv 0) = some y ∧ fX8_undo NF u = some z ∧ y.1 = z.1 ∧ RR (up (up (up cv 4 y.2.1) 5 y.2.2.1) 10 y.2.2.2) z.2 := by
  have hR := h
  obtain ⟨ht, hs, S, sR, sC, sM, h0, hh, h1, h2⟩ := id h
  obtain ⟨n, w, hn, hw, a1, a2, a3, a4⟩ := hh
  obtain ⟨t1, t2⟩ := tb_7 cv hw hn a1 a2
  unfold fX7_undo fX8_undo
  rw [a3]
  by_cases h00 : n = 0
  · rw [t1 h00, Option.bind_some, if_pos rfl]
    subst h00
    rw [if_pos (show nI 0 = (0 : Int32) from rfl)]
    exact ⟨_, _, rfl, rfl, rfl, hR⟩
  · obtain ⟨y, y1, y2, y3, y4, y5⟩ := t2 h00
    have hm : nI n - (1 : Int32) = nI (n - 1) := pk_sub (b := 1) (by omega)
    obtain ⟨c, c1, c2, c3⟩ := cp_8 (a := 667 * (n - 1)) (b := 0) (n0 := 5336) (n1 := 667) (N := NF) (by decide) (by omega) (by omega) (by omega) (by omega) (u 18) (u 16)
    have c1 : fX8_copies NF ((667 : Int32) * (nI n - (1 : Int32))) (0 : Int32) 5336 667 (u 18) (u 16) = some c := by rw [hm, mul667]; exact c1
    rw [y1, Option.bind_some, y2, if_neg (show ¬ (1 : Int32) = 0 by decide), if_neg (show ¬ nI n = 0 from nI_ne0 (by omega) (by omega)), c1, Option.bind_some]
    refine ⟨_, _, rfl, rfl, y3.trans hm.symm, rr_fin ⟨ht, hs, sR, sC, sM, h1, h2⟩ ?_ rfl rfl rfl rfl rfl rfl rfl rfl rfl ?_ ?_⟩
    · intro k k1 k2 k3 k4
      show st (st (st u 0 _) 17 _) 16 _ k = u k
      rw [st_ne (by omega), st_ne (by omega), st_ne (by omega)]
    · show rSt S y.2.2.1 y.2.2.2 c
      obtain ⟨z, q1, q2, q3, q4⟩ := a4 0 (by omega)
      rw [show (w + 8 - 0) % 8 = w by omega] at q1
      exact ⟨z, y5 z q1, stM_congr (fun j hj => by have e := c2 j hj; rw [Nat.zero_add] at e; rw [e]; rfl) q2, q3, q4⟩
    · refine ⟨n - 1, (w + 7) % 8, by omega, by omega, y3, y4, hm, fun i hi => ?_⟩
      have e4 := a4 (i + 1) (by omega)
      rw [show ((w + 7) % 8 + 8 - i) % 8 = (w + 8 - (i + 1)) % 8 by omega, show n - 1 - 1 - i = n - 1 - (i + 1) by omega]
      exact e4
