/-! steps on both sides, tries -/
theorem thr_eq (a b : Int32) : b - a = 0 - a + b := by rw [Int32.sub_eq_add_neg, Int32.sub_eq_add_neg, Int32.zero_add, Int32.add_comm]
theorem up_ne {cv : Nat → MM} {k q : Nat} {v : MM} (h : k ≠ q) : up cv k v q = cv q := by
  have h2 : Nat.beq k q = false := by
    cases hb : Nat.beq k q with
    | false => rfl
    | true => exact absurd (Nat.eq_of_beq_eq_true hb) h
  simp [up, h2]
theorem rHist_cv {S : RW} {cv cv' : Nat → MM} {u : MM} (h : ∀ k, 10 ≤ k → k ≤ 26 → cv' k = cv k) (hh : rHist S cv u) : rHist S cv' u := by
  have hA : ∀ p, hvA cv' p = hvA cv p := fun p => match p with
    | 0 => h 11 (by omega) (by omega)
    | 1 => h 13 (by omega) (by omega)
    | 2 => h 15 (by omega) (by omega)
    | 3 => h 17 (by omega) (by omega)
    | 4 => h 19 (by omega) (by omega)
    | 5 => h 21 (by omega) (by omega)
    | 6 => h 23 (by omega) (by omega)
    | n + 7 => h 25 (by omega) (by omega)
  have hB : ∀ p, hvB cv' p = hvB cv p := fun p => match p with
    | 0 => h 12 (by omega) (by omega)
    | 1 => h 14 (by omega) (by omega)
    | 2 => h 16 (by omega) (by omega)
    | 3 => h 18 (by omega) (by omega)
    | 4 => h 20 (by omega) (by omega)
    | 5 => h 22 (by omega) (by omega)
    | 6 => h 24 (by omega) (by omega)
    | n + 7 => h 26 (by omega) (by omega)
  obtain ⟨n, w, a1, a2, a3, a4, a5, a6⟩ := hh
  have h10 := h 10 (by omega) (by omega)
  exact ⟨n, w, a1, a2, by rw [h10]; exact a3, by rw [h10]; exact a4, a5, fun i hi => by rw [hA, hB]; exact a6 i hi⟩
theorem rr_try {cv : Nat → MM} {u u' : MM} {a6 a7 a9 : MM} (h : RR cv u) (hu : ∀ k, 1 ≤ k → k ≤ 26 → k ≠ 16 → k ≠ 21 → u' k = u k) (h16 : ∀ j, j < 667 → u' 16 j = u 16 j) : RR (up (up (up cv 6 a6) 7 a7) 9 a9) u' := by
  obtain ⟨ht, hs, S, sR, sC, sM, h0, hh, h1, h2⟩ := h
  exact rr_fin ⟨ht, hs, sR, sC, sM, h1, h2⟩ (fun k k1 k2 k3 k4 => hu k k1 k2 (by omega) k4) rfl rfl rfl rfl rfl rfl rfl rfl rfl (rSt_congr h16 h0) (rHist_cv (fun k k1 k2 => by rw [up_ne (by omega), up_ne (by omega), up_ne (by omega)]) (rHist_u (hu 17 (by omega) (by omega) (by omega) (by omega)) (hu 18 (by omega) (by omega) (by omega) (by omega)) hh))
theorem sgM_0 {u : MM} {z : AS} (h : stM (u 16) z) : sgM u (u 31 0 - nI (aThr z.1)) u z.1 z.2 := ⟨h.1, h.2, fun _ _ _ => rfl, (Int32.sub_add_cancel _ _).symm⟩
/-- i steps on -/
abbrev aOn (S : RW) (z : AS) (i : Nat) : AS := itN (fun _ => aStep S) i z
theorem on_I {S : RW} (hS : suR S) {z : AS} (h : stI S z) (m : Nat) (hm : z.1 0 0 + m ≤ 400) : stI S (aOn S z m) ∧ (aOn S z m).1 0 0 = z.1 0 0 + m := steps_I hS h m hm
theorem st1_8 {u0 v : MM} {D : Int32} {S : RW} {z : AS} {i : Nat} (hS : suR S) (hM : suM u0 S) (hI : stI S z) (hi : z.1 0 0 + i + 1 ≤ 400) (hP : sgM u0 D v (aOn S z i).1 (aOn S z i).2) {N : Nat} (hN : 100 < N) : ∃ v', fX8_step N v = some v' ∧ sgM u0 D v' (aOn S z (i + 1)).1 (aOn S z (i + 1)).2 := by
  obtain ⟨h1, h2⟩ := on_I hS hI i (by omega)
  exact step_8 hS hM hP h1 (by omega) hN
theorem sm_steps (x1 : Int32) (cv : Nat → MM) (u : MM) (h : RR cv u) : ∃ (y : Int32 × MM × MM × MM × MM × MM × MM × MM × MM × MM × MM × MM × MM × MM × MM × MM × MM × MM × MM × MM × MM) (z : Int32 × MM), fX7_steps NF x1 (cv 2) (cv 4) (cv 5) (cv 8) (cv 10) (cv 11) (cv 12) (cv 13) (cv 14) (cv 15) (cv 16) (cv 17) (cv 18) (cv 19) (cv 20) (cv 21) (cv 22) (cv 23) (cv 24) (cv 25) (cv 26) (cv 0) = some y ∧ fX8_steps NF x1 u = some z ∧ y.1 = z.1 ∧ RR (up (up (up (up (up (up (up (up (up (up (up (up (up (up (up (up (up (up (up (up cv 4 y.2.1) 5 y.2.2.1) 8 y.2.2.2.1) 10 y.2.2.2.2.1) 11 y.2.2.2.2.2.1) 12 y.2.2.2.2.2.2.1) 13 y.2.2.2.2.2.2.2.1) 14 y.2.2.2.2.2.2.2.2.1) 15 y.2.2.2.2.2.2.2.2.2.1) 16 y.2.2.2.2.2.2.2.2.2.2.1) 17 y.2.2.2.2.2.2.2.2.2.2.2.1) 18 y.2.2.2.2.2.2.2.2.2.2.2.2.1) 19 y.2.2.2.2.2.2.2.2.2.2.2.2.2.1) 20 y.2.2.2.2.2.2.2.2.2.2.2.2.2.2.1) 21 y.2.2.2.2.2.2.2.2.2.2.2.2.2.2.2.1) 22 y.2.2.2.2.2.2.2.2.2.2.2.2.2.2.2.2.1) 23 y.2.2.2.2.2.2.2.2.2.2.2.2.2.2.2.2.2.1) 24 y.2.2.2.2.2.2.2.2.2.2.2.2.2.2.2.2.2.2.1) 25 y.2.2.2.2.2.2.2.2.2.2.2.2.2.2.2.2.2.2.2.1) 26 y.2.2.2.2.2.2.2.2.2.2.2.2.2.2.2.2.2.2.2.2) z.2 := by
  have hR := h
  obtain ⟨ht, hs, S, sR, sC, sM, h0, hh, h1, h2⟩ := id h
  obtain ⟨y, y', r1, r2, r3, r4⟩ := rem_sim (u := st u 0 (fun _ => (0 : Int32))) hh h0
  obtain ⟨z, z1, z2, z3, z4⟩ := id h0
  have e0 : Int32.toNatClampNeg (0 : Int32) = 0 := by decide
  unfold fX7_steps fX8_steps
  rw [in_eq]
  rcases in_01 (x := x1) (A := 1) (B := 40) (a := 1) (b := 40) rfl rfl (by omega) (by omega) NF with e | ⟨e, w, hw0, hw, rfl⟩
  · rw [e]
    exact ⟨_, _, rfl, rfl, rfl, hR⟩
  · rw [e, Option.bind_some, Option.bind_some, if_neg (show ¬ (1 : Int32) = 0 by decide), if_neg (show ¬ (1 : Int32) = 0 by decide), if_pos (show ib (0 : Int32) 667 = true by decide), e0, z1.1.1, z2.1.1, nI_add]
    by_cases hle : z.1 0 0 + w ≤ 199
    · have hle2 : nI (z.1 0 0 + w) ≤ (199 : Int32) := nI_le (b := 199) hle (by omega)
      rw [if_pos hle2, if_pos hle2, r1, r2, Option.bind_some, Option.bind_some]
      have hy16 : y' 16 = u 16 := r3 16 (by omega) (by omega)
      obtain ⟨p, p1, p2, p3⟩ := steps_7 (w := cv 8) (m := w) (N := NF) sR sC z1 z3 (by omega) (by decide)
      have hM' : suM (st y' 31 (fun _ => (0 : Int32))) S := suM_c sM (fun j j1 j2 => by rw [st_ne (by omega), r3 j (by omega) (by omega), st_ne (by omega)])
      have hg0 : sgM (st y' 31 (fun _ => (0 : Int32))) (0 - nI (aThr z.1)) (st y' 31 (fun _ => (0 : Int32))) z.1 z.2 := by
        refine ⟨?_, ?_, fun _ _ _ => rfl, ?_⟩
        · rw [st_ne (by omega), hy16]; exact z2.1
        · rw [st_ne (by omega), hy16]; exact z2.2
        · rw [st_eq]; exact (Int32.sub_add_cancel _ _).symm
      obtain ⟨q, q1, q2⟩ := lp_run (fun n i v => fX8_steps_L45 NF (fun (x2_4 : Int32) (v0_4 : MM) => some ((v0_4 31 0), v0_4)) (nI w) n (nI i) v) (fun v => some ((v 31 0), v)) w (fun i v => sgM (st y' 31 (fun _ => (0 : Int32))) (0 - nI (aThr z.1)) v (aOn S z i).1 (aOn S z i).2)
        (fun n v hv => by
          show fX8_steps_L45 NF _ (nI w) (n + 1) (nI w) v = _
          rw [fX8_steps_L45, if_pos (nI_le (Nat.le_refl _) (by omega))])
        (fun n i v hi hv => by
          obtain ⟨v', s1, s2⟩ := st1_8 sR hM' z3 (by omega) hv (show 100 < NF by decide)
          refine ⟨v', s2, ?_⟩
          show fX8_steps_L45 NF _ (nI w) (n + 1) (nI i) v = _
          rw [fX8_steps_L45, if_neg (nI_ge hi (by omega)), s1, Option.bind_some, nI_1]) w NF 0 (st y' 31 (fun _ => (0 : Int32))) (by omega) (by rw [NF_eq]; omega) hg0
      rw [p1, Option.bind_some]
      have q2 : fX8_steps_L45 NF (fun (x2_4 : Int32) (v0_4 : MM) => some ((v0_4 31 0), v0_4)) (nI w) NF (0 : Int32) (st y' 31 (fun _ => (0 : Int32))) = some ((q 31 0), q) := q2
      rw [q2]
      refine ⟨_, _, rfl, rfl, ?_, rr_fin ⟨ht, hs, sR, sC, sM, h1, h2⟩ ?_ rfl rfl rfl rfl rfl rfl rfl rfl rfl ?_ ?_⟩
      · show p.1 = q 31 0
        rw [p2, q1.2.2.2]
        exact thr_eq _ _
      · intro k k1 k2 k3 k4
        show q k = u k
        rw [q1.2.2.1 k (by omega) (by omega), st_ne (by omega), r3 k (by omega) (by omega), st_ne (by omega)]
      · show rSt S p.2.1 p.2.2.1 (q 16)
        obtain ⟨i1, i2⟩ := on_I sR z3 w (by omega)
        exact ⟨aOn S z w, p3, ⟨q1.1, q1.2.1⟩, i1, by rw [i2]; omega⟩
      · exact rHist_u (by show q 17 = y' 17; rw [q1.2.2.1 17 (by omega) (by omega), st_ne (by omega)]) (by show q 18 = y' 18; rw [q1.2.2.1 18 (by omega) (by omega), st_ne (by omega)]) (r4 _ rfl rfl rfl rfl rfl rfl rfl rfl rfl rfl rfl rfl rfl rfl rfl rfl rfl)
    · have hle2 : ¬ nI (z.1 0 0 + w) ≤ (199 : Int32) := nI_ge (a := 199) (by omega) (by omega)
      rw [if_neg hle2, if_neg hle2]
      exact ⟨_, _, rfl, rfl, rfl, hR⟩
theorem sm_ahead (x1 x2 : Int32) (cv : Nat → MM) (u : MM) (h : RR cv u) : ∃ (y : Int32 × MM × MM × MM) (z : Int32 × MM), fX7_ahead NF x1 x2 (cv 2) (cv 4) (cv 5) (cv 6) (cv 7) (cv 9) (cv 0) = some y ∧ fX8_ahead NF x1 x2 u = some z ∧ y.1 = z.1 ∧ RR (up (up (up cv 6 y.2.1) 7 y.2.2.1) 9 y.2.2.2) z.2 := by
  have hR := h
  obtain ⟨ht, hs, S, sR, sC, sM, h0, hh, h1, h2⟩ := id h
  obtain ⟨z, z1, z2, z3, z4⟩ := id h0
  have hC6 := sR.2.1
  unfold fX7_ahead fX8_ahead
  rcases isCl (v := cv 2) (w := cv 0) (u := st u 0 (fun _ => (0 : Int32))) (x := x1) (T := S 1 0) hC6 sC.2.1 sM.2.1 NF with ⟨e1, e2⟩ | ⟨c, c1, rfl, e1, e2⟩
  · rw [e1, e2]
    exact ⟨_, _, rfl, rfl, rfl, rr_try hR (fun k k1 k2 k3 k4 => by show st u 0 _ k = u k; rw [st_ne (by omega)]) (fun j hj => rfl)⟩
  · rw [e1, e2, Option.bind_some, Option.bind_some, if_neg (show ¬ (1 : Int32) = 0 by decide), if_neg (show ¬ (1 : Int32) = 0 by decide), in_eq]
    rcases in_01 (x := x2) (A := 1) (B := 40) (a := 1) (b := 40) rfl rfl (by omega) (by omega) NF with e | ⟨e, w, hw0, hw, rfl⟩
    · rw [e]
      exact ⟨_, _, rfl, rfl, rfl, rr_try hR (fun k k1 k2 k3 k4 => by show st u 0 _ k = u k; rw [st_ne (by omega)]) (fun j hj => rfl)⟩
    · obtain ⟨y, y1, y2⟩ := cp_st NF (cv 7) (cv 6) (cv 4) (cv 5)
      obtain ⟨p, p1, p2, p3⟩ := steps_7 (w := cv 9) (m := w) (N := NF) sR sC (y2 z z1) z3 (by omega) (by decide)
      obtain ⟨m, m1, m2, m3⟩ := cp_8 (a := 0) (b := 0) (n0 := 667) (n1 := 667) (N := NF) (by decide) (by omega) (by omega) (by omega) (by omega) (u 16) (u 21)
      have m1 : fX8_copies NF (0 : Int32) (0 : Int32) 667 667 (u 16) (u 21) = some m := m1
      obtain ⟨U, hU⟩ : ∃ U, U = st (st u 0 (fun _ => (0 : Int32))) 21 m := ⟨_, rfl⟩
      have U16 : U 16 = u 16 := by rw [hU, st_ne (by omega), st_ne (by omega)]
      have U21 : U 21 = m := by rw [hU, st_eq]
      have Uo : ∀ j, j ≠ 0 → j ≠ 21 → U j = u j := fun j j1 j2 => by rw [hU, st_ne (Ne.symm j2), st_ne (Ne.symm j1)]
      have hM' : suM U S := suM_c sM (fun j j1 j2 => Uo j (by omega) (by omega))
      have hg0 := sgM_0 (u := U) (z := z) (by rw [U16]; exact z2)
      obtain ⟨q, q1, q2⟩ := lp_all (fun (K : Int32 → MM → Option (Int32 × MM)) n i v => fX8_ahead_L41 NF K (nI c) (nI w) n (nI i) v) (fun K v => K (nI w) v) w (fun i v => sgM U (U 31 0 - nI (aThr z.1)) v (aOn S z i).1 (aOn S z i).2)
        (fun K n v hv => by
          show fX8_ahead_L41 NF K (nI c) (nI w) (n + 1) (nI w) v = _
          rw [fX8_ahead_L41, if_pos (nI_le (Nat.le_refl _) (by omega))])
        (fun n i v hi hv => by
          obtain ⟨v', s1, s2⟩ := st1_8 sR hM' z3 (by omega) hv (show 100 < NF by decide)
          refine ⟨v', s2, fun K => ?_⟩
          show fX8_ahead_L41 NF K (nI c) (nI w) (n + 1) (nI i) v = _
          rw [fX8_ahead_L41, if_neg (nI_ge hi (by omega)), s1, Option.bind_some, nI_1]) w NF 0 U (by omega) (by rw [NF_eq]; omega) hg0
      have q2 : ∀ (K : Int32 → MM → Option (Int32 × MM)), fX8_ahead_L41 NF K (nI c) (nI w) NF (0 : Int32) U = K (nI w) q := q2
      have q21 : q 21 = m := by rw [q1.2.2.1 21 (by omega) (by omega), U21]
      obtain ⟨m', n1, n2, n3⟩ := cp_8 (a := 0) (b := 0) (n0 := 667) (n1 := 667) (N := NF) (by decide) (by omega) (by omega) (by omega) (by omega) (q 21) (q 16)
      have n1 : fX8_copies NF (0 : Int32) (0 : Int32) 667 667 (q 21) (q 16) = some m' := n1
      have hback : ∀ j, j < 667 → m' j = u 16 j := fun j hj => by
        have a1 := n2 j hj
        have a2 := m2 j hj
        rw [Nat.zero_add] at a1 a2
        rw [a1, q21, a2]
      have w11 : q 16 (43 + 4 * c + 2) = nI ((aOn S z w).1 11 c) := q1.1.2.2.2.2.1 2 c (by omega) (by omega)
      have v11 : m' (43 + 4 * c + 2) = nI (z.1 11 c) := by
        rw [hback _ (by omega)]
        exact z2.1.2.2.2.2.1 2 c (by omega) (by omega)
      rw [e, Option.bind_some, Option.bind_some, if_neg (show ¬ (1 : Int32) = 0 by decide), if_neg (show ¬ (1 : Int32) = 0 by decide), y1, Option.bind_some, p1, Option.bind_some, if_pos (ib_n (n := c) (by omega) (by omega)), if_pos (ib_n (n := c) (by omega) (by omega)), nI_clamp (n := c) (by omega), m1, Option.bind_some, ← hU, q2, qc2, if_pos (ib_n (n := 43 + 4 * c + 2) (by omega) (by omega)), n1, Option.bind_some, qc2, if_pos (ib_n (n := 43 + 4 * c + 2) (by omega) (by omega)), nI_clamp (n := 43 + 4 * c + 2) (by omega), w11, v11]
      refine ⟨_, _, rfl, rfl, ?_, rr_try hR (fun k k1 k2 k3 k4 => ?_) (fun j hj => ?_)⟩
      · show p.2.1 11 c - cv 4 11 c = _
        rw [p3.1.2.2.2.2.1 11 c (by omega) (by omega) (by omega), z1.1.2.2.2.2.1 11 c (by omega) (by omega) (by omega)]
      · show st q 16 m' k = u k
        rw [st_ne (by omega), q1.2.2.1 k (by omega) (by omega), Uo k (by omega) (by omega)]
      · show st q 16 m' 16 j = u 16 j
        rw [st_eq]
        exact hback j hj
