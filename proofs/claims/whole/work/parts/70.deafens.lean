theorem rHist_u {S : RW} {cv : Nat → MM} {u u' : MM} (h17 : u' 17 = u 17) (h18 : u' 18 = u 18) (h : rHist S cv u) : rHist S cv u' := by
  unfold rHist at h ⊢
  rw [h17, h18]
  exact h
theorem rwC_set {a a' : MM} {r r' : RW} (h : rwC a r) (ha : ∀ k, k ≠ 13 → a' k = a k) (hr : ∀ k, k < 20 → r' k = r k) (hb : ∀ t j, t < 3 → j ≤ 199 → (a' 13 j).toBitVec.getLsbD t = decide (r' (20 + t) j = 1)) : rwC a' r' := by
  obtain ⟨h0, h1, h2, h3, h4, -⟩ := h
  refine ⟨by rw [ha 0 (by omega), hr 0 (by omega)]; exact h0, by rw [ha 1 (by omega), hr 1 (by omega)]; exact h1, by rw [ha 2 (by omega), hr 2 (by omega)]; exact h2, fun k t k1 k2 ht => ?_, fun k c k1 k2 hc => ?_, hb⟩
  · rw [ha k (by omega), hr k (by omega)]
    exact h3 k t k1 k2 ht
  · rw [ha k (by omega), hr k (by omega)]
    exact h4 k c k1 k2 hc
theorem rwM_set {s s' : Nat → Int32} {r r' : RW} (h : rwM s r) (hs : ∀ j, (∀ t w, t < 3 → w < 7 → j ≠ 4 + 13 * t + (6 + w)) → s' j = s j) (hr : ∀ k, k < 20 → r' k = r k) (hb : ∀ t j, t < 3 → j ≤ 199 → (s' (4 + 13 * t + (6 + j / 30))).toBitVec.getLsbD (j % 30) = decide (r' (20 + t) j = 1)) : rwM s' r' := by
  obtain ⟨h0, h1, h2, h3, h4, -⟩ := h
  refine ⟨by rw [hs 0 (by omega), hr 0 (by omega)]; exact h0, by rw [hs 1 (by omega), hr 1 (by omega)]; exact h1, by rw [hs 2 (by omega), hr 2 (by omega)]; exact h2, fun k t hk ht => ?_, fun k c hk hc => ?_, hb⟩
  · rw [hs _ (by omega), hr (3 + k) (by omega)]
    exact h3 k t hk ht
  · rw [hs _ (by omega), hr (9 + k) (by omega)]
    exact h4 k c hk hc
theorem aMore_s (r : RW) (t f i : Nat) (h : f ≤ i) : aMore r t f (i + 1 - f) = aMore r t f (i - f) + (if r (20 + t) i = 1 then 0 else 1) := by
  rw [show i + 1 - f = (i - f) + 1 by omega]
  show aMore r t f (i - f) + (if r (20 + t) (f + (i - f)) = 1 then 0 else 1) = _
  rw [show f + (i - f) = i by omega]
theorem aSet_at {r : RW} {t f i : Nat} : aSet r t f i (20 + t) i = r (20 + t) i := by
  unfold aSet ar
  rw [if_pos rfl, if_neg (by omega)]
/-- the class's makeDeaf -/
theorem mk_7 {a : MM} {r : RW} (h : rwC a r) {N t f to : Nat} (hN : 300 < N) (ht : t < 3) (hf : f ≤ 199) (hft : f ≤ to) (hto : to < 2 ^ 30) : ∃ y, fX4_makeDeaf N (nI t) (nI f) (nI to) a = some y ∧ y.1 = nI (aMore r t f (min to 199 + 1 - f)) ∧ rwC y.2 (aSet r t f (min to 199 + 1)) ∧ ∀ k, k ≠ 13 → y.2 k = a k := by
  unfold fX4_makeDeaf
  have hst : (if (0 : Int32) < nI f then nI f else (0 : Int32)) = nI f := by
    by_cases h0 : f = 0
    · subst h0
      rfl
    · rw [if_pos (show (0 : Int32) < nI f from nI_lt (a := 0) (by omega) (by omega))]
  rw [hst]
  obtain ⟨y, ⟨y1, y2, y3⟩, e⟩ := lp_run (fun n i (w : Int32 × MM) => fX4_makeDeaf_L10 N (fun (x4_2 : Int32) (_ : Int32) (v0_2 : MM) => some (x4_2, v0_2)) (nI t) (nI f) (nI to) n w.1 (nI i) w.2) (fun w => some (w.1, w.2)) (min to 199 + 1) (fun i w => f ≤ i ∧ w.1 = nI (aMore r t f (i - f)) ∧ rwC w.2 (aSet r t f i) ∧ ∀ k, k ≠ 13 → w.2 k = a k)
    (fun n w hw => by
      show fX4_makeDeaf_L10 N _ (nI t) (nI f) (nI to) (n + 1) w.1 (nI (min to 199 + 1)) w.2 = _
      rw [fX4_makeDeaf_L10]
      by_cases h2 : to ≤ 199
      · rw [if_pos (nI_lt (by omega) (by omega))]
      · rw [if_neg (nI_nlt (by omega) (by omega)), if_pos (show (199 : Int32) < nI (min to 199 + 1) from nI_lt (a := 199) (by omega) (by omega))])
    (fun n i w hi hw => by
      obtain ⟨w0, w1, w2, w3⟩ := hw
      have hstep : fX4_makeDeaf_L10 N (fun (x4_2 : Int32) (_ : Int32) (v0_2 : MM) => some (x4_2, v0_2)) (nI t) (nI f) (nI to) (n + 1) w.1 (nI i) w.2 = (if r (20 + t) i = 1 then fX4_makeDeaf_L10 N (fun (x4_2 : Int32) (_ : Int32) (v0_2 : MM) => some (x4_2, v0_2)) (nI t) (nI f) (nI to) n w.1 (nI (i + 1)) w.2 else fX4_makeDeaf_L10 N (fun (x4_2 : Int32) (_ : Int32) (v0_2 : MM) => some (x4_2, v0_2)) (nI t) (nI f) (nI to) n (w.1 + 1) (nI (i + 1)) (st w.2 13 (upd (w.2 13) i ((w.2 13 i) ||| ((1 : Int32) <<< (nI t &&& 31)))))) := by
        rw [fX4_makeDeaf_L10, if_neg (nI_nlt (by omega) (by omega)), if_neg (show ¬ (199 : Int32) < nI i from nI_nlt (b := i) (a := 199) (by omega) (by omega)), deaf_7 w2 N ht (by omega), Option.bind_some, aSet_at, nI_1]
        by_cases hd : r (20 + t) i = 1
        · rw [if_pos (show i ≤ 199 ∧ r (20 + t) i = 1 from ⟨by omega, hd⟩), if_neg (show ¬ (1 : Int32) = 0 by decide), if_pos hd]
        · rw [if_neg (show ¬ (i ≤ 199 ∧ r (20 + t) i = 1) from fun q => hd q.2), if_pos rfl, if_pos (ib_nI (by omega) (by omega)), if_pos (ib_nI (by omega) (by omega)), nI_clamp (by omega), if_neg hd]
      by_cases hd : r (20 + t) i = 1
      · refine ⟨w, ⟨by omega, ?_, ?_, w3⟩, hstep.trans (if_pos hd)⟩
        · rw [aMore_s r t f i w0, if_pos hd]
          exact w1
        · refine rwC_set w2 (fun _ _ => rfl) (fun k hk => by rw [aSet_o hk, aSet_o hk]) (fun t' j h1 h2 => ?_)
          rw [aSet_d, w2.2.2.2.2.2 t' j h1 h2]
          by_cases hc : t' = t ∧ j = i ∧ f ≤ i
          · rw [if_pos hc, hc.1, hc.2.1, aSet_at, hd]
          · rw [if_neg hc]
      · refine ⟨(w.1 + 1, st w.2 13 (upd (w.2 13) i ((w.2 13 i) ||| ((1 : Int32) <<< (nI t &&& 31))))), ⟨by omega, ?_, ?_, fun k hk => ?_⟩, hstep.trans (if_neg hd)⟩
        · rw [aMore_s r t f i w0, if_neg hd, ← nI_1, ← w1]
        · refine rwC_set w2 (fun k hk => st_ne (Ne.symm hk)) (fun k hk => by rw [aSet_o hk, aSet_o hk]) (fun t' j h1 h2 => ?_)
          show (st w.2 13 (upd (w.2 13) i ((w.2 13 i) ||| ((1 : Int32) <<< (nI t &&& 31)))) 13 j).toBitVec.getLsbD t' = _
          rw [aSet_d, st_eq]
          by_cases hj : j = i
          · subst hj
            rw [upd_eq, or_bit _ (by omega), w2.2.2.2.2.2 t' j h1 h2]
            by_cases hc : t' = t
            · rw [if_pos ⟨hc, rfl, w0⟩, hc]
              simp
            · rw [if_neg (fun q => hc q.1)]
              simp [Ne.symm hc]
          · rw [upd_ne hj, if_neg (fun q => hj q.2.1)]
            exact w2.2.2.2.2.2 t' j h1 h2
        · show st w.2 13 _ k = a k
          rw [st_ne (Ne.symm hk)]
          exact w3 k hk) (min to 199 + 1 - f) N f ((0 : Int32), a) (by omega) (by omega) ⟨Nat.le_refl f, by rw [Nat.sub_self]; rfl, by rw [aSet_0]; exact h, fun _ _ => rfl⟩
  exact ⟨_, e, y2, y3.1, y3.2⟩
/-- the model's deafen -/
theorem mk_8 {u : MM} {r : RW} (h : rwM (u 16) r) {N t f to : Nat} (hN : 300 < N) (ht : t < 3) (hf : f ≤ 199) (hft : f ≤ to) (hto : to < 2 ^ 30) : ∃ y, fX8_deafen N (nI t) (nI f) (nI to) u = some y ∧ y.1 = nI (aMore r t f (min to 199 + 1 - f)) ∧ rwM (y.2 16) (aSet r t f (min to 199 + 1)) ∧ (∀ k, k ≠ 16 → y.2 k = u k) ∧ ∀ j, (∀ t w, t < 3 → w < 7 → j ≠ 4 + 13 * t + (6 + w)) → y.2 16 j = u 16 j := by
  unfold fX8_deafen
  obtain ⟨y, ⟨y1, y2, y3⟩, e⟩ := lp_run (fun n i (w : Int32 × MM) => fX8_deafen_L6 N (fun (x4_4 : Int32) (_ : Int32) (v0_4 : MM) => some (x4_4, v0_4)) (nI t) (nI f) (nI to) n w.1 (nI i) w.2) (fun w => some (w.1, w.2)) (min to 199 + 1) (fun i w => f ≤ i ∧ w.1 = nI (aMore r t f (i - f)) ∧ rwM (w.2 16) (aSet r t f i) ∧ (∀ k, k ≠ 16 → w.2 k = u k) ∧ ∀ j, (∀ t w, t < 3 → w < 7 → j ≠ 4 + 13 * t + (6 + w)) → w.2 16 j = u 16 j)
    (fun n w hw => by
      show fX8_deafen_L6 N _ (nI t) (nI f) (nI to) (n + 1) w.1 (nI (min to 199 + 1)) w.2 = _
      rw [fX8_deafen_L6]
      by_cases h2 : to ≤ 199
      · rw [if_pos (nI_lt (by omega) (by omega))]
      · rw [if_neg (nI_nlt (by omega) (by omega)), if_pos (show (199 : Int32) < nI (min to 199 + 1) from nI_lt (a := 199) (by omega) (by omega))])
    (fun n i w hi hw => by
      obtain ⟨w0, w1, w2, w3, w4⟩ := hw
      have hstep : fX8_deafen_L6 N (fun (x4_4 : Int32) (_ : Int32) (v0_4 : MM) => some (x4_4, v0_4)) (nI t) (nI f) (nI to) (n + 1) w.1 (nI i) w.2 = fX8_deafen_L6 N (fun (x4_4 : Int32) (_ : Int32) (v0_4 : MM) => some (x4_4, v0_4)) (nI t) (nI f) (nI to) n (w.1 + nI (if r (20 + t) i = 1 then 0 else 1)) (nI (i + 1)) (st w.2 16 (upd (w.2 16) (4 + 13 * t + (6 + i / 30)) ((w.2 16 (4 + 13 * t + (6 + i / 30))) ||| ((1 : Int32) <<< (nI (i % 30) &&& 31))))) := by
        rw [fX8_deafen_L6, if_neg (nI_nlt (by omega) (by omega)), if_neg (show ¬ (199 : Int32) < nI i from nI_nlt (b := i) (a := 199) (by omega) (by omega)), deaf_8 w2 N ht (by omega), Option.bind_some, aSet_at, nI_1, (j30 (j := i) (by omega)).1, show (6 : Int32) + nI (i / 30) = nI (6 + i / 30) from nI_add 6 (i / 30), tm_8, Option.bind_some, Option.bind_some, if_pos (ib_nI (n := 4 + 13 * t + (6 + i / 30)) (m := 667) (by omega) (by omega)), if_pos (ib_nI (n := 4 + 13 * t + (6 + i / 30)) (m := 667) (by omega) (by omega)), nI_clamp (n := 4 + 13 * t + (6 + i / 30)) (by omega)]
        have e30 := (j30 (j := i) (by omega)).2
        rw [(j30 (j := i) (by omega)).1] at e30
        rw [e30]
        by_cases hd : r (20 + t) i = 1
        · rw [if_pos (show i ≤ 199 ∧ r (20 + t) i = 1 from ⟨by omega, hd⟩), if_neg (show ¬ (1 : Int32) = 0 by decide), if_pos (ib_nI (n := 4 + 13 * t + (6 + i / 30)) (m := 667) (by omega) (by omega)), if_pos hd, if_pos (ib_nI (n := 4 + 13 * t + (6 + i / 30)) (m := 667) (by omega) (by omega))]
          rfl
        · rw [if_neg (show ¬ (i ≤ 199 ∧ r (20 + t) i = 1) from fun q => hd q.2), if_pos rfl, if_neg hd]
          rfl
      refine ⟨(w.1 + nI (if r (20 + t) i = 1 then 0 else 1), st w.2 16 (upd (w.2 16) (4 + 13 * t + (6 + i / 30)) ((w.2 16 (4 + 13 * t + (6 + i / 30))) ||| ((1 : Int32) <<< (nI (i % 30) &&& 31))))), ⟨by omega, ?_, ?_, fun k hk => ?_, fun j hj => ?_⟩, hstep⟩
      · rw [aMore_s r t f i w0, ← nI_add, ← w1]
      · show rwM (st w.2 16 _ 16) _
        rw [st_eq]
        refine rwM_set w2 (fun j hj => upd_ne (hj t (i / 30) ht (by omega))) (fun k hk => by rw [aSet_o hk, aSet_o hk]) (fun t' j h1 h2 => ?_)
        show (upd (w.2 16) (4 + 13 * t + (6 + i / 30)) ((w.2 16 (4 + 13 * t + (6 + i / 30))) ||| ((1 : Int32) <<< (nI (i % 30) &&& 31))) (4 + 13 * t' + (6 + j / 30))).toBitVec.getLsbD (j % 30) = _
        rw [aSet_d]
        by_cases hj : 4 + 13 * t' + (6 + j / 30) = 4 + 13 * t + (6 + i / 30)
        · have htt : t' = t := by omega
          have hji : j / 30 = i / 30 := by omega
          subst htt
          rw [hji, upd_eq, or_bit _ (by omega), ← hji, w2.2.2.2.2.2 t' j h1 h2]
          by_cases hc : j = i
          · subst hc
            rw [if_pos ⟨rfl, rfl, w0⟩]
            simp
          · rw [if_neg (fun q => hc q.2.1)]
            have hm : ¬ i % 30 = j % 30 := by omega
            simp [hm]
        · rw [upd_ne hj, if_neg (fun q => hj (by rw [q.1, q.2.1]))]
          exact w2.2.2.2.2.2 t' j h1 h2
      · show st w.2 16 _ k = u k
        rw [st_ne (Ne.symm hk)]
        exact w3 k hk
      · show upd (w.2 16) (4 + 13 * t + (6 + i / 30)) _ j = u 16 j
        rw [upd_ne (hj t (i / 30) ht (by omega))]
        exact w4 j hj) (min to 199 + 1 - f) N f ((0 : Int32), u) (by omega) (by omega) ⟨Nat.le_refl f, by rw [Nat.sub_self]; rfl, by rw [aSet_0]; exact h, fun _ _ => rfl, fun _ _ => rfl⟩
  exact ⟨_, e, y2, y3.1, y3.2⟩
/-- blocks don't see who is deaf -/
theorem blM_set {s s' : Nat → Int32} {l : List BL} (h : blM s l) (hs : ∀ j, (∀ t w, t < 3 → w < 7 → j ≠ 4 + 13 * t + (6 + w)) → s' j = s j) : blM s' l := by
  obtain ⟨h60, h0, h1⟩ := h
  refine ⟨h60, by rw [hs 3 (by omega)]; exact h0, fun k x hk => ?_⟩
  obtain ⟨c1, c2, c3, c4, c5⟩ := h1 k x hk
  exact ⟨by rw [hs _ (by omega)]; exact c1, by rw [hs _ (by omega)]; exact c2, by rw [hs _ (by omega)]; exact c3, by rw [hs _ (by omega)]; exact c4, fun c hc => by rw [hs _ (by omega)]; exact c5 c hc⟩
theorem stI_set {S : RW} {z : AS} {t f e : Nat} (h : stI S z) : stI S (aSet z.1 t f e, z.2) := by
  obtain ⟨⟨i0, i1, i2, i3, i4, i5⟩, b1, b2⟩ := h
  refine ⟨⟨?_, ?_, ?_, ?_, ?_, ?_⟩, ?_, b2⟩
  · show aSet z.1 t f e 0 0 ≤ 400
    rw [aSet_o (by omega)]; exact i0
  · show aSet z.1 t f e 1 0 ≤ 60
    rw [aSet_o (by omega)]; exact i1
  · show aSet z.1 t f e 2 0 ≤ _
    rw [aSet_o (by omega)]; exact i2
  · show ∀ t', t' < 3 → aSet z.1 t f e 3 t' ≤ 1 ∧ aSet z.1 t f e 4 t' ≤ 500 ∧ aSet z.1 t f e 5 t' ≤ 1 ∧ aSet z.1 t f e 6 t' ≤ 6000
    rw [aSet_o (by omega), aSet_o (by omega), aSet_o (by omega), aSet_o (by omega)]; exact i3
  · show ∀ c, c < S 1 0 → aSet z.1 t f e 9 c ≤ 999 ∧ aSet z.1 t f e 10 c ≤ 60
    rw [aSet_o (by omega), aSet_o (by omega)]; exact i4
  · intro k c k1 k2 hc
    show aSet z.1 t f e k c = 0
    rw [aSet_o (by omega)]; exact i5 k c k1 k2 hc
  · show ∀ x ∈ z.2, _
    rw [show (aSet z.1 t f e, z.2).1 0 0 = z.1 0 0 by show aSet z.1 t f e 0 0 = _; rw [aSet_o (by omega)]]
    exact b1
theorem sm_deafens (x1 x2 x3 : Int32) (cv : Nat → MM) (u : MM) (h : RR cv u) : ∃ (y : Int32 × MM × MM × MM × MM × MM × MM × MM × MM × MM × MM × MM × MM × MM × MM × MM × MM × MM × MM) (z : Int32 × MM), fX7_deafens NF x1 x2 x3 (cv 2) (cv 4) (cv 5) (cv 10) (cv 11) (cv 12) (cv 13) (cv 14) (cv 15) (cv 16) (cv 17) (cv 18) (cv 19) (cv 20) (cv 21) (cv 22) (cv 23) (cv 24) (cv 25) (cv 26) (cv 0) = some y ∧ fX8_deafens NF x1 x2 x3 u = some z ∧ y.1 = z.1 ∧ RR (up (up (up (up (up (up (up (up (up (up (up (up (up (up (up (up (up (up cv 4 y.2.1) 10 y.2.2.1) 11 y.2.2.2.1) 12 y.2.2.2.2.1) 13 y.2.2.2.2.2.1) 14 y.2.2.2.2.2.2.1) 15 y.2.2.2.2.2.2.2.1) 16 y.2.2.2.2.2.2.2.2.1) 17 y.2.2.2.2.2.2.2.2.2.1) 18 y.2.2.2.2.2.2.2.2.2.2.1) 19 y.2.2.2.2.2.2.2.2.2.2.2.1) 20 y.2.2.2.2.2.2.2.2.2.2.2.2.1) 21 y.2.2.2.2.2.2.2.2.2.2.2.2.2.1) 22 y.2.2.2.2.2.2.2.2.2.2.2.2.2.2.1) 23 y.2.2.2.2.2.2.2.2.2.2.2.2.2.2.2.1) 24 y.2.2.2.2.2.2.2.2.2.2.2.2.2.2.2.2.1) 25 y.2.2.2.2.2.2.2.2.2.2.2.2.2.2.2.2.2.1) 26 y.2.2.2.2.2.2.2.2.2.2.2.2.2.2.2.2.2.2) z.2 := by
  have hR := h
  obtain ⟨ht, hs, S, sR, sC, sM, h0, hh, h1, h2⟩ := id h
  obtain ⟨y, y', r1, r2, r3, r4⟩ := rem_sim (u := st u 0 (fun _ => (0 : Int32))) hh h0
  obtain ⟨z, z1, z2, z3, z4⟩ := id h0
  have e0 : Int32.toNatClampNeg (0 : Int32) = 0 := by decide
  unfold fX7_deafens fX8_deafens
  rcases isT (v := cv 2) (w := cv 0) (u := st u 0 (fun _ => (0 : Int32))) (x := x1) (T := S 0 0) (by have := sR.1; omega) sC.1 sM.1 NF with ⟨e1, e2⟩ | ⟨t, t1, rfl, e1, e2⟩
  · rw [e1, e2]
    exact ⟨_, _, rfl, rfl, rfl, hR⟩
  · rw [e1, e2, Option.bind_some, Option.bind_some, if_neg (show ¬ (1 : Int32) = 0 by decide), if_neg (show ¬ (1 : Int32) = 0 by decide), if_pos (show ib (0 : Int32) 667 = true by decide), in_eq, in_eq, e0, z1.1.1, z2.1.1]
    have ht3 : t < 3 := by have := sR.1; omega
    rcases in_01 (x := x2) (A := nI (z.1 0 0)) (B := 199) (a := z.1 0 0) (b := 199) rfl rfl (by omega) (by omega) NF with e | ⟨e, w, hw0, hw, rfl⟩
    · rw [e]
      exact ⟨_, _, rfl, rfl, rfl, hR⟩
    · rw [e, Option.bind_some, Option.bind_some, if_neg (show ¬ (1 : Int32) = 0 by decide), if_neg (show ¬ (1 : Int32) = 0 by decide)]
      rcases in_01 (x := x3) (A := nI w) (B := 199) (a := w) (b := 199) rfl rfl (by omega) (by omega) NF with e | ⟨e, v, hv0, hv, rfl⟩
      · rw [e]
        exact ⟨_, _, rfl, rfl, rfl, hR⟩
      · obtain ⟨k7, p1, p2, p3, p4⟩ := mk_7 z1.1 (N := NF) (t := t) (f := w) (to := v) (by decide) ht3 hw hv0 (by omega)
        have hy16 : y' 16 = u 16 := r3 16 (by omega) (by omega)
        obtain ⟨k8, q1, q2, q3, q4, q5⟩ := mk_8 (u := y') (r := z.1) (by rw [hy16]; exact z2.1) (N := NF) (t := t) (f := w) (to := v) (by decide) ht3 hw hv0 (by omega)
        rw [e, Option.bind_some, Option.bind_some, if_neg (show ¬ (1 : Int32) = 0 by decide), if_neg (show ¬ (1 : Int32) = 0 by decide), r1, r2, Option.bind_some, Option.bind_some, p1, q1, Option.bind_some, Option.bind_some]
        refine ⟨_, _, rfl, rfl, p2.trans q2.symm, rr_fin ⟨ht, hs, sR, sC, sM, h1, h2⟩ ?_ rfl rfl rfl rfl rfl rfl rfl rfl rfl ?_ ?_⟩
        · intro k k1 k2 k3 k4
          show k8.2 k = u k
          rw [q4 k (by omega), r3 k (by omega) (by omega), st_ne (by omega)]
        · show rSt S k7.2 (cv 5) (k8.2 16)
          refine ⟨(aSet z.1 t w (min v 199 + 1), z.2), ⟨p3, z1.2⟩, ⟨q3, blM_set z2.2 (fun j hj => by rw [q5 j hj, hy16])⟩, stI_set z3, ?_⟩
          show aSet z.1 t w (min v 199 + 1) 0 0 ≤ 199
          rw [aSet_o (by omega)]; exact z4
        · exact rHist_u (q4 17 (by omega)) (q4 18 (by omega)) (r4 _ rfl rfl rfl rfl rfl rfl rfl rfl rfl rfl rfl rfl rfl rfl rfl rfl rfl)
