/-! which terminal is not heard -/
/-- a terminal deaf for n steps from now on -/
def aDf (z : AS) (t n : Nat) : AS := (aSet z.1 t (z.1 0 0) (min (z.1 0 0 + n - 1) 199 + 1), z.2)
/-- how many letters would come through -/
def aSo (S : RW) (z : AS) (t n : Nat) : Int32 := nI (aThr (aOn S (aDf z t n) n).1) - nI (aThr (aDf z t n).1)
theorem df_now (z : AS) (t n : Nat) : (aDf z t n).1 0 0 = z.1 0 0 := by
  show aSet z.1 t _ _ 0 0 = _
  rw [aSet_o (by omega)]
/-- the class's pass over what was seen -/
theorem ex_7 {v a b w tb ta c0 : MM} {S : RW} {z : AS} {t k : Nat} {sn sm : Nat → Nat} (hS : suR S) (hv : suC v S) (hc : stC a b z) (hI : stI S z) (hz : z.1 0 0 ≤ 199) (ht : t < 3) (hk : k ≤ 4) (h12 : c0 12 0 = nI k) (hn : ∀ i, i < k → 1 ≤ sn i ∧ sn i ≤ 40) (h10 : ∀ i, i < k → c0 10 i = nI (sn i)) (h11 : ∀ i, i < k → c0 11 i = nI (sm i)) {N : Nat} (hN : 500 < N) : ∃ y, fX7_explainsAllSeen N (nI t) v a b ta tb w c0 = some y ∧ ((∀ i, i < k → aSo S z t (sn i) = nI (sm i)) → y.1 = 1) ∧ (¬ (∀ i, i < k → aSo S z t (sn i) = nI (sm i)) → y.1 = 0) := by
  unfold fX7_explainsAllSeen
  refine lp_any (fun n i (q : MM × MM × MM) => fX7_explainsAllSeen_L2 N (fun (x2_4 : Int32) (v3_4 : MM) (v4_4 : MM) (v5_4 : MM) => some ((1 : Int32), v3_4, v4_4, v5_4)) (nI t) v a b c0 n (nI i) q.1 q.2.1 q.2.2) (fun res => ∃ y, res = some y ∧ ((∀ i, i < k → aSo S z t (sn i) = nI (sm i)) → y.1 = 1) ∧ (¬ (∀ i, i < k → aSo S z t (sn i) = nI (sm i)) → y.1 = 0)) k (fun i q => ∀ i', i' < i → aSo S z t (sn i') = nI (sm i')) (fun n q hq => ?_) (fun n i q hi hq => ?_) k N 0 (ta, tb, w) (by omega) (by omega) (fun j hj => absurd hj (by omega))
  · refine ⟨((1 : Int32), q.1, q.2.1, q.2.2), ?_, fun _ => rfl, fun h => absurd hq h⟩
    show fX7_explainsAllSeen_L2 N _ (nI t) v a b c0 (n + 1) (nI k) q.1 q.2.1 q.2.2 = _
    rw [fX7_explainsAllSeen_L2, h12, if_pos (nI_le (Nat.le_refl _) (by omega))]
  · obtain ⟨y, y1, y2⟩ := cp_st N q.2.1 q.1 a b
    have hs := y2 z hc
    have hni := hn i hi
    obtain ⟨m, m1, m2, m3, m4⟩ := mk_7 hs.1 (N := N) (t := t) (f := z.1 0 0) (to := z.1 0 0 + sn i - 1) (by omega) ht hz (by omega) (by omega)
    have hd : stC m.2 y.1 (aDf z t (sn i)) := ⟨m3, hs.2⟩
    obtain ⟨p, p1, p2, p3⟩ := steps_7 (w := q.2.2) (m := sn i) hS hv hd (stI_set hI) (by rw [df_now]; omega) hN
    have hso : p.1 = aSo S z t (sn i) := p2
    have hsub : nI (z.1 0 0 + sn i) - (1 : Int32) = nI (z.1 0 0 + sn i - 1) := pk_sub (b := 1) (by omega)
    have hib : ib (nI i) 4 = true := ib_n (by omega) (by omega)
    have hpre : fX7_explainsAllSeen_L2 N (fun (x2_4 : Int32) (v3_4 : MM) (v4_4 : MM) (v5_4 : MM) => some ((1 : Int32), v3_4, v4_4, v5_4)) (nI t) v a b c0 (n + 1) (nI i) q.1 q.2.1 q.2.2 = if p.1 = nI (sm i) then fX7_explainsAllSeen_L2 N (fun (x2_4 : Int32) (v3_4 : MM) (v4_4 : MM) (v5_4 : MM) => some ((1 : Int32), v3_4, v4_4, v5_4)) (nI t) v a b c0 n (nI (i + 1)) p.2.1 p.2.2.1 p.2.2.2 else some ((0 : Int32), p.2.1, p.2.2.1, p.2.2.2) := by
      rw [fX7_explainsAllSeen_L2, h12, if_neg (nI_ge hi (by omega)), if_neg (show ¬ (4 : Int32) ≤ nI i from nI_ge (b := 4) (by omega) (by omega)), y1, Option.bind_some, if_pos hib, nI_clamp (n := i) (by omega), hc.1.1, h10 i hi, h11 i hi, nI_add, hsub, m1, Option.bind_some, if_pos hib, p1, Option.bind_some, if_pos hib, nI_1]
    by_cases e : aSo S z t (sn i) = nI (sm i)
    · right
      refine ⟨p.2, fun i' hi' => ?_, ?_⟩
      · by_cases w : i' = i
        · rw [w]; exact e
        · exact hq i' (by omega)
      · show fX7_explainsAllSeen_L2 N _ (nI t) v a b c0 (n + 1) (nI i) q.1 q.2.1 q.2.2 = _
        rw [hpre, if_pos (hso.trans e)]
    · left
      refine ⟨((0 : Int32), p.2.1, p.2.2.1, p.2.2.2), ?_, fun h => absurd (h i hi) e, fun _ => rfl⟩
      show fX7_explainsAllSeen_L2 N _ (nI t) v a b c0 (n + 1) (nI i) q.1 q.2.1 q.2.2 = _
      rw [hpre, if_neg (fun q => e (hso.symm.trans q))]
/-- the model's question about one thing seen -/
theorem so_8 {U : MM} {s : Nat → Int32} {S : RW} {z : AS} {t k i : Nat} {sn sm : Nat → Nat} (hS : suR S) (hM : suM U S) (hs : stM s z) (h16 : ∀ j, j < 667 → U 16 j = s j) (hI : stI S z) (hz : z.1 0 0 ≤ 199) (ht : t < 3) (hk : k ≤ 4) (hi : i < k) (hn : ∀ i, i < k → 1 ≤ sn i ∧ sn i ≤ 40) (h23 : ∀ i, i < k → U 23 i = nI (sn i)) (h24 : ∀ i, i < k → U 24 i = nI (sm i)) {N : Nat} (hN : 700 < N) : ∃ y, fX8_isSo N (nI t) (nI i) U = some y ∧ (aSo S z t (sn i) = nI (sm i) → y.1 = 1) ∧ (¬ aSo S z t (sn i) = nI (sm i) → y.1 = 0) ∧ (∀ j, j ≠ 16 → j ≠ 21 → j ≠ 31 → y.2 j = U j) ∧ ∀ j, j < 667 → y.2 16 j = s j := by
  obtain ⟨m, m1, m2, m3⟩ := cp_8 (a := 0) (b := 0) (n0 := 667) (n1 := 667) (N := N) (by omega) (by omega) (by omega) (by omega) (by omega) (U 16) (U 21)
  have m1 : fX8_copies N (0 : Int32) (0 : Int32) 667 667 (U 16) (U 21) = some m := m1
  have hU := stM_congr h16 hs
  have hni := hn i hi
  have hib : ib (nI i) 4 = true := ib_n (by omega) (by omega)
  obtain ⟨d, d1, d2, d3, d4, d5⟩ := mk_8 (u := st U 21 m) (r := z.1) (by rw [st_ne (by omega)]; exact hU.1) (N := N) (t := t) (f := z.1 0 0) (to := z.1 0 0 + sn i - 1) (by omega) ht hz (by omega) (by omega)
  rw [st_ne (by omega)] at d5
  have hsub : nI (z.1 0 0 + sn i) - (1 : Int32) = nI (z.1 0 0 + sn i - 1) := pk_sub (b := 1) (by omega)
  obtain ⟨V, hV⟩ : ∃ V, V = st d.2 31 (fun _ => (0 : Int32)) := ⟨_, rfl⟩
  have Vo : ∀ j, j ≠ 16 → j ≠ 21 → j ≠ 31 → V j = U j := fun j j1 j2 j3 => by rw [hV, st_ne (Ne.symm j3), d4 j j1, st_ne (Ne.symm j2)]
  have V21 : V 21 = m := by rw [hV, st_ne (by omega), d4 21 (by omega), st_eq]
  have hMV : suM V S := suM_c hM (fun j j1 j2 => Vo j (by omega) (by omega) (by omega))
  have hg0 : sgM V (0 - nI (aThr (aDf z t (sn i)).1)) V (aDf z t (sn i)).1 (aDf z t (sn i)).2 := by
    refine ⟨?_, ?_, fun _ _ _ => rfl, ?_⟩
    · rw [hV, st_ne (by omega)]; exact d3
    · rw [hV, st_ne (by omega)]; exact blM_set hU.2 d5
    · rw [hV, st_eq]; exact (Int32.sub_add_cancel _ _).symm
  have hdI : stI S (aDf z t (sn i)) := stI_set hI
  have hdn := df_now z t (sn i)
  obtain ⟨q, q1, q2⟩ := lp_all (fun (K : Int32 → MM → Option (Int32 × MM)) n e v => fX8_isSo_L48 N K (nI t) (nI i) n (nI e) v) (fun K v => K (nI (sn i)) v) (sn i) (fun e v => sgM V (0 - nI (aThr (aDf z t (sn i)).1)) v (aOn S (aDf z t (sn i)) e).1 (aOn S (aDf z t (sn i)) e).2)
    (fun K n v hv => by
      have h23' : v 23 i = nI (sn i) := by rw [hv.2.2.1 23 (by omega) (by omega), Vo 23 (by omega) (by omega) (by omega)]; exact h23 i hi
      show fX8_isSo_L48 N K (nI t) (nI i) (n + 1) (nI (sn i)) v = _
      rw [fX8_isSo_L48, if_pos hib, nI_clamp (n := i) (by omega), h23', if_pos (nI_le (Nat.le_refl _) (by omega))])
    (fun n e v he hv => by
      have h23' : v 23 i = nI (sn i) := by rw [hv.2.2.1 23 (by omega) (by omega), Vo 23 (by omega) (by omega) (by omega)]; exact h23 i hi
      obtain ⟨v', s1, s2⟩ := st1_8 hS hMV hdI (by omega) hv (show 100 < N by omega)
      refine ⟨v', s2, fun K => ?_⟩
      show fX8_isSo_L48 N K (nI t) (nI i) (n + 1) (nI e) v = _
      rw [fX8_isSo_L48, if_pos hib, nI_clamp (n := i) (by omega), h23', if_neg (nI_ge he (by omega)), s1, Option.bind_some, nI_1]) (sn i) N 0 V (by omega) (by omega) hg0
  have q2 : ∀ (K : Int32 → MM → Option (Int32 × MM)), fX8_isSo_L48 N K (nI t) (nI i) N (0 : Int32) V = K (nI (sn i)) q := q2
  have qo : ∀ j, j ≠ 16 → j ≠ 21 → j ≠ 31 → q j = U j := fun j j1 j2 j3 => by rw [q1.2.2.1 j j1 j3, Vo j j1 j2 j3]
  have q21 : q 21 = m := by rw [q1.2.2.1 21 (by omega) (by omega), V21]
  have q24 : q 24 i = nI (sm i) := by rw [qo 24 (by omega) (by omega) (by omega)]; exact h24 i hi
  have q31 : q 31 0 = aSo S z t (sn i) := by rw [q1.2.2.2]; exact (thr_eq _ _).symm
  obtain ⟨m', n1, n2, n3⟩ := cp_8 (a := 0) (b := 0) (n0 := 667) (n1 := 667) (N := N) (by omega) (by omega) (by omega) (by omega) (by omega) (q 21) (q 16)
  have n1 : fX8_copies N (0 : Int32) (0 : Int32) 667 667 (q 21) (q 16) = some m' := n1
  have hback : ∀ j, j < 667 → m' j = s j := fun j hj => by
    have a1 := n2 j hj
    have a2 := m2 j hj
    rw [Nat.zero_add] at a1 a2
    rw [a1, q21, a2, h16 j hj]
  have ho : ∀ j, j ≠ 16 → j ≠ 21 → j ≠ 31 → st q 16 m' j = U j := fun j j1 j2 j3 => by rw [st_ne (Ne.symm j1), qo j j1 j2 j3]
  have hs16 : ∀ j, j < 667 → st q 16 m' 16 j = s j := fun j hj => by rw [st_eq]; exact hback j hj
  have hpre : fX8_isSo N (nI t) (nI i) U = if aSo S z t (sn i) = nI (sm i) then some ((1 : Int32), st q 16 m') else some ((0 : Int32), st q 16 m') := by
    unfold fX8_isSo
    rw [m1, Option.bind_some, if_pos (show ib (0 : Int32) 667 = true by decide), if_pos (show ib (0 : Int32) 667 = true by decide), if_pos hib, show Int32.toNatClampNeg (0 : Int32) = 0 by decide, nI_clamp (n := i) (by omega), hU.1.1, h23 i hi, nI_add, hsub, d1, Option.bind_some, ← hV, q2, n1, Option.bind_some, if_pos hib, q24, q31]
  by_cases e : aSo S z t (sn i) = nI (sm i)
  · rw [if_pos e] at hpre
    exact ⟨_, hpre, fun _ => rfl, fun h => absurd e h, ho, hs16⟩
  · rw [if_neg e] at hpre
    exact ⟨_, hpre, fun h => absurd h e, fun _ => rfl, ho, hs16⟩
/-- the bits of those terminals by which all is so -/
noncomputable def aBit (p : Nat → Prop) : Nat → Int32
  | 0 => 0
  | t + 1 => @ite Int32 (p t) (Classical.propDecidable (p t)) (aBit p t ||| ((1 : Int32) <<< (nI t &&& 31))) (aBit p t)
theorem abit_1 {p : Nat → Prop} {t : Nat} (h : p t) : aBit p (t + 1) = aBit p t ||| ((1 : Int32) <<< (nI t &&& 31)) := if_pos h
theorem abit_0 {p : Nat → Prop} {t : Nat} (h : ¬ p t) : aBit p (t + 1) = aBit p t := if_neg h
theorem un_7 {v a b w tb ta c0 : MM} {S : RW} {z : AS} {k : Nat} {sn sm : Nat → Nat} (hS : suR S) (hv : suC v S) (hc : stC a b z) (hI : stI S z) (hz : z.1 0 0 ≤ 199) (hk : k ≤ 4) (h12 : c0 12 0 = nI k) (hn : ∀ i, i < k → 1 ≤ sn i ∧ sn i ≤ 40) (h10 : ∀ i, i < k → c0 10 i = nI (sn i)) (h11 : ∀ i, i < k → c0 11 i = nI (sm i)) {N : Nat} (hN : 500 < N) : ∃ y, fX7_unseen N v a b ta tb w c0 = some y ∧ y.1 = aBit (fun t => ∀ i, i < k → aSo S z t (sn i) = nI (sm i)) (S 0 0) := by
  have hT := hS.1
  unfold fX7_unseen
  obtain ⟨y, y1, e⟩ := lp_run (fun n i (q : Int32 × MM × MM × MM) => fX7_unseen_L4 N (fun (x1_2 : Int32) (x2_2 : Int32) (v3_2 : MM) (v4_2 : MM) (v5_2 : MM) => some (x1_2, v3_2, v4_2, v5_2)) v a b c0 n q.1 (nI i) q.2.1 q.2.2.1 q.2.2.2) (fun q => some (q.1, q.2.1, q.2.2.1, q.2.2.2)) (S 0 0) (fun i q => q.1 = aBit (fun t => ∀ i, i < k → aSo S z t (sn i) = nI (sm i)) i)
    (fun n q hq => by
      show fX7_unseen_L4 N _ v a b c0 (n + 1) q.1 (nI (S 0 0)) q.2.1 q.2.2.1 q.2.2.2 = _
      rw [fX7_unseen_L4, hv.1, if_pos (nI_le (Nat.le_refl _) (by omega))])
    (fun n t q hi hq => by
      obtain ⟨p, p1, p2, p3⟩ := ex_7 (w := q.2.2.2) (tb := q.2.2.1) (ta := q.2.1) (t := t) hS hv hc hI hz (by omega) hk h12 hn h10 h11 hN
      by_cases e : ∀ i, i < k → aSo S z t (sn i) = nI (sm i)
      · refine ⟨(q.1 ||| ((1 : Int32) <<< (nI t &&& 31)), p.2), ?_, ?_⟩
        · show q.1 ||| _ = _
          rw [hq]
          exact (abit_1 (p := fun t => ∀ i, i < k → aSo S z t (sn i) = nI (sm i)) e).symm
        · show fX7_unseen_L4 N _ v a b c0 (n + 1) q.1 (nI t) q.2.1 q.2.2.1 q.2.2.2 = _
          rw [fX7_unseen_L4, hv.1, if_neg (nI_ge hi (by omega)), p1, Option.bind_some, p2 e, if_neg (show ¬ (1 : Int32) = 0 by decide), nI_1]
      · refine ⟨(q.1, p.2), ?_, ?_⟩
        · show q.1 = _
          rw [hq]
          exact (abit_0 (p := fun t => ∀ i, i < k → aSo S z t (sn i) = nI (sm i)) e).symm
        · show fX7_unseen_L4 N _ v a b c0 (n + 1) q.1 (nI t) q.2.1 q.2.2.1 q.2.2.2 = _
          rw [fX7_unseen_L4, hv.1, if_neg (nI_ge hi (by omega)), p1, Option.bind_some, p3 e, if_pos rfl, nI_1]) (S 0 0) N 0 ((0 : Int32), ta, tb, w) (by omega) (by omega) rfl
  exact ⟨_, e, y1⟩
/-- the model's pass over what was seen -/
theorem ul_8 {U : MM} {s : Nat → Int32} {S : RW} {z : AS} {t k : Nat} {x1 : Int32} {sn sm : Nat → Nat} (hS : suR S) (hM : suM U S) (hs : stM s z) (h16 : ∀ j, j < 667 → U 16 j = s j) (hI : stI S z) (hz : z.1 0 0 ≤ 199) (ht : t < 3) (hk : k ≤ 4) (h22 : U 22 0 = nI k) (hn : ∀ i, i < k → 1 ≤ sn i ∧ sn i ≤ 40) (h23 : ∀ i, i < k → U 23 i = nI (sn i)) (h24 : ∀ i, i < k → U 24 i = nI (sm i)) {N : Nat} (hN : 700 < N) (K : Int32 → Int32 → MM → Option (Int32 × MM)) : ∃ (is x4 : Int32) (v : MM), fX8_unseen_L22 N K x1 (nI t) N (1 : Int32) (0 : Int32) U = K is x4 v ∧ ((∀ i, i < k → aSo S z t (sn i) = nI (sm i)) → is = 1) ∧ (¬ (∀ i, i < k → aSo S z t (sn i) = nI (sm i)) → is = 0) ∧ (∀ j, j ≠ 16 → j ≠ 21 → j ≠ 31 → v j = U j) ∧ ∀ j, j < 667 → v 16 j = s j := by
  obtain ⟨N', hN'⟩ : ∃ n, N = n + 1 := ⟨N - 1, by omega⟩
  have key : ∃ (is x4 : Int32) (v : MM), fX8_unseen_L22 N K x1 (nI t) (N' + 1) (1 : Int32) (0 : Int32) U = K is x4 v ∧ ((∀ i, i < k → aSo S z t (sn i) = nI (sm i)) → is = 1) ∧ (¬ (∀ i, i < k → aSo S z t (sn i) = nI (sm i)) → is = 0) ∧ (∀ j, j ≠ 16 → j ≠ 21 → j ≠ 31 → v j = U j) ∧ ∀ j, j < 667 → v 16 j = s j := by
    refine lp_any (fun n i (q : MM) => fX8_unseen_L22 N K x1 (nI t) (n + 1) (1 : Int32) (nI i) q) (fun res => ∃ (is x4 : Int32) (v : MM), res = K is x4 v ∧ ((∀ i, i < k → aSo S z t (sn i) = nI (sm i)) → is = 1) ∧ (¬ (∀ i, i < k → aSo S z t (sn i) = nI (sm i)) → is = 0) ∧ (∀ j, j ≠ 16 → j ≠ 21 → j ≠ 31 → v j = U j) ∧ ∀ j, j < 667 → v 16 j = s j) k (fun i q => (∀ i', i' < i → aSo S z t (sn i') = nI (sm i')) ∧ (∀ j, j ≠ 16 → j ≠ 21 → j ≠ 31 → q j = U j) ∧ ∀ j, j < 667 → q 16 j = s j) (fun n q hq => ?_) (fun n i q hi hq => ?_) k N' 0 U (by omega) (by omega) ⟨fun j hj => absurd hj (by omega), fun _ _ _ _ => rfl, h16⟩
    · obtain ⟨q1, q2, q3⟩ := hq
      have e22 : q 22 0 = nI k := by rw [q2 22 (by omega) (by omega) (by omega)]; exact h22
      refine ⟨1, nI k, q, ?_, fun _ => rfl, fun h => absurd q1 h, q2, q3⟩
      show fX8_unseen_L22 N K x1 (nI t) (n + 1 + 1) (1 : Int32) (nI k) q = _
      rw [fX8_unseen_L22, e22, if_pos (nI_le (Nat.le_refl _) (by omega))]
    · obtain ⟨q1, q2, q3⟩ := hq
      have e22 : q 22 0 = nI k := by rw [q2 22 (by omega) (by omega) (by omega)]; exact h22
      obtain ⟨y, y1, y2, y3, y4, y5⟩ := so_8 (U := q) (t := t) (i := i) hS (suM_c hM (fun j j1 j2 => q2 j (by omega) (by omega) (by omega))) hs q3 hI hz ht hk hi hn (fun i hi => by rw [q2 23 (by omega) (by omega) (by omega)]; exact h23 i hi) (fun i hi => by rw [q2 24 (by omega) (by omega) (by omega)]; exact h24 i hi) hN
      have ho : ∀ j, j ≠ 16 → j ≠ 21 → j ≠ 31 → y.2 j = U j := fun j j1 j2 j3 => by rw [y4 j j1 j2 j3, q2 j j1 j2 j3]
      by_cases e : aSo S z t (sn i) = nI (sm i)
      · right
        refine ⟨y.2, ⟨fun i' hi' => ?_, ho, y5⟩, ?_⟩
        · by_cases w : i' = i
          · rw [w]; exact e
          · exact q1 i' (by omega)
        · show fX8_unseen_L22 N K x1 (nI t) (n + 1 + 1) (1 : Int32) (nI i) q = _
          rw [fX8_unseen_L22, e22, if_neg (nI_ge hi (by omega)), if_neg (show ¬ (1 : Int32) = 0 by decide), y1, Option.bind_some, y2 e, nI_1]
      · left
        refine ⟨0, nI (i + 1), y.2, ?_, fun h => absurd (h i hi) e, fun _ => rfl, ho, y5⟩
        have f22 : y.2 22 0 = nI k := by rw [ho 22 (by omega) (by omega) (by omega)]; exact h22
        show fX8_unseen_L22 N K x1 (nI t) (n + 1 + 1) (1 : Int32) (nI i) q = _
        rw [fX8_unseen_L22, e22, if_neg (nI_ge hi (by omega)), if_neg (show ¬ (1 : Int32) = 0 by decide), y1, Option.bind_some, y3 e, nI_1, fX8_unseen_L22, f22]
        by_cases w : nI k ≤ nI (i + 1)
        · rw [if_pos w]
        · rw [if_neg w, if_pos rfl]
  rw [← hN'] at key
  exact key
theorem un_8 {U : MM} {s : Nat → Int32} {S : RW} {z : AS} {k : Nat} {sn sm : Nat → Nat} (hS : suR S) (hM : suM U S) (hs : stM s z) (h16 : ∀ j, j < 667 → U 16 j = s j) (hI : stI S z) (hz : z.1 0 0 ≤ 199) (hk : k ≤ 4) (h22 : U 22 0 = nI k) (hn : ∀ i, i < k → 1 ≤ sn i ∧ sn i ≤ 40) (h23 : ∀ i, i < k → U 23 i = nI (sn i)) (h24 : ∀ i, i < k → U 24 i = nI (sm i)) {N : Nat} (hN : 700 < N) : ∃ y, fX8_unseen_L9 N (fun (x1_3 : Int32) (x2_3 : Int32) (v0_3 : MM) => some (x1_3, v0_3)) N (0 : Int32) (0 : Int32) U = some y ∧ y.1 = aBit (fun t => ∀ i, i < k → aSo S z t (sn i) = nI (sm i)) (S 0 0) ∧ (∀ j, j ≠ 16 → j ≠ 21 → j ≠ 31 → y.2 j = U j) ∧ ∀ j, j < 667 → y.2 16 j = s j := by
  have hT := hS.1
  obtain ⟨y, ⟨y1, y2, y3⟩, e⟩ := lp_run (fun n i (q : Int32 × MM) => fX8_unseen_L9 N (fun (x1_3 : Int32) (x2_3 : Int32) (v0_3 : MM) => some (x1_3, v0_3)) n q.1 (nI i) q.2) (fun q => some (q.1, q.2)) (S 0 0) (fun i q => q.1 = aBit (fun t => ∀ i, i < k → aSo S z t (sn i) = nI (sm i)) i ∧ (∀ j, j ≠ 16 → j ≠ 21 → j ≠ 31 → q.2 j = U j) ∧ ∀ j, j < 667 → q.2 16 j = s j)
    (fun n q hq => by
      have h1 : q.2 1 0 = nI (S 0 0) := by rw [hq.2.1 1 (by omega) (by omega) (by omega)]; exact hM.1
      show fX8_unseen_L9 N _ (n + 1) q.1 (nI (S 0 0)) q.2 = _
      rw [fX8_unseen_L9, h1, if_pos (nI_le (Nat.le_refl _) (by omega))])
    (fun n t q hi hq => by
      obtain ⟨q1, q2, q3⟩ := hq
      have h1 : q.2 1 0 = nI (S 0 0) := by rw [q2 1 (by omega) (by omega) (by omega)]; exact hM.1
      obtain ⟨is, x4, v, p1, p2, p3, p4, p5⟩ := ul_8 (U := q.2) (t := t) (x1 := q.1) hS (suM_c hM (fun j j1 j2 => q2 j (by omega) (by omega) (by omega))) hs q3 hI hz (by omega) hk (by rw [q2 22 (by omega) (by omega) (by omega)]; exact h22) hn (fun i hi => by rw [q2 23 (by omega) (by omega) (by omega)]; exact h23 i hi) (fun i hi => by rw [q2 24 (by omega) (by omega) (by omega)]; exact h24 i hi) hN (fun (x3_2 : Int32) (x4_2 : Int32) (v0_2 : MM) => (if x3_2 = 0 then fX8_unseen_L9 N (fun (x1_3 : Int32) (x2_3 : Int32) (v0_3 : MM) => some (x1_3, v0_3)) n (q.1 ||| (0 : Int32)) (nI t + 1) v0_2 else fX8_unseen_L9 N (fun (x1_3 : Int32) (x2_3 : Int32) (v0_3 : MM) => some (x1_3, v0_3)) n (q.1 ||| ((1 : Int32) <<< (nI t &&& 31))) (nI t + 1) v0_2))
      have ho : ∀ j, j ≠ 16 → j ≠ 21 → j ≠ 31 → v j = U j := fun j j1 j2 j3 => by rw [p4 j j1 j2 j3, q2 j j1 j2 j3]
      by_cases e : ∀ i, i < k → aSo S z t (sn i) = nI (sm i)
      · refine ⟨(q.1 ||| ((1 : Int32) <<< (nI t &&& 31)), v), ⟨?_, ho, p5⟩, ?_⟩
        · show q.1 ||| _ = _
          rw [q1]
          exact (abit_1 (p := fun t => ∀ i, i < k → aSo S z t (sn i) = nI (sm i)) e).symm
        · show fX8_unseen_L9 N _ (n + 1) q.1 (nI t) q.2 = _
          rw [fX8_unseen_L9, h1, if_neg (nI_ge hi (by omega)), p1, p2 e, if_neg (show ¬ (1 : Int32) = 0 by decide), nI_1]
      · refine ⟨(q.1, v), ⟨?_, ho, p5⟩, ?_⟩
        · show q.1 = _
          rw [q1]
          exact (abit_0 (p := fun t => ∀ i, i < k → aSo S z t (sn i) = nI (sm i)) e).symm
        · show fX8_unseen_L9 N _ (n + 1) q.1 (nI t) q.2 = _
          rw [fX8_unseen_L9, h1, if_neg (nI_ge hi (by omega)), p1, p3 e, if_pos rfl, Int32.or_zero, nI_1]) (S 0 0) N 0 ((0 : Int32), U) (by omega) (by omega) ⟨rfl, fun _ _ _ _ => rfl, h16⟩
  exact ⟨_, e, y1, y2, y3⟩
theorem sm_unseen (cv : Nat → MM) (u : MM) (h : RR cv u) : ∃ (y : Int32 × MM × MM × MM) (z : Int32 × MM), fX7_unseen NF (cv 2) (cv 4) (cv 5) (cv 6) (cv 7) (cv 9) (cv 0) = some y ∧ fX8_unseen NF u = some z ∧ y.1 = z.1 ∧ RR (up (up (up cv 6 y.2.1) 7 y.2.2.1) 9 y.2.2.2) z.2 := by
  have hR := h
  obtain ⟨ht, ⟨k, k1, k2, k3, k4⟩, S, sR, sC, sM, h0, hh, h1, h2⟩ := id h
  obtain ⟨z, z1, z2, z3, z4⟩ := id h0
  obtain ⟨sn, hsn⟩ : ∃ sn : Nat → Nat, ∀ j, j < k → ∃ q : Nat, 1 ≤ sn j ∧ sn j ≤ 40 ∧ q ≤ 9999 ∧ cv 0 10 j = nI (sn j) ∧ u 23 j = nI (sn j) ∧ cv 0 11 j = nI q ∧ u 24 j = nI q := ⟨fun j => if hj : j < k then (k4 j hj).choose else 0, fun j hj => by
    simp only [dif_pos hj]
    exact (k4 j hj).choose_spec⟩
  obtain ⟨sm, hsm⟩ : ∃ sm : Nat → Nat, ∀ j, j < k → 1 ≤ sn j ∧ sn j ≤ 40 ∧ sm j ≤ 9999 ∧ cv 0 10 j = nI (sn j) ∧ u 23 j = nI (sn j) ∧ cv 0 11 j = nI (sm j) ∧ u 24 j = nI (sm j) := ⟨fun j => if hj : j < k then (hsn j hj).choose else 0, fun j hj => by
    simp only [dif_pos hj]
    exact (hsn j hj).choose_spec⟩
  obtain ⟨p, p1, p2⟩ := un_7 (w := cv 9) (tb := cv 7) (ta := cv 6) (c0 := cv 0) (sn := sn) (sm := sm) (N := NF) sR sC z1 z3 z4 k1 k2 (fun i hi => ⟨(hsm i hi).1, (hsm i hi).2.1⟩) (fun i hi => (hsm i hi).2.2.2.1) (fun i hi => (hsm i hi).2.2.2.2.2.1) (by decide)
  obtain ⟨q, q1, q2, q3, q4⟩ := un_8 (U := st u 0 (fun _ => (0 : Int32))) (s := u 16) (k := k) (sn := sn) (sm := sm) (N := NF) sR (suM_c sM (fun j j1 j2 => st_ne (by omega))) z2 (fun j hj => by rw [st_ne (by omega)]) z3 z4 k1 (by rw [st_ne (by omega)]; exact k3) (fun i hi => ⟨(hsm i hi).1, (hsm i hi).2.1⟩) (fun i hi => by rw [st_ne (by omega)]; exact (hsm i hi).2.2.2.2.1) (fun i hi => by rw [st_ne (by omega)]; exact (hsm i hi).2.2.2.2.2.2) (by decide)
  unfold fX8_unseen
  exact ⟨p, q, p1, q1, p2.trans q2.symm, rr_try hR (fun j j1 j2 j3 j4 => by rw [q3 j (by omega) (by omega) (by omega), st_ne (by omega)]) q4⟩
