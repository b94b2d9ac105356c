/-! letters come; a block is asked for -/
/-- what waits in the classes that are ahead of this one, or in it -/
def aUp (S r : RW) (c o : Nat) : Nat := if S 7 o = S 7 c ∧ ¬ (S 8 c < S 8 o ∨ (S 8 c = S 8 o ∧ c < o)) then r 9 o else 0
theorem aup_y {S r : RW} {c o : Nat} (e : S 7 o = S 7 c) (q : ¬ (S 8 c < S 8 o ∨ (S 8 c = S 8 o ∧ c < o))) : aUp S r c o = r 9 o := if_pos ⟨e, q⟩
theorem aup_n {S r : RW} {c o : Nat} (h : ¬ (S 7 o = S 7 c ∧ ¬ (S 8 c < S 8 o ∨ (S 8 c = S 8 o ∧ c < o)))) : aUp S r c o = 0 := if_neg h
theorem isah_7 {v : MM} {S : RW} {a b : Nat} (hS : suR S) (hv : suC v S) (ha : a < S 1 0) (hb : b < S 1 0) (N : Nat) : fX3_isAhead N (nI a) (nI b) v = some (if S 8 a < S 8 b ∨ (S 8 a = S 8 b ∧ a < b) then 1 else 0) := by
  have hC := hS.2.1
  have h8a := hv.2.2.2.2.2.2 8 a (by omega) (by omega) ha
  have h8b := hv.2.2.2.2.2.2 8 b (by omega) (by omega) hb
  have la := (hS.2.2.2.2.2.2 a ha).2.1
  have lb := (hS.2.2.2.2.2.2 b hb).2.1
  have ia : ib (nI a) 6 = true := ib_n (by omega) (by omega)
  have ib' : ib (nI b) 6 = true := ib_n (by omega) (by omega)
  unfold fX3_isAhead
  rw [if_pos ia, if_pos ib', nI_clamp (n := a) (by omega), nI_clamp (n := b) (by omega), h8a, h8b]
  by_cases e : S 8 a < S 8 b
  · rw [if_pos (nI_lt e (by omega)), if_pos (by omega)]
  · rw [if_neg (nI_nlt (by omega) (by omega)), if_pos ia, if_pos ib']
    by_cases q : S 8 a = S 8 b
    · rw [if_pos (show nI (S 8 a) = nI (S 8 b) by rw [q])]
      by_cases w : b ≤ a
      · rw [if_pos (nI_le w (by omega)), if_neg (by omega)]
      · rw [if_neg (nI_ge (by omega) (by omega)), if_pos (by omega)]
    · rw [if_neg (show ¬ nI (S 8 a) = nI (S 8 b) from fun w => q ((nI_eq (by omega) (by omega)).mp w)), if_neg (by omega)]
theorem smN_pos {f : Nat → Nat} : ∀ (n i : Nat), i < n → 0 < f i → 0 < smN f n
  | 0, _, h, _ => absurd h (by omega)
  | n + 1, i, h, hp => by
    show 0 < smN f n + f n
    by_cases e : i = n
    · rw [← e]
      omega
    · have := smN_pos n i (by omega) hp
      omega
theorem wup_7 {v a w : MM} {S r : RW} {c : Nat} (hS : suR S) (hv : suC v S) (ha : rwC a r) (hI : rwI S r) (hc : c < S 1 0) {N : Nat} (hN : 100 < N) : fX5_waitsUpTo N (nI c) v a w = some (if smN (aUp S r c) (S 1 0) = 0 then 0 else 1) := by
  have hC := hS.2.1
  have hT := hS.1
  have h7c := hv.2.2.2.2.2.2 7 c (by omega) (by omega) hc
  have l7c := (hS.2.2.2.2.2.2 c hc).1
  unfold fX5_waitsUpTo
  refine lp_any (fun n i (_ : Unit) => fX5_waitsUpTo_L2 N (fun (x2_2 : Int32) => some (0 : Int32)) (nI c) v a w n (nI i)) (fun res => res = some (if smN (aUp S r c) (S 1 0) = 0 then 0 else 1)) (S 1 0) (fun i _ => ∀ o, o < i → aUp S r c o = 0) (fun n _ hq => ?_) (fun n i _ hi hq => ?_) (S 1 0) N 0 () (by omega) (by omega) (fun o ho => absurd ho (by omega))
  · show fX5_waitsUpTo_L2 N _ (nI c) v a w (n + 1) (nI (S 1 0)) = _
    rw [fX5_waitsUpTo_L2, hv.2.1, if_pos (nI_le (Nat.le_refl _) (by omega)), if_pos (smN_0 _ hq)]
  · have h7i := hv.2.2.2.2.2.2 7 i (by omega) (by omega) hi
    have l7i := (hS.2.2.2.2.2.2 i hi).1
    have t9 := ha.2.2.2.2.1 9 i (by omega) (by omega) (by omega)
    have b9 := (hI.2.2.2.2.1 i hi).1
    have ii : ib (nI i) 6 = true := ib_n (by omega) (by omega)
    have ic : ib (nI c) 6 = true := ib_n (by omega) (by omega)
    have hpre : fX5_waitsUpTo_L2 N (fun (x2_2 : Int32) => some (0 : Int32)) (nI c) v a w (n + 1) (nI i) = if aUp S r c i = 0 then fX5_waitsUpTo_L2 N (fun (x2_2 : Int32) => some (0 : Int32)) (nI c) v a w n (nI (i + 1)) else some 1 := by
      rw [fX5_waitsUpTo_L2, hv.2.1, if_neg (nI_ge hi (by omega)), if_pos ii, if_pos ic, nI_clamp (n := i) (by omega), nI_clamp (n := c) (by omega), h7i, h7c, nI_1]
      by_cases e : S 7 i = S 7 c
      · rw [if_pos (show nI (S 7 i) = nI (S 7 c) by rw [e]), isah_7 hS hv hc hi, Option.bind_some]
        by_cases q : S 8 c < S 8 i ∨ (S 8 c = S 8 i ∧ c < i)
        · rw [if_pos q, if_neg (show ¬ (1 : Int32) = 0 by decide), aup_n (fun w => w.2 q), if_pos rfl]
        · rw [if_neg q, if_pos rfl, if_pos ii, t9, aup_y e q]
          by_cases p : r 9 i = 0
          · rw [if_pos p, p, if_pos (show nI 0 ≤ (0 : Int32) by decide)]
          · rw [if_neg p, if_neg (nI_nle (by omega) (by omega))]
      · rw [if_neg (show ¬ nI (S 7 i) = nI (S 7 c) from fun q => e ((nI_eq (by omega) (by omega)).mp q)), aup_n (fun w => e w.1), if_pos rfl]
    by_cases e : aUp S r c i = 0
    · right
      refine ⟨(), fun o ho => ?_, ?_⟩
      · by_cases w : o = i
        · rw [w]; exact e
        · exact hq o (by omega)
      · show fX5_waitsUpTo_L2 N _ (nI c) v a w (n + 1) (nI i) = _
        rw [hpre, if_pos e]
    · left
      have hp := smN_pos (f := aUp S r c) (S 1 0) i hi (by omega)
      show fX5_waitsUpTo_L2 N _ (nI c) v a w (n + 1) (nI i) = _
      rw [hpre, if_neg e, if_neg (by omega)]
theorem up_8 {u : MM} {S r : RW} {c : Nat} {x2 : Int32} (hS : suR S) (hM : suM u S) (ha : rwM (u 16) r) (hc : c < S 1 0) {N : Nat} (hN : 100 < N) (K : Int32 → Int32 → Option (Int32 × MM)) : fX8_comes_L65 N K (nI c) x2 (nI (S 7 c)) u N (0 : Int32) (0 : Int32) = K (nI (smN (aUp S r c) (S 1 0))) (nI (S 1 0)) := by
  have hC := hS.2.1
  have hT := hS.1
  have l7c := (hS.2.2.2.2.2.2 c hc).1
  exact lp_sum (fun n acc i => fX8_comes_L65 N K (nI c) x2 (nI (S 7 c)) u n acc i) K (S 1 0) (aUp S r c)
    (fun n acc => by
      show fX8_comes_L65 N K (nI c) x2 (nI (S 7 c)) u (n + 1) acc (nI (S 1 0)) = _
      rw [fX8_comes_L65, hM.2.1, if_pos (nI_le (Nat.le_refl _) (by omega))])
    (fun n i acc hi => by
      have h7 : u 7 (4 * i) = nI (S 7 i) := hM.2.2.2.2.2.2 7 i (by omega) (by omega) hi
      have l7 := (hS.2.2.2.2.2.2 i hi).1
      have t9 : u 16 (43 + 4 * i + 0) = nI (r 9 i) := ha.2.2.2.2.1 0 i (by omega) (by omega)
      show fX8_comes_L65 N K (nI c) x2 (nI (S 7 c)) u (n + 1) acc (nI i) = _
      rw [fX8_comes_L65, hM.2.1, if_neg (nI_ge hi (by omega)), show (4 : Int32) * nI i = nI (4 * i) from pk_mul 4 i, if_pos (ib_n (by omega) (by omega)), nI_clamp (by omega), h7, nI_1]
      by_cases e : S 7 i = S 7 c
      · rw [if_pos (show nI (S 7 i) = nI (S 7 c) by rw [e]), isah_8 hS hM hc hi, Option.bind_some]
        by_cases q : S 8 c < S 8 i ∨ (S 8 c = S 8 i ∧ c < i)
        · rw [if_pos q, if_neg (show ¬ (1 : Int32) = 0 by decide), aup_n (fun w => w.2 q)]
          rfl
        · rw [if_neg q, if_pos rfl, qc0, if_pos (ib_n (by omega) (by omega)), nI_clamp (by omega), t9, aup_y e q]
      · rw [if_neg (show ¬ nI (S 7 i) = nI (S 7 c) from fun q => e ((nI_eq (by omega) (by omega)).mp q)), aup_n (fun w => e w.1)]
        rfl) (by omega)
theorem sm_comes (x1 x2 : Int32) (cv : Nat → MM) (u : MM) (h : RR cv u) : ∃ (y : Int32 × MM × MM × MM × MM × MM × MM × MM × MM × MM × MM × MM × MM × MM × MM × MM × MM × MM × MM) (z : Int32 × MM), fX7_comes NF x1 x2 (cv 2) (cv 4) (cv 5) (cv 8) (cv 10) (cv 11) (cv 12) (cv 13) (cv 14) (cv 15) (cv 16) (cv 17) (cv 18) (cv 19) (cv 20) (cv 21) (cv 22) (cv 23) (cv 24) (cv 25) (cv 26) (cv 0) = some y ∧ fX8_comes NF x1 x2 u = some z ∧ y.1 = z.1 ∧ RR (up (up (up (up (up (up (up (up (up (up (up (up (up (up (up (up (up (up cv 4 y.2.1) 10 y.2.2.1) 11 y.2.2.2.1) 12 y.2.2.2.2.1) 13 y.2.2.2.2.2.1) 14 y.2.2.2.2.2.2.1) 15 y.2.2.2.2.2.2.2.1) 16 y.2.2.2.2.2.2.2.2.1) 17 y.2.2.2.2.2.2.2.2.2.1) 18 y.2.2.2.2.2.2.2.2.2.2.1) 19 y.2.2.2.2.2.2.2.2.2.2.2.1) 20 y.2.2.2.2.2.2.2.2.2.2.2.2.1) 21 y.2.2.2.2.2.2.2.2.2.2.2.2.2.1) 22 y.2.2.2.2.2.2.2.2.2.2.2.2.2.2.1) 23 y.2.2.2.2.2.2.2.2.2.2.2.2.2.2.2.1) 24 y.2.2.2.2.2.2.2.2.2.2.2.2.2.2.2.2.1) 25 y.2.2.2.2.2.2.2.2.2.2.2.2.2.2.2.2.2.1) 26 y.2.2.2.2.2.2.2.2.2.2.2.2.2.2.2.2.2.2) z.2 := by
  have hR := h
  obtain ⟨ht, hs, S, sR, sC, sM, h0, hh, h1, h2⟩ := id h
  obtain ⟨y, y', r1, r2, r3, r4⟩ := rem_sim (u := st u 0 (fun _ => (0 : Int32))) hh h0
  obtain ⟨z, z1, z2, z3, z4⟩ := id h0
  have hC6 := sR.2.1
  have hT3 := sR.1
  unfold fX7_comes fX8_comes
  rcases isCl (v := cv 2) (w := cv 0) (u := st u 0 (fun _ => (0 : Int32))) (x := x1) (T := S 1 0) hC6 sC.2.1 sM.2.1 NF with ⟨e1, e2⟩ | ⟨c, c1, rfl, e1, e2⟩
  · rw [e1, e2]
    exact ⟨_, _, rfl, rfl, rfl, hR⟩
  · rw [e1, e2, Option.bind_some, Option.bind_some, if_neg (show ¬ (1 : Int32) = 0 by decide), if_neg (show ¬ (1 : Int32) = 0 by decide), in_eq]
    rcases in_01 (x := x2) (A := 1) (B := 99) (a := 1) (b := 99) rfl rfl (by omega) (by omega) NF with e | ⟨e, w, hw0, hw, rfl⟩
    · rw [e]
      exact ⟨_, _, rfl, rfl, rfl, hR⟩
    · have ic : ib (nI c) 6 = true := ib_n (by omega) (by omega)
      have t9 : u 16 (43 + 4 * c + 0) = nI (z.1 9 c) := z2.1.2.2.2.2.1 0 c (by omega) (by omega)
      have a9 := z1.1.2.2.2.2.1 9 c (by omega) (by omega) (by omega)
      have b9 := (z3.1.2.2.2.2.1 c c1).1
      have l7 := (sR.2.2.2.2.2.2 c c1).1
      have s7 := sC.2.2.2.2.2.2 7 c (by omega) (by omega) c1
      have hib : ib (nI (43 + 4 * c + 0)) 667 = true := ib_n (by omega) (by omega)
      rw [e, Option.bind_some, Option.bind_some, if_neg (show ¬ (1 : Int32) = 0 by decide), if_neg (show ¬ (1 : Int32) = 0 by decide), if_pos ic, nI_clamp (n := c) (by omega), a9, nI_add, qc0, if_pos hib, nI_clamp (n := 43 + 4 * c + 0) (by omega), t9, nI_add]
      by_cases hle : z.1 9 c + w ≤ 999
      · have hle2 : nI (z.1 9 c + w) ≤ (999 : Int32) := nI_le (b := 999) hle (by omega)
        have hy16 : y' 16 = u 16 := r3 16 (by omega) (by omega)
        have hyo : ∀ k, 1 ≤ k → k ≠ 17 → k ≠ 18 → y' k = u k := fun k q1 q2 q3 => by rw [r3 k q2 q3, st_ne (by omega)]
        have hM' : suM y' S := suM_c sM (fun j j1 j2 => hyo j (by omega) (by omega) (by omega))
        have m7 : y' 7 (4 * c) = nI (S 7 c) := hM'.2.2.2.2.2.2 7 c (by omega) (by omega) c1
        have e4 : (4 : Int32) * nI c = nI (4 * c) := pk_mul 4 c
        have hup := fun K => up_8 (x2 := nI w) sR hM' (by rw [hy16]; exact z2.1) c1 (show 100 < NF by decide) K
        have i7 : ib (nI (4 * c)) 24 = true := ib_n (by omega) (by omega)
        rw [if_pos hle2, if_pos hle2, r1, r2, Option.bind_some, Option.bind_some]
        obtain ⟨W, hW⟩ : ∃ W : Nat, W = smN (aUp S z.1 c) (S 1 0) := ⟨_, rfl⟩
        have hwu := wup_7 (w := cv 8) sR sC z1.1 z3.1 c1 (show 100 < NF by decide)
        rw [← hW] at hwu hup
        have hW6 : W ≤ 6 * 999 := by
          rw [hW]
          have q1 := smN_le (f := aUp S z.1 c) (m := 999) (S 1 0) (fun i hi => by
            have := (z3.1.2.2.2.2.1 i hi).1
            unfold aUp
            split <;> omega)
          have q2 : S 1 0 * 999 ≤ 6 * 999 := Nat.mul_le_mul_right 999 hC6
          exact Nat.le_trans q1 q2
        have hin : fX7_isWithin NF (nI (S 7 c)) (0 : Int32) (2 : Int32) = some 1 := by
          rw [in_eq]
          exact in_yes (a := 0) (b := 2) (by omega) (by omega) (by omega) NF
        have it : ib (nI (S 7 c)) 3 = true := ib_n (by omega) (by omega)
        have it2 : ib (nI (4 + 13 * S 7 c + 0)) 667 = true := ib_n (by omega) (by omega)
        have t3 : u 16 (4 + 13 * S 7 c + 0) = nI (z.1 3 (S 7 c)) := z2.1.2.2.2.1 0 (S 7 c) (by omega) (by omega)
        rw [e4, if_pos i7, nI_clamp (n := 4 * c) (by omega), m7, hup, qt0]
        -- the class
        have hcl : ∃ y4, fX5_bring NF (nI c) (nI w) (cv 2) (cv 4) (cv 8) = some y4 ∧ rwC y4 (au (if W = 0 then au z.1 3 (S 7 c) 1 else z.1) 9 c (z.1 9 c + w)) := by
          unfold fX5_bring
          rw [if_pos ic, nI_clamp (n := c) (by omega), s7, hin, Option.bind_some, if_neg (show ¬ (1 : Int32) = 0 by decide), hwu, Option.bind_some]
          by_cases q : W = 0
          · rw [if_pos q, if_pos rfl, if_pos it, if_pos ic, if_pos ic, nI_clamp (n := S 7 c) (by omega), a9, nI_add, if_pos q]
            refine ⟨_, rfl, ?_⟩
            have d1 := rwC_up z1.1 (k := 3) (t := S 7 c) (x := 1) (by omega)
            have d2 := rwC_up d1 (k := 9) (t := c) (x := z.1 9 c + w) (by omega)
            rw [st_ne (by omega)] at d2
            exact d2
          · rw [if_neg q, if_neg (show ¬ (1 : Int32) = 0 by decide), if_pos ic, if_pos ic, a9, nI_add, if_neg q]
            exact ⟨_, rfl, rwC_up z1.1 (k := 9) (t := c) (x := z.1 9 c + w) (by omega)⟩
        obtain ⟨y4, q1, q2⟩ := hcl
        have y4c : y4 9 c = nI (z.1 9 c + w) := by
          rw [q2.2.2.2.2.1 9 c (by omega) (by omega) (by omega), au_eq]
        rw [q1, Option.bind_some, if_pos ic, y4c, hy16]
        have fin : ∀ s', rwM s' (au (if W = 0 then au z.1 3 (S 7 c) 1 else z.1) 9 c (z.1 9 c + w)) → (∀ j, 67 ≤ j ∨ j = 3 → s' j = u 16 j) → rSt S y4 (cv 5) s' := by
          intro s' f1 f2
          refine ⟨(au (if W = 0 then au z.1 3 (S 7 c) 1 else z.1) 9 c (z.1 9 c + w), z.2), ⟨q2, z1.2⟩, ⟨f1, blM_r z2.2 f2⟩, ⟨?_, ?_, z3.2.2⟩, ?_⟩
          · refine rwI_up ?_ (by omega) (by omega) (by omega) (by omega) (by omega) (by omega) (by omega) (by omega) (by omega) (by omega)
            split
            · exact rwI_up z3.1 (by omega) (by omega) (by omega) (by omega) (by omega) (by omega) (by omega) (by omega) (by omega) (by omega)
            · exact z3.1
          · have e0 : (au (if W = 0 then au z.1 3 (S 7 c) 1 else z.1) 9 c (z.1 9 c + w)) 0 0 = z.1 0 0 := by
              rw [au_ne (Or.inl (by omega))]
              split
              · exact au_ne (Or.inl (by omega))
              · rfl
            show ∀ x ∈ z.2, _
            rw [show (au (if W = 0 then au z.1 3 (S 7 c) 1 else z.1) 9 c (z.1 9 c + w), z.2).1 0 0 = z.1 0 0 from e0]
            exact z3.2.1
          · show (au (if W = 0 then au z.1 3 (S 7 c) 1 else z.1) 9 c (z.1 9 c + w)) 0 0 ≤ 199
            rw [au_ne (Or.inl (by omega))]
            split
            · rw [au_ne (Or.inl (by omega))]; exact z4
            · exact z4
        by_cases q : W = 0
        · rw [show nI W = (0 : Int32) by rw [q]; rfl, if_pos rfl, if_pos it2, qc0, if_pos hib, if_pos hib, qc0, if_pos hib, nI_clamp (n := 43 + 4 * c + 0) (by omega), nI_clamp (n := 4 + 13 * S 7 c + 0) (by omega), upd_eq, upd_ne (j := 43 + 4 * c + 0) (k := 4 + 13 * S 7 c + 0) (by omega), t9, nI_add, st_st]
          refine ⟨_, _, rfl, rfl, rfl, rr_fin ⟨ht, hs, sR, sC, sM, h1, h2⟩ ?_ rfl rfl rfl rfl rfl rfl rfl rfl rfl (fin (upd (upd (u 16) (4 + 13 * S 7 c + 0) (1 : Int32)) (43 + 4 * c + 0) (nI (z.1 9 c + w))) ?_ (fun j hj => ?_)) (rHist_u rfl rfl (r4 _ rfl rfl rfl rfl rfl rfl rfl rfl rfl rfl rfl rfl rfl rfl rfl rfl rfl))⟩
          · intro k k1 k2 k3 k4
            show st y' 16 _ k = u k
            rw [st_ne (by omega), hyo k (by omega) (by omega) (by omega)]
          · rw [if_pos q]
            have d1 := rwM_1 (k := 0) (t := S 7 c) (x := 1) z2.1 (by omega) (by omega)
            exact rwM_2 (k := 0) (c := c) (x := z.1 9 c + w) d1 (by omega) (by omega)
          · rw [upd_ne (by omega), upd_ne (by omega)]
        · rw [if_neg (nI_ne0 (by omega) (by omega)), qt0, if_pos it2, if_pos it2, qc0, if_pos hib, if_pos hib, qc0, if_pos hib, nI_clamp (n := 43 + 4 * c + 0) (by omega), nI_clamp (n := 4 + 13 * S 7 c + 0) (by omega), upd_eq, upd_ne (j := 43 + 4 * c + 0) (k := 4 + 13 * S 7 c + 0) (by omega), t9, nI_add, st_st]
          refine ⟨_, _, rfl, rfl, rfl, rr_fin ⟨ht, hs, sR, sC, sM, h1, h2⟩ ?_ rfl rfl rfl rfl rfl rfl rfl rfl rfl (fin (upd (upd (u 16) (4 + 13 * S 7 c + 0) (u 16 (4 + 13 * S 7 c + 0))) (43 + 4 * c + 0) (nI (z.1 9 c + w))) ?_ (fun j hj => ?_)) (rHist_u rfl rfl (r4 _ rfl rfl rfl rfl rfl rfl rfl rfl rfl rfl rfl rfl rfl rfl rfl rfl rfl))⟩
          · intro k k1 k2 k3 k4
            show st y' 16 _ k = u k
            rw [st_ne (by omega), hyo k (by omega) (by omega) (by omega)]
          · rw [if_neg q, t3]
            have d1 := rwM_1 (k := 0) (t := S 7 c) (x := z.1 3 (S 7 c)) z2.1 (by omega) (by omega)
            have d2 := rwM_2 (k := 0) (c := c) (x := z.1 9 c + w) d1 (by omega) (by omega)
            have d3 := au_self z.1 3 (S 7 c)
            have d4 : au (au z.1 (3 + 0) (S 7 c) (z.1 3 (S 7 c))) (9 + 0) c (z.1 9 c + w) = au z.1 9 c (z.1 9 c + w) := congrArg (fun r => au r 9 c (z.1 9 c + w)) d3
            rw [d4] at d2
            exact d2
          · rw [upd_ne (by omega), upd_ne (by omega)]
      · have hle2 : ¬ nI (z.1 9 c + w) ≤ (999 : Int32) := nI_ge (a := 999) (by omega) (by omega)
        rw [if_neg hle2, if_neg hle2]
        exact ⟨_, _, rfl, rfl, rfl, hR⟩
