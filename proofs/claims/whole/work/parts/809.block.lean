/-! a block is asked for -/
/-- one block stands ahead of another -/
def aSn (l : List BL) (i j : Nat) : Prop := (bAt l i).2.1 < (bAt l j).2.1 ∨ ((bAt l i).2.1 = (bAt l j).2.1 ∧ ((bAt l i).1 < (bAt l j).1 ∨ ((bAt l i).1 = (bAt l j).1 ∧ i < j)))
/-- how many stand ahead of it -/
noncomputable def aAh (l : List BL) (j : Nat) : Nat := smN (fun i => @ite Nat (aSn l i j) (Classical.propDecidable _) 1 0) l.length
theorem aAh_le (l : List BL) (j : Nat) : aAh l j ≤ l.length := by
  have h := smN_le (f := fun i => @ite Nat (aSn l i j) (Classical.propDecidable _) 1 0) (m := 1) l.length (fun i _ => by
    show @ite Nat (aSn l i j) (Classical.propDecidable _) 1 0 ≤ 1
    split <;> omega)
  rw [Nat.mul_one] at h
  exact h
/-- what is known of the blocks -/
def bkR (l : List BL) : Prop := ∀ i, i < l.length → 1 ≤ (bAt l i).2.1 ∧ (bAt l i).2.1 ≤ 500 ∧ (bAt l i).1 < 3
theorem bkR_of {S : RW} {z : AS} (hS : suR S) (h : stI S z) : bkR z.2 := fun i hi => by
  obtain ⟨a1, a2, a3, -⟩ := h.2.1 _ (List.mem_of_getElem? (bAt_some hi))
  have := hS.1
  have := hS.2.2.2.1.2
  have := h.1.1
  omega
theorem due_ge {x : Nat} (h : 1 ≤ x) : dueI x = nI (x - 1) := due_s (by omega)
theorem isE_7 {b : MM} {l : List BL} {i j : Nat} (hb : blC b l) (hR : bkR l) (hi : i < l.length) (hj : j < l.length) (N : Nat) : (aSn l i j → fX0_isEarlier N (nI i) (nI j) b = some 1) ∧ (¬ aSn l i j → fX0_isEarlier N (nI i) (nI j) b = some 0) := by
  have h60 := hb.1
  obtain ⟨a1, a2, -⟩ := blC_at hb hi
  obtain ⟨b1, b2, -⟩ := blC_at hb hj
  obtain ⟨r1, r2, r3⟩ := hR i hi
  obtain ⟨s1, s2, s3⟩ := hR j hj
  rw [due_ge r1] at a2
  rw [due_ge s1] at b2
  have ii : ib (nI i) 60 = true := ib_n (by omega) (by omega)
  have ij : ib (nI j) 60 = true := ib_n (by omega) (by omega)
  have h : fX0_isEarlier N (nI i) (nI j) b = @ite _ (aSn l i j) (Classical.propDecidable _) (some 1) (some 0) := by
    unfold fX0_isEarlier aSn
    rw [if_pos ii, if_pos ij, nI_clamp (n := i) (by omega), nI_clamp (n := j) (by omega), a2, b2, a1, b1]
    by_cases e : (bAt l i).2.1 = (bAt l j).2.1
    · rw [if_pos (show nI ((bAt l i).2.1 - 1) = nI ((bAt l j).2.1 - 1) by rw [e]), if_pos ii, if_pos ij]
      by_cases q : (bAt l i).1 = (bAt l j).1
      · rw [if_pos (show nI (bAt l i).1 = nI (bAt l j).1 by rw [q])]
        by_cases w : j ≤ i
        · rw [if_pos (nI_le w (by omega)), if_neg (by omega)]
        · rw [if_neg (nI_ge (by omega) (by omega)), if_pos (by omega)]
      · rw [if_neg (show ¬ nI (bAt l i).1 = nI (bAt l j).1 from fun w => q ((nI_eq (by omega) (by omega)).mp w)), if_pos ii, if_pos ij]
        by_cases w : (bAt l j).1 ≤ (bAt l i).1
        · rw [if_pos (nI_le w (by omega)), if_neg (by omega)]
        · rw [if_neg (nI_ge (by omega) (by omega)), if_pos (by omega)]
    · rw [if_neg (show ¬ nI ((bAt l i).2.1 - 1) = nI ((bAt l j).2.1 - 1) from fun w => e (by have := (nI_eq (by omega) (by omega)).mp w; omega)), if_pos ii, if_pos ij]
      by_cases w : (bAt l j).2.1 ≤ (bAt l i).2.1
      · rw [if_pos (nI_le (by omega) (by omega)), if_neg (by omega)]
      · rw [if_neg (nI_ge (by omega) (by omega)), if_pos (by omega)]
  exact ⟨fun q => by rw [h, if_pos q], fun q => by rw [h, if_neg q]⟩
theorem isE_8 {u : MM} {l : List BL} {i j : Nat} (hb : blM (u 16) l) (hR : bkR l) (hi : i < l.length) (hj : j < l.length) (N : Nat) : (aSn l i j → fX8_isSooner N (nI i) (nI j) u = some 1) ∧ (¬ aSn l i j → fX8_isSooner N (nI i) (nI j) u = some 0) := by
  have h60 := hb.1
  obtain ⟨a1, a2, -⟩ := blM_at hb hi
  obtain ⟨b1, b2, -⟩ := blM_at hb hj
  have a1 : u 16 (67 + 10 * i + 0) = nI (bAt l i).1 := a1
  have b1 : u 16 (67 + 10 * j + 0) = nI (bAt l j).1 := b1
  obtain ⟨r1, r2, r3⟩ := hR i hi
  obtain ⟨s1, s2, s3⟩ := hR j hj
  rw [due_ge r1] at a2
  rw [due_ge s1] at b2
  have i0 : ib (nI (67 + 10 * i + 0)) 667 = true := ib_n (by omega) (by omega)
  have j0 : ib (nI (67 + 10 * j + 0)) 667 = true := ib_n (by omega) (by omega)
  have i1 : ib (nI (67 + 10 * i + 1)) 667 = true := ib_n (by omega) (by omega)
  have j1 : ib (nI (67 + 10 * j + 1)) 667 = true := ib_n (by omega) (by omega)
  have ci0 : Int32.toNatClampNeg (nI (67 + 10 * i + 0)) = 67 + 10 * i + 0 := nI_clamp (by omega)
  have cj0 : Int32.toNatClampNeg (nI (67 + 10 * j + 0)) = 67 + 10 * j + 0 := nI_clamp (by omega)
  have ci1 : Int32.toNatClampNeg (nI (67 + 10 * i + 1)) = 67 + 10 * i + 1 := nI_clamp (by omega)
  have cj1 : Int32.toNatClampNeg (nI (67 + 10 * j + 1)) = 67 + 10 * j + 1 := nI_clamp (by omega)
  have h : fX8_isSooner N (nI i) (nI j) u = @ite _ (aSn l i j) (Classical.propDecidable _) (some 1) (some 0) := by
    unfold fX8_isSooner aSn
    simp only [qb1, i1, j1, if_true, ci1, cj1, a2, b2]
    by_cases e : (bAt l i).2.1 = (bAt l j).2.1
    · rw [if_pos (show nI ((bAt l i).2.1 - 1) = nI ((bAt l j).2.1 - 1) by rw [e])]
      simp only [qb0, i0, j0, if_true, ci0, cj0, a1, b1]
      by_cases q : (bAt l i).1 = (bAt l j).1
      · rw [if_pos (show nI (bAt l i).1 = nI (bAt l j).1 by rw [q])]
        by_cases w : j ≤ i
        · rw [if_pos (nI_le w (by omega)), if_neg (by omega)]
        · rw [if_neg (nI_ge (by omega) (by omega)), if_pos (by omega)]
      · rw [if_neg (show ¬ nI (bAt l i).1 = nI (bAt l j).1 from fun w => q ((nI_eq (by omega) (by omega)).mp w))]
        by_cases w : (bAt l j).1 ≤ (bAt l i).1
        · rw [if_pos (nI_le w (by omega)), if_neg (by omega)]
        · rw [if_neg (nI_ge (by omega) (by omega)), if_pos (by omega)]
    · rw [if_neg (show ¬ nI ((bAt l i).2.1 - 1) = nI ((bAt l j).2.1 - 1) from fun w => e (by have := (nI_eq (by omega) (by omega)).mp w; omega))]
      by_cases w : (bAt l j).2.1 ≤ (bAt l i).2.1
      · rw [if_pos (nI_le (by omega) (by omega)), if_neg (by omega)]
      · rw [if_neg (nI_ge (by omega) (by omega)), if_pos (by omega)]
  exact ⟨fun q => by rw [h, if_pos q], fun q => by rw [h, if_neg q]⟩
theorem ah_7 {b : MM} {l : List BL} {j : Nat} {x1 : Int32} (hb : blC b l) (hR : bkR l) (hj : j < l.length) {N : Nat} (hN : 100 < N) (K : Int32 → Int32 → Option Int32) : fX0_placeOf_L21 N K x1 (nI j) b N (0 : Int32) (0 : Int32) = K (nI (aAh l j)) (nI l.length) := by
  have h60 := hb.1
  exact lp_sum (fun n acc i => fX0_placeOf_L21 N K x1 (nI j) b n acc i) K l.length (fun i => @ite Nat (aSn l i j) (Classical.propDecidable _) 1 0)
    (fun n acc => by
      show fX0_placeOf_L21 N K x1 (nI j) b (n + 1) acc (nI l.length) = _
      rw [fX0_placeOf_L21, hb.2.1, if_pos (nI_le (Nat.le_refl _) (by omega))])
    (fun n i acc hi => by
      have hE := isE_7 hb hR hi hj N
      show fX0_placeOf_L21 N K x1 (nI j) b (n + 1) acc (nI i) = _
      rw [fX0_placeOf_L21, hb.2.1, if_neg (nI_ge hi (by omega)), if_neg (show ¬ (60 : Int32) ≤ nI i from nI_ge (b := 60) (by omega) (by omega)), nI_1]
      by_cases e : aSn l i j
      · rw [hE.1 e, Option.bind_some, if_neg (show ¬ (1 : Int32) = 0 by decide), if_pos e]
        rfl
      · rw [hE.2 e, Option.bind_some, if_pos rfl, if_neg e]
        rfl) (by omega)
theorem ah_8 {u : MM} {l : List BL} {j : Nat} {x1 x2 : Int32} (hb : blM (u 16) l) (hR : bkR l) (hj : j < l.length) {N : Nat} (hN : 100 < N) (K : Int32 → Int32 → Option (Int32 × MM)) : fX8_block_L38 N K x1 x2 (nI j) u N (0 : Int32) (0 : Int32) = K (nI (aAh l j)) (nI l.length) := by
  have h60 := hb.1
  exact lp_sum (fun n acc i => fX8_block_L38 N K x1 x2 (nI j) u n acc i) K l.length (fun i => @ite Nat (aSn l i j) (Classical.propDecidable _) 1 0)
    (fun n acc => by
      show fX8_block_L38 N K x1 x2 (nI j) u (n + 1) acc (nI l.length) = _
      rw [fX8_block_L38, if_pos (show ib (3 : Int32) 667 = true by decide), show Int32.toNatClampNeg (3 : Int32) = 3 by decide, hb.2.1, if_pos (nI_le (Nat.le_refl _) (by omega))])
    (fun n i acc hi => by
      have hE := isE_8 hb hR hi hj N
      show fX8_block_L38 N K x1 x2 (nI j) u (n + 1) acc (nI i) = _
      rw [fX8_block_L38, if_pos (show ib (3 : Int32) 667 = true by decide), show Int32.toNatClampNeg (3 : Int32) = 3 by decide, hb.2.1, if_neg (nI_ge hi (by omega)), nI_1]
      by_cases e : aSn l i j
      · rw [hE.1 e, Option.bind_some, if_neg (show ¬ (1 : Int32) = 0 by decide), if_pos e]
        rfl
      · rw [hE.2 e, Option.bind_some, if_pos rfl, if_neg e]
        rfl) (by omega)
/-- what is told of a block -/
def aTd (C : Nat) (x : BL) (w : Nat) : Int32 := match w with
  | 0 => nI x.1
  | 1 => dueI x.2.1
  | 2 => nI x.2.2.1
  | 3 => nI (aCont C x)
  | _ => repI x.2.2.2.1
/-- the answer -/
def isBk (C : Nat) (l : List BL) (k w : Nat) (x : Int32) : Prop := (∃ p, p < l.length ∧ aAh l p = k ∧ (∀ q, q < p → aAh l q ≠ k) ∧ x = aTd C (bAt l p) w) ∨ ((∀ q, q < l.length → aAh l q ≠ k) ∧ x = nM9)
theorem bk_un {C : Nat} {l : List BL} {k w : Nat} {x y : Int32} (hx : isBk C l k w x) (hy : isBk C l k w y) : x = y := by
  rcases hx with ⟨i, a1, a2, a3, rfl⟩ | ⟨a1, rfl⟩
  · rcases hy with ⟨j, b1, b2, b3, rfl⟩ | ⟨b1, rfl⟩
    · rcases Nat.lt_trichotomy i j with q | q | q
      · exact absurd a2 (b3 i q)
      · rw [q]
      · exact absurd b2 (a3 j q)
    · exact absurd a2 (b1 i a1)
  · rcases hy with ⟨j, b1, b2, b3, rfl⟩ | ⟨b1, rfl⟩
    · exact absurd b2 (a1 j b1)
    · rfl
theorem plo_7 {b : MM} {l : List BL} {k : Nat} (hb : blC b l) (hR : bkR l) (hk : k < 2 ^ 31) {N : Nat} (hN : 100 < N) : (∃ p, p < l.length ∧ aAh l p = k ∧ (∀ q, q < p → aAh l q ≠ k) ∧ fX0_placeOf N (nI k) b = some (nI p)) ∨ ((∀ q, q < l.length → aAh l q ≠ k) ∧ fX0_placeOf N (nI k) b = some nM1) := by
  have h60 := hb.1
  unfold fX0_placeOf
  refine lp_any (fun n i (_ : Unit) => fX0_placeOf_L2 N (fun (x2_3 : Int32) => some (-1 : Int32)) (nI k) b n (nI i)) (fun res => (∃ p, p < l.length ∧ aAh l p = k ∧ (∀ q, q < p → aAh l q ≠ k) ∧ res = some (nI p)) ∨ ((∀ q, q < l.length → aAh l q ≠ k) ∧ res = some nM1)) l.length (fun i _ => ∀ q, q < i → aAh l q ≠ k) (fun n _ hq => ?_) (fun n i _ hi hq => ?_) l.length N 0 () (by omega) (by omega) (fun o ho => absurd ho (by omega))
  · right
    refine ⟨hq, ?_⟩
    show fX0_placeOf_L2 N _ (nI k) b (n + 1) (nI l.length) = _
    rw [fX0_placeOf_L2, hb.2.1, if_pos (nI_le (Nat.le_refl _) (by omega))]
    rfl
  · have hle := aAh_le l i
    have hpre : fX0_placeOf_L2 N (fun (x2_3 : Int32) => some (-1 : Int32)) (nI k) b (n + 1) (nI i) = if aAh l i = k then some (nI i) else fX0_placeOf_L2 N (fun (x2_3 : Int32) => some (-1 : Int32)) (nI k) b n (nI (i + 1)) := by
      rw [fX0_placeOf_L2, hb.2.1, if_neg (nI_ge hi (by omega)), if_neg (show ¬ (60 : Int32) ≤ nI i from nI_ge (b := 60) (by omega) (by omega)), ah_7 hb hR hi hN, nI_1]
      by_cases e : aAh l i = k
      · rw [if_pos (show nI (aAh l i) = nI k by rw [e]), if_pos e]
      · rw [if_neg (show ¬ nI (aAh l i) = nI k from fun w => e ((nI_eq (by omega) hk).mp w)), if_neg e]
    by_cases e : aAh l i = k
    · left
      left
      refine ⟨i, hi, e, hq, ?_⟩
      show fX0_placeOf_L2 N _ (nI k) b (n + 1) (nI i) = _
      rw [hpre, if_pos e]
    · right
      refine ⟨(), fun q hq' => ?_, ?_⟩
      · by_cases w : q = i
        · rw [w]; exact e
        · exact hq q (by omega)
      · show fX0_placeOf_L2 N _ (nI k) b (n + 1) (nI i) = _
        rw [hpre, if_neg e]
theorem told_7 {b : MM} {S : RW} {l : List BL} {p w : Nat} (hS : suR S) (hb : blC b l) (hp : p < l.length) (h1 : ∀ c, S 1 0 ≤ c → (bAt l p).2.2.2.2 c = 0) (h2 : (bAt l p).2.2.2.1 ≤ 6000) (hw : w ≤ 4) {N : Nat} (hN : 100 < N) : fX0_told N (nI p) (nI w) b = some (aTd (S 1 0) (bAt l p) w) := by
  have h60 := hb.1
  have hC := hS.2.1
  obtain ⟨b1, b2, b3, b4, b5⟩ := blC_at hb hp
  have hib : ib (nI p) 60 = true := ib_n (by omega) (by omega)
  have hcon : fX0_content N (nI p) b = some (nI (aCont (S 1 0) (bAt l p))) := by
    rw [con_7 (rp := (bAt l p).2.2.2.1) (by omega) b5 b4 (by omega) hN, tot_6 hC h1]
    rfl
  unfold fX0_told
  rw [if_neg (nI_pos (by omega)), if_pos (show nI p < (60 : Int32) from nI_lt (b := 60) (by omega) (by omega)), if_pos hib, if_pos hib, if_pos hib, if_pos hib, nI_clamp (n := p) (by omega), b1, b2, b3, b4, hcon, Option.bind_some]
  have hw5 : w = 0 ∨ w = 1 ∨ w = 2 ∨ w = 3 ∨ w = 4 := by omega
  rcases hw5 with rfl | rfl | rfl | rfl | rfl
  · rw [if_pos (show nI 0 = (0 : Int32) from rfl)]
    rfl
  · rw [if_neg (show ¬ nI 1 = (0 : Int32) by decide), if_pos (show nI 1 = (1 : Int32) from rfl)]
    rfl
  · rw [if_neg (show ¬ nI 2 = (0 : Int32) by decide), if_neg (show ¬ nI 2 = (1 : Int32) by decide), if_pos (show nI 2 = (2 : Int32) from rfl)]
    rfl
  · rw [if_neg (show ¬ nI 3 = (0 : Int32) by decide), if_neg (show ¬ nI 3 = (1 : Int32) by decide), if_neg (show ¬ nI 3 = (2 : Int32) by decide), if_pos (show nI 3 = (3 : Int32) from rfl)]
    rfl
  · rw [if_neg (show ¬ nI 4 = (0 : Int32) by decide), if_neg (show ¬ nI 4 = (1 : Int32) by decide), if_neg (show ¬ nI 4 = (2 : Int32) by decide), if_neg (show ¬ nI 4 = (3 : Int32) by decide)]
    rfl
theorem bl_8 {u : MM} {S : RW} {l : List BL} {k w : Nat} {X : Int32 × MM} (hS : suR S) (hM : suM u S) (hb : blM (u 16) l) (hR : bkR l) (h1 : ∀ p, p < l.length → ∀ c, S 1 0 ≤ c → (bAt l p).2.2.2.2 c = 0) (h2 : ∀ p, p < l.length → (bAt l p).2.2.2.1 ≤ 6000) (hk : k < 2 ^ 31) (hw : w ≤ 4) {N : Nat} (hN : 100 < N) : (∃ p, p < l.length ∧ aAh l p = k ∧ (∀ q, q < p → aAh l q ≠ k) ∧ fX8_block_L22 N (fun (x3_7 : Int32) => some X) (nI k) (nI w) u N (0 : Int32) = some (aTd (S 1 0) (bAt l p) w, u)) ∨ ((∀ q, q < l.length → aAh l q ≠ k) ∧ fX8_block_L22 N (fun (x3_7 : Int32) => some X) (nI k) (nI w) u N (0 : Int32) = some X) := by
  have h60 := hb.1
  have hC := hS.2.1
  refine lp_any (fun n i (_ : Unit) => fX8_block_L22 N (fun (x3_7 : Int32) => some X) (nI k) (nI w) u n (nI i)) (fun res => (∃ p, p < l.length ∧ aAh l p = k ∧ (∀ q, q < p → aAh l q ≠ k) ∧ res = some (aTd (S 1 0) (bAt l p) w, u)) ∨ ((∀ q, q < l.length → aAh l q ≠ k) ∧ res = some X)) l.length (fun i _ => ∀ q, q < i → aAh l q ≠ k) (fun n _ hq => ?_) (fun n i _ hi hq => ?_) l.length N 0 () (by omega) (by omega) (fun o ho => absurd ho (by omega))
  · right
    refine ⟨hq, ?_⟩
    show fX8_block_L22 N _ (nI k) (nI w) u (n + 1) (nI l.length) = _
    rw [fX8_block_L22, if_pos (show ib (3 : Int32) 667 = true by decide), show Int32.toNatClampNeg (3 : Int32) = 3 by decide, hb.2.1, if_pos (nI_le (Nat.le_refl _) (by omega))]
  · have hle := aAh_le l i
    obtain ⟨b1, b2, b3, b4, b5⟩ := blM_at hb hi
    have b1 : u 16 (67 + 10 * i + 0) = nI (bAt l i).1 := b1
    have hcon : fX8_inBlock N (nI i) u = some (nI (aCont (S 1 0) (bAt l i))) := inb_8 hC hM.2.1 (by omega) b5 b4 (by have := h2 i hi; omega) hN
    have hpre : fX8_block_L22 N (fun (x3_7 : Int32) => some X) (nI k) (nI w) u (n + 1) (nI i) = if aAh l i = k then some (aTd (S 1 0) (bAt l i) w, u) else fX8_block_L22 N (fun (x3_7 : Int32) => some X) (nI k) (nI w) u n (nI (i + 1)) := by
      rw [fX8_block_L22, if_pos (show ib (3 : Int32) 667 = true by decide), show Int32.toNatClampNeg (3 : Int32) = 3 by decide, hb.2.1, if_neg (nI_ge hi (by omega)), ah_8 hb hR hi hN, nI_1]
      by_cases e : aAh l i = k
      · rw [if_pos (show nI (aAh l i) = nI k by rw [e]), if_pos e]
        have hw5 : w = 0 ∨ w = 1 ∨ w = 2 ∨ w = 3 ∨ w = 4 := by omega
        rcases hw5 with rfl | rfl | rfl | rfl | rfl
        · rw [if_neg (show ¬ (3 : Int32) ≤ nI 0 by decide), qbn, if_pos (ib_n (by omega) (by omega)), nI_clamp (by omega), b1]
          rfl
        · rw [if_neg (show ¬ (3 : Int32) ≤ nI 1 by decide), qbn, if_pos (ib_n (by omega) (by omega)), nI_clamp (by omega), b2]
          rfl
        · rw [if_neg (show ¬ (3 : Int32) ≤ nI 2 by decide), qbn, if_pos (ib_n (by omega) (by omega)), nI_clamp (by omega), b3]
          rfl
        · rw [if_pos (show (3 : Int32) ≤ nI 3 by decide), if_pos (show nI 3 = (3 : Int32) from rfl), hcon]
          rfl
        · rw [if_pos (show (3 : Int32) ≤ nI 4 by decide), if_neg (show ¬ nI 4 = (3 : Int32) by decide), qb3, if_pos (ib_n (by omega) (by omega)), nI_clamp (by omega), b4]
          rfl
      · rw [if_neg (show ¬ nI (aAh l i) = nI k from fun w => e ((nI_eq (by omega) hk).mp w)), if_neg e]
    by_cases e : aAh l i = k
    · left
      left
      refine ⟨i, hi, e, hq, ?_⟩
      show fX8_block_L22 N _ (nI k) (nI w) u (n + 1) (nI i) = _
      rw [hpre, if_pos e]
    · right
      refine ⟨(), fun q hq' => ?_, ?_⟩
      · by_cases w : q = i
        · rw [w]; exact e
        · exact hq q (by omega)
      · show fX8_block_L22 N _ (nI k) (nI w) u (n + 1) (nI i) = _
        rw [hpre, if_neg e]
theorem sm_block (x1 x2 : Int32) (cv : Nat → MM) (u : MM) (h : RR cv u) : ∃ (y : Int32) (z : Int32 × MM), fX7_block NF x1 x2 (cv 4) (cv 5) (cv 0) = some y ∧ fX8_block NF x1 x2 u = some z ∧ y = z.1 ∧ RR cv z.2 := by
  have hR := h
  obtain ⟨ht, hs, S, sR, sC, sM, h0, hh, h1, h2⟩ := id h
  obtain ⟨z, z1, z2, z3, z4⟩ := id h0
  unfold fX7_block fX8_block
  by_cases hn : x1 < 0
  · rw [if_pos hn, if_pos hn]
    exact ⟨_, _, rfl, rfl, rfl, hR⟩
  · rw [if_neg hn, if_neg hn, in_eq]
    obtain ⟨k, hk, rfl⟩ := nI_of hn
    rcases in_01 (x := x2) (A := 0) (B := 4) (a := 0) (b := 4) rfl rfl (by omega) (by omega) NF with e | ⟨e, w, -, hw, rfl⟩
    · rw [e]
      exact ⟨_, _, rfl, rfl, rfl, hR⟩
    · rw [e, Option.bind_some, Option.bind_some, if_neg (show ¬ (1 : Int32) = 0 by decide), if_neg (show ¬ (1 : Int32) = 0 by decide)]
      have hbR := bkR_of sR z3
      have g1 : ∀ p, p < z.2.length → ∀ c, S 1 0 ≤ c → (bAt z.2 p).2.2.2.2 c = 0 := fun p hp => (z3.2.1 _ (List.mem_of_getElem? (bAt_some hp))).2.2.2.2.2.2.2.1
      have g2 : ∀ p, p < z.2.length → (bAt z.2 p).2.2.2.1 ≤ 6000 := fun p hp => (z3.2.1 _ (List.mem_of_getElem? (bAt_some hp))).2.2.2.2.2.2.1
      have u16 : (st u 0 (fun _ => (0 : Int32))) 16 = u 16 := st_ne (by omega)
      have h8 := bl_8 (u := st u 0 (fun _ => (0 : Int32))) (l := z.2) (k := k) (w := w) (X := ((-9 : Int32), (st u 0 (fun _ => (0 : Int32))))) (N := NF) sR (suM_c sM (fun j j1 j2 => st_ne (by omega))) (by rw [u16]; exact z2.2) hbR g1 g2 hk hw (by decide)
      rcases plo_7 (N := NF) z1.2 hbR hk (by decide) with ⟨p, p1, p2, p3, p4⟩ | ⟨p1, p2⟩
      · have h60 := z1.2.1
        rw [p4, Option.bind_some, if_pos (nI_pos' (by omega)), told_7 sR z1.2 p1 (g1 p p1) (g2 p p1) hw (by decide), Option.bind_some]
        rcases h8 with ⟨q, q1, q2, q3, q4⟩ | ⟨q1, q2⟩
        · rw [q4]
          exact ⟨_, _, rfl, rfl, bk_un (C := S 1 0) (l := z.2) (k := k) (w := w) (Or.inl ⟨p, p1, p2, p3, rfl⟩) (Or.inl ⟨q, q1, q2, q3, rfl⟩), hR⟩
        · exact absurd p2 (q1 p p1)
      · rw [p2, Option.bind_some, if_neg (show ¬ (0 : Int32) ≤ nM1 by decide)]
        rcases h8 with ⟨q, q1, q2, q3, q4⟩ | ⟨q1, q2⟩
        · exact absurd q2 (p1 q q1)
        · rw [q2]
          exact ⟨_, _, rfl, rfl, rfl, hR⟩
