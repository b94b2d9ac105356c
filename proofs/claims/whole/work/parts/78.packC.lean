/-! the class: a block opened, filled, sent -/
theorem set_last (l : List BL) (x y : BL) : (l ++ [x]).set l.length y = l ++ [y] := by
  rw [List.set_append_right _ _ (Nat.le_refl _), Nat.sub_self]
  rfl
theorem bAt_last (l : List BL) (x : BL) : bAt (l ++ [x]) l.length = x := by
  unfold bAt
  rw [List.getD_eq_getElem?_getD, List.getElem?_append_right (Nat.le_refl _), Nat.sub_self]
  rfl
theorem blC_last {b b' : MM} {l : List BL} {x y : BL} (h : blC b (l ++ [x])) (h0 : b' 0 0 = b 0 0) (ho : ∀ j z, j < 60 → j ≠ l.length → bkC b j z → bkC b' j z) (hn : bkC b' l.length y) : blC b' (l ++ [y]) := by
  have h2 := blC_put (k := l.length) (x := y) h (by rw [List.length_append]; show l.length < l.length + 1; omega) h0 ho hn
  rw [set_last] at h2
  exact h2
theorem len_last (l : List BL) (x : BL) : (l ++ [x]).length = l.length + 1 := by
  rw [List.length_append]
  rfl
theorem blC_atl {b : MM} {l : List BL} {x : BL} (h : blC b (l ++ [x])) : bkC b l.length x := by
  have h2 := blC_at (k := l.length) h (by rw [len_last]; omega)
  rw [bAt_last] at h2
  exact h2
theorem opn_7 {b : MM} {l : List BL} (h : blC b l) (h60 : l.length < 60) (t : Nat) {N : Nat} (hN : 100 < N) : ∃ y, fX0_open N (nI t) b = some (nI l.length, y) ∧ blC y (l ++ [(t, 0, 0, 0, fun _ => 0)]) := by
  obtain ⟨-, h0, h1⟩ := h
  obtain ⟨B, hB⟩ : ∃ B, B = st (st (st (st b 1 (upd (b 1) l.length (nI t))) 2 (upd (b 2) l.length nM1)) 3 (upd (b 3) l.length (nI 0))) 4 (upd (b 4) l.length nM9) := ⟨_, rfl⟩
  have e6 : ∀ n c : Nat, nI n * (6 : Int32) + nI c = nI (6 * n + c) := fun n c => by rw [show nI n * (6 : Int32) = nI (n * 6) from pk_mul n 6, nI_add, Nat.mul_comm]
  obtain ⟨y, ⟨y1, y2, y3⟩, e⟩ := lp_run (fun n i (q : MM) => fX0_open_L54 N (fun (_ : Int32) (v : MM) => some (nI l.length, (st v 0 (fun _ => ((v 0 0) + (1 : Int32)))))) (nI t) (nI l.length) n (nI i) q) (fun v => some (nI l.length, (st v 0 (fun _ => ((v 0 0) + (1 : Int32)))))) 6 (fun i q => (∀ k, k ≠ 5 → q k = B k) ∧ (∀ c, c < i → q 5 (6 * l.length + c) = nI 0) ∧ ∀ j, j < 6 * l.length → q 5 j = b 5 j)
    (fun n q hq => by
      show fX0_open_L54 N _ (nI t) (nI l.length) (n + 1) (nI 6) q = _
      rw [fX0_open_L54, if_pos (show (6 : Int32) ≤ nI 6 by decide)])
    (fun n i q hi hq => by
      refine ⟨st q 5 (upd (q 5) (6 * l.length + i) (nI 0)), ⟨fun k hk => ?_, fun c hc => ?_, fun j hj => ?_⟩, ?_⟩
      · rw [st_ne (Ne.symm hk)]
        exact hq.1 k hk
      · rw [st_eq]
        by_cases e : c = i
        · rw [e, upd_eq]
        · rw [upd_ne (by omega)]
          exact hq.2.1 c (by omega)
      · rw [st_eq, upd_ne (by omega)]
        exact hq.2.2 j hj
      · show fX0_open_L54 N _ (nI t) (nI l.length) (n + 1) (nI i) q = _
        rw [fX0_open_L54, if_neg (show ¬ (6 : Int32) ≤ nI i from nI_ge (b := 6) hi (by omega)), e6, if_pos (ib_n (by omega) (by omega)), nI_clamp (by omega), nI_1]
        rfl) 6 N 0 B (by omega) (by omega) ⟨fun _ _ => rfl, fun c hc => absurd hc (by omega), fun j _ => by rw [hB, st_ne (by omega), st_ne (by omega), st_ne (by omega), st_ne (by omega)]⟩
  refine ⟨st y 0 (fun _ => ((y 0 0) + (1 : Int32))), ?_, ?_⟩
  · unfold fX0_open
    rw [h0, if_neg (nI_pos (by omega)), if_pos (show nI l.length < (60 : Int32) from nI_lt (b := 60) h60 (by omega)), if_pos (ib_n h60 (by omega)), if_pos (ib_n h60 (by omega)), if_pos (ib_n h60 (by omega)), if_pos (ib_n h60 (by omega)), nI_clamp (by omega)]
    rw [hB] at e
    exact e
  · refine ⟨by rw [len_last]; omega, ?_, fun k x hk => ?_⟩
    · rw [st_eq, y1 0 (by omega), hB, st_ne (by omega), st_ne (by omega), st_ne (by omega), st_ne (by omega), h0, nI_1, len_last]
    · rw [st_ne (by omega), st_ne (by omega), st_ne (by omega), st_ne (by omega), st_ne (by omega), y1 1 (by omega), y1 2 (by omega), y1 3 (by omega), y1 4 (by omega), hB]
      rw [st_ne (k := 4) (q := 1) (by omega), st_ne (k := 3) (q := 1) (by omega), st_ne (k := 2) (q := 1) (by omega), st_eq, st_ne (k := 4) (q := 2) (by omega), st_ne (k := 3) (q := 2) (by omega), st_eq, st_ne (k := 4) (q := 3) (by omega), st_eq, st_eq]
      by_cases hl : k < l.length
      · rw [List.getElem?_append_left hl] at hk
        obtain ⟨a1, a2, a3, a4, a5⟩ := h1 k x hk
        refine ⟨?_, ?_, ?_, ?_, fun c hc => ?_⟩
        · rw [upd_ne (by omega)]; exact a1
        · rw [upd_ne (by omega)]; exact a2
        · rw [upd_ne (by omega)]; exact a3
        · rw [upd_ne (by omega)]; exact a4
        · rw [y3 _ (by omega)]; exact a5 c hc
      · have hlt := (List.getElem?_eq_some_iff.mp hk).1
        rw [len_last] at hlt
        have hkl : k = l.length := by omega
        subst hkl
        rw [List.getElem?_append_right (Nat.le_refl _), Nat.sub_self] at hk
        cases hk
        exact ⟨upd_eq _ _ _, upd_eq _ _ _, upd_eq _ _ _, upd_eq _ _ _, fun c hc => y2 c hc⟩
def putL (x : Nat → Nat) (c m : Nat) : Nat → Nat := fun e => if e = c then x e + m else x e
theorem put_7 {b : MM} {l : List BL} {x1 x2 x3 x4 c m : Nat} {lt : Nat → Nat} (h : blC b (l ++ [(x1, x2, x3, x4, lt)])) (hc : c < 6) (N : Nat) : ∃ y, fX0_putLetters N (nI l.length) (nI c) (nI m) b = some y ∧ blC y (l ++ [(x1, x2, x3, x4, putL lt c m)]) := by
  have hk := h.1
  rw [len_last] at hk
  obtain ⟨b1, b2, b3, b4, b5⟩ := blC_atl h
  have h5 := b5 c hc
  dsimp only at b1 b2 b3 b4 b5 h5
  refine ⟨st b 5 (upd (b 5) (6 * l.length + c) (nI (lt c + m))), ?_, blC_last h ?_ (fun j z hj hne hz => ?_) ⟨?_, ?_, ?_, ?_, fun e he => ?_⟩⟩
  · unfold fX0_putLetters
    have e1 : l.length * 6 + c = 6 * l.length + c := by omega
    simp (disch := omega) only [↓reduceIte, ↓m9, ↓m1, li0, li1, li2, li3, li4, li5, li6, li8, li9, li10, li13, li20, li24, li30, li31, li40, li43, li60, li67, li99, li100, li199, li360, li667, li999, nI_add, pk_mul, pk_sub, nI_le, nI_ge, nI_lt, nI_nlt, nE, nN, n9, n9s, n1s, ib_n, nI_clamp, Option.bind_some, st_eq, st_ne, st_st, upd_eq, upd_ne, eq_self, not_false_eq_true, not_true_eq_false, e1, h5]
  · rw [st_ne (by omega)]
  · obtain ⟨z1, z2, z3, z4, z5⟩ := hz
    refine ⟨?_, ?_, ?_, ?_, fun e he => ?_⟩
    · rw [st_ne (by omega)]; exact z1
    · rw [st_ne (by omega)]; exact z2
    · rw [st_ne (by omega)]; exact z3
    · rw [st_ne (by omega)]; exact z4
    · rw [st_eq, upd_ne (by omega)]; exact z5 e he
  · rw [st_ne (by omega)]; exact b1
  · rw [st_ne (by omega)]; exact b2
  · rw [st_ne (by omega)]; exact b3
  · rw [st_ne (by omega)]; exact b4
  · rw [st_eq]
    show upd (b 5) (6 * l.length + c) _ (6 * l.length + e) = nI (if e = c then lt e + m else lt e)
    by_cases q : e = c
    · subst q
      rw [upd_eq, if_pos rfl]
    · rw [upd_ne (by omega), if_neg q]
      exact b5 e he
/-- the class while it fills the block behind l -/
def flC (l : List BL) (t : Nat) (q : Int32 × MM × MM) (s : FL) : Prop := q.1 = nI s.1 ∧ rwC q.2.1 s.2.1 ∧ blC q.2.2 (l ++ [(t, 0, 0, 0, s.2.2)])
theorem fl1_7 {v w : MM} {S : RW} {l : List BL} {t p c g : Nat} {bt : Bool} {s : FL} {q : Int32 × MM × MM} (hS : suR S) (hv : suC v S) (hg : g ≤ 60) (ht : t < 3) (hp : p ≤ 9) (hc : c < S 1 0) (hq : flC l t q s) (hi : flI S g s) {N : Nat} (K : Int32 → Int32 → MM → MM → Option (Int32 × MM × MM)) (x3 : Int32) (n : Nat) : ∃ q', flC l t q' (if S 7 c = t ∧ S 8 c = p then aFill1 bt c s else s) ∧ fX5_packLetters_L16 N K (nI t) (nI l.length) x3 (nI bt.toNat) (nI p) v w (n + 1) q.1 (nI c) q.2.1 q.2.2 = fX5_packLetters_L16 N K (nI t) (nI l.length) x3 (nI bt.toNat) (nI p) v w n q'.1 (nI (c + 1)) q'.2.1 q'.2.2 := by
  obtain ⟨q1, q2, q3⟩ := hq
  obtain ⟨i1, i2, i3⟩ := hi
  have hC6 := hS.2.1
  have hT3 := hS.1
  have hb := hS.2.2.2.2.2.2 c hc
  have v7 := hv.2.2.2.2.2.2 7 c (by omega) (by omega) hc
  have v8 := hv.2.2.2.2.2.2 8 c (by omega) (by omega) hc
  have t9 := q2.2.2.2.2.1 9 c (by omega) (by omega) (by omega)
  have t10 := q2.2.2.2.2.1 10 c (by omega) (by omega) (by omega)
  have hw := i1.2.2.2.2.1 c hc
  obtain ⟨F, R, lt⟩ := s
  obtain ⟨x5, a, b⟩ := q
  dsimp only at q1 q2 q3 t9 t10 hw i1 i2
  subst q1
  by_cases e1 : S 7 c = t
  · by_cases e2 : S 8 c = p
    · rw [if_pos ⟨e1, e2⟩]
      cases bt
      · obtain ⟨y, y1, y2⟩ := put_7 (m := min (R 9 c) F) (c := c) q3 (by omega) N
        refine ⟨(nI (F - min (R 9 c) F), st a 9 (upd (a 9) c (nI (R 9 c - min (R 9 c) F))), y), ⟨rfl, rwC_up q2 (k := 9) (t := c) (by omega), y2⟩, ?_⟩
        dsimp only
        rw [fX5_packLetters_L16]
        simp (disch := omega) only [↓reduceIte, ↓m9, ↓m1, li0, li1, li2, li3, li4, li5, li6, li8, li9, li10, li13, li20, li24, li30, li31, li40, li43, li60, li67, li99, li100, li199, li360, li667, li999, nI_add, pk_mul, pk_sub, nI_le, nI_ge, nI_lt, nI_nlt, nE, nN, n9, n9s, n1s, ib_n, nI_clamp, Option.bind_some, st_eq, st_ne, st_st, upd_eq, upd_ne, eq_self, not_false_eq_true, not_true_eq_false, hv.2.1, v7, v8, t9, mn_nI, y1, Bool.toNat_false]
      · obtain ⟨y, y1, y2⟩ := put_7 (m := min (min (R 9 c) F) (R 10 c)) (c := c) q3 (by omega) N
        have c2 := rwC_up (rwC_up q2 (k := 10) (t := c) (x := R 10 c - min (min (R 9 c) F) (R 10 c)) (by omega)) (k := 9) (t := c) (x := R 9 c - min (min (R 9 c) F) (R 10 c)) (by omega)
        rw [st_ne (v := a) (by omega)] at c2
        refine ⟨(nI (F - min (min (R 9 c) F) (R 10 c)), st (st a 10 (upd (a 10) c (nI (R 10 c - min (min (R 9 c) F) (R 10 c))))) 9 (upd (a 9) c (nI (R 9 c - min (min (R 9 c) F) (R 10 c)))), y), ⟨rfl, c2, y2⟩, ?_⟩
        dsimp only
        rw [fX5_packLetters_L16]
        simp (disch := omega) only [↓reduceIte, ↓m9, ↓m1, li0, li1, li2, li3, li4, li5, li6, li8, li9, li10, li13, li20, li24, li30, li31, li40, li43, li60, li67, li99, li100, li199, li360, li667, li999, nI_add, pk_mul, pk_sub, nI_le, nI_ge, nI_lt, nI_nlt, nE, nN, n9, n9s, n1s, ib_n, nI_clamp, Option.bind_some, st_eq, st_ne, st_st, upd_eq, upd_ne, eq_self, not_false_eq_true, not_true_eq_false, hv.2.1, v7, v8, t9, t10, mn_nI, y1, Bool.toNat_true]
    · rw [if_neg (fun q => e2 q.2)]
      refine ⟨(nI F, a, b), ⟨rfl, q2, q3⟩, ?_⟩
      dsimp only
      rw [fX5_packLetters_L16]
      simp (disch := omega) only [↓reduceIte, ↓m9, ↓m1, li0, li1, li2, li3, li4, li5, li6, li8, li9, li10, li13, li20, li24, li30, li31, li40, li43, li60, li67, li99, li100, li199, li360, li667, li999, nI_add, pk_mul, pk_sub, nI_le, nI_ge, nI_lt, nI_nlt, nE, nN, n9, n9s, n1s, ib_n, nI_clamp, Option.bind_some, st_eq, st_ne, st_st, upd_eq, upd_ne, eq_self, not_false_eq_true, not_true_eq_false, hv.2.1, v7, v8]
  · rw [if_neg (fun q => e1 q.1)]
    refine ⟨(nI F, a, b), ⟨rfl, q2, q3⟩, ?_⟩
    dsimp only
    rw [fX5_packLetters_L16]
    simp (disch := omega) only [↓reduceIte, ↓m9, ↓m1, li0, li1, li2, li3, li4, li5, li6, li8, li9, li10, li13, li20, li24, li30, li31, li40, li43, li60, li67, li99, li100, li199, li360, li667, li999, nI_add, pk_mul, pk_sub, nI_le, nI_ge, nI_lt, nI_nlt, nE, nN, n9, n9s, n1s, ib_n, nI_clamp, Option.bind_some, st_eq, st_ne, st_st, upd_eq, upd_ne, eq_self, not_false_eq_true, not_true_eq_false, hv.2.1, v7]
theorem fl_next {S : RW} {t p c : Nat} {bt : Bool} {s : FL} (hc : c < S 1 0) : itN (aFillK S t bt) (aRank S t p (c + 1)) s = (if S 7 c = t ∧ S 8 c = p then aFill1 bt c (itN (aFillK S t bt) (aRank S t p c) s) else itN (aFillK S t bt) (aRank S t p c) s) := by
  by_cases e : S 7 c = t ∧ S 8 c = p
  · rw [if_pos e, ← e.2, rk_in hc e.1]
    show aFillK S t bt (aRank S t (S 8 c) c) _ = _
    unfold aFillK
    rw [aAt_in hc e.1, if_pos hc]
  · rw [if_neg e, rk_out e]
theorem flp_7 {v w : MM} {S : RW} {l : List BL} {t p g : Nat} {bt : Bool} {s : FL} {q : Int32 × MM × MM} (hS : suR S) (hv : suC v S) (hg : g ≤ 60) (ht : t < 3) (hp : p ≤ 9) (hq : flC l t q (itN (aFillK S t bt) (aRank S t p 0) s)) (hi : flI S g s) {N : Nat} (hN : 100 < N) (K : Int32 → Int32 → MM → MM → Option (Int32 × MM × MM)) (x3 : Int32) : ∃ q', flC l t q' (itN (aFillK S t bt) (aRank S t (p + 1) 0) s) ∧ fX5_packLetters_L16 N K (nI t) (nI l.length) x3 (nI bt.toNat) (nI p) v w N q.1 (0 : Int32) q.2.1 q.2.2 = K q'.1 (nI (S 1 0)) q'.2.1 q'.2.2 := by
  have hC6 := hS.2.1
  obtain ⟨y, y1, e⟩ := lp_run (fun n i (q : Int32 × MM × MM) => fX5_packLetters_L16 N K (nI t) (nI l.length) x3 (nI bt.toNat) (nI p) v w n q.1 (nI i) q.2.1 q.2.2) (fun q => K q.1 (nI (S 1 0)) q.2.1 q.2.2) (S 1 0) (fun i q => flC l t q (itN (aFillK S t bt) (aRank S t p i) s))
    (fun n q hq => by
      show fX5_packLetters_L16 N K (nI t) (nI l.length) x3 (nI bt.toNat) (nI p) v w (n + 1) q.1 (nI (S 1 0)) q.2.1 q.2.2 = _
      rw [fX5_packLetters_L16, hv.2.1, if_pos (nI_le (Nat.le_refl _) (by omega))])
    (fun n i q hi' hq => by
      rw [fl_next hi']
      exact fl1_7 hS hv hg ht hp hi' hq (fillN_I hi) K x3 n) (S 1 0) N 0 q (by omega) (by omega) hq
  rw [rk_wrap]
  exact ⟨y, y1, e⟩
theorem fl_7 {v w : MM} {S : RW} {l : List BL} {t g : Nat} {bt : Bool} {s : FL} {a b : MM} (hS : suR S) (hv : suC v S) (hg : g ≤ 60) (ht : t < 3) (hq : flC l t (nI s.1, a, b) s) (hi : flI S g s) {N : Nat} (hN : 100 < N) : ∃ y, fX5_packLetters N (nI t) (nI l.length) (nI s.1) (nI bt.toNat) v a b w = some y ∧ flC l t y (aFill S t bt s) := by
  unfold fX5_packLetters
  obtain ⟨y, y1, e⟩ := lp_run (fun n i (q : Int32 × MM × MM) => fX5_packLetters_L6 N (fun (x5 : Int32) (_ : Int32) (v1 : MM) (v2 : MM) => some (x5, v1, v2)) (nI t) (nI l.length) (nI s.1) (nI bt.toNat) v w n q.1 (nI i) q.2.1 q.2.2) (fun q => some q) 10 (fun i q => flC l t q (itN (aFillK S t bt) (aRank S t i 0) s))
    (fun n q hq => by
      show fX5_packLetters_L6 N _ (nI t) (nI l.length) (nI s.1) (nI bt.toNat) v w (n + 1) q.1 (nI 10) q.2.1 q.2.2 = _
      rw [fX5_packLetters_L6, if_pos (show (9 : Int32) < nI 10 by decide)])
    (fun n i q hi' hq => by
      obtain ⟨q', h1, h2⟩ := flp_7 (w := w) (p := i) hS hv hg ht (by omega) hq hi hN (fun (x5_3 : Int32) (_ : Int32) (v1_3 : MM) (v2_3 : MM) => fX5_packLetters_L6 N (fun (x5 : Int32) (_ : Int32) (v1 : MM) (v2 : MM) => some (x5, v1, v2)) (nI t) (nI l.length) (nI s.1) (nI bt.toNat) v w n x5_3 (nI i + 1) v1_3 v2_3) (nI s.1)
      refine ⟨q', h1, ?_⟩
      show fX5_packLetters_L6 N _ (nI t) (nI l.length) (nI s.1) (nI bt.toNat) v w (n + 1) q.1 (nI i) q.2.1 q.2.2 = _
      rw [fX5_packLetters_L6, if_neg (show ¬ (9 : Int32) < nI i from nI_nlt (a := 9) (b := i) (by omega) (by omega)), h2, nI_1]) 10 N 0 (nI s.1, a, b) (by omega) (by omega) (by rw [rk_0]; exact hq)
  rw [aFill_top hS]
  exact ⟨y, e, y1⟩
