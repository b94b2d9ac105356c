/-! the class: a grant packed and sent, the grants of a step, gone blocks dropped -/
theorem wt_le {S r : RW} {t : Nat} (hS : suR S) (h : rwI S r) : sWt S r t ≤ 5994 := by
  have hC := hS.2.1
  have h1 := smN_le (f := fun c => if S 7 c = t then r 9 c else 0) (m := 999) (S 1 0) (fun c hc => by
    have := (h.2.2.2.2.1 c hc).1
    show (if S 7 c = t then r 9 c else 0) ≤ 999
    split <;> omega)
  have h2 : S 1 0 * 999 ≤ 6 * 999 := Nat.mul_le_mul_right 999 hC
  exact Nat.le_trans h1 (by omega)
theorem tail_7 {v a b w : MM} {S R : RW} {l : List BL} {B : BL} (hS : suR S) (hv : suC v S) (ha : rwC a R) (hI : rwI S R) (hb : blC b (l ++ [B])) (ho : okS S B) {N : Nat} (hN : 100 < N) : ∃ y, ((fX0_content N (nI l.length) b).bind (fun y12 => (if y12 ≤ 0 then some (a, b) else ((fX5_send N (nI l.length) (nI B.1) v a b w).bind (fun y13 => some (y13.1, y13.2)))))) = some y ∧ rwC y.1 (if aCont (S 1 0) B = 0 then R else aSendR S R B) ∧ blC y.2 (l ++ [if aCont (S 1 0) B = 0 then B else aSendB S R B]) := by
  have hk := hb.1
  rw [len_last] at hk
  have hbk := blC_atl hb
  have htot := tot_6 hS.2.1 ho.2.2.2.1
  have h45 := ho.2.2.2.2
  have h3 := ho.2.2.1
  have hcon := con_7 (rp := B.2.2.2.1) (by omega) hbk.2.2.2.2 hbk.2.2.2.1 (by omega) hN (k := l.length)
  have hcon : fX0_content N (nI l.length) b = some (nI (aCont (S 1 0) B)) := by rw [hcon, htot]; rfl
  have hco : aCont (S 1 0) B ≤ 62 := by
    show aTot (S 1 0) B.2.2.2.2 + (if B.2.2.2.1 = 0 then 0 else 2) ≤ 62
    split <;> omega
  rw [hcon, Option.bind_some]
  by_cases e : aCont (S 1 0) B = 0
  · rw [e, if_pos rfl, if_pos rfl, if_pos (show nI 0 ≤ (0 : Int32) by decide)]
    exact ⟨_, rfl, ha, hb⟩
  · obtain ⟨y, y1, y2, y3⟩ := send_7 (w := w) (k := l.length) hS hv ha hI.1 (fun t ht => (hI.2.2.2.1 t ht).2.2.2) hb (by rw [len_last]; omega) (bAt_last l B).symm ho hN
    rw [set_last] at y3
    rw [if_neg e, if_neg e, if_neg (show ¬ nI (aCont (S 1 0) B) ≤ (0 : Int32) from nI_nle (by omega) (by omega)), y1, Option.bind_some]
    exact ⟨_, rfl, y2, y3⟩
/-- a block filled, and what it says -/
def bkF (S : RW) (t : Nat) (s : FL) : BL := (t, 0, 0, sWt S s.2.1 t + 1, s.2.2)
theorem bkF_ok {S : RW} {t g x : Nat} {s : FL} (hS : suR S) (ht : t < S 0 0) (hg : g ≤ 60) (hi : flI S g s) (hx : x ≤ 6000) : okS S (t, 0, 0, x, s.2.2) := by
  obtain ⟨i1, i2, i3⟩ := hi
  exact ⟨ht, by show 0 ≤ 4; omega, hx, i3, by show aTot (S 1 0) s.2.2 ≤ 60; omega⟩
theorem rep_7 {v w : MM} {S : RW} {l : List BL} {t g : Nat} {s : FL} {q : Int32 × MM × MM} (hS : suR S) (hv : suC v S) (ht : t < S 0 0) (hg : g ≤ 60) (hq : flC l t q s) (hi : flI S g s) {N : Nat} (hN : 100 < N) : ∃ y, ((fX5_waitingAt N (nI t) v q.2.1 w).bind (fun y14 => ((fX0_putReport N (nI l.length) y14 q.2.2).bind (fun y15 => (if ib (nI t) 3 = true then ((fX0_content N (nI l.length) y15).bind (fun y16 => (if y16 ≤ 0 then some ((st q.2.1 3 (upd (q.2.1 3) (Int32.toNatClampNeg (nI t)) (0 : Int32))), y15) else ((fX5_send N (nI l.length) (nI t) v (st q.2.1 3 (upd (q.2.1 3) (Int32.toNatClampNeg (nI t)) (0 : Int32))) y15 w).bind (fun y17 => some (y17.1, y17.2)))))) else none))))) = some y ∧ rwC y.1 (if aCont (S 1 0) (bkF S t s) = 0 then au s.2.1 3 t 0 else aSendR S (au s.2.1 3 t 0) (bkF S t s)) ∧ blC y.2 (l ++ [if aCont (S 1 0) (bkF S t s) = 0 then bkF S t s else aSendB S (au s.2.1 3 t 0) (bkF S t s)]) := by
  have hT := hS.1
  obtain ⟨q1, q2, q3⟩ := hq
  have i1 := hi.1
  have hk := q3.1
  rw [len_last] at hk
  have hw := wt_le (t := t) hS i1
  obtain ⟨b1, b2, b3, b4, b5⟩ := blC_atl q3
  rw [wt_7 hS hv q2 hN (by omega), Option.bind_some, prp_7 (by omega), Option.bind_some, if_pos (ib_n (show t < 3 by omega) (by omega)), nI_clamp (by omega)]
  have hb' : blC (st q.2.2 4 (upd (q.2.2 4) l.length (nI (sWt S s.2.1 t)))) (l ++ [bkF S t s]) := by
    refine blC_last q3 ?_ (fun j z hj hne hz => ?_) ⟨?_, ?_, ?_, ?_, fun e he => ?_⟩
    · rw [st_ne (by omega)]
    · obtain ⟨z1, z2, z3, z4, z5⟩ := hz
      refine ⟨?_, ?_, ?_, ?_, fun e he => ?_⟩
      · rw [st_ne (by omega)]; exact z1
      · rw [st_ne (by omega)]; exact z2
      · rw [st_ne (by omega)]; exact z3
      · rw [st_eq, upd_ne (by omega)]; exact z4
      · rw [st_ne (by omega)]; exact z5 e he
    · rw [st_ne (by omega)]; exact b1
    · rw [st_ne (by omega)]; exact b2
    · rw [st_ne (by omega)]; exact b3
    · rw [st_eq, upd_eq]
      rfl
    · rw [st_ne (by omega)]; exact b5 e he
  exact tail_7 (B := bkF S t s) hS hv (rwC_up q2 (k := 3) (t := t) (x := 0) (by omega)) (rwI_up i1 (by omega) (by omega) (by omega) (by omega) (by omega) (by omega) (by omega) (by omega) (by omega) (by omega)) hb' (bkF_ok hS ht hg hi (by omega)) hN
theorem flI_0 {S r : RW} {g : Nat} (h : rwI S r) : flI S g (g, r, fun _ => 0) := ⟨h, by show aTot (S 1 0) (fun _ => 0) + g = g; rw [show aTot (S 1 0) (fun _ => 0) = 0 from smN_0 _ (fun _ _ => rfl)]; omega, fun _ _ => rfl⟩
theorem pack_7 {v a b w : MM} {S r : RW} {l : List BL} {t g : Nat} (hS : suR S) (hv : suC v S) (ha : rwC a r) (hI : rwI S r) (hb : blC b l) (hl : l.length < 60) (ht : t < S 0 0) (hg : g ≤ 60) {N : Nat} (hN : 100 < N) : ∃ y, fX5_pack N (nI t) (nI g) v a b w = some y ∧ rwC y.1 (aPut S r t g) ∧ blC y.2 (l ++ [aPutB S r t g]) := by
  have hT := hS.1
  have h3 := (hI.2.2.2.1 t (by omega)).1
  have hfr : aFree r t g ≤ 60 := by
    unfold aFree
    split <;> omega
  obtain ⟨o, o1, o2⟩ := opn_7 hb hl t hN
  have k0 := flI_0 (g := aFree r t g) hI
  obtain ⟨y1, p1, f1⟩ := fl_7 (w := w) (bt := true) (t := t) (s := (aFree r t g, r, fun _ => 0)) hS hv hfr (by omega) ⟨rfl, ha, o2⟩ k0 hN
  have k1 := fill_I (t := t) (bt := true) k0
  have f1' : flC l t (nI (aFill S t true (aFree r t g, r, fun _ => 0)).1, y1.2.1, y1.2.2) (aFill S t true (aFree r t g, r, fun _ => 0)) := ⟨rfl, f1.2.1, f1.2.2⟩
  obtain ⟨y2, p2, f2⟩ := fl_7 (w := w) (bt := false) hS hv hfr (by omega) f1' k1 hN
  have k2 := fill_I (t := t) (bt := false) k1
  have hy1 := f1.1
  obtain ⟨s, hs⟩ : ∃ s, s = aPk S r t g := ⟨_, rfl⟩
  have hs' : aFill S t false (aFill S t true (aFree r t g, r, fun _ => 0)) = s := by rw [hs]; rfl
  rw [hs'] at f2 k2
  rw [← hy1] at p2
  have p1 : fX5_packLetters N (nI t) (nI l.length) (nI (aFree r t g)) (1 : Int32) v a o w = some y1 := p1
  have p2 : fX5_packLetters N (nI t) (nI l.length) y1.1 (0 : Int32) v y1.2.1 y1.2.2 w = some y2 := p2
  have hs1 : s.1 ≤ 60 := by have := k2.2.1; omega
  have key : (aRep S r t g → ∃ y, ((fX5_waitingAt N (nI t) v y2.2.1 w).bind (fun y14 => ((fX0_putReport N (nI l.length) y14 y2.2.2).bind (fun y15 => (if ib (nI t) 3 = true then ((fX0_content N (nI l.length) y15).bind (fun y16 => (if y16 ≤ 0 then some ((st y2.2.1 3 (upd (y2.2.1 3) (Int32.toNatClampNeg (nI t)) (0 : Int32))), y15) else ((fX5_send N (nI l.length) (nI t) v (st y2.2.1 3 (upd (y2.2.1 3) (Int32.toNatClampNeg (nI t)) (0 : Int32))) y15 w).bind (fun y17 => some (y17.1, y17.2)))))) else none))))) = some y ∧ rwC y.1 (aPut S r t g) ∧ blC y.2 (l ++ [aPutB S r t g])) ∧ (¬ aRep S r t g → ∃ y, ((fX0_content N (nI l.length) y2.2.2).bind (fun y12 => (if y12 ≤ 0 then some (y2.2.1, y2.2.2) else ((fX5_send N (nI l.length) (nI t) v y2.2.1 y2.2.2 w).bind (fun y13 => some (y13.1, y13.2)))))) = some y ∧ rwC y.1 (aPut S r t g) ∧ blC y.2 (l ++ [aPutB S r t g])) := by
    constructor
    · intro hr
      have h := rep_7 (w := w) hS hv ht hfr f2 k2 hN
      have e1 : aPackR S r t g = au s.2.1 3 t 0 := by
        unfold aPackR
        rw [if_pos hr, hs]
      have e2 : aPackB S r t g = bkF S t s := by
        unfold aPackB bkF
        rw [if_pos hr, hs]
      unfold aPut aPutB
      rw [e1, e2]
      exact h
    · intro hr
      have e1 : aPackR S r t g = s.2.1 := by
        unfold aPackR
        rw [if_neg hr, hs]
      have e2 : aPackB S r t g = (t, 0, 0, 0, s.2.2) := by
        unfold aPackB
        rw [if_neg hr, hs]
      unfold aPut aPutB
      rw [e1, e2]
      exact tail_7 (B := (t, 0, 0, 0, s.2.2)) hS hv f2.2.1 k2.1 f2.2.2 (bkF_ok hS ht hfr k2 (by omega)) hN
  have hfree : aRep S r t g ↔ ((r 3 t = 1 ∧ 2 ≤ g) ∨ 2 ≤ s.1) := by rw [hs]
  unfold fX5_pack
  rw [o1, Option.bind_some, if_pos (ib_n (show t < 3 by omega) (by omega)), nI_clamp (by omega), ha.2.2.2.1 3 t (by omega) (by omega) (by omega)]
  rw [nI_clamp (show t < 2 ^ 31 by omega)] at key
  by_cases e3 : r 3 t = 1
  · rw [if_pos (show nI (r 3 t) = (1 : Int32) by rw [e3]; rfl)]
    by_cases e2 : g < 2
    · have hg2 : aFree r t g = g := by
        unfold aFree
        rw [if_neg (by omega)]
      rw [hg2] at p1
      rw [if_pos (show nI g < (2 : Int32) from nI_lt (b := 2) e2 (by omega)), p1, Option.bind_some, p2, Option.bind_some, f2.1]
      by_cases e4 : s.1 < 2
      · rw [if_pos (show nI s.1 < (2 : Int32) from nI_lt (b := 2) e4 (by omega))]
        exact key.2 (fun q => by rw [hfree] at q; omega)
      · rw [if_neg (show ¬ nI s.1 < (2 : Int32) from nI_nlt (b := 2) (by omega) (by omega))]
        exact key.1 (hfree.mpr (Or.inr (by omega)))
    · have hg2 : aFree r t g = g - 2 := by
        unfold aFree
        rw [if_pos (by omega)]
      rw [hg2] at p1
      rw [if_neg (show ¬ nI g < (2 : Int32) from nI_nlt (b := 2) (by omega) (by omega)), show nI g - (2 : Int32) = nI (g - 2) from pk_sub (b := 2) (by omega), p1, Option.bind_some, p2, Option.bind_some]
      exact key.1 (hfree.mpr (Or.inl (by omega)))
  · have hg2 : aFree r t g = g := by
      unfold aFree
      rw [if_neg (by omega)]
    rw [hg2] at p1
    rw [if_neg (show ¬ nI (r 3 t) = (1 : Int32) from fun q => e3 ((nI_eq (b := 1) (by omega) (by omega)).mp q)), p1, Option.bind_some, p2, Option.bind_some, f2.1]
    by_cases e4 : s.1 < 2
    · rw [if_pos (show nI s.1 < (2 : Int32) from nI_lt (b := 2) e4 (by omega))]
      exact key.2 (fun q => by rw [hfree] at q; omega)
    · rw [if_neg (show ¬ nI s.1 < (2 : Int32) from nI_nlt (b := 2) (by omega) (by omega))]
      exact key.1 (hfree.mpr (Or.inr (by omega)))
theorem take_7 {a w : MM} {S r : RW} {t left : Nat} (hI : rwI S r) (ha : rwC a r) (hw : w 2 0 = nI left) (hl : left ≤ 60) (ht : t < 3) (N : Nat) : ∃ y, fX5_takeGrant N (nI t) a w = some y ∧ y.1 = nI (aGrant r t left) ∧ rwC y.2.1 (aTake r t left) ∧ y.2.2 2 0 = nI (left - aGrant r t left) := by
  have t5 := ha.2.2.2.1 5 t (by omega) (by omega) ht
  have t6 := ha.2.2.2.1 6 t (by omega) (by omega) ht
  have t8 := ha.2.2.2.1 8 t (by omega) (by omega) ht
  have h6 := (hI.2.2.2.1 t ht).2.2.2
  have hgr : aGrant r t left ≤ left := Nat.min_le_right _ _
  have c1 := rwC_up ha (k := 5) (t := t) (x := 0) (by omega)
  have c2 := rwC_up c1 (k := 8) (t := t) (x := r 8 t + aGrant r t left) (by omega)
  rw [st_ne (v := a) (by omega)] at c2
  have c3 := rwC_last c2 (t + 1)
  refine ⟨(nI (aGrant r t left), st (st (st a 5 (upd (a 5) t (nI 0))) 8 (upd (a 8) t (nI (r 8 t + aGrant r t left)))) 2 (fun _ => nI t), st w 2 (fun _ => nI (left - aGrant r t left))), ?_, rfl, c3, by dsimp only; rw [st_eq]⟩
  unfold fX5_takeGrant
  by_cases e : 0 < r 6 t
  · have hg : aGrant r t left = min (r 6 t + 2) left := by
      unfold aGrant
      rw [if_pos e]
    rw [hg]
    simp (disch := omega) only [↓reduceIte, ↓m9, ↓m1, li0, li1, li2, li3, li4, li5, li6, li8, li9, li10, li13, li20, li24, li30, li31, li40, li43, li60, li67, li99, li100, li199, li360, li667, li999, nI_add, pk_mul, pk_sub, nI_le, nI_ge, nI_lt, nI_nlt, nE, nN, n9, n9s, n1s, ib_n, nI_clamp, Option.bind_some, st_eq, st_ne, st_st, upd_eq, upd_ne, eq_self, not_false_eq_true, not_true_eq_false, t6, t8, hw, mn_nI]
  · have hg : aGrant r t left = min 4 left := by
      unfold aGrant
      rw [if_neg e]
    rw [hg]
    simp (disch := omega) only [↓reduceIte, ↓m9, ↓m1, li0, li1, li2, li3, li4, li5, li6, li8, li9, li10, li13, li20, li24, li30, li31, li40, li43, li60, li67, li99, li100, li199, li360, li667, li999, nI_add, pk_mul, pk_sub, nI_le, nI_ge, nI_lt, nI_nlt, nE, nN, n9, n9s, n1s, ib_n, nI_clamp, Option.bind_some, st_eq, st_ne, st_st, upd_eq, upd_ne, eq_self, not_false_eq_true, not_true_eq_false, t6, t8, hw, mn_nI]
theorem take_I {S r : RW} {t left : Nat} (h : rwI S r) (ht : t < S 0 0) : rwI S (aTake r t left) := by
  unfold aTake
  exact rwI_up (rwI_up (rwI_up h (by omega) (by omega) (by omega) (by omega) (by omega) (by omega) (by omega) (by omega) (by omega) (by omega)) (by omega) (by omega) (by omega) (by omega) (by omega) (by omega) (by omega) (by omega) (by omega) (by omega)) (by omega) (by omega) (by omega) (by omega) (by omega) (by omega) (by omega) (by omega) (by omega) (by omega)
theorem pk_I {S r : RW} {t g : Nat} (hI : rwI S r) : flI S (aFree r t g) (aPk S r t g) := fill_I (fill_I (flI_0 hI))
theorem free_le (r : RW) (t g : Nat) : aFree r t g ≤ g := by
  unfold aFree
  split <;> omega
theorem packR_I {S r : RW} {t g : Nat} (hI : rwI S r) : rwI S (aPackR S r t g) := by
  have h := (pk_I (t := t) (g := g) hI).1
  unfold aPackR
  split
  · exact rwI_up h (by omega) (by omega) (by omega) (by omega) (by omega) (by omega) (by omega) (by omega) (by omega) (by omega)
  · exact h
theorem packB_ok {S r : RW} {t g : Nat} (hS : suR S) (hI : rwI S r) (ht : t < S 0 0) (hg : g ≤ 60) : okS S (aPackB S r t g) := by
  have h := pk_I (t := t) (g := g) hI
  have hf := free_le r t g
  have hw := wt_le (t := t) hS h.1
  exact bkF_ok hS ht (by omega) h (by split <;> omega)
theorem put_I {S r : RW} {t g : Nat} (hS : suR S) (hI : rwI S r) (ht : t < S 0 0) (hg : g ≤ 60) : rwI S (aPut S r t g) := by
  unfold aPut
  split
  · exact packR_I hI
  · exact send_I hS (packR_I hI) (packB_ok hS hI ht hg)
