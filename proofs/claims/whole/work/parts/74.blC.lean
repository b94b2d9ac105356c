/-! the class's blocks, one by one -/
theorem ofN (n : Nat) : Int32.ofNat n = nI n := rfl
def bkC (b : MM) (k : Nat) (x : BL) : Prop := b 1 k = nI x.1 ∧ b 2 k = dueI x.2.1 ∧ b 3 k = nI x.2.2.1 ∧ b 4 k = repI x.2.2.2.1 ∧ ∀ c, c < 6 → b 5 (6 * k + c) = nI (x.2.2.2.2 c)
theorem blC_at {b : MM} {l : List BL} {k : Nat} (h : blC b l) (hk : k < l.length) : bkC b k (bAt l k) := h.2.2 k _ (bAt_some hk)
theorem blC_put {b b' : MM} {l : List BL} {k : Nat} {x : BL} (h : blC b l) (hk : k < l.length) (h0 : b' 0 0 = b 0 0) (ho : ∀ j y, j < 60 → j ≠ k → bkC b j y → bkC b' j y) (hn : bkC b' k x) : blC b' (l.set k x) := by
  refine ⟨by rw [List.length_set]; exact h.1, by rw [List.length_set, h0]; exact h.2.1, fun j y hj => ?_⟩
  rw [List.getElem?_set] at hj
  by_cases e : k = j
  · subst e
    rw [if_pos rfl, if_pos hk] at hj
    cases hj
    exact hn
  · rw [if_neg e] at hj
    have hlt := (List.getElem?_eq_some_iff.mp hj).1
    have h60 := h.1
    exact ho j y (by omega) (fun q => e q.symm) (h.2.2 j y hj)
theorem due_succ (d : Nat) : dueI (d + 1) = nI d := rfl
theorem cnt_7 {b : MM} {k s : Nat} (hk : k < 60) (h : b 3 k = nI s) (N : Nat) : fX0_countSending N (nI k) b = some (nI (s + 1), st b 3 (upd (b 3) k (nI (s + 1)))) := by
  unfold fX0_countSending
  simp (disch := omega) only [↓reduceIte, ↓m9, ↓m1, li0, li1, li2, li3, li4, li5, li6, li8, li9, li10, li13, li20, li24, li30, li31, li40, li43, li60, li67, li99, li100, li199, li360, li667, li999, nI_add, pk_mul, pk_sub, nI_le, nI_ge, nI_lt, nI_nlt, nE, nN, n9, n9s, n1s, ib_n, nI_clamp, Option.bind_some, st_eq, st_ne, st_st, upd_eq, upd_ne, eq_self, not_false_eq_true, not_true_eq_false, h]
theorem rpo_7 {b : MM} {k : Nat} (hk : k < 60) (N : Nat) : fX0_reportOf N (nI k) b = some (b 4 k) := by
  unfold fX0_reportOf
  simp (disch := omega) only [↓reduceIte, ↓m9, ↓m1, li0, li1, li2, li3, li4, li5, li6, li8, li9, li10, li13, li20, li24, li30, li31, li40, li43, li60, li67, li99, li100, li199, li360, li667, li999, nI_add, pk_mul, pk_sub, nI_le, nI_ge, nI_lt, nI_nlt, nE, nN, n9, n9s, n1s, ib_n, nI_clamp, Option.bind_some, st_eq, st_ne, st_st, upd_eq, upd_ne, eq_self, not_false_eq_true, not_true_eq_false]
theorem mgo_7 {b : MM} {k : Nat} (hk : k < 60) (N : Nat) : fX0_markGone N (nI k) b = some (st b 2 (upd (b 2) k (dueI 0))) := by
  unfold fX0_markGone
  simp (disch := omega) only [↓reduceIte, ↓m9, ↓m1, li0, li1, li2, li3, li4, li5, li6, li8, li9, li10, li13, li20, li24, li30, li31, li40, li43, li60, li67, li99, li100, li199, li360, li667, li999, nI_add, pk_mul, pk_sub, nI_le, nI_ge, nI_lt, nI_nlt, nE, nN, n9, n9s, n1s, ib_n, nI_clamp, Option.bind_some, st_eq, st_ne, st_st, upd_eq, upd_ne, eq_self, not_false_eq_true, not_true_eq_false, due_0]
theorem pdu_7 {b : MM} {k : Nat} {x : Int32} (hk : k < 60) (N : Nat) : fX0_putDue N (nI k) x b = some (st b 2 (upd (b 2) k x)) := by
  unfold fX0_putDue
  simp (disch := omega) only [↓reduceIte, ↓m9, ↓m1, li0, li1, li2, li3, li4, li5, li6, li8, li9, li10, li13, li20, li24, li30, li31, li40, li43, li60, li67, li99, li100, li199, li360, li667, li999, nI_add, pk_mul, pk_sub, nI_le, nI_ge, nI_lt, nI_nlt, nE, nN, n9, n9s, n1s, ib_n, nI_clamp, Option.bind_some, st_eq, st_ne, st_st, upd_eq, upd_ne, eq_self, not_false_eq_true, not_true_eq_false]
theorem prp_7 {b : MM} {k : Nat} {x : Int32} (hk : k < 60) (N : Nat) : fX0_putReport N (nI k) x b = some (st b 4 (upd (b 4) k x)) := by
  unfold fX0_putReport
  simp (disch := omega) only [↓reduceIte, ↓m9, ↓m1, li0, li1, li2, li3, li4, li5, li6, li8, li9, li10, li13, li20, li24, li30, li31, li40, li43, li60, li67, li99, li100, li199, li360, li667, li999, nI_add, pk_mul, pk_sub, nI_le, nI_ge, nI_lt, nI_nlt, nE, nN, n9, n9s, n1s, ib_n, nI_clamp, Option.bind_some, st_eq, st_ne, st_st, upd_eq, upd_ne, eq_self, not_false_eq_true, not_true_eq_false]
theorem isd_7 {b : MM} {k t d : Nat} {x : BL} (hk : k < 60) (h : bkC b k x) (ht : t < 2 ^ 31) (hx : x.1 < 2 ^ 31) (hd : d < 2 ^ 31) (hd2 : x.2.1 < 2 ^ 31) (N : Nat) : fX0_isDue N (nI k) (nI t) (nI d) b = some (if x.1 = t ∧ x.2.1 = d + 1 then 1 else 0) := by
  obtain ⟨h1, h2, -⟩ := h
  unfold fX0_isDue
  simp (disch := omega) only [↓reduceIte, ↓m9, ↓m1, li0, li1, li2, li3, li4, li5, li6, li8, li9, li10, li13, li20, li24, li30, li31, li40, li43, li60, li67, li99, li100, li199, li360, li667, li999, nI_add, pk_mul, pk_sub, nI_le, nI_ge, nI_lt, nI_nlt, nE, nN, n9, n9s, n1s, ib_n, nI_clamp, Option.bind_some, st_eq, st_ne, st_st, upd_eq, upd_ne, eq_self, not_false_eq_true, not_true_eq_false, h1, h2]
  by_cases e1 : x.1 = t
  · by_cases e2 : x.2.1 = d + 1
    · simp (disch := omega) only [↓reduceIte, ↓m9, ↓m1, li0, li1, li2, li3, li4, li5, li6, li8, li9, li10, li13, li20, li24, li30, li31, li40, li43, li60, li67, li99, li100, li199, li360, li667, li999, nI_add, pk_mul, pk_sub, nI_le, nI_ge, nI_lt, nI_nlt, nE, nN, n9, n9s, n1s, ib_n, nI_clamp, Option.bind_some, st_eq, st_ne, st_st, upd_eq, upd_ne, eq_self, not_false_eq_true, not_true_eq_false, e1, e2, due_succ, and_self]
    · have e3 : ¬ dueI x.2.1 = nI d := fun q => e2 ((due_is hd2 hd).mp q)
      simp (disch := omega) only [↓reduceIte, ↓m9, ↓m1, li0, li1, li2, li3, li4, li5, li6, li8, li9, li10, li13, li20, li24, li30, li31, li40, li43, li60, li67, li99, li100, li199, li360, li667, li999, nI_add, pk_mul, pk_sub, nI_le, nI_ge, nI_lt, nI_nlt, nE, nN, n9, n9s, n1s, ib_n, nI_clamp, Option.bind_some, st_eq, st_ne, st_st, upd_eq, upd_ne, eq_self, not_false_eq_true, not_true_eq_false, e1, e3, e2, and_false]
  · simp (disch := omega) only [↓reduceIte, ↓m9, ↓m1, li0, li1, li2, li3, li4, li5, li6, li8, li9, li10, li13, li20, li24, li30, li31, li40, li43, li60, li67, li99, li100, li199, li360, li667, li999, nI_add, pk_mul, pk_sub, nI_le, nI_ge, nI_lt, nI_nlt, nE, nN, n9, n9s, n1s, ib_n, nI_clamp, Option.bind_some, st_eq, st_ne, st_st, upd_eq, upd_ne, eq_self, not_false_eq_true, not_true_eq_false, e1, false_and]
theorem all_7 {b : MM} {k : Nat} {lt : Nat → Nat} (hk : k < 60) (h : ∀ c, c < 6 → b 5 (6 * k + c) = nI (lt c)) {N : Nat} (hN : 100 < N) : fX0_allLetters N (nI k) b = some (nI (smN lt 6)) := by
  unfold fX0_allLetters
  have e6 : nI k * (6 : Int32) = nI (6 * k) := by rw [show nI k * (6 : Int32) = nI (k * 6) from pk_mul k 6, Nat.mul_comm]
  rw [e6]
  obtain ⟨y, hy, e⟩ := lp_run (fun n i (w : Int32) => fX0_allLetters_L10 N (fun (v : Int32) (_ : Int32) => some v) (nI k) (nI (6 * k)) b n w (nI i)) (fun w => some w) (6 * k + 6) (fun i w => 6 * k ≤ i ∧ w = nI (smN lt (i - 6 * k)))
    (fun n w hw => by
      show fX0_allLetters_L10 N _ (nI k) (nI (6 * k)) b (n + 1) w (nI (6 * k + 6)) = _
      rw [fX0_allLetters_L10]
      simp (disch := omega) only [↓reduceIte, ↓m9, ↓m1, li0, li1, li2, li3, li4, li5, li6, li8, li9, li10, li13, li20, li24, li30, li31, li40, li43, li60, li67, li99, li100, li199, li360, li667, li999, nI_add, pk_mul, pk_sub, nI_le, nI_ge, nI_lt, nI_nlt, nE, nN, n9, n9s, n1s, ib_n, nI_clamp, Option.bind_some, st_eq, st_ne, st_st, upd_eq, upd_ne, eq_self, not_false_eq_true, not_true_eq_false])
    (fun n i w hi hw => by
      have h5 := h (i - 6 * k) (by omega)
      rw [show 6 * k + (i - 6 * k) = i by omega] at h5
      refine ⟨w + nI (lt (i - 6 * k)), ⟨by omega, ?_⟩, ?_⟩
      · rw [hw.2, nI_add, show i + 1 - 6 * k = (i - 6 * k) + 1 by omega]
        rfl
      · show fX0_allLetters_L10 N _ (nI k) (nI (6 * k)) b (n + 1) w (nI i) = _
        rw [fX0_allLetters_L10]
        simp (disch := omega) only [↓reduceIte, ↓m9, ↓m1, li0, li1, li2, li3, li4, li5, li6, li8, li9, li10, li13, li20, li24, li30, li31, li40, li43, li60, li67, li99, li100, li199, li360, li667, li999, nI_add, pk_mul, pk_sub, nI_le, nI_ge, nI_lt, nI_nlt, nE, nN, n9, n9s, n1s, ib_n, nI_clamp, Option.bind_some, st_eq, st_ne, st_st, upd_eq, upd_ne, eq_self, not_false_eq_true, not_true_eq_false, h5]) 6 N (6 * k) (0 : Int32) (by omega) (by omega) ⟨by omega, by rw [Nat.sub_self]; rfl⟩
  rw [e, hy.2, show 6 * k + 6 - 6 * k = 6 by omega]
theorem con_7 {b : MM} {k rp : Nat} {lt : Nat → Nat} (hk : k < 60) (h : ∀ c, c < 6 → b 5 (6 * k + c) = nI (lt c)) (h4 : b 4 k = repI rp) (hr : rp < 2 ^ 31) {N : Nat} (hN : 100 < N) : fX0_content N (nI k) b = some (nI (smN lt 6 + (if rp = 0 then 0 else 2))) := by
  unfold fX0_content
  rw [all_7 hk h hN, Option.bind_some, rpo_7 hk, Option.bind_some, h4]
  by_cases e : rp = 0
  · subst e
    rw [if_pos (show repI 0 = (-9 : Int32) from rfl), if_pos rfl, show (0 : Int32) = nI 0 from rfl, nI_add]
  · rw [if_neg (show ¬ repI rp = (-9 : Int32) from fun q => e ((rep_none hr).mp q)), if_neg e, show (2 : Int32) = nI 2 from rfl, nI_add]
theorem adl_7 {b : MM} {k : Nat} {lt : Nat → Nat} (hk : k < 60) (h : ∀ c, c < 6 → b 5 (6 * k + c) = nI (lt c)) {N : Nat} (hN : 100 < N) {row : Nat → Int32} {g : Nat → Nat} (hg : ∀ c, c < 6 → row c = nI (g c)) : ∃ y, fX0_addLettersTo N (nI k) 6 b row = some y ∧ ∀ c, c < 6 → y c = nI (g c + lt c) := by
  unfold fX0_addLettersTo
  have e6 : nI k * (6 : Int32) = nI (6 * k) := by rw [show nI k * (6 : Int32) = nI (k * 6) from pk_mul k 6, Nat.mul_comm]
  rw [e6]
  obtain ⟨y, hy, e⟩ := lp_run (fun n i (w : Nat → Int32) => fX0_addLettersTo_L8 N (fun (_ : Int32) (v : Nat → Int32) => some v) (nI k) (nI (6 * k)) 6 b n (nI i) w) (fun w => some w) 6 (fun i w => (∀ c, c < i → w c = nI (g c + lt c)) ∧ ∀ c, i ≤ c → c < 6 → w c = nI (g c))
    (fun n w hw => by
      show fX0_addLettersTo_L8 N _ (nI k) (nI (6 * k)) 6 b (n + 1) (nI 6) w = _
      rw [fX0_addLettersTo_L8]
      simp (disch := omega) only [↓reduceIte, ↓m9, ↓m1, li0, li1, li2, li3, li4, li5, li6, li8, li9, li10, li13, li20, li24, li30, li31, li40, li43, li60, li67, li99, li100, li199, li360, li667, li999, nI_add, pk_mul, pk_sub, nI_le, nI_ge, nI_lt, nI_nlt, nE, nN, n9, n9s, n1s, ib_n, nI_clamp, Option.bind_some, st_eq, st_ne, st_st, upd_eq, upd_ne, eq_self, not_false_eq_true, not_true_eq_false])
    (fun n i w hi hw => by
      have h5 := h i hi
      have hw2 := hw.2 i (Nat.le_refl i) hi
      refine ⟨upd w i (nI (g i + lt i)), ⟨fun c hc => ?_, fun c hc h6 => ?_⟩, ?_⟩
      · by_cases e : c = i
        · subst e
          rw [upd_eq]
        · rw [upd_ne e]
          exact hw.1 c (by omega)
      · rw [upd_ne (by omega)]
        exact hw.2 c (by omega) h6
      · show fX0_addLettersTo_L8 N _ (nI k) (nI (6 * k)) 6 b (n + 1) (nI i) w = _
        rw [fX0_addLettersTo_L8]
        simp (disch := omega) only [↓reduceIte, ↓m9, ↓m1, li0, li1, li2, li3, li4, li5, li6, li8, li9, li10, li13, li20, li24, li30, li31, li40, li43, li60, li67, li99, li100, li199, li360, li667, li999, nI_add, pk_mul, pk_sub, nI_le, nI_ge, nI_lt, nI_nlt, nE, nN, n9, n9s, n1s, ib_n, nI_clamp, Option.bind_some, st_eq, st_ne, st_st, upd_eq, upd_ne, eq_self, not_false_eq_true, not_true_eq_false, ofN, h5, hw2]) 6 N 0 row (by omega) (by omega) ⟨fun c hc => absurd hc (by omega), fun c _ h6 => hg c h6⟩
  exact ⟨y, e, fun c hc => hy.1 c hc⟩
/-- a block's letters: all six, or those of the classes there are -/
theorem tot_6 {C : Nat} {lt : Nat → Nat} (hC : C ≤ 6) (hz : ∀ c, C ≤ c → lt c = 0) : smN lt 6 = aTot C lt := by
  unfold aTot
  have h := smN_more (f := lt) C (6 - C) (fun i h1 _ => hz i h1)
  rw [show C + (6 - C) = 6 by omega] at h
  exact h
/-- what is asked of a block so that it can be sent -/
def okS (S : RW) (x : BL) : Prop := x.1 < S 0 0 ∧ x.2.2.1 ≤ 4 ∧ x.2.2.2.1 ≤ 6000 ∧ (∀ c, S 1 0 ≤ c → x.2.2.2.2 c = 0) ∧ aTot (S 1 0) x.2.2.2.2 ≤ 60
theorem send_7 {v a b w : MM} {S r : RW} {l : List BL} {k : Nat} (hS : suR S) (hv : suC v S) (ha : rwC a r) (h0 : r 0 0 ≤ 400) (h6 : ∀ t, t < 3 → r 6 t ≤ 6000) (hb : blC b l) (hk : k < l.length) {x : BL} (hx : x = bAt l k) (ho : okS S x) {N : Nat} (hN : 100 < N) : ∃ y, fX5_send N (nI k) (nI x.1) v a b w = some y ∧ rwC y.1 (aSendR S r x) ∧ blC y.2 (l.set k (aSendB S r x)) := by
  have hT3 := hS.1
  have hC6 := hS.2.1
  have h60 : k < 60 := by have := hb.1; omega
  obtain ⟨o1, o2, o3, o4, o5⟩ := ho
  obtain ⟨b1, b2, b3, b4, b5⟩ : bkC b k x := hx ▸ blC_at hb hk
  have ht3 : x.1 < 3 := by omega
  have hcl : Int32.toNatClampNeg (nI x.1) = x.1 := nI_clamp (by omega)
  have hib : ib (nI x.1) 3 = true := ib_n (by omega) (by omega)
  have htot := tot_6 hC6 o4
  obtain ⟨B, hB⟩ : ∃ B, B = st b 3 (upd (b 3) k (nI (x.2.2.1 + 1))) := ⟨_, rfl⟩
  have B1 : B 1 = b 1 := by rw [hB, st_ne (by omega)]
  have B2 : B 2 = b 2 := by rw [hB, st_ne (by omega)]
  have B3 : B 3 = upd (b 3) k (nI (x.2.2.1 + 1)) := by rw [hB, st_eq]
  have B4 : B 4 = b 4 := by rw [hB, st_ne (by omega)]
  have B5 : B 5 = b 5 := by rw [hB, st_ne (by omega)]
  have B0 : B 0 = b 0 := by rw [hB, st_ne (by omega)]
  have b5' : ∀ c, c < 6 → B 5 (6 * k + c) = nI (x.2.2.2.2 c) := by rw [B5]; exact b5
  -- the block behind it, with a due of its own
  have hput : ∀ d : Nat, blC (st B 2 (upd (B 2) k (dueI d))) (l.set k (x.1, d, x.2.2.1 + 1, x.2.2.2)) := by
    intro d
    refine blC_put hb hk ?_ (fun j y hj hne hy => ?_) ?_
    · rw [st_ne (by omega), B0]
    · obtain ⟨y1, y2, y3, y4, y5⟩ := hy
      refine ⟨?_, ?_, ?_, ?_, fun c hc => ?_⟩
      · rw [st_ne (by omega), B1]; exact y1
      · rw [st_eq, upd_ne hne, B2]; exact y2
      · rw [st_ne (by omega), B3, upd_ne hne]; exact y3
      · rw [st_ne (by omega), B4]; exact y4
      · rw [st_ne (by omega), B5]; exact y5 c hc
    · refine ⟨?_, ?_, ?_, ?_, fun c hc => ?_⟩
      · rw [st_ne (by omega), B1]; exact b1
      · rw [st_eq, upd_eq]
      · rw [st_ne (by omega), B3, upd_eq]
      · rw [st_ne (by omega), B4]; exact b4
      · rw [st_ne (by omega), B5]; exact b5 c hc
  unfold fX5_send
  rw [cnt_7 h60 b3, Option.bind_some, ← hB, ha.1, deaf_7 ha N ht3 (by omega), Option.bind_some]
  unfold aSendR aSendB
  by_cases hd : r 0 0 ≤ 199 ∧ r (20 + x.1) (r 0 0) = 1
  · rw [if_pos hd, if_neg (show ¬ (1 : Int32) = 0 by decide), hv.2.2.2.2.1, if_pos hd, if_pos hd]
    by_cases ht : S 5 0 ≤ x.2.2.1 + 1
    · rw [if_pos (nI_le ht (by omega)), if_pos hib, if_pos ht, if_pos ht]
      obtain ⟨y, y1, y2⟩ := adl_7 h60 b5' hN (row := a 12) (g := r 12) (fun c hc => ha.2.2.2.2.1 12 c (by omega) (by omega) hc)
      rw [y1, Option.bind_some, mgo_7 h60, Option.bind_some, hcl]
      exact ⟨_, rfl, rwC_row (rwC_up ha (k := 3) (t := x.1) (x := 1) (by omega)) (k := 12) (by omega) y2, hput 0⟩
    · rw [if_neg (nI_ge (by omega) (by have := hS.2.2.2.2.1; omega)), if_neg ht, if_neg ht]
      rw [hv.2.2.2.1, nI_add, pdu_7 h60, Option.bind_some]
      exact ⟨_, rfl, ha, hput (r 0 0 + S 4 0 + 1)⟩
  · have r4 : fX0_reportOf N (nI k) B = some (repI x.2.2.2.1) := by rw [rpo_7 h60, B4, b4]
    rw [if_neg hd, if_pos rfl, if_neg hd, if_neg hd, r4, Option.bind_some, if_pos hib, all_7 h60 b5' hN, Option.bind_some]
    obtain ⟨y, y1, y2⟩ := adl_7 h60 b5' hN (row := a 11) (g := r 11) (fun c hc => ha.2.2.2.2.1 11 c (by omega) (by omega) hc)
    unfold aHear
    by_cases e : x.2.2.2.1 = 0
    · rw [e, if_pos (show repI 0 = (-9 : Int32) from rfl), if_pos hib, y1, Option.bind_some, mgo_7 h60, Option.bind_some, hcl, if_pos rfl, ha.2.2.2.1 6 x.1 (by omega) (by omega) ht3, htot, mx_nI (by omega) (by have := h6 x.1 ht3; omega)]
      refine ⟨_, rfl, rwC_row (rwC_up ha (k := 6) (t := x.1) (by omega)) (k := 11) (by omega) y2, ?_⟩
      have := hput 0
      exact this
    · rw [if_neg (show ¬ repI x.2.2.2.1 = (-9 : Int32) from fun q => e ((rep_none (by omega)).mp q)), if_pos hib, y1, Option.bind_some, mgo_7 h60, Option.bind_some, hcl, if_neg e, rep_s e]
      exact ⟨_, rfl, rwC_row (rwC_up ha (k := 6) (t := x.1) (by omega)) (k := 11) (by omega) y2, hput 0⟩
