/-! the class: tokens gained, asks, blocks sent again -/
theorem gain_7 {v a w : MM} {S r : RW} (hS : suR S) (hv : suC v S) (ha : rwC a r) (hi : rwI S r) {N : Nat} (hN : 100 < N) : ∃ y, fX5_gainTokens N v a w = some y ∧ rwC y (aGain S r) := by
  have hC6 := hS.2.1
  unfold fX5_gainTokens aGain
  obtain ⟨y, hy, e⟩ := lp_run (fun n i (b : MM) => fX5_gainTokens_L2 N (fun (_ : Int32) (b : MM) => some b) v w n (nI i) b) (fun b => some b) (S 1 0) (fun i b => rwC b (itN (aGain1 S) i r) ∧ rwI S (itN (aGain1 S) i r))
    (fun n b hb => by
      show fX5_gainTokens_L2 N _ v w (n + 1) (nI (S 1 0)) b = _
      rw [fX5_gainTokens_L2]
      simp (disch := omega) only [↓reduceIte, ↓m9, ↓m1, li0, li1, li2, li3, li4, li5, li6, li8, li9, li10, li13, li20, li24, li30, li31, li40, li43, li60, li67, li99, li100, li199, li360, li667, li999, nI_add, pk_mul, pk_sub, nI_le, nI_ge, nI_lt, nI_nlt, nE, nN, n9, n9s, n1s, ib_n, nI_clamp, Option.bind_some, st_eq, st_ne, st_st, upd_eq, upd_ne, eq_self, not_false_eq_true, not_true_eq_false, hv.2.1])
    (fun n i b hi hb => by
      obtain ⟨h1, h2⟩ := hb
      have v9 := hv.2.2.2.2.2.2 9 i (by omega) (by omega) hi
      have v10 := hv.2.2.2.2.2.2 10 i (by omega) (by omega) hi
      have t10 := h1.2.2.2.2.1 10 i (by omega) (by omega) (by omega)
      have hb1 := hS.2.2.2.2.2.2 i hi
      have hb2 := (h2.2.2.2.2.1 i hi).2
      refine ⟨_, ⟨rwC_up h1 (k := 10) (t := i) (x := min (S 10 i) (itN (aGain1 S) i r 10 i + S 9 i)) (by omega), gain1_I hS h2 hi⟩, ?_⟩
      show fX5_gainTokens_L2 N _ v w (n + 1) (nI i) b = _
      rw [fX5_gainTokens_L2]
      simp (disch := omega) only [↓reduceIte, ↓m9, ↓m1, li0, li1, li2, li3, li4, li5, li6, li8, li9, li10, li13, li20, li24, li30, li31, li40, li43, li60, li67, li99, li100, li199, li360, li667, li999, nI_add, pk_mul, pk_sub, nI_le, nI_ge, nI_lt, nI_nlt, nE, nN, n9, n9s, n1s, ib_n, nI_clamp, Option.bind_some, st_eq, st_ne, st_st, upd_eq, upd_ne, eq_self, not_false_eq_true, not_true_eq_false, hv.2.1, v9, v10, t10, mn_nI]) (S 1 0) N 0 a (by omega) (by omega) ⟨ha, hi⟩
  exact ⟨y, e, hy.1⟩
theorem plc_7 {v : MM} {S : RW} {t n : Nat} (hS : suR S) (hv : suC v S) (ht : t < S 0 0) (hn : n < 2 ^ 30) (N : Nat) : fX3_isPlaceToAsk N (nI t) (nI n) v = some (if n % S 6 t = t % S 6 t then 1 else 0) := by
  have hT := hS.1
  have h6 := hv.2.2.2.2.2.1 t ht
  have hb := hS.2.2.2.2.2.1 t ht
  have m1 : n % S 6 t < 10 := Nat.lt_of_lt_of_le (Nat.mod_lt _ (by omega)) (by omega)
  have m2 : t % S 6 t < 10 := Nat.lt_of_lt_of_le (Nat.mod_lt _ (by omega)) (by omega)
  unfold fX3_isPlaceToAsk
  simp (disch := omega) only [↓reduceIte, ↓m9, ↓m1, li0, li1, li2, li3, li4, li5, li6, li8, li9, li10, li13, li20, li24, li30, li31, li40, li43, li60, li67, li99, li100, li199, li360, li667, li999, nI_add, pk_mul, pk_sub, nI_le, nI_ge, nI_lt, nI_nlt, nE, nN, n9, n9s, n1s, ib_n, nI_clamp, Option.bind_some, st_eq, st_ne, st_st, upd_eq, upd_ne, eq_self, not_false_eq_true, not_true_eq_false, h6, pk_rem]
  by_cases e : n % S 6 t = t % S 6 t
  · simp (disch := omega) only [↓reduceIte, ↓m9, ↓m1, li0, li1, li2, li3, li4, li5, li6, li8, li9, li10, li13, li20, li24, li30, li31, li40, li43, li60, li67, li99, li100, li199, li360, li667, li999, nI_add, pk_mul, pk_sub, nI_le, nI_ge, nI_lt, nI_nlt, nE, nN, n9, n9s, n1s, ib_n, nI_clamp, Option.bind_some, st_eq, st_ne, st_st, upd_eq, upd_ne, eq_self, not_false_eq_true, not_true_eq_false, e]
  · simp (disch := omega) only [↓reduceIte, ↓m9, ↓m1, li0, li1, li2, li3, li4, li5, li6, li8, li9, li10, li13, li20, li24, li30, li31, li40, li43, li60, li67, li99, li100, li199, li360, li667, li999, nI_add, pk_mul, pk_sub, nI_le, nI_ge, nI_lt, nI_nlt, nE, nN, n9, n9s, n1s, ib_n, nI_clamp, Option.bind_some, st_eq, st_ne, st_st, upd_eq, upd_ne, eq_self, not_false_eq_true, not_true_eq_false, e]
theorem asks_7 {v a w : MM} {S r : RW} (hS : suR S) (hv : suC v S) (ha : rwC a r) (hi : rwI S r) {N : Nat} (hN : 100 < N) : ∃ y, fX5_askInPlaces N v a w = some y ∧ rwC y (aAsks S r) := by
  have hT := hS.1
  unfold fX5_askInPlaces aAsks
  obtain ⟨y, hy, e⟩ := lp_run (fun n i (b : MM) => fX5_askInPlaces_L2 N (fun (_ : Int32) (b : MM) => some b) v w n (nI i) b) (fun b => some b) (S 0 0) (fun i b => rwC b (itN (aAsk1 S) i r) ∧ rwI S (itN (aAsk1 S) i r))
    (fun n b hb => by
      show fX5_askInPlaces_L2 N _ v w (n + 1) (nI (S 0 0)) b = _
      rw [fX5_askInPlaces_L2]
      simp (disch := omega) only [↓reduceIte, ↓m9, ↓m1, li0, li1, li2, li3, li4, li5, li6, li8, li9, li10, li13, li20, li24, li30, li31, li40, li43, li60, li67, li99, li100, li199, li360, li667, li999, nI_add, pk_mul, pk_sub, nI_le, nI_ge, nI_lt, nI_nlt, nE, nN, n9, n9s, n1s, ib_n, nI_clamp, Option.bind_some, st_eq, st_ne, st_st, upd_eq, upd_ne, eq_self, not_false_eq_true, not_true_eq_false, hv.1])
    (fun n i b hi hb => by
      have hI := ask1_I (t := i) hS hb.2
      obtain ⟨R, hR⟩ : ∃ R, R = itN (aAsk1 S) i r := ⟨_, rfl⟩
      have hR' : itN (aAsk1 S) (i + 1) r = aAsk1 S i R := by rw [hR]; rfl
      rw [hR']
      rw [← hR] at hb hI
      obtain ⟨h1, h2⟩ := hb
      have t0 := h1.1
      have t3 := h1.2.2.2.1 3 i (by omega) (by omega) (by omega)
      have t4 := h1.2.2.2.1 4 i (by omega) (by omega) (by omega)
      have t7 := h1.2.2.2.1 7 i (by omega) (by omega) (by omega)
      have h0 := h2.1
      have hb2 := h2.2.2.2.1 i (by omega)
      have hs3 := hS.2.2.1
      have pl := plc_7 (n := R 0 0) hS hv hi (by omega) N
      have hstep : fX5_askInPlaces_L2 N (fun (_ : Int32) (b : MM) => some b) v w (n + 1) (nI i) b = fX5_askInPlaces_L2 N (fun (_ : Int32) (b : MM) => some b) v w n (nI (i + 1)) (if aAskP S R i then st (st (st b 5 (upd (b 5) i (nI 1))) 7 (upd (b 7) i (nI (R 7 i + 1)))) 4 (upd (b 4) i (nI (R 0 0 + S 3 0 + 1))) else b) := by
        rw [fX5_askInPlaces_L2]
        by_cases p1 : R 0 0 % S 6 i = i % S 6 i
        · by_cases p2 : R 4 i ≤ R 0 0
          · by_cases p3 : R 3 i = 1
            · have hP : aAskP S R i := ⟨p3, p1, p2⟩
              simp (disch := omega) only [↓reduceIte, ↓m9, ↓m1, li0, li1, li2, li3, li4, li5, li6, li8, li9, li10, li13, li20, li24, li30, li31, li40, li43, li60, li67, li99, li100, li199, li360, li667, li999, nI_add, pk_mul, pk_sub, nI_le, nI_ge, nI_lt, nI_nlt, nE, nN, n9, n9s, n1s, ib_n, nI_clamp, Option.bind_some, st_eq, st_ne, st_st, upd_eq, upd_ne, eq_self, not_false_eq_true, not_true_eq_false, hv.1, t0, pl, p1, t4, t3, t7, hv.2.2.1]
              rw [if_pos hP]
            · have hP : ¬ aAskP S R i := fun q => p3 q.1
              simp (disch := omega) only [↓reduceIte, ↓m9, ↓m1, li0, li1, li2, li3, li4, li5, li6, li8, li9, li10, li13, li20, li24, li30, li31, li40, li43, li60, li67, li99, li100, li199, li360, li667, li999, nI_add, pk_mul, pk_sub, nI_le, nI_ge, nI_lt, nI_nlt, nE, nN, n9, n9s, n1s, ib_n, nI_clamp, Option.bind_some, st_eq, st_ne, st_st, upd_eq, upd_ne, eq_self, not_false_eq_true, not_true_eq_false, hv.1, t0, pl, p1, t4, t3]
              rw [if_neg hP]
          · have hP : ¬ aAskP S R i := fun q => p2 q.2.2
            simp (disch := omega) only [↓reduceIte, ↓m9, ↓m1, li0, li1, li2, li3, li4, li5, li6, li8, li9, li10, li13, li20, li24, li30, li31, li40, li43, li60, li67, li99, li100, li199, li360, li667, li999, nI_add, pk_mul, pk_sub, nI_le, nI_ge, nI_lt, nI_nlt, nE, nN, n9, n9s, n1s, ib_n, nI_clamp, Option.bind_some, st_eq, st_ne, st_st, upd_eq, upd_ne, eq_self, not_false_eq_true, not_true_eq_false, hv.1, t0, pl, p1, t4]
            rw [if_neg hP]
        · have hP : ¬ aAskP S R i := fun q => p1 q.2.1
          simp (disch := omega) only [↓reduceIte, ↓m9, ↓m1, li0, li1, li2, li3, li4, li5, li6, li8, li9, li10, li13, li20, li24, li30, li31, li40, li43, li60, li67, li99, li100, li199, li360, li667, li999, nI_add, pk_mul, pk_sub, nI_le, nI_ge, nI_lt, nI_nlt, nE, nN, n9, n9s, n1s, ib_n, nI_clamp, Option.bind_some, st_eq, st_ne, st_st, upd_eq, upd_ne, eq_self, not_false_eq_true, not_true_eq_false, hv.1, t0, pl, p1]
          rw [if_neg hP]
      refine ⟨_, ⟨?_, hI⟩, hstep⟩
      unfold aAsk1
      by_cases hP : aAskP S R i
      · rw [if_pos hP, if_pos hP]
        have c1 := rwC_up h1 (k := 5) (t := i) (x := 1) (by omega)
        have c2 := rwC_up c1 (k := 7) (t := i) (x := R 7 i + 1) (by omega)
        have c3 := rwC_up c2 (k := 4) (t := i) (x := R 0 0 + S 3 0 + 1) (by omega)
        rw [st_ne (v := b) (by omega), st_ne (by omega), st_ne (by omega)] at c3
        exact c3
      · rw [if_neg hP, if_neg hP]
        exact h1) (S 0 0) N 0 a (by omega) (by omega) ⟨ha, hi⟩
  exact ⟨y, e, hy.1⟩
/-- the class between the pieces of a step -/
def sgC (a b w : MM) (s : SL) : Prop := rwC a s.1 ∧ blC b s.2.1 ∧ w 2 0 = nI s.2.2
theorem ag1_7 {v a b w : MM} {S : RW} {n0 t k : Nat} {s : SL} (hS : suR S) (hv : suC v S) (hn : n0 ≤ 400) (ht : t < S 0 0) (hk : k < s.2.1.length) (hc : sgC a b w s) (hi : agI S n0 s) {N : Nat} (hN : 100 < N) (K : Int32 → MM → MM → MM → Option (MM × MM × MM)) (n : Nat) : ∃ a' b' w', sgC a' b' w' (aAgain1 S t k s) ∧ fX5_sendAgain_L15 N K (nI t) v (n + 1) (nI k) a b w = fX5_sendAgain_L15 N K (nI t) v n (nI (k + 1)) a' b' w' := by
  obtain ⟨c1, c2, c3⟩ := hc
  obtain ⟨i1, i2, i3, i4, i5⟩ := hi
  have h60 := c2.1
  have hm := bAt_some hk
  have hM := i4 _ (List.mem_of_getElem? hm)
  obtain ⟨x, hx⟩ : ∃ x, x = bAt s.2.1 k := ⟨_, rfl⟩
  have hbk : bkC b k x := hx ▸ blC_at c2 hk
  rw [← hx] at hM
  have hT := hS.1
  have hx1 := hM.1
  have hdu := okM_due hS hn hM
  rw [fX5_sendAgain_L15, c2.2.1, if_neg (nI_ge hk (by omega)), c1.1, isd_7 (by omega) hbk (by omega) (by omega) (by omega) (by omega) N, Option.bind_some, nI_1]
  unfold aAgain1
  rw [← hx]
  by_cases hd : x.1 = t ∧ x.2.1 = s.1 0 0 + 1
  · have ho := okM_okS hS hM (by omega)
    have htot := tot_6 hS.2.1 ho.2.2.2.1
    have h45 := ho.2.2.2.2
    have hcon := con_7 (rp := x.2.2.2.1) (by omega) hbk.2.2.2.2 hbk.2.2.2.1 (by have := ho.2.2.1; omega) hN (k := k)
    have hcon : fX0_content N (nI k) b = some (nI (aCont (S 1 0) x)) := by rw [hcon, htot]; rfl
    have hco : aCont (S 1 0) x ≤ 62 := by
      show aTot (S 1 0) x.2.2.2.2 + (if x.2.2.2.1 = 0 then 0 else 2) ≤ 62
      split <;> omega
    obtain ⟨y, y1, y2, y3⟩ := send_7 (w := st w 2 (fun _ => nI (s.2.2 - aCont (S 1 0) x))) hS hv c1 i1.1 (fun t ht => (i1.2.2.2.1 t ht).2.2.2) c2 hk hx ho hN
    rw [if_pos hd, if_pos hd, if_neg (show ¬ (1 : Int32) = 0 by decide), hcon, Option.bind_some, c3, mx_nI (by omega) (by omega), ← hd.1, y1, Option.bind_some]
    exact ⟨_, _, _, ⟨y2, y3, by rw [st_eq]⟩, rfl⟩
  · rw [if_neg hd, if_neg hd, if_pos rfl]
    exact ⟨_, _, _, ⟨c1, c2, c3⟩, rfl⟩
theorem agT_7 {v a b w : MM} {S : RW} {n0 t : Nat} {s : SL} (hS : suR S) (hv : suC v S) (hn : n0 ≤ 400) (ht : t < S 0 0) (hc : sgC a b w s) (hi : agI S n0 s) {N : Nat} (hN : 100 < N) (K : Int32 → MM → MM → MM → Option (MM × MM × MM)) : ∃ a' b' w', sgC a' b' w' (aAgainT S t s) ∧ fX5_sendAgain_L15 N K (nI t) v N (0 : Int32) a b w = K (nI s.2.1.length) a' b' w' := by
  have h60 := hc.2.1.1
  obtain ⟨y, ⟨y1, y2⟩, e⟩ := lp_run (fun n i (q : MM × MM × MM) => fX5_sendAgain_L15 N K (nI t) v n (nI i) q.1 q.2.1 q.2.2) (fun q => K (nI s.2.1.length) q.1 q.2.1 q.2.2) s.2.1.length (fun i q => sgC q.1 q.2.1 q.2.2 (itN (aAgain1 S t) i s) ∧ (agI S n0 (itN (aAgain1 S t) i s) ∧ (itN (aAgain1 S t) i s).2.1.length = s.2.1.length))
    (fun n q hq => by
      have h0 := hq.1.2.1.2.1
      rw [hq.2.2] at h0
      show fX5_sendAgain_L15 N K (nI t) v (n + 1) (nI s.2.1.length) q.1 q.2.1 q.2.2 = _
      rw [fX5_sendAgain_L15, h0, if_pos (nI_le (Nat.le_refl _) (by omega))])
    (fun n i q hi hq => by
      obtain ⟨q1, q2, q3⟩ := hq
      obtain ⟨a', b', w', h1, h2⟩ := ag1_7 hS hv hn ht (k := i) (by omega) q1 q2 hN K n
      exact ⟨(a', b', w'), ⟨h1, ag1_I hS hn (by omega) q2, (ag1_len _).trans q3⟩, h2⟩) s.2.1.length N 0 (a, b, w) (by omega) (by omega) ⟨hc, hi, rfl⟩
  exact ⟨y.1, y.2.1, y.2.2, y1, e⟩
theorem ag_7 {v a b w : MM} {S : RW} {n0 : Nat} {s : SL} (hS : suR S) (hv : suC v S) (hn : n0 ≤ 400) (hc : sgC a b w s) (hi : agI S n0 s) {N : Nat} (hN : 100 < N) : ∃ y, fX5_sendAgain N v a b w = some y ∧ sgC y.1 y.2.1 y.2.2 (aAgain S s) := by
  have hT := hS.1
  unfold fX5_sendAgain
  obtain ⟨y, ⟨y1, y2⟩, e⟩ := lp_run (fun n i (q : MM × MM × MM) => fX5_sendAgain_L2 N (fun (_ : Int32) (a b w : MM) => some (a, b, w)) v n (nI i) q.1 q.2.1 q.2.2) (fun q => some q) (S 0 0) (fun i q => sgC q.1 q.2.1 q.2.2 (itN (aAgainT S) i s) ∧ agI S n0 (itN (aAgainT S) i s))
    (fun n q hq => by
      show fX5_sendAgain_L2 N _ v (n + 1) (nI (S 0 0)) q.1 q.2.1 q.2.2 = _
      rw [fX5_sendAgain_L2, hv.1, if_pos (nI_le (Nat.le_refl _) (by omega))])
    (fun n i q hi hq => by
      obtain ⟨q1, q2⟩ := hq
      obtain ⟨a', b', w', h1, h2⟩ := agT_7 hS hv hn hi q1 q2 hN (fun (_ : Int32) (v1 v2 v3 : MM) => fX5_sendAgain_L2 N (fun (_ : Int32) (a b w : MM) => some (a, b, w)) v n (nI i + 1) v1 v2 v3)
      refine ⟨(a', b', w'), ⟨h1, (agT_I hS hn q2).1⟩, ?_⟩
      show fX5_sendAgain_L2 N _ v (n + 1) (nI i) q.1 q.2.1 q.2.2 = _
      rw [fX5_sendAgain_L2, hv.1, if_neg (nI_ge hi (by omega)), h2, nI_1]) (S 0 0) N 0 (a, b, w) (by omega) (by omega) ⟨hc, hi⟩
  exact ⟨y, e, y1⟩
