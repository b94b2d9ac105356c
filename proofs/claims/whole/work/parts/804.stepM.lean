/-! the model: a step -/
theorem sg_up1 {u0 u : MM} {D : Int32} {r : RW} {l : List BL} (h : sgM u0 D u r l) {k t x : Nat} (hk : k < 6) (ht : t < 3) : sgM u0 D (st u 16 (upd (u 16) (4 + 13 * t + k) (nI x))) (au r (3 + k) t x) l := by
  obtain ⟨g1, g2, g3, g4⟩ := h
  refine ⟨?_, ?_, fun j h1 h2 => ?_, ?_⟩
  · rw [st_eq]
    exact rwM_1 g1 hk ht
  · rw [st_eq]
    exact blM_r g2 (fun j hj => upd_ne (by omega))
  · rw [st_ne (Ne.symm h1)]
    exact g3 j h1 h2
  · rw [st_ne (by omega), g4]
    exact congrArg (fun n => D + nI n) (thr_row (au_row (by omega))).symm
theorem sg_tok {u0 u : MM} {D : Int32} {r : RW} {l : List BL} (h : sgM u0 D u r l) {c x : Nat} (hc : c < 6) : sgM u0 D (st u 16 (upd (u 16) (43 + 4 * c + 1) (nI x))) (au r 10 c x) l := by
  obtain ⟨g1, g2, g3, g4⟩ := h
  refine ⟨?_, ?_, fun j h1 h2 => ?_, ?_⟩
  · rw [st_eq]
    exact rwM_2 (k := 1) g1 (by omega) hc
  · rw [st_eq]
    exact blM_r g2 (fun j hj => upd_ne (by omega))
  · rw [st_ne (Ne.symm h1)]
    exact g3 j h1 h2
  · rw [st_ne (by omega), g4]
    exact congrArg (fun n => D + nI n) (thr_row (au_row (by omega))).symm
theorem sg_last {u0 u : MM} {D : Int32} {r : RW} {l : List BL} (h : sgM u0 D u r l) (x : Nat) : sgM u0 D (st u 16 (upd (u 16) 2 (lastI x))) (au r 2 0 x) l := by
  obtain ⟨g1, g2, g3, g4⟩ := h
  refine ⟨?_, ?_, fun j h1 h2 => ?_, ?_⟩
  · rw [st_eq]
    exact rwM_l g1 x
  · rw [st_eq]
    exact blM_r g2 (fun j hj => upd_ne (by omega))
  · rw [st_ne (Ne.symm h1)]
    exact g3 j h1 h2
  · rw [st_ne (by omega), g4]
    exact congrArg (fun n => D + nI n) (thr_row (au_row (by omega))).symm
theorem sg_now {u0 u : MM} {D : Int32} {r : RW} {l : List BL} (h : sgM u0 D u r l) (x : Nat) : sgM u0 D (st u 16 (upd (u 16) 0 (nI x))) (au r 0 0 x) l := by
  obtain ⟨g1, g2, g3, g4⟩ := h
  refine ⟨?_, ?_, fun j h1 h2 => ?_, ?_⟩
  · rw [st_eq]
    exact rwM_0 g1 x
  · rw [st_eq]
    exact blM_r g2 (fun j hj => upd_ne (by omega))
  · rw [st_ne (Ne.symm h1)]
    exact g3 j h1 h2
  · rw [st_ne (by omega), g4]
    exact congrArg (fun n => D + nI n) (thr_row (au_row (by omega))).symm
theorem sg_su {u0 u : MM} {D : Int32} {S r : RW} {l : List BL} (hM : suM u0 S) (h : sgM u0 D u r l) : suM u S := suM_c hM (fun j h1 h2 => h.2.2.1 j (by omega) (by omega))
theorem gain_8 {u0 u : MM} {D : Int32} {S r : RW} {l : List BL} (hS : suR S) (hM : suM u0 S) (hg : sgM u0 D u r l) (hI : rwI S r) {N : Nat} (hN : 100 < N) : ∃ v, (∀ K, fX8_step_L2 N K N (0 : Int32) u = K (nI (S 1 0)) v) ∧ sgM u0 D v (aGain S r) l := by
  have hC := hS.2.1
  obtain ⟨v, ⟨v1, v2⟩, e⟩ := lp_all (fun K n i (v : MM) => fX8_step_L2 N K n (nI i) v) (fun K v => K (nI (S 1 0)) v) (S 1 0) (fun i v => sgM u0 D v (itN (aGain1 S) i r) l ∧ rwI S (itN (aGain1 S) i r))
    (fun K n v hv => by
      have h2 := (sg_su hM hv.1).2.1
      show fX8_step_L2 N K (n + 1) (nI (S 1 0)) v = _
      rw [fX8_step_L2, h2, if_pos (nI_le (Nat.le_refl _) (by omega))])
    (fun n i v hi hv => by
      obtain ⟨h1, h2⟩ := hv
      have hM' := sg_su hM h1
      have c2 := hM'.2.1
      have v9 : v 7 (4 * i + 2) = nI (S 9 i) := hM'.2.2.2.2.2.2 9 i (by omega) (by omega) hi
      have v10 : v 7 (4 * i + 3) = nI (S 10 i) := hM'.2.2.2.2.2.2 10 i (by omega) (by omega) hi
      have t10 : v 16 (43 + 4 * i + 1) = nI (itN (aGain1 S) i r 10 i) := h1.1.2.2.2.2.1 1 i (by omega) (by omega)
      have hb1 := hS.2.2.2.2.2.2 i hi
      have hb2 := (h2.2.2.2.2.1 i hi).2
      have e4 : ∀ k : Nat, (4 : Int32) * nI i + nI k = nI (4 * i + k) := fun k => by rw [show (4 : Int32) * nI i = nI (4 * i) from pk_mul 4 i, nI_add]
      refine ⟨_, ⟨sg_tok h1 (c := i) (x := min (S 10 i) (itN (aGain1 S) i r 10 i + S 9 i)) (by omega), gain1_I hS h2 hi⟩, fun K => ?_⟩
      show fX8_step_L2 N K (n + 1) (nI i) v = _
      rw [fX8_step_L2, c2, if_neg (nI_ge hi (by omega)), qc1, show (4 : Int32) * nI i + (3 : Int32) = nI (4 * i + 3) from e4 3, show (4 : Int32) * nI i + (2 : Int32) = nI (4 * i + 2) from e4 2, if_pos (ib_n (n := 4 * i + 3) (by omega) (by omega)), qc1, if_pos (ib_n (n := 43 + 4 * i + 1) (by omega) (by omega)), if_pos (ib_n (n := 4 * i + 2) (by omega) (by omega)), nI_clamp (n := 4 * i + 3) (by omega), nI_clamp (n := 4 * i + 2) (by omega), nI_clamp (n := 43 + 4 * i + 1) (by omega), v9, v10, t10, nI_add, qls N (by omega) (by omega), if_pos (ib_n (n := 43 + 4 * i + 1) (by omega) (by omega)), nI_1]) (S 1 0) N 0 u (by omega) (by omega) ⟨hg, hI⟩
  exact ⟨v, e, v1⟩
theorem ask_8 {u0 u : MM} {D : Int32} {S r : RW} {l : List BL} {t : Nat} (hS : suR S) (hM : suM u0 S) (hg : sgM u0 D u r l) (hI : rwI S r) (ht : t < S 0 0) (N : Nat) : ∃ v, fX8_asks N (nI t) u = some v ∧ sgM u0 D v (aAsk1 S t r) l := by
  have hT := hS.1
  have hM' := sg_su hM hg
  have t0 : u 16 0 = nI (r 0 0) := hg.1.1
  have t3 : u 16 (4 + 13 * t + 0) = nI (r 3 t) := hg.1.2.2.2.1 0 t (by omega) (by omega)
  have t4 : u 16 (4 + 13 * t + 1) = nI (r 4 t) := hg.1.2.2.2.1 1 t (by omega) (by omega)
  have t7 : u 16 (4 + 13 * t + 4) = nI (r 7 t) := hg.1.2.2.2.1 4 t (by omega) (by omega)
  have p6 := hM'.2.2.2.2.2.1 t ht
  have c3 := hM'.2.2.1
  have h0 := hI.1
  have hb := hI.2.2.2.1 t (by omega)
  have b6 := hS.2.2.2.2.2.1 t ht
  have b3 := hS.2.2.1
  have m1 : r 0 0 % S 6 t < 10 := Nat.lt_of_lt_of_le (Nat.mod_lt _ (by omega)) (by omega)
  have m2 : t % S 6 t < 10 := Nat.lt_of_lt_of_le (Nat.mod_lt _ (by omega)) (by omega)
  unfold fX8_asks aAsk1
  rw [if_pos (show ib (0 : Int32) 667 = true by decide), qt0, if_pos (ib_n (n := 4 + 13 * t + 0) (by omega) (by omega)), nI_clamp (n := 4 + 13 * t + 0) (by omega), t3]
  by_cases p3 : r 3 t = 1
  · rw [if_pos (show nI (r 3 t) = (1 : Int32) by rw [p3]; rfl), if_pos (ib_n (n := t) (by omega) (by omega)), nI_clamp (n := t) (by omega), p6, if_pos (show ¬ nI (S 6 t) = 0 from nI_ne0 (by omega) (by omega)), if_pos (ib_n (n := t) (by omega) (by omega)), if_pos (show ¬ nI (S 6 t) = 0 from nI_ne0 (by omega) (by omega)), show Int32.toNatClampNeg (0 : Int32) = 0 by decide, t0, pk_rem (a := r 0 0) (by omega) (by omega) (by omega), pk_rem (a := t) (by omega) (by omega) (by omega)]
    by_cases p1 : r 0 0 % S 6 t = t % S 6 t
    · rw [if_pos (show nI (r 0 0 % S 6 t) = nI (t % S 6 t) by rw [p1]), qt1, if_pos (ib_n (n := 4 + 13 * t + 1) (by omega) (by omega)), nI_clamp (n := 4 + 13 * t + 1) (by omega), t4]
      by_cases p2 : r 0 0 < r 4 t
      · rw [if_pos (nI_lt p2 (by omega)), if_neg (fun q => by have := q.2.2; omega)]
        exact ⟨u, rfl, hg⟩
      · rw [if_neg (nI_nlt (by omega) (by omega)), if_pos ⟨p3, p1, by omega⟩, qt2, if_pos (ib_n (n := 4 + 13 * t + 2) (by omega) (by omega)), qt4, if_pos (ib_n (n := 4 + 13 * t + 4) (by omega) (by omega)), if_pos (ib_n (n := 4 + 13 * t + 4) (by omega) (by omega)), qt1, if_pos (ib_n (n := 4 + 13 * t + 1) (by omega) (by omega)), nI_clamp (n := 4 + 13 * t + 2) (by omega), nI_clamp (n := 4 + 13 * t + 4) (by omega), nI_clamp (n := 4 + 13 * t + 1) (by omega), upd_ne (j := 4 + 13 * t + 4) (k := 4 + 13 * t + 2) (by omega), t7, c3, nI_add, nI_1, nI_1]
        have d1 := sg_up1 (k := 2) (t := t) (x := 1) hg (by omega) (by omega)
        have d2 := sg_up1 (k := 4) (t := t) (x := r 7 t + 1) d1 (by omega) (by omega)
        have d3 := sg_up1 (k := 1) (t := t) (x := r 0 0 + S 3 0 + 1) d2 (by omega) (by omega)
        rw [st_eq, st_eq] at d3
        exact ⟨_, rfl, d3⟩
    · rw [if_neg (show ¬ nI (r 0 0 % S 6 t) = nI (t % S 6 t) from fun q => p1 ((nI_eq (by omega) (by omega)).mp q)), if_neg (fun q => p1 q.2.1)]
      exact ⟨u, rfl, hg⟩
  · rw [if_neg (show ¬ nI (r 3 t) = (1 : Int32) from fun q => p3 ((nI_eq (b := 1) (by omega) (by omega)).mp q)), if_neg (fun q => p3 q.1)]
    exact ⟨u, rfl, hg⟩
theorem asks_8 {u0 u : MM} {D : Int32} {S r : RW} {l : List BL} (hS : suR S) (hM : suM u0 S) (hg : sgM u0 D u r l) (hI : rwI S r) {N : Nat} (hN : 100 < N) : ∃ v, (∀ K, fX8_step_L62 N K N (0 : Int32) u = K (nI (S 0 0)) v) ∧ sgM u0 D v (aAsks S r) l := by
  have hT := hS.1
  obtain ⟨v, ⟨v1, v2⟩, e⟩ := lp_all (fun K n i (v : MM) => fX8_step_L62 N K n (nI i) v) (fun K v => K (nI (S 0 0)) v) (S 0 0) (fun i v => sgM u0 D v (itN (aAsk1 S) i r) l ∧ rwI S (itN (aAsk1 S) i r))
    (fun K n v hv => by
      have h1 := (sg_su hM hv.1).1
      show fX8_step_L62 N K (n + 1) (nI (S 0 0)) v = _
      rw [fX8_step_L62, h1, if_pos (nI_le (Nat.le_refl _) (by omega))])
    (fun n i v hi hv => by
      obtain ⟨h1, h2⟩ := hv
      have c1 := (sg_su hM h1).1
      obtain ⟨w, w1, w2⟩ := ask_8 hS hM h1 h2 hi N
      refine ⟨w, ⟨w2, ask1_I hS h2⟩, fun K => ?_⟩
      show fX8_step_L62 N K (n + 1) (nI i) v = _
      rw [fX8_step_L62, c1, if_neg (nI_ge hi (by omega)), w1, Option.bind_some, nI_1]) (S 0 0) N 0 u (by omega) (by omega) ⟨hg, hI⟩
  exact ⟨v, e, v1⟩
/-- the model between the pieces of a step -/
def sgN (u0 : MM) (D : Int32) (q : Nat × MM) (s : SL) : Prop := q.1 = s.2.2 ∧ sgM u0 D q.2 s.1 s.2.1
theorem ag1_8 {u0 v : MM} {D : Int32} {S : RW} {n0 t k : Nat} {s : SL} (hS : suR S) (hM : suM u0 S) (hn : n0 ≤ 400) (ht : t < S 0 0) (hk : k < s.2.1.length) (hc : sgM u0 D v s.1 s.2.1) (hi : agI S n0 s) {N : Nat} (hN : 100 < N) (n : Nat) : ∃ v', sgM u0 D v' (aAgain1 S t k s).1 (aAgain1 S t k s).2.1 ∧ ∀ K, fX8_sendsAgain_L19 N K (nI t) (n + 1) (nI s.2.2) (nI k) v = fX8_sendsAgain_L19 N K (nI t) n (nI (aAgain1 S t k s).2.2) (nI (k + 1)) v' := by
  obtain ⟨i1, i2, i3, i4, i5⟩ := hi
  have h60 := hc.2.1.1
  have hm := bAt_some hk
  have hMk := i4 _ (List.mem_of_getElem? hm)
  obtain ⟨x, hx⟩ : ∃ x, x = bAt s.2.1 k := ⟨_, rfl⟩
  have hbk : bkM (v 16) k x := hx ▸ blM_at hc.2.1 hk
  rw [← hx] at hMk
  have hT := hS.1
  have hx1 := hMk.1
  have hdu := okM_due hS hn hMk
  have b0 : v 16 (67 + 10 * k + 0) = nI x.1 := hbk.1
  have b1 := hbk.2.1
  have t0 := hc.1.1
  unfold aAgain1
  rw [← hx]
  by_cases d1 : x.1 = t
  · by_cases d2 : x.2.1 = s.1 0 0 + 1
    · have ho := okM_okS hS hMk (by omega)
      have h45 := ho.2.2.2.2
      have h33 := ho.2.2.1
      have c2 := (sg_su hM hc).2.1
      have hcon : fX8_inBlock N (nI k) v = some (nI (aCont (S 1 0) x)) := inb_8 hS.2.1 c2 (by omega) hbk.2.2.2.2 hbk.2.2.2.1 (by omega) hN
      have hco : aCont (S 1 0) x ≤ 62 := by
        show aTot (S 1 0) x.2.2.2.2 + (if x.2.2.2.1 = 0 then 0 else 2) ≤ 62
        split <;> omega
      obtain ⟨w, w1, w2⟩ := sends_8 hS hM hc i1.1 (fun t ht => (i1.2.2.2.1 t ht).2.2.2) hk hx ho hN
      rw [if_pos ⟨d1, d2⟩]
      refine ⟨w, w2, fun K => ?_⟩
      show _ = fX8_sendsAgain_L19 N K (nI t) n (nI (s.2.2 - aCont (S 1 0) x)) (nI (k + 1)) w
      have hmin : s.2.2 - min s.2.2 (aCont (S 1 0) x) = s.2.2 - aCont (S 1 0) x := by omega
      rw [fX8_sendsAgain_L19, if_pos (show ib (3 : Int32) 667 = true by decide), show Int32.toNatClampNeg (3 : Int32) = 3 by decide, hc.2.1.2.1, if_neg (nI_ge hk (by omega)), qb0, if_pos (ib_n (by omega) (by omega)), nI_clamp (n := 67 + 10 * k + 0) (by omega), b0, if_pos (show nI x.1 = nI t by rw [d1]), qb1, if_pos (ib_n (by omega) (by omega)), if_pos (show ib (0 : Int32) 667 = true by decide), nI_clamp (n := 67 + 10 * k + 1) (by omega), show Int32.toNatClampNeg (0 : Int32) = 0 by decide, b1, t0, if_pos ((due_is (by omega) (by omega)).mpr d2), hcon, Option.bind_some, qls N (by omega) (by omega), w1, Option.bind_some, pk_sub (by omega), hmin, nI_1]
    · rw [if_neg (fun q => d2 q.2)]
      refine ⟨v, hc, fun K => ?_⟩
      rw [fX8_sendsAgain_L19, if_pos (show ib (3 : Int32) 667 = true by decide), show Int32.toNatClampNeg (3 : Int32) = 3 by decide, hc.2.1.2.1, if_neg (nI_ge hk (by omega)), qb0, if_pos (ib_n (by omega) (by omega)), nI_clamp (n := 67 + 10 * k + 0) (by omega), b0, if_pos (show nI x.1 = nI t by rw [d1]), qb1, if_pos (ib_n (by omega) (by omega)), if_pos (show ib (0 : Int32) 667 = true by decide), nI_clamp (n := 67 + 10 * k + 1) (by omega), show Int32.toNatClampNeg (0 : Int32) = 0 by decide, b1, t0, if_neg (fun q => d2 ((due_is (by omega) (by omega)).mp q)), nI_1]
  · rw [if_neg (fun q => d1 q.1)]
    refine ⟨v, hc, fun K => ?_⟩
    rw [fX8_sendsAgain_L19, if_pos (show ib (3 : Int32) 667 = true by decide), show Int32.toNatClampNeg (3 : Int32) = 3 by decide, hc.2.1.2.1, if_neg (nI_ge hk (by omega)), qb0, if_pos (ib_n (by omega) (by omega)), nI_clamp (n := 67 + 10 * k + 0) (by omega), b0, if_neg (show ¬ nI x.1 = nI t from fun q => d1 ((nI_eq (by omega) (by omega)).mp q)), nI_1]
theorem agT_8 {u0 v : MM} {D : Int32} {S : RW} {n0 t : Nat} {s : SL} (hS : suR S) (hM : suM u0 S) (hn : n0 ≤ 400) (ht : t < S 0 0) (hc : sgM u0 D v s.1 s.2.1) (hi : agI S n0 s) {N : Nat} (hN : 100 < N) : ∃ v', sgM u0 D v' (aAgainT S t s).1 (aAgainT S t s).2.1 ∧ ∀ K, fX8_sendsAgain_L19 N K (nI t) N (nI s.2.2) (0 : Int32) v = K (nI (aAgainT S t s).2.2) (nI s.2.1.length) v' := by
  have h60 := hc.2.1.1
  obtain ⟨y, ⟨y1, y2, y3⟩, e⟩ := lp_all (fun K n i (q : Nat × MM) => fX8_sendsAgain_L19 N K (nI t) n (nI q.1) (nI i) q.2) (fun K q => K (nI q.1) (nI s.2.1.length) q.2) s.2.1.length (fun i q => sgN u0 D q (itN (aAgain1 S t) i s) ∧ agI S n0 (itN (aAgain1 S t) i s) ∧ (itN (aAgain1 S t) i s).2.1.length = s.2.1.length)
    (fun K n q hq => by
      have h0 := hq.1.2.2.1.2.1
      rw [hq.2.2] at h0
      show fX8_sendsAgain_L19 N K (nI t) (n + 1) (nI q.1) (nI s.2.1.length) q.2 = _
      rw [fX8_sendsAgain_L19, if_pos (show ib (3 : Int32) 667 = true by decide), show Int32.toNatClampNeg (3 : Int32) = 3 by decide, h0, if_pos (nI_le (Nat.le_refl _) (by omega))])
    (fun n i q hi hq => by
      obtain ⟨⟨q0, q1⟩, q2, q3⟩ := hq
      obtain ⟨v', h1, h2⟩ := ag1_8 hS hM hn ht (k := i) (by omega) q1 q2 hN n
      refine ⟨((itN (aAgain1 S t) (i + 1) s).2.2, v'), ⟨⟨rfl, h1⟩, ag1_I hS hn (by omega) q2, (ag1_len _).trans q3⟩, fun K => ?_⟩
      show fX8_sendsAgain_L19 N K (nI t) (n + 1) (nI q.1) (nI i) q.2 = _
      rw [q0]
      exact h2 K) s.2.1.length N 0 (s.2.2, v) (by omega) (by omega) ⟨⟨rfl, hc⟩, hi, rfl⟩
  refine ⟨y.2, y1.2, fun K => ?_⟩
  have h := e K
  dsimp only at h
  rw [y1.1] at h
  exact h
theorem ag_8 {u0 v : MM} {D : Int32} {S : RW} {n0 : Nat} {s : SL} (hS : suR S) (hM : suM u0 S) (hn : n0 ≤ 400) (hc : sgM u0 D v s.1 s.2.1) (hi : agI S n0 s) (hr : s.1 1 0 = s.2.2) {N : Nat} (hN : 100 < N) : ∃ y, fX8_sendsAgain N v = some y ∧ y.1 = nI (aAgain S s).2.2 ∧ sgM u0 D y.2 (aAgain S s).1 (ngone (aAgain S s).2.1) := by
  have hT := hS.1
  have h60 := hc.2.1.1
  obtain ⟨y, ⟨y1, y2⟩, e⟩ := lp_run (fun n i (q : Nat × MM) => fX8_sendsAgain_L9 N (fun (x1_7 : Int32) (x2_7 : Int32) (v0_7 : MM) => ((fX8_clearsGone N v0_7).bind (fun y8 => some (x1_7, y8)))) n (nI q.1) (nI i) q.2) (fun q => ((fX8_clearsGone N q.2).bind (fun y8 => some (nI q.1, y8)))) (S 0 0) (fun i q => sgN u0 D q (itN (aAgainT S) i s) ∧ agI S n0 (itN (aAgainT S) i s))
    (fun n q hq => by
      have h1 := (sg_su hM hq.1.2).1
      show fX8_sendsAgain_L9 N _ (n + 1) (nI q.1) (nI (S 0 0)) q.2 = _
      rw [fX8_sendsAgain_L9, h1, if_pos (nI_le (Nat.le_refl _) (by omega))])
    (fun n i q hi hq => by
      obtain ⟨⟨q0, q1⟩, q2⟩ := hq
      have c1 := (sg_su hM q1).1
      obtain ⟨v', h1, h2⟩ := agT_8 hS hM hn hi q1 q2 hN
      refine ⟨((itN (aAgainT S) (i + 1) s).2.2, v'), ⟨⟨rfl, h1⟩, (agT_I hS hn q2).1⟩, ?_⟩
      show fX8_sendsAgain_L9 N _ (n + 1) (nI q.1) (nI i) q.2 = _
      rw [fX8_sendsAgain_L9, c1, if_neg (nI_ge hi (by omega)), q0, h2, nI_1]
      rfl) (S 0 0) N 0 (s.2.2, v) (by omega) (by omega) ⟨⟨rfl, hc⟩, hi⟩
  have y0 : y.1 = (aAgain S s).2.2 := y1.1
  have y3 : sgM u0 D y.2 (aAgain S s).1 (aAgain S s).2.1 := y1.2
  have y4 : agI S n0 (aAgain S s) := y2
  obtain ⟨w, w1, w2⟩ := clr_8 y3 (fun x hx => by
    have := okM_due hS hn (y4.2.2.2.1 x hx)
    omega) hN
  rw [w1, Option.bind_some] at e
  refine ⟨(nI y.1, w), ?_, by rw [y0], w2⟩
  unfold fX8_sendsAgain
  rw [if_pos (show ib (1 : Int32) 667 = true by decide), show Int32.toNatClampNeg (1 : Int32) = 1 by decide, hc.1.2.1, hr]
  exact e
theorem gv1_8 {u0 v : MM} {D : Int32} {S : RW} {n0 f i : Nat} {s : SL} {x1 : Int32} (hS : suR S) (hM : suM u0 S) (hn : n0 ≤ 400) (hf : f ≤ 3) (hiT : i < S 0 0) (hc : sgM u0 D v s.1 s.2.1) (hJ : gvJ S n0 f i s) (hl : s.2.1.length < 60) (hleft : 0 < s.2.2) {N : Nat} (hN : 100 < N) (n : Nat) : ∃ v', sgM u0 D v' (aGive1 S f i s).1 (aGive1 S f i s).2.1 ∧ ∀ K, fX8_grants_L31 N K x1 (nI f) (n + 1) (nI s.2.2) (nI i) v = fX8_grants_L31 N K x1 (nI f) n (nI (aGive1 S f i s).2.2) (nI (i + 1)) v' := by
  have hT := hS.1
  obtain ⟨⟨i1, i2, i3⟩, j2, j3⟩ := hJ
  have hgl : ∀ x ∈ s.2.1, x.2.1 ≠ 0 ∧ x.2.1 < 2 ^ 31 := fun x hx => by
    obtain ⟨⟨-, o2, o3⟩, -, -⟩ := j2 x hx
    have := o2.2.1
    have := hS.2.2.2.1.2
    omega
  obtain ⟨t, ht⟩ : ∃ t, t = (f + i) % S 0 0 := ⟨_, rfl⟩
  have ht2 : t < S 0 0 := by rw [ht]; exact Nat.mod_lt _ (by omega)
  have c1 := (sg_su hM hc).1
  have t5 : v 16 (4 + 13 * t + 2) = nI (s.1 5 t) := hc.1.2.2.2.1 2 t (by omega) (by omega)
  have t6 : v 16 (4 + 13 * t + 3) = nI (s.1 6 t) := hc.1.2.2.2.1 3 t (by omega) (by omega)
  have t8 : v 16 (4 + 13 * t + 5) = nI (s.1 8 t) := hc.1.2.2.2.1 5 t (by omega) (by omega)
  have hb := i1.2.2.2.1 t (by omega)
  have hgr := grant_le s.1 t s.2.2
  have hmod : (nI f + nI i) - (nI f + nI i) / nI (S 0 0) * nI (S 0 0) = nI t := by rw [nI_add, pk_rem (by omega) (by omega) (by omega), ht]
  obtain ⟨U, hU⟩ : ∃ U, U = st v 16 (upd (upd (upd (v 16) 2 (nI t)) (4 + 13 * t + 2) (0 : Int32)) (4 + 13 * t + 5) (nI (s.1 8 t + aGrant s.1 t s.2.2))) := ⟨_, rfl⟩
  have hUs : sgM u0 D U (aTake s.1 t s.2.2) s.2.1 := by
    have d1 := sg_last hc (t + 1)
    have d2 := sg_up1 (k := 2) (t := t) (x := 0) d1 (by omega) (by omega)
    have d3 := sg_up1 (k := 5) (t := t) (x := s.1 8 t + aGrant s.1 t s.2.2) d2 (by omega) (by omega)
    rw [st_eq, st_eq, st_st, st_st] at d3
    rw [hU]
    have e1 : aTake s.1 t s.2.2 = au (au (au s.1 2 0 (t + 1)) (3 + 2) t 0) (3 + 5) t (s.1 8 t + aGrant s.1 t s.2.2) := by
      unfold aTake
      rw [au_comm (k := 8) (q := 2) (by omega), au_comm (k := 5) (q := 2) (by omega)]
    rw [e1]
    exact d3
  obtain ⟨w, w1, w2⟩ := packs_8 (g := aGrant s.1 t s.2.2) hS hM hUs (take_I i1 ht2) hl hgl ht2 (by omega) hN
  have res : ∀ (A : Nat → Int32) (g : Nat), g = aGrant s.1 t s.2.2 → A = upd (upd (upd (v 16) 2 (nI t)) (4 + 13 * t + 2) (0 : Int32)) (4 + 13 * t + 5) (nI (s.1 8 t + g)) → fX8_packs N (nI t) (nI g) (st v 16 A) = some w := by
    intro A g hg hA
    rw [hA, hg, ← hU]
    exact w1
  unfold aGive1
  rw [← ht]
  by_cases hd : s.1 5 t = 1 ∨ 0 < s.1 6 t
  · rw [if_pos ⟨hleft, hd⟩]
    refine ⟨w, w2, fun K => ?_⟩
    show _ = fX8_grants_L31 N K x1 (nI f) n (nI (s.2.2 - aGrant s.1 t s.2.2)) (nI (i + 1)) w
    by_cases e6 : 0 < s.1 6 t
    · have hg : min (s.1 6 t + 2) s.2.2 = aGrant s.1 t s.2.2 := by
        unfold aGrant
        rw [if_pos e6]
      by_cases e5 : s.1 5 t = 1
      · rw [fX8_grants_L31, c1, if_neg (nI_ge hiT (by omega)), if_neg (nI_nle hleft (by omega)), if_pos (show ¬ nI (S 0 0) = 0 from nI_ne0 (by omega) (by omega)), hmod, qt3, if_pos (ib_n (n := 4 + 13 * t + 3) (by omega) (by omega)), qt2, if_pos (ib_n (n := 4 + 13 * t + 2) (by omega) (by omega)), nI_clamp (n := 4 + 13 * t + 3) (by omega), nI_clamp (n := 4 + 13 * t + 2) (by omega), t5, t6, if_pos (show nI (s.1 5 t) = (1 : Int32) by rw [e5]; rfl), if_neg (nI_nle e6 (by omega)), show nI (s.1 6 t) + (2 : Int32) = nI (s.1 6 t + 2) from nI_add _ 2, qls N (by omega) (by omega), if_pos (show ib (2 : Int32) 667 = true by decide), qt2, if_pos (ib_n (n := 4 + 13 * t + 2) (by omega) (by omega)), qt5, if_pos (ib_n (n := 4 + 13 * t + 5) (by omega) (by omega)), if_pos (ib_n (n := 4 + 13 * t + 5) (by omega) (by omega)), nI_clamp (n := 4 + 13 * t + 2) (by omega), nI_clamp (n := 4 + 13 * t + 5) (by omega), show Int32.toNatClampNeg (2 : Int32) = 2 by decide, st_st, st_st, res _ _ hg (by rw [upd_ne (j := 4 + 13 * t + 5) (k := 4 + 13 * t + 2) (by omega), upd_ne (j := 4 + 13 * t + 5) (k := 2) (by omega), t8, nI_add]), Option.bind_some, hg, pk_sub (by omega), nI_1]
      · rw [fX8_grants_L31, c1, if_neg (nI_ge hiT (by omega)), if_neg (nI_nle hleft (by omega)), if_pos (show ¬ nI (S 0 0) = 0 from nI_ne0 (by omega) (by omega)), hmod, qt3, if_pos (ib_n (n := 4 + 13 * t + 3) (by omega) (by omega)), qt2, if_pos (ib_n (n := 4 + 13 * t + 2) (by omega) (by omega)), nI_clamp (n := 4 + 13 * t + 3) (by omega), nI_clamp (n := 4 + 13 * t + 2) (by omega), t5, t6, if_neg (show ¬ nI (s.1 5 t) = (1 : Int32) from fun q => e5 ((nI_eq (b := 1) (by omega) (by omega)).mp q)), if_neg (nI_nle e6 (by omega)), if_neg (nI_nle e6 (by omega)), show nI (s.1 6 t) + (2 : Int32) = nI (s.1 6 t + 2) from nI_add _ 2, qls N (by omega) (by omega), if_pos (show ib (2 : Int32) 667 = true by decide), qt2, if_pos (ib_n (n := 4 + 13 * t + 2) (by omega) (by omega)), qt5, if_pos (ib_n (n := 4 + 13 * t + 5) (by omega) (by omega)), if_pos (ib_n (n := 4 + 13 * t + 5) (by omega) (by omega)), nI_clamp (n := 4 + 13 * t + 2) (by omega), nI_clamp (n := 4 + 13 * t + 5) (by omega), show Int32.toNatClampNeg (2 : Int32) = 2 by decide, st_st, st_st, res _ _ hg (by rw [upd_ne (j := 4 + 13 * t + 5) (k := 4 + 13 * t + 2) (by omega), upd_ne (j := 4 + 13 * t + 5) (k := 2) (by omega), t8, nI_add]), Option.bind_some, hg, pk_sub (by omega), nI_1]
    · have e5 : s.1 5 t = 1 := by omega
      have hg : min 4 s.2.2 = aGrant s.1 t s.2.2 := by
        unfold aGrant
        rw [if_neg e6]
      rw [fX8_grants_L31, c1, if_neg (nI_ge hiT (by omega)), if_neg (nI_nle hleft (by omega)), if_pos (show ¬ nI (S 0 0) = 0 from nI_ne0 (by omega) (by omega)), hmod, qt3, if_pos (ib_n (n := 4 + 13 * t + 3) (by omega) (by omega)), qt2, if_pos (ib_n (n := 4 + 13 * t + 2) (by omega) (by omega)), nI_clamp (n := 4 + 13 * t + 3) (by omega), nI_clamp (n := 4 + 13 * t + 2) (by omega), t5, t6, if_pos (show nI (s.1 5 t) = (1 : Int32) by rw [e5]; rfl), if_pos (show nI (s.1 6 t) ≤ (0 : Int32) by rw [show s.1 6 t = 0 by omega]; decide), show fX8_less N (4 : Int32) (nI s.2.2) = some (nI (min 4 s.2.2)) from ls_8 N (a := 4) (by omega) (by omega), Option.bind_some, if_pos (show ib (2 : Int32) 667 = true by decide), qt2, if_pos (ib_n (n := 4 + 13 * t + 2) (by omega) (by omega)), qt5, if_pos (ib_n (n := 4 + 13 * t + 5) (by omega) (by omega)), if_pos (ib_n (n := 4 + 13 * t + 5) (by omega) (by omega)), nI_clamp (n := 4 + 13 * t + 2) (by omega), nI_clamp (n := 4 + 13 * t + 5) (by omega), show Int32.toNatClampNeg (2 : Int32) = 2 by decide, st_st, st_st, res _ _ hg (by rw [upd_ne (j := 4 + 13 * t + 5) (k := 4 + 13 * t + 2) (by omega), upd_ne (j := 4 + 13 * t + 5) (k := 2) (by omega), t8, nI_add]), Option.bind_some, hg, pk_sub (by omega), nI_1]
  · have e5 : ¬ s.1 5 t = 1 := fun q => hd (Or.inl q)
    have e6 : s.1 6 t = 0 := by omega
    rw [if_neg (fun q => hd q.2)]
    refine ⟨v, hc, fun K => ?_⟩
    rw [fX8_grants_L31, c1, if_neg (nI_ge hiT (by omega)), if_neg (nI_nle hleft (by omega)), if_pos (show ¬ nI (S 0 0) = 0 from nI_ne0 (by omega) (by omega)), hmod, qt3, if_pos (ib_n (n := 4 + 13 * t + 3) (by omega) (by omega)), qt2, if_pos (ib_n (n := 4 + 13 * t + 2) (by omega) (by omega)), nI_clamp (n := 4 + 13 * t + 3) (by omega), nI_clamp (n := 4 + 13 * t + 2) (by omega), t5, t6, if_neg (show ¬ nI (s.1 5 t) = (1 : Int32) from fun q => e5 ((nI_eq (b := 1) (by omega) (by omega)).mp q)), if_pos (show nI (s.1 6 t) ≤ (0 : Int32) by rw [e6]; decide), nI_1]
theorem give1_len (S : RW) (f i : Nat) (s : SL) : (aGive1 S f i s).2.1.length ≤ s.2.1.length + 1 := by
  unfold aGive1
  split
  · show (s.2.1 ++ ngone [_]).length ≤ _
    rw [List.length_append]
    have : (ngone [aPutB S (aTake s.1 ((f + i) % S 0 0) s.2.2) ((f + i) % S 0 0) (aGrant s.1 ((f + i) % S 0 0) s.2.2)]).length ≤ 1 := List.length_filter_le _ _
    omega
  · omega
theorem gv_8 {u0 v : MM} {D : Int32} {S : RW} {n0 : Nat} {s : SL} (hS : suR S) (hM : suM u0 S) (hn : n0 ≤ 400) (hc : sgM u0 D v s.1 s.2.1) (hJ : gvJ S n0 (s.1 2 0) 0 s) (hl : s.2.1.length < 57) {N : Nat} (hN : 100 < N) : ∃ w, fX8_grants N (nI s.2.2) v = some w ∧ sgM u0 D w (aGive S s).1 (aGive S s).2.1 := by
  have hT := hS.1
  have hla := hJ.1.1.2.2.1
  have h60 := hJ.1.2.1
  obtain ⟨f, hf⟩ : ∃ f, f = s.1 2 0 := ⟨_, rfl⟩
  rw [← hf] at hJ
  have key : ∃ w, fX8_grants_L31 N (fun (x2_20 : Int32) (x4_20 : Int32) (v0_20 : MM) => some v0_20) (nI s.2.2) (nI f) N (nI s.2.2) (0 : Int32) v = some w ∧ sgM u0 D w (itN (aGive1 S f) (S 0 0) s).1 (itN (aGive1 S f) (S 0 0) s).2.1 := by
    refine lp_any (fun n i (q : Nat × MM) => fX8_grants_L31 N (fun (x2_20 : Int32) (x4_20 : Int32) (v0_20 : MM) => some v0_20) (nI s.2.2) (nI f) n (nI q.1) (nI i) q.2) (fun res => ∃ w, res = some w ∧ sgM u0 D w (itN (aGive1 S f) (S 0 0) s).1 (itN (aGive1 S f) (S 0 0) s).2.1) (S 0 0) (fun i q => sgN u0 D q (itN (aGive1 S f) i s) ∧ gvJ S n0 f i (itN (aGive1 S f) i s) ∧ (itN (aGive1 S f) i s).2.1.length ≤ s.2.1.length + i)
      (fun n q hq => ?_) (fun n i q hi hq => ?_) (S 0 0) N 0 (s.2.2, v) (by omega) (by omega) ⟨⟨rfl, hc⟩, hJ, by show s.2.1.length ≤ s.2.1.length + 0; omega⟩
    · have c1 := (sg_su hM hq.1.2).1
      refine ⟨q.2, ?_, hq.1.2⟩
      show fX8_grants_L31 N _ (nI s.2.2) (nI f) (n + 1) (nI q.1) (nI (S 0 0)) q.2 = _
      rw [fX8_grants_L31, c1, if_pos (nI_le (Nat.le_refl _) (by omega))]
    · obtain ⟨⟨hq0, hq1⟩, hq2, hq3⟩ := hq
      have c1 := (sg_su hM hq1).1
      by_cases e : (itN (aGive1 S f) i s).2.2 = 0
      · left
        have hst := gv_stop e (S 0 0 - i)
        rw [show i + (S 0 0 - i) = S 0 0 by omega] at hst
        rw [hst]
        refine ⟨q.2, ?_, hq1⟩
        show fX8_grants_L31 N _ (nI s.2.2) (nI f) (n + 1) (nI q.1) (nI i) q.2 = _
        rw [fX8_grants_L31, c1, if_neg (nI_ge hi (by omega)), hq0, e, if_pos (show nI 0 ≤ (0 : Int32) by decide)]
      · right
        obtain ⟨v', h1, h2⟩ := gv1_8 (x1 := nI s.2.2) hS hM hn (by omega) hi hq1 hq2 (by omega) (by omega) hN n
        refine ⟨((itN (aGive1 S f) (i + 1) s).2.2, v'), ⟨⟨rfl, h1⟩, gv1_J hS hi hq2, ?_⟩, ?_⟩
        · have := give1_len S f i (itN (aGive1 S f) i s)
          show (aGive1 S f i (itN (aGive1 S f) i s)).2.1.length ≤ _
          omega
        · show fX8_grants_L31 N _ (nI s.2.2) (nI f) (n + 1) (nI q.1) (nI i) q.2 = _
          rw [hq0]
          exact h2 _
  unfold fX8_grants aGive
  rw [if_pos (show ib (2 : Int32) 667 = true by decide), if_pos (show ib (2 : Int32) 667 = true by decide), show Int32.toNatClampNeg (2 : Int32) = 2 by decide, hc.1.2.2.1, ← hf]
  by_cases e : f = 0
  · rw [e] at key ⊢
    rw [if_pos (show lastI 0 = (-9 : Int32) from rfl)]
    exact key
  · rw [if_neg (show ¬ lastI f = (-9 : Int32) from fun q => e ((last_none (by omega)).mp q)), last_s e, nI_1, show f - 1 + 1 = f by omega]
    exact key
theorem step_8 {u0 u : MM} {D : Int32} {S : RW} {z : AS} (hS : suR S) (hM : suM u0 S) (hg : sgM u0 D u z.1 z.2) (hI : stI S z) (hn : z.1 0 0 ≤ 399) {N : Nat} (hN : 100 < N) : ∃ v, fX8_step N u = some v ∧ sgM u0 D v (aStep S z).1 (aStep S z).2 := by
  obtain ⟨m1, m2⟩ := mid_start hS hI
  have a1 : agI S (z.1 0 0) (aMid S z) ∧ (aMid S z).2.1.length = z.2.length := ag_I hS hI.1.1 m1
  have hlen := bl_len hS hI.2
  obtain ⟨g1, G1, G2⟩ := gain_8 hS hM hg hI.1 hN
  obtain ⟨g2, G3, G4⟩ := asks_8 hS hM G2 (gain_I hS hI.1) hN
  obtain ⟨y4, G5, G6, G7⟩ := ag_8 (s := (aAsks S (aGain S z.1), z.2, aAsks S (aGain S z.1) 1 0)) hS hM hI.1.1 G4 m1 rfl hN
  have hJ := end_start hS hI
  have G6 : y4.1 = nI (aMid S z).2.2 := G6
  have G7 : sgM u0 D y4.2 (aMid S z).1 (ngone (aMid S z).2.1) := G7
  have hle : (ngone (aMid S z).2.1).length ≤ (aMid S z).2.1.length := List.length_filter_le _ _
  obtain ⟨y5, G8, G9⟩ := gv_8 (s := ((aMid S z).1, ngone (aMid S z).2.1, (aMid S z).2.2)) hS hM hI.1.1 G7 hJ (by show (ngone (aMid S z).2.1).length < 57; omega) hN
  have G8 : fX8_grants N (nI (aMid S z).2.2) y4.2 = some y5 := G8
  have G9 : sgM u0 D y5 (aEnd S z).1 (aEnd S z).2.1 := G9
  have hfin := sg_now G9 ((aEnd S z).1 0 0 + 1)
  refine ⟨st y5 16 (upd (y5 16) 0 (nI ((aEnd S z).1 0 0 + 1))), ?_, hfin⟩
  unfold fX8_step
  rw [G1, G3, G5, Option.bind_some, G6, G8, Option.bind_some, if_pos (show ib (0 : Int32) 667 = true by decide), if_pos (show ib (0 : Int32) 667 = true by decide), show Int32.toNatClampNeg (0 : Int32) = 0 by decide, G9.1.1, nI_1]
