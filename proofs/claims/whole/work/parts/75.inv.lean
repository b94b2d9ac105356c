/-! what holds of the abstract state within a step -/
theorem itN_inv {σ : Type} {f : Nat → σ → σ} (P : Nat → σ → Prop) {s : σ} : ∀ (n : Nat), P 0 s → (∀ i s, i < n → P i s → P (i + 1) (f i s)) → P n (itN f n s)
  | 0, h0, _ => h0
  | n + 1, h0, hs => hs n _ (by omega) (itN_inv P n h0 (fun i s hi => hs i s (by omega)))
theorem rwI_up {S r : RW} {k j x : Nat} (h : rwI S r) (h0 : k = 0 → x ≤ 400) (h1 : k = 1 → x ≤ 60) (h2 : k = 2 → x ≤ S 0 0) (h3 : k = 3 → x ≤ 1) (h4 : k = 4 → x ≤ 500) (h5 : k = 5 → x ≤ 1) (h6 : k = 6 → x ≤ 6000) (h9 : k = 9 → x ≤ 999) (hA : k = 10 → x ≤ 60) (hC : 9 ≤ k → k ≤ 12 → S 1 0 ≤ j → x = 0) : rwI S (au r k j x) := by
  obtain ⟨i0, i1, i2, i3, i4, i5⟩ := h
  unfold au
  refine ⟨?_, ?_, ?_, fun t ht => ⟨?_, ?_, ?_, ?_⟩, fun c hc => ⟨?_, ?_⟩, fun q c q1 q2 hc => ?_⟩
  · dsimp only
    split
    · exact h0 (by omega)
    · exact i0
  · dsimp only
    split
    · exact h1 (by omega)
    · exact i1
  · dsimp only
    split
    · exact h2 (by omega)
    · exact i2
  · dsimp only
    split
    · exact h3 (by omega)
    · exact (i3 t ht).1
  · dsimp only
    split
    · exact h4 (by omega)
    · exact (i3 t ht).2.1
  · dsimp only
    split
    · exact h5 (by omega)
    · exact (i3 t ht).2.2.1
  · dsimp only
    split
    · exact h6 (by omega)
    · exact (i3 t ht).2.2.2
  · dsimp only
    split
    · exact h9 (by omega)
    · exact (i4 c hc).1
  · dsimp only
    split
    · exact hA (by omega)
    · exact (i4 c hc).2
  · dsimp only
    split
    · exact hC (by omega) (by omega) (by omega)
    · exact i5 q c q1 q2 hc
theorem rwI_row {S r : RW} {k : Nat} {g : Nat → Nat} (h : rwI S r) (hk : 11 ≤ k ∧ k ≤ 12) (hg : ∀ c, S 1 0 ≤ c → g c = 0) : rwI S (ar r k g) := by
  obtain ⟨i0, i1, i2, i3, i4, i5⟩ := h
  refine ⟨?_, ?_, ?_, fun t ht => ⟨?_, ?_, ?_, ?_⟩, fun c hc => ⟨?_, ?_⟩, fun q c q1 q2 hc => ?_⟩
  · rw [ar_ne (by omega)]; exact i0
  · rw [ar_ne (by omega)]; exact i1
  · rw [ar_ne (by omega)]; exact i2
  · rw [ar_ne (by omega)]; exact (i3 t ht).1
  · rw [ar_ne (by omega)]; exact (i3 t ht).2.1
  · rw [ar_ne (by omega)]; exact (i3 t ht).2.2.1
  · rw [ar_ne (by omega)]; exact (i3 t ht).2.2.2
  · rw [ar_ne (by omega)]; exact (i4 c hc).1
  · rw [ar_ne (by omega)]; exact (i4 c hc).2
  · by_cases e : q = k
    · subst e
      rw [ar_at]
      exact hg c hc
    · rw [ar_ne e]
      exact i5 q c q1 q2 hc
theorem gain1_I {S r : RW} {c : Nat} (hS : suR S) (h : rwI S r) (hc : c < S 1 0) : rwI S (aGain1 S c r) := by
  have hb := (hS.2.2.2.2.2.2 c hc).2.2.2
  unfold aGain1
  exact rwI_up h (by omega) (by omega) (by omega) (by omega) (by omega) (by omega) (by omega) (by omega) (by omega) (by omega)
theorem ask1_I {S r : RW} {t : Nat} (hS : suR S) (h : rwI S r) : rwI S (aAsk1 S t r) := by
  have h3 := hS.2.2.1
  have h0 := h.1
  unfold aAsk1
  split
  · exact rwI_up (rwI_up (rwI_up h (by omega) (by omega) (by omega) (by omega) (by omega) (by omega) (by omega) (by omega) (by omega) (by omega)) (by omega) (by omega) (by omega) (by omega) (by omega) (by omega) (by omega) (by omega) (by omega) (by omega)) (by omega) (by omega) (by omega) (by omega) (by omega) (by omega) (by omega) (by omega) (by omega) (by omega)
  · exact h
theorem gain_I {S r : RW} (hS : suR S) (h : rwI S r) : rwI S (aGain S r) := itN_inv (fun _ r => rwI S r) _ h (fun _ _ hi h => gain1_I hS h hi)
theorem asks_I {S r : RW} (hS : suR S) (h : rwI S r) : rwI S (aAsks S r) := itN_inv (fun _ r => rwI S r) _ h (fun _ _ _ h => ask1_I hS h)
theorem gain_row {S r : RW} {q : Nat} (hq : q ≠ 10) : aGain S r q = r q := itN_inv (fun _ (x : RW) => x q = r q) _ rfl (fun i x _ h => by unfold aGain1; rw [au_row hq]; exact h)
theorem asks_row {S r : RW} {q : Nat} (hq : q ≠ 5 ∧ q ≠ 7 ∧ q ≠ 4) : aAsks S r q = r q := itN_inv (fun _ (x : RW) => x q = r q) _ rfl (fun i x _ h => by
  unfold aAsk1
  split
  · rw [au_row (by omega), au_row (by omega), au_row (by omega)]
    exact h
  · exact h)
theorem send_I {S r : RW} {x : BL} (hS : suR S) (h : rwI S r) (ho : okS S x) : rwI S (aSendR S r x) := by
  obtain ⟨o1, o2, o3, o4, o5⟩ := ho
  have hz : ∀ k, 11 ≤ k → k ≤ 12 → ∀ c, S 1 0 ≤ c → r k c + x.2.2.2.2 c = 0 := fun k k1 k2 c hc => by
    have e1 := h.2.2.2.2.2 k c (by omega) k2 hc
    have e2 := o4 c hc
    omega
  unfold aSendR
  split
  · split
    · unfold aLose
      exact rwI_row (rwI_up h (by omega) (by omega) (by omega) (by omega) (by omega) (by omega) (by omega) (by omega) (by omega) (by omega)) (by omega) (hz 12 (by omega) (by omega))
    · exact h
  · unfold aHear
    refine rwI_row (rwI_up h (by omega) (by omega) (by omega) (by omega) (by omega) (by omega) (fun _ => ?_) (by omega) (by omega) (by omega)) (by omega) (hz 11 (by omega) (by omega))
    split
    · have h3 := hS.1
      have := (h.2.2.2.1 x.1 (by omega)).2.2.2
      omega
    · omega
theorem send_row {S r : RW} {x : BL} {q : Nat} (hq : q ≠ 3 ∧ q ≠ 6 ∧ q ≠ 11 ∧ q ≠ 12) : aSendR S r x q = r q := by
  unfold aSendR
  split
  · split
    · unfold aLose
      rw [ar_ne (by omega), au_row (by omega)]
    · rfl
  · unfold aHear
    rw [ar_ne (by omega), au_row (by omega)]
/-- a block on the way in a step n -/
def okB (S : RW) (n : Nat) (x : BL) : Prop := n + 1 ≤ x.2.1 ∧ x.2.1 ≤ n + S 4 0 + 1 ∧ 1 ≤ x.2.2.1 ∧ x.2.2.1 < S 5 0 ∧ S 4 0 * x.2.2.1 + 1 ≤ x.2.1 ∧ x.2.2.2.1 ≤ 6000 ∧ (∀ c, S 1 0 ≤ c → x.2.2.2.2 c = 0) ∧ aTot (S 1 0) x.2.2.2.2 ≤ 60
def okM (S : RW) (n : Nat) (x : BL) : Prop := x.1 < S 0 0 ∧ (x.2.1 = 0 ∨ okB S n x)
def diff (S : RW) (x y : BL) : Prop := x.2.1 ≠ 0 → y.2.1 ≠ 0 → ¬ (x.1 = y.1 ∧ aMade S x = aMade S y)
theorem diff_symm {S : RW} {x y : BL} (h : diff S x y) : diff S y x := fun a b q => h b a ⟨q.1.symm, q.2.symm⟩
theorem okM_okS {S : RW} {n : Nat} {x : BL} (hS : suR S) (h : okM S n x) (hd : x.2.1 ≠ 0) : okS S x := by
  obtain ⟨h1, h2⟩ := h
  rcases h2 with h2 | h2
  · exact absurd h2 hd
  · obtain ⟨b1, b2, b3, b4, b5, b6, b7, b8⟩ := h2
    have h5 := hS.2.2.2.2.1.2
    exact ⟨h1, by omega, b6, b7, b8⟩
theorem okM_due {S : RW} {n : Nat} {x : BL} (hS : suR S) (hn : n ≤ 400) (h : okM S n x) : x.2.1 ≤ 500 := by
  have h4 := hS.2.2.2.1.2
  rcases h.2 with h2 | h2
  · omega
  · have := h2.2.1
    omega
theorem sendB_M {S r : RW} {n : Nat} {x : BL} (hS : suR S) (hn : r 0 0 = n) (hd : x.2.1 = n + 1) (h : okM S n x) : okM S n (aSendB S r x) ∧ (aSendB S r x).1 = x.1 ∧ (aSendB S r x).2.1 ≠ n + 1 ∧ ((aSendB S r x).2.1 ≠ 0 → aMade S (aSendB S r x) = aMade S x) := by
  have h4 := hS.2.2.2.1.1
  obtain ⟨h1, h2⟩ := h
  rcases h2 with h2 | ⟨b1, b2, b3, b4, b5, b6, b7, b8⟩
  · omega
  unfold aSendB
  have hm : S 4 0 * (x.2.2.1 + 1) = S 4 0 * x.2.2.1 + S 4 0 := Nat.mul_succ _ _
  split
  · split
    · exact ⟨⟨h1, Or.inl rfl⟩, rfl, by show (0 : Nat) ≠ _; omega, fun q => absurd rfl q⟩
    · rename_i hs
      refine ⟨⟨h1, Or.inr ⟨?_, ?_, ?_, ?_, ?_, b6, b7, b8⟩⟩, rfl, ?_, fun _ => ?_⟩
      · show n + 1 ≤ r 0 0 + S 4 0 + 1
        omega
      · show r 0 0 + S 4 0 + 1 ≤ n + S 4 0 + 1
        omega
      · show 1 ≤ x.2.2.1 + 1
        omega
      · show x.2.2.1 + 1 < S 5 0
        omega
      · show S 4 0 * (x.2.2.1 + 1) + 1 ≤ r 0 0 + S 4 0 + 1
        omega
      · show r 0 0 + S 4 0 + 1 ≠ n + 1
        omega
      · show r 0 0 + S 4 0 + 1 - 1 - S 4 0 * (x.2.2.1 + 1) = x.2.1 - 1 - S 4 0 * x.2.2.1
        omega
  · exact ⟨⟨h1, Or.inl rfl⟩, rfl, by show (0 : Nat) ≠ _; omega, fun q => absurd rfl q⟩
/-- within the sending again -/
def agI (S : RW) (n : Nat) (s : SL) : Prop := rwI S s.1 ∧ s.1 0 0 = n ∧ s.2.2 ≤ 60 ∧ (∀ x ∈ s.2.1, okM S n x) ∧ s.2.1.Pairwise (diff S)
theorem pw_get {l : List BL} {R : BL → BL → Prop} (hs : ∀ x y, R x y → R y x) (h : l.Pairwise R) {i j : Nat} {x y : BL} (hij : i ≠ j) (hi : l[i]? = some x) (hj : l[j]? = some y) : R x y := by
  obtain ⟨a1, a2⟩ := List.getElem?_eq_some_iff.mp hi
  obtain ⟨b1, b2⟩ := List.getElem?_eq_some_iff.mp hj
  rw [List.pairwise_iff_getElem] at h
  subst a2
  subst b2
  rcases Nat.lt_or_gt_of_ne hij with q | q
  · exact h i j a1 b1 q
  · exact hs _ _ (h j i b1 a1 q)
theorem pw_set {l : List BL} {R : BL → BL → Prop} (hs : ∀ x y, R x y → R y x) (h : l.Pairwise R) {k : Nat} {x : BL} (hn : ∀ j y, j ≠ k → l[j]? = some y → R x y) : (l.set k x).Pairwise R := by
  rw [List.pairwise_iff_getElem]
  intro i j hi hj hij
  rw [List.length_set] at hi hj
  have gi : l[i]? = some l[i] := List.getElem?_eq_getElem hi
  have gj : l[j]? = some l[j] := List.getElem?_eq_getElem hj
  rw [List.getElem_set, List.getElem_set]
  by_cases e1 : k = i
  · rw [if_pos e1, if_neg (by omega)]
    exact hn j _ (by omega) gj
  · rw [if_neg e1]
    by_cases e2 : k = j
    · rw [if_pos e2]
      exact hs _ _ (hn i _ (by omega) gi)
    · rw [if_neg e2]
      exact pw_get hs h (by omega) gi gj
theorem ag1_len {S : RW} {t k : Nat} (s : SL) : (aAgain1 S t k s).2.1.length = s.2.1.length := by
  unfold aAgain1
  split
  · exact List.length_set
  · rfl
theorem ag1_I {S : RW} {n t k : Nat} {s : SL} (hS : suR S) (hn : n ≤ 400) (hk : k < s.2.1.length) (h : agI S n s) : agI S n (aAgain1 S t k s) := by
  obtain ⟨h1, h2, h3, h4, h5⟩ := h
  unfold aAgain1
  split
  · rename_i hc
    have hm := bAt_some hk
    have hM := h4 _ (List.mem_of_getElem? hm)
    obtain ⟨q1, q2, q3, q4⟩ := sendB_M (r := s.1) hS h2 (by omega) hM
    refine ⟨send_I hS h1 (okM_okS hS hM (by omega)), ?_, ?_, fun x hx => ?_, ?_⟩
    · show aSendR S s.1 _ 0 0 = n
      rw [send_row (by omega)]
      exact h2
    · show s.2.2 - _ ≤ 60
      omega
    · rcases List.mem_or_eq_of_mem_set hx with hx | hx
      · exact h4 x hx
      · rw [hx]
        exact q1
    · refine pw_set (fun x y => diff_symm) h5 (fun j y hj hy => ?_)
      have hd := pw_get (fun x y => diff_symm) h5 hj.symm hm hy
      intro e1 e2 e3
      exact hd (by omega) e2 ⟨q2 ▸ e3.1, (q4 e1) ▸ e3.2⟩
  · exact ⟨h1, h2, h3, h4, h5⟩
theorem agT_I {S : RW} {n t : Nat} {s : SL} (hS : suR S) (hn : n ≤ 400) (h : agI S n s) : agI S n (aAgainT S t s) ∧ (aAgainT S t s).2.1.length = s.2.1.length := by
  exact itN_inv (fun _ q => agI S n q ∧ q.2.1.length = s.2.1.length) _ ⟨h, rfl⟩ (fun i q hi hq => ⟨ag1_I hS hn (by omega) hq.1, (ag1_len q).trans hq.2⟩)
theorem ag_I {S : RW} {n : Nat} {s : SL} (hS : suR S) (hn : n ≤ 400) (h : agI S n s) : agI S n (aAgain S s) ∧ (aAgain S s).2.1.length = s.2.1.length :=
  itN_inv (fun _ q => agI S n q ∧ q.2.1.length = s.2.1.length) _ ⟨h, rfl⟩ (fun i q _ hq => ⟨(agT_I hS hn hq.1).1, (agT_I hS hn hq.1).2.trans hq.2⟩)
