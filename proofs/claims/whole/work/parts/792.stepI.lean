/-! what holds behind a step; the class's step -/
theorem nodup_len : ∀ (n : Nat) (l : List Nat), l.Nodup → (∀ x ∈ l, x < n) → l.length ≤ n
  | 0, l, _, h => by
    cases l with
    | nil => exact Nat.le_refl 0
    | cons x l => exact absurd (h x (List.mem_cons_self)) (by omega)
  | n + 1, l, hd, h => by
    by_cases hm : n ∈ l
    · have h1 := nodup_len n (l.erase n) (hd.erase n) (fun x hx => by
        have h2 := (List.Nodup.mem_erase_iff hd).mp hx
        have h3 := h x h2.2
        have h4 := h2.1
        omega)
      rw [List.length_erase_of_mem hm] at h1
      omega
    · have h1 := nodup_len n l hd (fun x hx => by
        have h3 := h x hx
        have h4 : x ≠ n := fun q => hm (q ▸ hx)
        omega)
      omega
theorem made_lt {S r : RW} {x : BL} (hS : suR S) (h1 : x.2.1 ≤ r 0 0 + S 4 0) (h2 : 1 ≤ x.2.2.1) (h3 : S 4 0 * x.2.2.1 + 1 ≤ x.2.1) : aMade S x < r 0 0 := by
  have h4 := hS.2.2.2.1
  have hm : S 4 0 * 1 ≤ S 4 0 * x.2.2.1 := Nat.mul_le_mul_left _ h2
  unfold aMade
  omega
theorem made_ge {S r : RW} {x : BL} (hS : suR S) (h1 : r 0 0 + 1 ≤ x.2.1) (h2 : x.2.2.1 < S 5 0) : r 0 0 ≤ aMade S x + 18 := by
  have h4 := hS.2.2.2.1
  have h5 := hS.2.2.2.2.1
  have hm : S 4 0 * x.2.2.1 ≤ 6 * 3 := Nat.mul_le_mul h4.2 (by omega)
  unfold aMade
  omega
theorem bl_len {S r : RW} {l : List BL} (hS : suR S) (h : blI S r l) : l.length ≤ 54 := by
  obtain ⟨h1, h2⟩ := h
  have hT := hS.1
  have hnd : (l.map (fun x => x.1 * 18 + (r 0 0 - 1 - aMade S x))).Nodup := by
    unfold List.Nodup
    rw [List.pairwise_map]
    refine List.Pairwise.imp_of_mem ?_ h2
    intro x y hx hy hne he
    have hx1 := h1 x hx
    have hy1 := h1 y hy
    have a1 := made_lt hS hx1.2.2.1 hx1.2.2.2.1 hx1.2.2.2.2.2.1
    have a2 := made_lt hS hy1.2.2.1 hy1.2.2.2.1 hy1.2.2.2.2.2.1
    have a3 := made_ge hS hx1.2.1 hx1.2.2.2.2.1
    have a4 := made_ge hS hy1.2.1 hy1.2.2.2.2.1
    exact hne (by omega)
  have h3 := nodup_len 54 _ hnd (fun q hq => by
    obtain ⟨x, hx, rfl⟩ := List.mem_map.mp hq
    have hx1 := h1 x hx
    have a1 := made_lt hS hx1.2.2.1 hx1.2.2.2.1 hx1.2.2.2.2.2.1
    have a3 := made_ge hS hx1.2.1 hx1.2.2.2.2.1
    have := hx1.1
    omega)
  rw [List.length_map] at h3
  exact h3
/-- who is due no more, who was made before -/
def agK (S : RW) (n t k : Nat) (s : SL) : Prop := ∀ j x, s.2.1[j]? = some x → x.2.1 ≠ 0 → aMade S x < n ∧ ((x.1 < t ∨ (x.1 = t ∧ j < k)) → x.2.1 ≠ n + 1)
theorem ag1_K {S : RW} {n t k : Nat} {s : SL} (hS : suR S) (hk : k < s.2.1.length) (h : agI S n s) (hK : agK S n t k s) : agK S n t (k + 1) (aAgain1 S t k s) := by
  obtain ⟨h1, h2, h3, h4, h5⟩ := h
  have hm := bAt_some hk
  have hM := h4 _ (List.mem_of_getElem? hm)
  unfold aAgain1
  split
  · rename_i hc
    obtain ⟨q1, q2, q3, q4⟩ := sendB_M (r := s.1) hS h2 (by omega) hM
    intro j x hj hx
    have hj : (s.2.1.set k (aSendB S s.1 (bAt s.2.1 k)))[j]? = some x := hj
    rw [List.getElem?_set] at hj
    by_cases e : k = j
    · rw [if_pos e, if_pos hk] at hj
      cases hj
      exact ⟨(q4 hx) ▸ (hK k _ hm (by omega)).1, fun _ => q3⟩
    · rw [if_neg e] at hj
      exact ⟨(hK j x hj hx).1, fun q => (hK j x hj hx).2 (by omega)⟩
  · rename_i hc
    intro j x hj hx
    refine ⟨(hK j x hj hx).1, fun q => ?_⟩
    by_cases e : k = j
    · subst e
      rw [hm] at hj
      cases hj
      rcases q with q | q
      · exact (hK k _ hm hx).2 (Or.inl q)
      · intro w
        exact hc ⟨q.1, by omega⟩
    · exact (hK j x hj hx).2 (by omega)
theorem agT_K {S : RW} {n t : Nat} {s : SL} (hS : suR S) (hn : n ≤ 400) (h : agI S n s) (hK : agK S n t 0 s) : agK S n (t + 1) 0 (aAgainT S t s) := by
  have h1 := itN_inv (f := aAgain1 S t) (fun i q => (agI S n q ∧ q.2.1.length = s.2.1.length) ∧ agK S n t i q) (s := s) s.2.1.length ⟨⟨h, rfl⟩, hK⟩ (fun i q hi hq => ⟨⟨ag1_I hS hn (by omega) hq.1.1, (ag1_len q).trans hq.1.2⟩, ag1_K hS (by omega) hq.1.1 hq.2⟩)
  intro j x hj hx
  have hlt := (List.getElem?_eq_some_iff.mp hj).1
  have hl : (aAgainT S t s).2.1.length = s.2.1.length := h1.1.2
  exact ⟨(h1.2 j x hj hx).1, fun q => (h1.2 j x hj hx).2 (by omega)⟩
theorem ag_K {S : RW} {n : Nat} {s : SL} (hS : suR S) (hn : n ≤ 400) (h : agI S n s) (hK : agK S n 0 0 s) : agK S n (S 0 0) 0 (aAgain S s) :=
  (itN_inv (f := aAgainT S) (fun i q => agI S n q ∧ agK S n i 0 q) (s := s) (S 0 0) ⟨h, hK⟩ (fun i q _ hq => ⟨(agT_I hS hn hq.1).1, agT_K hS hn hq.1 hq.2⟩)).2
theorem mod_ne {T f i j : Nat} (hT : T ≤ 3) (hj : j < i) (hi : i < T) : (f + j) % T ≠ (f + i) % T := by
  have h : T = 2 ∨ T = 3 := by omega
  rcases h with rfl | rfl <;> omega
/-- between the grants: the blocks on the way -/
def okN (S : RW) (n : Nat) (x : BL) : Prop := x.1 < S 0 0 ∧ okB S n x ∧ n + 2 ≤ x.2.1
def gvJ (S : RW) (n f i : Nat) (s : SL) : Prop := gvI S n s ∧ (∀ x ∈ s.2.1, okN S n x ∧ aMade S x ≤ n ∧ (aMade S x = n → ∃ j, j < i ∧ x.1 = (f + j) % S 0 0)) ∧ s.2.1.Pairwise (fun x y => ¬ (x.1 = y.1 ∧ aMade S x = aMade S y))
theorem putB_N {S r : RW} {n t g : Nat} (hS : suR S) (hI : rwI S r) (h0 : r 0 0 = n) (ht : t < S 0 0) (hg : g ≤ 60) (hd : (aPutB S r t g).2.1 ≠ 0) : okN S n (aPutB S r t g) ∧ aMade S (aPutB S r t g) = n ∧ (aPutB S r t g).1 = t := by
  have hn : aPackR S r t g 0 0 = n := by rw [packR_row (by omega)]; exact h0
  obtain ⟨o1, o2, o3, o4, o5⟩ := packB_ok hS hI ht hg
  have h4 := hS.2.2.2.1
  unfold aPutB at hd ⊢
  split at hd
  · exact absurd rfl hd
  · rename_i hc
    rw [if_neg hc]
    unfold aSendB at hd ⊢
    split at hd
    · rename_i hq
      rw [if_pos hq]
      split at hd
      · exact absurd rfl hd
      · rename_i hw
        rw [if_neg hw]
        have hs : (aPackB S r t g).2.2.1 = 0 := rfl
        rw [hs] at hw ⊢
        rw [hn]
        refine ⟨⟨o1, ⟨?_, ?_, ?_, ?_, ?_, o3, o4, o5⟩, ?_⟩, ?_, rfl⟩
        · show n + 1 ≤ n + S 4 0 + 1
          omega
        · show n + S 4 0 + 1 ≤ n + S 4 0 + 1
          omega
        · show 1 ≤ 0 + 1
          omega
        · show 0 + 1 < S 5 0
          omega
        · show S 4 0 * (0 + 1) + 1 ≤ n + S 4 0 + 1
          omega
        · show n + 2 ≤ n + S 4 0 + 1
          omega
        · show n + S 4 0 + 1 - 1 - S 4 0 * (0 + 1) = n
          omega
    · exact absurd rfl hd
theorem gv1_J {S : RW} {n f i : Nat} {s : SL} (hS : suR S) (hi : i < S 0 0) (h : gvJ S n f i s) : gvJ S n f (i + 1) (aGive1 S f i s) := by
  have hI := gv1_I (f := f) (i := i) hS (by omega) h.1
  obtain ⟨h1, h2, h3⟩ := h
  have hT := hS.1
  unfold aGive1 at hI ⊢
  split at hI
  · rename_i hc
    rw [if_pos hc]
    have hm : (f + i) % S 0 0 < S 0 0 := Nat.mod_lt _ (by omega)
    have hg := grant_le s.1 ((f + i) % S 0 0) s.2.2
    have hg6 := h1.2.1
    have hr0 : aTake s.1 ((f + i) % S 0 0) s.2.2 0 0 = n := by rw [take_row (by omega)]; exact h1.2.2
    have hB := putB_N (n := n) (t := (f + i) % S 0 0) (g := aGrant s.1 ((f + i) % S 0 0) s.2.2) hS (take_I (left := s.2.2) h1.1 hm) hr0 hm (by omega)
    obtain ⟨B, hBe⟩ : ∃ B, B = aPutB S (aTake s.1 ((f + i) % S 0 0) s.2.2) ((f + i) % S 0 0) (aGrant s.1 ((f + i) % S 0 0) s.2.2) := ⟨_, rfl⟩
    rw [← hBe] at hB hI ⊢
    have hold : ∀ x ∈ s.2.1, okN S n x ∧ aMade S x ≤ n ∧ (aMade S x = n → ∃ j, j < i + 1 ∧ x.1 = (f + j) % S 0 0) := fun x hx => by
      obtain ⟨a1, a2, a3⟩ := h2 x hx
      exact ⟨a1, a2, fun q => by
        obtain ⟨j, b1, b2⟩ := a3 q
        exact ⟨j, by omega, b2⟩⟩
    by_cases e : B.2.1 = 0
    · have e2 : ngone [B] = [] := by
        rw [ngone_cons, if_pos e]
        rfl
      rw [e2] at hI ⊢
      rw [List.append_nil] at hI ⊢
      exact ⟨hI, hold, h3⟩
    · have e2 : ngone [B] = [B] := by
        rw [ngone_cons, if_neg e]
        rfl
      rw [e2] at hI ⊢
      obtain ⟨c1, c2, c3⟩ := hB e
      refine ⟨hI, fun x hx => ?_, ?_⟩
      · rcases List.mem_append.mp hx with hx | hx
        · exact hold x hx
        · rw [List.mem_singleton.mp hx]
          exact ⟨c1, by omega, fun _ => ⟨i, by omega, c3⟩⟩
      · show (s.2.1 ++ [B]).Pairwise _
        rw [List.pairwise_append]
        refine ⟨h3, List.pairwise_singleton _ _, fun x hx y hy => ?_⟩
        rw [List.mem_singleton.mp hy]
        intro q
        obtain ⟨j, j1, j2⟩ := (h2 x hx).2.2 (by omega)
        exact mod_ne (f := f) hT j1 hi (by rw [← j2, q.1, c3])
  · rename_i hc
    rw [if_neg hc]
    exact ⟨hI, fun x hx => by
      obtain ⟨a1, a2, a3⟩ := h2 x hx
      exact ⟨a1, a2, fun q => by
        obtain ⟨j, b1, b2⟩ := a3 q
        exact ⟨j, by omega, b2⟩⟩, h3⟩
theorem gv_J {S : RW} {n : Nat} {s : SL} (hS : suR S) (h : gvJ S n (s.1 2 0) 0 s) : gvJ S n (s.1 2 0) (S 0 0) (aGive S s) :=
  itN_inv (f := aGive1 S (s.1 2 0)) (fun i q => gvJ S n (s.1 2 0) i q) (s := s) (S 0 0) h (fun i q hi hq => gv1_J hS hi hq)
theorem mid_start {S : RW} {z : AS} (hS : suR S) (h : stI S z) : agI S (z.1 0 0) (aAsks S (aGain S z.1), z.2, aAsks S (aGain S z.1) 1 0) ∧ agK S (z.1 0 0) 0 0 (aAsks S (aGain S z.1), z.2, aAsks S (aGain S z.1) 1 0) := by
  obtain ⟨h1, h2, h3⟩ := h
  have hI := asks_I hS (gain_I hS h1)
  refine ⟨⟨hI, ?_, hI.2.1, fun x hx => ?_, ?_⟩, fun j x hj hx => ?_⟩
  · show aAsks S (aGain S z.1) 0 0 = _
    rw [asks_row (by omega), gain_row (by omega)]
  · obtain ⟨a1, a2, a3, a4, a5, a6, a7, a8, a9⟩ := h2 x hx
    exact ⟨a1, Or.inr ⟨a2, by omega, a4, a5, a6, a7, a8, a9⟩⟩
  · exact List.Pairwise.imp (fun h _ _ => h) h3
  · obtain ⟨a1, a2, a3, a4, a5, a6, a7, a8, a9⟩ := h2 x (List.mem_of_getElem? hj)
    exact ⟨made_lt hS a3 a4 a6, fun q => by omega⟩
theorem end_start {S : RW} {z : AS} (hS : suR S) (h : stI S z) : gvJ S (z.1 0 0) ((aMid S z).1 2 0) 0 ((aMid S z).1, ngone (aMid S z).2.1, (aMid S z).2.2) := by
  obtain ⟨m1, m2⟩ := mid_start hS h
  have a1 : agI S (z.1 0 0) (aMid S z) := (ag_I hS h.1.1 m1).1
  have a2 : agK S (z.1 0 0) (S 0 0) 0 (aMid S z) := ag_K hS h.1.1 m1 m2
  obtain ⟨b1, b2, b3, b4, b5⟩ := a1
  refine ⟨⟨b1, b3, b2⟩, fun x hx => ?_, ?_⟩
  · have hx2 := List.mem_filter.mp (show x ∈ (aMid S z).2.1.filter (fun x => decide (x.2.1 ≠ 0)) from hx)
    have hx0 : x.2.1 ≠ 0 := by simpa using hx2.2
    obtain ⟨o1, o2⟩ := b4 x hx2.1
    obtain ⟨j, hj⟩ := List.getElem?_of_mem hx2.1
    obtain ⟨k1, k2⟩ := a2 j x hj hx0
    have k3 := k2 (Or.inl o1)
    rcases o2 with o2 | o2
    · exact absurd o2 hx0
    · have o3 := o2.1
      exact ⟨⟨o1, o2, by omega⟩, by omega, fun q => by omega⟩
  · show (ngone (aMid S z).2.1).Pairwise _
    unfold ngone
    rw [List.pairwise_filter]
    refine List.Pairwise.imp ?_ b5
    intro x y hd hx hy
    exact hd (by simpa using hx) (by simpa using hy)
theorem step_I {S : RW} {z : AS} (hS : suR S) (hn : z.1 0 0 ≤ 399) (h : stI S z) : stI S (aStep S z) ∧ (aStep S z).1 0 0 = z.1 0 0 + 1 := by
  have hJ : gvJ S (z.1 0 0) ((aMid S z).1 2 0) (S 0 0) (aEnd S z) := gv_J hS (end_start hS h)
  obtain ⟨⟨j1, j2, j3⟩, j4, j5⟩ := hJ
  have h0 : (aStep S z).1 0 0 = z.1 0 0 + 1 := by
    show au (aEnd S z).1 0 0 ((aEnd S z).1 0 0 + 1) 0 0 = _
    rw [au_eq, j3]
  refine ⟨⟨?_, fun x hx => ?_, j5⟩, h0⟩
  · show rwI S (au (aEnd S z).1 0 0 ((aEnd S z).1 0 0 + 1))
    exact rwI_up j1 (by omega) (by omega) (by omega) (by omega) (by omega) (by omega) (by omega) (by omega) (by omega) (by omega)
  · obtain ⟨⟨o1, ⟨p1, p2, p3, p4, p5, p6, p7, p8⟩, o3⟩, -, -⟩ := j4 x hx
    rw [h0]
    exact ⟨o1, by omega, by omega, p3, p4, p5, p6, p7, p8⟩
theorem steps_I {S : RW} (hS : suR S) {z : AS} (h : stI S z) : ∀ m : Nat, z.1 0 0 + m ≤ 400 → stI S (itN (fun _ => aStep S) m z) ∧ (itN (fun _ => aStep S) m z).1 0 0 = z.1 0 0 + m
  | 0, _ => ⟨h, rfl⟩
  | m + 1, hm => by
    obtain ⟨h1, h2⟩ := steps_I hS h m (by omega)
    obtain ⟨h3, h4⟩ := step_I hS (by omega) h1
    exact ⟨h3, by rw [show itN (fun _ => aStep S) (m + 1) z = aStep S (itN (fun _ => aStep S) m z) from rfl, h4, h2]; omega⟩
theorem step_7 {v a b w : MM} {S : RW} {z : AS} (hS : suR S) (hv : suC v S) (hc : stC a b z) (hI : stI S z) (hn : z.1 0 0 ≤ 399) {N : Nat} (hN : 100 < N) : ∃ a' b' w', stC a' b' (aStep S z) ∧ ∀ (K : Int32 → MM → MM → MM → Option (Int32 × MM × MM × MM)) (x2 : Int32) (n i m : Nat), i < m → m < 2 ^ 30 → fX5_takeSteps_L10 N K (nI m) x2 v (n + 1) (nI i) a b w = fX5_takeSteps_L10 N K (nI m) x2 v n (nI (i + 1)) a' b' w' := by
  obtain ⟨m1, m2⟩ := mid_start hS hI
  have a1 : agI S (z.1 0 0) (aMid S z) ∧ (aMid S z).2.1.length = z.2.length := ag_I hS hI.1.1 m1
  have hlen := bl_len hS hI.2
  obtain ⟨g1, G1, G2⟩ := gain_7 (w := w) hS hv hc.1 hI.1 hN
  obtain ⟨g2, G3, G4⟩ := asks_7 (w := w) hS hv G2 (gain_I hS hI.1) hN
  obtain ⟨y4, G5, G6⟩ := ag_7 (w := st w 2 (fun _ => g2 1 0)) (s := (aAsks S (aGain S z.1), z.2, aAsks S (aGain S z.1) 1 0)) hS hv hI.1.1 ⟨G4, hc.2, by rw [st_eq]; exact G4.2.1⟩ m1 hN
  obtain ⟨e1, e2, e3⟩ := end_start hS hI
  have hsg : sgG (z.1 0 0) y4.1 y4.2.1 y4.2.2 ((aMid S z).1, ngone (aMid S z).2.1, (aMid S z).2.2) 54 := ⟨G6.1, ⟨(aMid S z).2.1, G6.2.1, rfl, by rw [a1.2]; exact hlen, fun x hx => okM_due hS hI.1.1 (a1.1.2.2.2.1 x hx)⟩, G6.2.2⟩
  obtain ⟨y5, G7, G8⟩ := gv_7 (s := ((aMid S z).1, ngone (aMid S z).2.1, (aMid S z).2.2)) hS hv hI.1.1 (by omega) hsg e1 hN
  obtain ⟨H1, ⟨lc, L1, L2, L3, L4⟩, H3⟩ := G8
  obtain ⟨y6, G9, GA⟩ := drop_7 L1 (fun x hx => by have := L4 x hx; omega) hN
  rw [L2] at GA
  refine ⟨st y5.1 0 (fun _ => ((y5.1 0 0) + (1 : Int32))), y6, y5.2.2, ⟨?_, GA⟩, fun K x2 n i m hi hm => ?_⟩
  · rw [H1.1, nI_1]
    exact rwC_now H1 _
  · rw [fX5_takeSteps_L10, if_neg (nI_ge hi (by omega)), G1, Option.bind_some, G3, Option.bind_some, G5, Option.bind_some, G7, Option.bind_some, G9, Option.bind_some, nI_1]
/-- how many letters came through in all -/
def aThr (r : RW) : Nat := smN (r 11) 6
theorem thr_7 {a : MM} {r : RW} (h : rwC a r) {N : Nat} (hN : 100 < N) : fX4_allThrough N a = some (nI (aThr r)) := by
  unfold fX4_allThrough
  exact lp_sum (fun n acc i => fX4_allThrough_L4 N (fun (x : Int32) (_ : Int32) => some x) a n acc i) (fun acc _ => some acc) 6 (r 11)
    (fun n acc => by
      show fX4_allThrough_L4 N _ a (n + 1) acc (nI 6) = _
      rw [fX4_allThrough_L4, if_pos (show (6 : Int32) ≤ nI 6 by decide)])
    (fun n i acc hi => by
      show fX4_allThrough_L4 N _ a (n + 1) acc (nI i) = _
      rw [fX4_allThrough_L4, if_neg (show ¬ (6 : Int32) ≤ nI i from nI_ge (b := 6) hi (by omega)), if_pos (ib_n (by omega) (by omega)), nI_clamp (by omega), h.2.2.2.2.1 11 i (by omega) (by omega) hi, nI_1]) (by omega)
theorem steps_7 {v a b w : MM} {S : RW} {z : AS} {m : Nat} (hS : suR S) (hv : suC v S) (hc : stC a b z) (hI : stI S z) (hm : z.1 0 0 + m ≤ 400) {N : Nat} (hN : 500 < N) : ∃ y, fX5_takeSteps N (nI m) v a b w = some y ∧ y.1 = nI (aThr (itN (fun _ => aStep S) m z).1) - nI (aThr z.1) ∧ stC y.2.1 y.2.2.1 (itN (fun _ => aStep S) m z) := by
  unfold fX5_takeSteps
  rw [thr_7 hc.1 (by omega), Option.bind_some]
  obtain ⟨y, y1, e⟩ := lp_run (fun n i (q : MM × MM × MM) => fX5_takeSteps_L10 N (fun (_ : Int32) (a b w : MM) => ((fX4_allThrough N a).bind (fun y8 => some ((y8 - nI (aThr z.1)), a, b, w)))) (nI m) (nI (aThr z.1)) v n (nI i) q.1 q.2.1 q.2.2) (fun q => ((fX4_allThrough N q.1).bind (fun y8 => some ((y8 - nI (aThr z.1)), q.1, q.2.1, q.2.2)))) m (fun i q => stC q.1 q.2.1 (itN (fun _ => aStep S) i z))
    (fun n q hq => by
      show fX5_takeSteps_L10 N _ (nI m) (nI (aThr z.1)) v (n + 1) (nI m) q.1 q.2.1 q.2.2 = _
      rw [fX5_takeSteps_L10, if_pos (nI_le (Nat.le_refl _) (by omega))])
    (fun n i q hi hq => by
      obtain ⟨h1, h2⟩ := steps_I hS hI i (by omega)
      obtain ⟨a', b', w', s1, s2⟩ := step_7 (w := q.2.2) hS hv hq h1 (by omega) (show 100 < N by omega)
      exact ⟨(a', b', w'), s1, s2 _ _ n i m hi (by omega)⟩) m N 0 (a, b, w) (by omega) (by omega) hc
  rw [thr_7 y1.1 (by omega), Option.bind_some] at e
  exact ⟨_, e, rfl, y1⟩
