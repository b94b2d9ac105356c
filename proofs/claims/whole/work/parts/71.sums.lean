theorem lp_sum {ρ : Type} (L : Nat → Int32 → Int32 → Option ρ) (k : Int32 → Int32 → Option ρ) (e : Nat) (g : Nat → Nat) (hx : ∀ n acc, L (n + 1) acc (nI e) = k acc (nI e)) (hs : ∀ n i acc, i < e → L (n + 1) acc (nI i) = L n (acc + nI (g i)) (nI (i + 1))) {N : Nat} (hN : e < N) : L N (0 : Int32) (0 : Int32) = k (nI (smN g e)) (nI e) := by
  obtain ⟨y, hy, h⟩ := lp_run (fun n i acc => L n acc (nI i)) (fun acc => k acc (nI e)) e (fun i acc => acc = nI (smN g i)) (fun n acc _ => hx n acc) (fun n i acc hi ha => ⟨acc + nI (g i), by rw [ha, nI_add]; rfl, hs n i acc hi⟩) e N 0 (0 : Int32) (by omega) hN rfl
  rw [hy] at h
  exact h
def bAt (l : List BL) (k : Nat) : BL := l.getD k (0, 0, 0, 0, fun _ => 0)
theorem bAt_some {l : List BL} {k : Nat} (h : k < l.length) : l[k]? = some (bAt l k) := by
  unfold bAt
  rw [List.getD_eq_getElem?_getD, List.getElem?_eq_getElem h]
  rfl
def sLet (l : List BL) (c : Nat) : Nat := smN (fun k => (bAt l k).2.2.2.2 c) l.length
def sOwn (l : List BL) (t : Nat) : Nat := smN (fun k => if (bAt l k).1 = t then 1 else 0) l.length
def sWt (S r : RW) (t : Nat) : Nat := smN (fun c => if S 7 c = t then r 9 c else 0) (S 1 0)
theorem let_7 {b : MM} {l : List BL} (h : blC b l) {N : Nat} (hN : 100 < N) {c : Nat} (hc : c < 6) : fX0_lettersOnTheWay N (nI c) b = some (nI (sLet l c)) := by
  unfold fX0_lettersOnTheWay
  obtain ⟨h60, h0, h1⟩ := h
  exact lp_sum (fun n acc i => fX0_lettersOnTheWay_L4 N (fun (x2_2 : Int32) (_ : Int32) => some x2_2) (nI c) b n acc i) (fun acc _ => some acc) l.length (fun k => (bAt l k).2.2.2.2 c)
    (fun n acc => by
      show fX0_lettersOnTheWay_L4 N _ (nI c) b (n + 1) acc (nI l.length) = _
      rw [fX0_lettersOnTheWay_L4, h0, if_pos (nI_le (Nat.le_refl _) (by omega))])
    (fun n i acc hi => by
      have e1 : nI i * (6 : Int32) + nI c = nI (i * 6 + c) := by rw [show nI i * (6 : Int32) = nI (i * 6) from pk_mul i 6, nI_add]
      show fX0_lettersOnTheWay_L4 N _ (nI c) b (n + 1) acc (nI i) = _
      rw [fX0_lettersOnTheWay_L4, h0, if_neg (nI_ge hi (by omega))]
      unfold fX0_lettersOf
      rw [e1, if_neg (nI_pos (by omega)), if_neg (show ¬ (360 : Int32) ≤ nI (i * 6 + c) from nI_ge (b := 360) (by omega) (by omega)), if_pos (ib_nI (by omega) (by omega)), nI_clamp (by omega), Option.bind_some, nI_1]
      have h5 := (h1 i _ (bAt_some hi)).2.2.2.2 c hc
      rw [show i * 6 + c = 6 * i + c by omega, h5]) (by omega)
theorem let_8 {ρ : Type} {u : MM} {l : List BL} (h : blM (u 16) l) {N : Nat} (hN : 100 < N) {c : Nat} (hc : c < 6) (x2 : Int32) (k : Int32 → Int32 → Option (Int32 × MM)) : fX8_sort_L65 N k (nI c) x2 u N (0 : Int32) (0 : Int32) = k (nI (sLet l c)) (nI l.length) := by
  obtain ⟨h60, h0, h1⟩ := h
  have e3 : Int32.toNatClampNeg (3 : Int32) = 3 := by decide
  exact lp_sum (fun n acc i => fX8_sort_L65 N k (nI c) x2 u n acc i) k l.length (fun k => (bAt l k).2.2.2.2 c)
    (fun n acc => by
      show fX8_sort_L65 N k (nI c) x2 u (n + 1) acc (nI l.length) = _
      rw [fX8_sort_L65, if_pos (show ib (3 : Int32) 667 = true by decide), e3, h0, if_pos (nI_le (Nat.le_refl _) (by omega))])
    (fun n i acc hi => by
      show fX8_sort_L65 N k (nI c) x2 u (n + 1) acc (nI i) = _
      rw [fX8_sort_L65, if_pos (show ib (3 : Int32) 667 = true by decide), e3, h0, if_neg (nI_ge hi (by omega)), show (4 : Int32) + nI c = nI (4 + c) from nI_add 4 c, bk_8, Option.bind_some, if_pos (ib_nI (by omega) (by omega)), nI_clamp (by omega), nI_1, (h1 i _ (bAt_some hi)).2.2.2.2 c hc]) (by omega)
theorem own_7 {b : MM} {l : List BL} (h : blC b l) (ho : ∀ x ∈ l, x.1 < 3) {N : Nat} (hN : 100 < N) {t : Nat} (ht : t < 3) : fX0_blocksOf N (nI t) b = some (nI (sOwn l t)) := by
  unfold fX0_blocksOf
  obtain ⟨h60, h0, h1⟩ := h
  exact lp_sum (fun n acc i => fX0_blocksOf_L4 N (fun (x2_2 : Int32) (_ : Int32) => some x2_2) (nI t) b n acc i) (fun acc _ => some acc) l.length (fun k => if (bAt l k).1 = t then 1 else 0)
    (fun n acc => by
      show fX0_blocksOf_L4 N _ (nI t) b (n + 1) acc (nI l.length) = _
      rw [fX0_blocksOf_L4, h0, if_pos (nI_le (Nat.le_refl _) (by omega))])
    (fun n i acc hi => by
      have hm := bAt_some hi
      have hlt := ho _ (List.mem_of_getElem? hm)
      show fX0_blocksOf_L4 N _ (nI t) b (n + 1) acc (nI i) = _
      rw [fX0_blocksOf_L4, h0, if_neg (nI_ge hi (by omega)), if_neg (show ¬ (60 : Int32) ≤ nI i from nI_ge (b := 60) (by omega) (by omega)), if_pos (ib_nI (by omega) (by omega)), nI_clamp (by omega), (h1 i _ hm).1, nI_1]
      by_cases he : (bAt l i).1 = t
      · rw [if_pos (by rw [he]), if_pos he]
        rfl
      · rw [if_neg (fun q => he ((nI_eq (by omega) (by omega)).mp q)), if_neg he]
        rfl) (by omega)
theorem own_8 {u : MM} {l : List BL} (h : blM (u 16) l) (ho : ∀ x ∈ l, x.1 < 3) {N : Nat} (hN : 100 < N) {t : Nat} (ht : t < 3) : fX8_blocksOf N (nI t) u = some (nI (sOwn l t)) := by
  unfold fX8_blocksOf
  obtain ⟨h60, h0, h1⟩ := h
  have e3 : Int32.toNatClampNeg (3 : Int32) = 3 := by decide
  exact lp_sum (fun n acc i => fX8_blocksOf_L4 N (fun (x2_2 : Int32) (_ : Int32) => some x2_2) (nI t) u n acc i) (fun acc _ => some acc) l.length (fun k => if (bAt l k).1 = t then 1 else 0)
    (fun n acc => by
      show fX8_blocksOf_L4 N _ (nI t) u (n + 1) acc (nI l.length) = _
      rw [fX8_blocksOf_L4, if_pos (show ib (3 : Int32) 667 = true by decide), e3, h0, if_pos (nI_le (Nat.le_refl _) (by omega))])
    (fun n i acc hi => by
      have hm := bAt_some hi
      have hlt := ho _ (List.mem_of_getElem? hm)
      show fX8_blocksOf_L4 N _ (nI t) u (n + 1) acc (nI i) = _
      rw [fX8_blocksOf_L4, if_pos (show ib (3 : Int32) 667 = true by decide), e3, h0, if_neg (nI_ge hi (by omega)), show fX8_ofBlock N (nI i) (0 : Int32) = some (nI (67 + 10 * i + 0)) from bk_8 N i 0, Option.bind_some, if_pos (ib_nI (by omega) (by omega)), nI_clamp (by omega), Nat.add_zero, (h1 i _ hm).1, nI_1]
      by_cases he : (bAt l i).1 = t
      · rw [if_pos (by rw [he]), if_pos he]
        rfl
      · rw [if_neg (fun q => he ((nI_eq (by omega) (by omega)).mp q)), if_neg he]
        rfl) (by omega)
theorem wt_7 {su a w : MM} {S r : RW} (hS : suR S) (hC : suC su S) (h : rwC a r) {N : Nat} (hN : 100 < N) {t : Nat} (ht : t < 3) : fX5_waitingAt N (nI t) su a w = some (nI (sWt S r t)) := by
  unfold fX5_waitingAt
  have hC6 := hS.2.1
  exact lp_sum (fun n acc i => fX5_waitingAt_L4 N (fun (x2_2 : Int32) (_ : Int32) => some x2_2) (nI t) su a w n acc i) (fun acc _ => some acc) (S 1 0) (fun c => if S 7 c = t then r 9 c else 0)
    (fun n acc => by
      show fX5_waitingAt_L4 N _ (nI t) su a w (n + 1) acc (nI (S 1 0)) = _
      rw [fX5_waitingAt_L4, hC.2.1, if_pos (nI_le (Nat.le_refl _) (by omega))])
    (fun n i acc hi => by
      have h7 := hC.2.2.2.2.2.2 7 i (by omega) (by omega) hi
      have hr := (hS.2.2.2.2.2.2 i hi).1
      have h3 := hS.1
      show fX5_waitingAt_L4 N _ (nI t) su a w (n + 1) acc (nI i) = _
      rw [fX5_waitingAt_L4, hC.2.1, if_neg (nI_ge hi (by omega)), if_pos (ib_nI (by omega) (by omega)), nI_clamp (by omega), h7, nI_1]
      by_cases he : S 7 i = t
      · rw [if_pos (by rw [he]), if_pos (ib_nI (by omega) (by omega)), if_pos he, h.2.2.2.2.1 9 i (by omega) (by omega) (by omega)]
      · rw [if_neg (fun q => he ((nI_eq (by omega) (by omega)).mp q)), if_neg he]
        rfl) (by omega)
theorem wt_8 {u : MM} {S r : RW} (hS : suR S) (hM : suM u S) (h : rwM (u 16) r) {N : Nat} (hN : 100 < N) {t : Nat} (ht : t < 3) : fX8_waitsOf N (nI t) u = some (nI (sWt S r t)) := by
  unfold fX8_waitsOf
  have hC6 := hS.2.1
  exact lp_sum (fun n acc i => fX8_waitsOf_L4 N (fun (x2_2 : Int32) (_ : Int32) => some x2_2) (nI t) u n acc i) (fun acc _ => some acc) (S 1 0) (fun c => if S 7 c = t then r 9 c else 0)
    (fun n acc => by
      show fX8_waitsOf_L4 N _ (nI t) u (n + 1) acc (nI (S 1 0)) = _
      rw [fX8_waitsOf_L4, hM.2.1, if_pos (nI_le (Nat.le_refl _) (by omega))])
    (fun n i acc hi => by
      have h7 := hM.2.2.2.2.2.2 7 i (by omega) (by omega) hi
      have hr := (hS.2.2.2.2.2.2 i hi).1
      have h3 := hS.1
      have e4 : (4 : Int32) * nI i = nI (4 * i) := pk_mul 4 i
      show fX8_waitsOf_L4 N _ (nI t) u (n + 1) acc (nI i) = _
      rw [fX8_waitsOf_L4, hM.2.1, if_neg (nI_ge hi (by omega)), e4, if_pos (ib_nI (by omega) (by omega)), nI_clamp (by omega), show 4 * i = 4 * i + (7 - 7) by omega, h7, nI_1]
      by_cases he : S 7 i = t
      · rw [if_pos (by rw [he]), show fX8_ofClass N (nI i) (0 : Int32) = some (nI (43 + 4 * i + 0)) from cl_8 N i 0, Option.bind_some, if_pos (ib_nI (by omega) (by omega)), nI_clamp (by omega), if_pos he, h.2.2.2.2.1 0 i (by omega) (by omega)]
      · rw [if_neg (fun q => he ((nI_eq (by omega) (by omega)).mp q)), if_neg he]
        rfl) (by omega)
theorem sm_sort (x1 x2 : Int32) (cv : Nat → MM) (u : MM) (h : RR cv u) : ∃ (y : Int32) (z : Int32 × MM), fX7_sort NF x1 x2 (cv 2) (cv 4) (cv 5) (cv 0) = some y ∧ fX8_sort NF x1 x2 u = some z ∧ y = z.1 ∧ RR cv z.2 := by
  have hR := h
  obtain ⟨ht, hs, S, sR, sC, sM, ⟨z, z1, z2, z3, z4⟩, hh, h1, h2⟩ := h
  have hT3 := sR.1
  have hC6 := sR.2.1
  unfold fX7_sort fX8_sort
  rcases isCl (v := cv 2) (w := cv 0) (u := st u 0 (fun _ => (0 : Int32))) (x := x1) (T := S 1 0) hC6 sC.2.1 sM.2.1 NF with ⟨e1, e2⟩ | ⟨c, c1, rfl, e1, e2⟩
  · rw [e1, e2]
    exact ⟨_, _, rfl, rfl, rfl, hR⟩
  · rw [e1, e2, Option.bind_some, Option.bind_some, if_neg (show ¬ (1 : Int32) = 0 by decide), if_neg (show ¬ (1 : Int32) = 0 by decide)]
    have hib : ib (nI c) 6 = true := ib_nI (by omega) (by omega)
    have hcl : Int32.toNatClampNeg (nI c) = c := nI_clamp (by omega)
    have e4 : ∀ k : Nat, (4 : Int32) * nI c + nI k = nI (4 * c + k) := fun k => by rw [show (4 : Int32) * nI c = nI (4 * c) from pk_mul 4 c, nI_add]
    by_cases h0 : x2 = (0 : Int32)
    · have hm := sM.2.2.2.2.2.2 7 c (by omega) (by omega) c1
      have hc := sC.2.2.2.2.2.2 7 c (by omega) (by omega) c1
      subst h0
      rw [if_pos rfl, if_pos hib, hcl, show fX8_in NF (0 : Int32) (0 : Int32) (8 : Int32) = some 1 by decide, Option.bind_some, if_neg (show ¬ (1 : Int32) = 0 by decide), if_neg (show ¬ (4 : Int32) ≤ 0 by decide), show (4 : Int32) * nI c + (0 : Int32) = nI (4 * c + 0) from e4 0, if_pos (ib_nI (by omega) (by omega)), nI_clamp (by omega)]
      exact ⟨_, _, rfl, rfl, hc.trans hm.symm, hR⟩
    by_cases h1 : x2 = (1 : Int32)
    · have hm := sM.2.2.2.2.2.2 8 c (by omega) (by omega) c1
      have hc := sC.2.2.2.2.2.2 8 c (by omega) (by omega) c1
      subst h1
      rw [if_neg (show ¬ (1 : Int32) = 0 by decide), if_pos rfl, if_pos hib, hcl, show fX8_in NF (1 : Int32) (0 : Int32) (8 : Int32) = some 1 by decide, Option.bind_some, if_neg (show ¬ (1 : Int32) = 0 by decide), if_neg (show ¬ (4 : Int32) ≤ 1 by decide), show (4 : Int32) * nI c + (1 : Int32) = nI (4 * c + 1) from e4 1, if_pos (ib_nI (by omega) (by omega)), nI_clamp (by omega)]
      exact ⟨_, _, rfl, rfl, hc.trans hm.symm, hR⟩
    by_cases h2 : x2 = (2 : Int32)
    · have hm := sM.2.2.2.2.2.2 9 c (by omega) (by omega) c1
      have hc := sC.2.2.2.2.2.2 9 c (by omega) (by omega) c1
      subst h2
      rw [if_neg (show ¬ (2 : Int32) = 0 by decide), if_neg (show ¬ (2 : Int32) = 1 by decide), if_pos rfl, if_pos hib, hcl, show fX8_in NF (2 : Int32) (0 : Int32) (8 : Int32) = some 1 by decide, Option.bind_some, if_neg (show ¬ (1 : Int32) = 0 by decide), if_neg (show ¬ (4 : Int32) ≤ 2 by decide), show (4 : Int32) * nI c + (2 : Int32) = nI (4 * c + 2) from e4 2, if_pos (ib_nI (by omega) (by omega)), nI_clamp (by omega)]
      exact ⟨_, _, rfl, rfl, hc.trans hm.symm, hR⟩
    by_cases h3 : x2 = (3 : Int32)
    · have hm := sM.2.2.2.2.2.2 10 c (by omega) (by omega) c1
      have hc := sC.2.2.2.2.2.2 10 c (by omega) (by omega) c1
      subst h3
      rw [if_neg (show ¬ (3 : Int32) = 0 by decide), if_neg (show ¬ (3 : Int32) = 1 by decide), if_neg (show ¬ (3 : Int32) = 2 by decide), if_pos rfl, if_pos hib, hcl, show fX8_in NF (3 : Int32) (0 : Int32) (8 : Int32) = some 1 by decide, Option.bind_some, if_neg (show ¬ (1 : Int32) = 0 by decide), if_neg (show ¬ (4 : Int32) ≤ 3 by decide), show (4 : Int32) * nI c + (3 : Int32) = nI (4 * c + 3) from e4 3, if_pos (ib_nI (by omega) (by omega)), nI_clamp (by omega)]
      exact ⟨_, _, rfl, rfl, hc.trans hm.symm, hR⟩
    by_cases h4 : x2 = (4 : Int32)
    · have hm := z2.1.2.2.2.2.1 0 c (by omega) (by omega)
      have hc := z1.1.2.2.2.2.1 9 c (by omega) (by omega) (by omega)
      subst h4
      rw [if_neg (show ¬ (4 : Int32) = 0 by decide), if_neg (show ¬ (4 : Int32) = 1 by decide), if_neg (show ¬ (4 : Int32) = 2 by decide), if_neg (show ¬ (4 : Int32) = 3 by decide), if_pos rfl, if_pos hib, hcl, show fX8_in NF (4 : Int32) (0 : Int32) (8 : Int32) = some 1 by decide, Option.bind_some, if_neg (show ¬ (1 : Int32) = 0 by decide), if_pos (show (4 : Int32) ≤ 4 by decide), if_neg (show ¬ (8 : Int32) ≤ 4 by decide), show (4 : Int32) - (4 : Int32) = nI 0 by decide, cl_8, Option.bind_some, if_pos (ib_nI (by omega) (by omega)), nI_clamp (by omega)]
      exact ⟨_, _, rfl, rfl, hc.trans hm.symm, hR⟩
    by_cases h5 : x2 = (5 : Int32)
    · have hm := z2.1.2.2.2.2.1 1 c (by omega) (by omega)
      have hc := z1.1.2.2.2.2.1 10 c (by omega) (by omega) (by omega)
      subst h5
      rw [if_neg (show ¬ (5 : Int32) = 0 by decide), if_neg (show ¬ (5 : Int32) = 1 by decide), if_neg (show ¬ (5 : Int32) = 2 by decide), if_neg (show ¬ (5 : Int32) = 3 by decide), if_neg (show ¬ (5 : Int32) = 4 by decide), if_pos rfl, if_pos hib, hcl, show fX8_in NF (5 : Int32) (0 : Int32) (8 : Int32) = some 1 by decide, Option.bind_some, if_neg (show ¬ (1 : Int32) = 0 by decide), if_pos (show (4 : Int32) ≤ 5 by decide), if_neg (show ¬ (8 : Int32) ≤ 5 by decide), show (5 : Int32) - (4 : Int32) = nI 1 by decide, cl_8, Option.bind_some, if_pos (ib_nI (by omega) (by omega)), nI_clamp (by omega)]
      exact ⟨_, _, rfl, rfl, hc.trans hm.symm, hR⟩
    by_cases h6 : x2 = (6 : Int32)
    · have hm := z2.1.2.2.2.2.1 2 c (by omega) (by omega)
      have hc := z1.1.2.2.2.2.1 11 c (by omega) (by omega) (by omega)
      subst h6
      rw [if_neg (show ¬ (6 : Int32) = 0 by decide), if_neg (show ¬ (6 : Int32) = 1 by decide), if_neg (show ¬ (6 : Int32) = 2 by decide), if_neg (show ¬ (6 : Int32) = 3 by decide), if_neg (show ¬ (6 : Int32) = 4 by decide), if_neg (show ¬ (6 : Int32) = 5 by decide), if_pos rfl, if_pos hib, hcl, show fX8_in NF (6 : Int32) (0 : Int32) (8 : Int32) = some 1 by decide, Option.bind_some, if_neg (show ¬ (1 : Int32) = 0 by decide), if_pos (show (4 : Int32) ≤ 6 by decide), if_neg (show ¬ (8 : Int32) ≤ 6 by decide), show (6 : Int32) - (4 : Int32) = nI 2 by decide, cl_8, Option.bind_some, if_pos (ib_nI (by omega) (by omega)), nI_clamp (by omega)]
      exact ⟨_, _, rfl, rfl, hc.trans hm.symm, hR⟩
    by_cases h7 : x2 = (7 : Int32)
    · have hm := z2.1.2.2.2.2.1 3 c (by omega) (by omega)
      have hc := z1.1.2.2.2.2.1 12 c (by omega) (by omega) (by omega)
      subst h7
      rw [if_neg (show ¬ (7 : Int32) = 0 by decide), if_neg (show ¬ (7 : Int32) = 1 by decide), if_neg (show ¬ (7 : Int32) = 2 by decide), if_neg (show ¬ (7 : Int32) = 3 by decide), if_neg (show ¬ (7 : Int32) = 4 by decide), if_neg (show ¬ (7 : Int32) = 5 by decide), if_neg (show ¬ (7 : Int32) = 6 by decide), if_pos rfl, if_pos hib, hcl, show fX8_in NF (7 : Int32) (0 : Int32) (8 : Int32) = some 1 by decide, Option.bind_some, if_neg (show ¬ (1 : Int32) = 0 by decide), if_pos (show (4 : Int32) ≤ 7 by decide), if_neg (show ¬ (8 : Int32) ≤ 7 by decide), show (7 : Int32) - (4 : Int32) = nI 3 by decide, cl_8, Option.bind_some, if_pos (ib_nI (by omega) (by omega)), nI_clamp (by omega)]
      exact ⟨_, _, rfl, rfl, hc.trans hm.symm, hR⟩
    by_cases h8 : x2 = (8 : Int32)
    · subst h8
      rw [if_neg (show ¬ (8 : Int32) = 0 by decide), if_neg (show ¬ (8 : Int32) = 1 by decide), if_neg (show ¬ (8 : Int32) = 2 by decide), if_neg (show ¬ (8 : Int32) = 3 by decide), if_neg (show ¬ (8 : Int32) = 4 by decide), if_neg (show ¬ (8 : Int32) = 5 by decide), if_neg (show ¬ (8 : Int32) = 6 by decide), if_neg (show ¬ (8 : Int32) = 7 by decide), if_pos rfl, let_7 z1.2 (by decide) (by omega), show fX8_in NF (8 : Int32) (0 : Int32) (8 : Int32) = some 1 by decide, Option.bind_some, Option.bind_some, if_neg (show ¬ (1 : Int32) = 0 by decide), if_pos (show (4 : Int32) ≤ 8 by decide), if_pos (show (8 : Int32) ≤ 8 by decide), let_8 (ρ := Int32) (u := st u 0 (fun _ => (0 : Int32))) z2.2 (by decide) (by omega)]
      exact ⟨_, _, rfl, rfl, rfl, hR⟩
    · rw [if_neg h0, if_neg h1, if_neg h2, if_neg h3, if_neg h4, if_neg h5, if_neg h6, if_neg h7, if_neg h8]
      rcases in_01 (x := x2) (A := 0) (B := 8) (a := 0) (b := 8) rfl rfl (by omega) (by omega) NF with e | ⟨e, w, -, hw, rfl⟩
      · rw [e]
        exact ⟨_, _, rfl, rfl, rfl, hR⟩
      · exfalso
        have hw9 : w = 0 ∨ w = 1 ∨ w = 2 ∨ w = 3 ∨ w = 4 ∨ w = 5 ∨ w = 6 ∨ w = 7 ∨ w = 8 := by omega
        rcases hw9 with rfl | rfl | rfl | rfl | rfl | rfl | rfl | rfl | rfl
        · exact h0 rfl
        · exact h1 rfl
        · exact h2 rfl
        · exact h3 rfl
        · exact h4 rfl
        · exact h5 rfl
        · exact h6 rfl
        · exact h7 rfl
        · exact h8 rfl
theorem sm_terminal (x1 x2 : Int32) (cv : Nat → MM) (u : MM) (h : RR cv u) : ∃ (y : Int32) (z : Int32 × MM), fX7_terminal NF x1 x2 (cv 2) (cv 4) (cv 5) (cv 8) (cv 0) = some y ∧ fX8_terminal NF x1 x2 u = some z ∧ y = z.1 ∧ RR cv z.2 := by
  have hR := h
  obtain ⟨ht, hs, S, sR, sC, sM, ⟨z, z1, z2, z3, z4⟩, hh, h1, h2⟩ := h
  have hT3 := sR.1
  have hC6 := sR.2.1
  unfold fX7_terminal fX8_terminal
  rcases isT (v := cv 2) (w := cv 0) (u := st u 0 (fun _ => (0 : Int32))) (x := x1) (T := S 0 0) (by omega) sC.1 sM.1 NF with ⟨e1, e2⟩ | ⟨c, c1, rfl, e1, e2⟩
  · rw [e1, e2]
    exact ⟨_, _, rfl, rfl, rfl, hR⟩
  · rw [e1, e2, Option.bind_some, Option.bind_some, if_neg (show ¬ (1 : Int32) = 0 by decide), if_neg (show ¬ (1 : Int32) = 0 by decide)]
    have hib : ib (nI c) 3 = true := ib_nI (by omega) (by omega)
    have hcl : Int32.toNatClampNeg (nI c) = c := nI_clamp (by omega)
    by_cases h0 : x2 = (0 : Int32)
    · rw [if_pos h0, if_pos h0, if_pos hib, if_pos hib, hcl]
      exact ⟨_, _, rfl, rfl, (sC.2.2.2.2.2.1 c c1).trans (sM.2.2.2.2.2.1 c c1).symm, hR⟩
    rw [if_neg h0, if_neg h0]
    by_cases h1 : x2 = (1 : Int32)
    · have hm := z2.1.2.2.2.1 0 c (by omega) (by omega)
      have hc := z1.1.2.2.2.1 3 c (by omega) (by omega) (by omega)
      rw [if_pos h1, if_pos h1, if_pos hib, hcl, h1, show (1 : Int32) - (1 : Int32) = nI 0 by decide, tm_8, Option.bind_some, if_pos (ib_nI (by omega) (by omega)), nI_clamp (by omega)]
      exact ⟨_, _, rfl, rfl, hc.trans hm.symm, hR⟩
    rw [if_neg h1, if_neg h1]
    by_cases h2 : x2 = (2 : Int32)
    · have hm := z2.1.2.2.2.1 1 c (by omega) (by omega)
      have hc := z1.1.2.2.2.1 4 c (by omega) (by omega) (by omega)
      rw [if_pos h2, if_pos h2, if_pos hib, hcl, h2, show (2 : Int32) - (1 : Int32) = nI 1 by decide, tm_8, Option.bind_some, if_pos (ib_nI (by omega) (by omega)), nI_clamp (by omega)]
      exact ⟨_, _, rfl, rfl, hc.trans hm.symm, hR⟩
    rw [if_neg h2, if_neg h2]
    by_cases h3 : x2 = (3 : Int32)
    · have hm := z2.1.2.2.2.1 2 c (by omega) (by omega)
      have hc := z1.1.2.2.2.1 5 c (by omega) (by omega) (by omega)
      rw [if_pos h3, if_pos h3, if_pos hib, hcl, h3, show (3 : Int32) - (1 : Int32) = nI 2 by decide, tm_8, Option.bind_some, if_pos (ib_nI (by omega) (by omega)), nI_clamp (by omega)]
      exact ⟨_, _, rfl, rfl, hc.trans hm.symm, hR⟩
    rw [if_neg h3, if_neg h3]
    by_cases h4 : x2 = (4 : Int32)
    · have hm := z2.1.2.2.2.1 3 c (by omega) (by omega)
      have hc := z1.1.2.2.2.1 6 c (by omega) (by omega) (by omega)
      rw [if_pos h4, if_pos h4, if_pos hib, hcl, h4, show (4 : Int32) - (1 : Int32) = nI 3 by decide, tm_8, Option.bind_some, if_pos (ib_nI (by omega) (by omega)), nI_clamp (by omega)]
      exact ⟨_, _, rfl, rfl, hc.trans hm.symm, hR⟩
    rw [if_neg h4, if_neg h4]
    by_cases h5 : x2 = (5 : Int32)
    · rw [if_pos h5, if_pos h5, wt_7 sR sC z1.1 (by decide) (by omega), wt_8 (u := st u 0 (fun _ => (0 : Int32))) sR sM z2.1 (by decide) (by omega)]
      exact ⟨_, _, rfl, rfl, rfl, hR⟩
    rw [if_neg h5, if_neg h5]
    by_cases h6 : x2 = (6 : Int32)
    · have hm := z2.1.2.2.2.1 4 c (by omega) (by omega)
      have hc := z1.1.2.2.2.1 7 c (by omega) (by omega) (by omega)
      rw [if_pos h6, if_pos h6, if_pos hib, hcl, h6, show (6 : Int32) - (2 : Int32) = nI 4 by decide, tm_8, Option.bind_some, if_pos (ib_nI (by omega) (by omega)), nI_clamp (by omega)]
      exact ⟨_, _, rfl, rfl, hc.trans hm.symm, hR⟩
    rw [if_neg h6, if_neg h6]
    by_cases h7 : x2 = (7 : Int32)
    · have hm := z2.1.2.2.2.1 5 c (by omega) (by omega)
      have hc := z1.1.2.2.2.1 8 c (by omega) (by omega) (by omega)
      rw [if_pos h7, if_pos h7, if_pos hib, hcl, h7, show (7 : Int32) - (2 : Int32) = nI 5 by decide, tm_8, Option.bind_some, if_pos (ib_nI (by omega) (by omega)), nI_clamp (by omega)]
      exact ⟨_, _, rfl, rfl, hc.trans hm.symm, hR⟩
    rw [if_neg h7, if_neg h7]
    by_cases h8 : x2 = (8 : Int32)
    · rw [if_pos h8, if_pos h8, own_7 z1.2 (fun x hx => by have := (z3.2.1 x hx).1; omega) (by decide) (by omega), own_8 (u := st u 0 (fun _ => (0 : Int32))) z2.2 (fun x hx => by have := (z3.2.1 x hx).1; omega) (by decide) (by omega)]
      exact ⟨_, _, rfl, rfl, rfl, hR⟩
    rw [if_neg h8, if_neg h8]
    exact ⟨_, _, rfl, rfl, rfl, hR⟩
