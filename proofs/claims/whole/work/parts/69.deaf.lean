/-! whether there is such a terminal, such a class; deaf, deafens -/
theorem rng {x : Int32} {T : Nat} (hT : T ≤ 6) : (x < 0 ∨ (¬ x < 0 ∧ nI T ≤ x ∧ (nI T - (1 : Int32)) < x)) ∨ ∃ t : Nat, t < T ∧ x = nI t := by
  by_cases h0 : x < 0
  · exact Or.inl (Or.inl h0)
  · obtain ⟨j, hj, rfl⟩ := nI_of h0
    by_cases hjT : j < T
    · exact Or.inr ⟨j, hjT, rfl⟩
    · refine Or.inl (Or.inr ⟨h0, nI_le (by omega) hj, ?_⟩)
      by_cases hT0 : T = 0
      · subst hT0
        rw [Int32.lt_iff_toInt_lt, nI_toInt hj]
        have e : (nI 0 - (1 : Int32)).toInt = -1 := by decide
        rw [e]
        omega
      · rw [show nI T - (1 : Int32) = nI (T - 1) from pk_sub (b := 1) (by omega)]
        exact nI_lt (by omega) hj
theorem in_T {x : Int32} {T t : Nat} (hT : T ≤ 6) (ht : t < T) (N : Nat) : fX8_in N (nI t) (0 : Int32) (nI T - (1 : Int32)) = some 1 := by
  rw [show nI T - (1 : Int32) = nI (T - 1) from pk_sub (b := 1) (by omega)]
  exact in_yes (a := 0) (by omega) (by omega) (by omega) N
theorem in_F {x : Int32} {T : Nat} (h : x < 0 ∨ (¬ x < 0 ∧ nI T ≤ x ∧ (nI T - (1 : Int32)) < x)) (N : Nat) : fX8_in N x (0 : Int32) (nI T - (1 : Int32)) = some 0 := by
  unfold fX8_in
  rcases h with h | ⟨h0, -, h2⟩
  · rw [if_pos h]
  · rw [if_neg h0, if_pos h2]
theorem isT {v w u : MM} {x : Int32} {T : Nat} (hT : T ≤ 6) (h1 : v 0 0 = nI T) (h2 : u 1 0 = nI T) (N : Nat) : (fX7_hasTerminal N x v w = some 0 ∧ fX8_isTerminal N x u = some 0) ∨ ∃ t : Nat, t < T ∧ x = nI t ∧ fX7_hasTerminal N x v w = some 1 ∧ fX8_isTerminal N x u = some 1 := by
  unfold fX7_hasTerminal fX8_isTerminal
  rw [h1, h2]
  rcases rng (x := x) hT with h | ⟨t, ht, rfl⟩
  · left
    rw [in_F h N, Option.bind_some]
    refine ⟨?_, rfl⟩
    rcases h with h | ⟨h0, h3, -⟩
    · rw [if_pos h]
    · rw [if_neg h0, if_pos h3]
  · right
    refine ⟨t, ht, rfl, ?_, ?_⟩
    · rw [if_neg (nI_pos (by omega)), if_neg (nI_ge ht (by omega))]
    · rw [in_T (x := 0) hT ht N]
      rfl
theorem isCl {v w u : MM} {x : Int32} {T : Nat} (hT : T ≤ 6) (h1 : v 1 0 = nI T) (h2 : u 2 0 = nI T) (N : Nat) : (fX7_hasClass N x v w = some 0 ∧ fX8_isClass N x u = some 0) ∨ ∃ t : Nat, t < T ∧ x = nI t ∧ fX7_hasClass N x v w = some 1 ∧ fX8_isClass N x u = some 1 := by
  unfold fX7_hasClass fX8_isClass
  rw [h1, h2]
  rcases rng (x := x) hT with h | ⟨t, ht, rfl⟩
  · left
    rw [in_F h N, Option.bind_some]
    refine ⟨?_, rfl⟩
    rcases h with h | ⟨h0, h3, -⟩
    · rw [if_pos h]
    · rw [if_neg h0, if_pos h3]
  · right
    refine ⟨t, ht, rfl, ?_, ?_⟩
    · rw [if_neg (nI_pos (by omega)), if_neg (nI_ge ht (by omega))]
    · rw [in_T (x := 0) hT ht N]
      rfl
theorem sm_deaf (x1 x2 : Int32) (cv : Nat → MM) (u : MM) (h : RR cv u) : ∃ (y : Int32) (z : Int32 × MM), fX7_deaf NF x1 x2 (cv 2) (cv 4) (cv 0) = some y ∧ fX8_deaf NF x1 x2 u = some z ∧ y = z.1 ∧ RR cv z.2 := by
  have hR := h
  obtain ⟨ht, hs, S, sR, sC, sM, ⟨z, z1, z2, z3, z4⟩, hh, h1, h2⟩ := h
  unfold fX7_deaf fX8_deaf
  rcases isT (v := cv 2) (w := cv 0) (u := st u 0 (fun _ => (0 : Int32))) (x := x1) (T := S 0 0) (by have := sR.1; omega) sC.1 sM.1 NF with ⟨e1, e2⟩ | ⟨t, t1, rfl, e1, e2⟩
  · rw [e1, e2]
    exact ⟨_, _, rfl, rfl, rfl, hR⟩
  · rw [e1, e2, Option.bind_some, Option.bind_some, if_neg (show ¬ (1 : Int32) = 0 by decide), if_neg (show ¬ (1 : Int32) = 0 by decide), in_eq]
    rcases in_01 (x := x2) (A := 0) (B := 199) (a := 0) (b := 199) rfl rfl (by omega) (by omega) NF with e | ⟨e, w, -, hw, rfl⟩
    · rw [e]
      exact ⟨_, _, rfl, rfl, rfl, hR⟩
    · have ht3 : t < 3 := by have := sR.1; omega
      rw [e, Option.bind_some, Option.bind_some, if_neg (show ¬ (1 : Int32) = 0 by decide), if_neg (show ¬ (1 : Int32) = 0 by decide), deaf_7 z1.1 NF ht3 (by omega), deaf_8 (u := st u 0 (fun _ => (0 : Int32))) z2.1 NF ht3 (by omega), Option.bind_some, Option.bind_some]
      by_cases hd : w ≤ 199 ∧ z.1 (20 + t) w = 1
      · rw [if_pos hd, if_neg (show ¬ (1 : Int32) = 0 by decide), if_neg (show ¬ (1 : Int32) = 0 by decide)]
        exact ⟨_, _, rfl, rfl, rfl, hR⟩
      · rw [if_neg hd, if_pos rfl, if_pos rfl]
        exact ⟨_, _, rfl, rfl, rfl, hR⟩
/-- a terminal deaf in the steps from f on, to e less 1 -/
def aSet (r : RW) (t f e : Nat) : RW := ar r (20 + t) (fun j => if f ≤ j ∧ j < e then 1 else r (20 + t) j)
/-- in how many of them it was not -/
def aMore (r : RW) (t f : Nat) : Nat → Nat := smN (fun d => if r (20 + t) (f + d) = 1 then 0 else 1)
theorem aSet_0 (r : RW) (t f : Nat) : aSet r t f f = r := by
  funext q j
  unfold aSet ar
  by_cases hq : q = 20 + t
  · subst hq
    rw [if_pos rfl, if_neg (by omega)]
  · rw [if_neg hq]
theorem aSet_d {r : RW} {t f i t' j : Nat} : aSet r t f (i + 1) (20 + t') j = if t' = t ∧ j = i ∧ f ≤ i then 1 else aSet r t f i (20 + t') j := by
  unfold aSet ar
  by_cases hq : 20 + t' = 20 + t
  · have h2 : t' = t := by omega
    subst h2
    rw [if_pos rfl]
    by_cases hj : j = i ∧ f ≤ i
    · rw [if_pos (show f ≤ j ∧ j < i + 1 by omega), if_pos (show t' = t' ∧ j = i ∧ f ≤ i from ⟨rfl, hj⟩)]
    · rw [if_neg (show ¬ (t' = t' ∧ j = i ∧ f ≤ i) from fun q => hj q.2), if_pos (show 20 + t' = 20 + t' from rfl)]
      by_cases hc : f ≤ j ∧ j < i
      · rw [if_pos hc, if_pos (show f ≤ j ∧ j < i + 1 by omega)]
      · rw [if_neg hc, if_neg (show ¬ (f ≤ j ∧ j < i + 1) by omega)]
  · rw [if_neg hq, if_neg (by omega), if_neg hq]
theorem aSet_o {r : RW} {t f e k : Nat} (h : k < 20) : aSet r t f e k = r k := ar_ne (by omega)
