/-! the text: letters, figures, tokens, on both sides -/
def txC (n : Nat) (w : Nat → Nat) (a : MM) : Prop := n ≤ 120 ∧ a 1 0 = nI n ∧ ∀ j, j < n → w j ≤ 255 ∧ a 0 j = nI (w j)
def txM (n : Nat) (w : Nat → Nat) (u : MM) : Prop := n ≤ 120 ∧ u 25 0 = nI n ∧ ∀ j, j < n → w j ≤ 255 ∧ u 26 j = nI (w j)
theorem txC_c {n : Nat} {w : Nat → Nat} {a a' : MM} (h : txC n w a) (h0 : a' 0 = a 0) (h1 : a' 1 = a 1) : txC n w a' := ⟨h.1, by rw [h1]; exact h.2.1, fun j hj => by rw [h0]; exact h.2.2 j hj⟩
theorem txM_c {n : Nat} {w : Nat → Nat} {a a' : MM} (h : txM n w a) (h0 : a' 25 = a 25) (h1 : a' 26 = a 26) : txM n w a' := ⟨h.1, by rw [h0]; exact h.2.1, fun j hj => by rw [h1]; exact h.2.2 j hj⟩
theorem cb_nI {x : Nat} (h : x ≤ 255) : cb (nI x) = true := by
  have h1 : nI x ≤ (65535 : Int32) := nI_le (b := 65535) (by omega) (by omega)
  have h2 : ¬ nI x < 0 := nI_pos (by omega)
  unfold cb
  simp [h1, h2]
theorem ltr_7 {n p : Nat} {w : Nat → Nat} {a : MM} (h : txC n w a) (hp : p < n) (N : Nat) : fX6_letterAt N (nI p) a = some (nI (w p)) := by
  have h1 := h.1
  obtain ⟨w1, w2⟩ := h.2.2 p hp
  unfold fX6_letterAt
  rw [if_neg (nI_pos (by omega)), h.2.1, if_neg (nI_ge hp (by omega)), if_neg (show ¬ (120 : Int32) ≤ nI p from nI_ge (b := 120) (by omega) (by omega)), if_pos (ib_n (by omega) (by omega)), nI_clamp (by omega), w2, if_pos (cb_nI w1)]
theorem ltr_7e {n : Nat} {w : Nat → Nat} {a : MM} (h : txC n w a) (N : Nat) : fX6_letterAt N (nI n) a = some (nI 0) := by
  have h1 := h.1
  unfold fX6_letterAt
  rw [if_neg (nI_pos (by omega)), h.2.1, if_pos (nI_le (Nat.le_refl _) (by omega))]
  rfl
theorem dg_7 {x : Nat} (hx : x ≤ 255) (N : Nat) : fX6_isDigit N (nI x) = some (if 48 ≤ x ∧ x ≤ 57 then 1 else 0) := by
  unfold fX6_isDigit
  by_cases h1 : x < 48
  · rw [if_pos (show nI x < (48 : Int32) from nI_lt (b := 48) h1 (by omega)), if_neg (by omega)]
  · rw [if_neg (show ¬ nI x < (48 : Int32) from nI_nlt (b := 48) (by omega) (by omega))]
    by_cases h2 : 57 < x
    · rw [if_pos (show (57 : Int32) < nI x from nI_lt (a := 57) h2 (by omega)), if_neg (by omega)]
    · rw [if_neg (show ¬ (57 : Int32) < nI x from nI_nlt (a := 57) (by omega) (by omega)), if_pos (by omega)]
theorem fig_8 {n p : Nat} {w : Nat → Nat} {u : MM} (h : txM n w u) (hp : p ≤ n) (N : Nat) : fX8_isFigure N (nI p) u = some (if p < n ∧ 48 ≤ w p ∧ w p ≤ 57 then 1 else 0) := by
  have h1 := h.1
  unfold fX8_isFigure
  rw [h.2.1]
  by_cases e : p = n
  · rw [if_pos (nI_le (by omega) (by omega)), if_neg (by omega)]
  · obtain ⟨w1, w2⟩ := h.2.2 p (by omega)
    rw [if_neg (nI_ge (by omega) (by omega)), if_pos (ib_n (by omega) (by omega)), nI_clamp (by omega), w2]
    rcases in_01 (x := nI (w p)) (A := 48) (B := 57) (a := 48) (b := 57) rfl rfl (by omega) (by omega) N with q | ⟨q, v, v1, v2, v3⟩
    · rw [q, Option.bind_some, if_pos rfl]
      rw [if_neg (fun c => by
        have h2 := in_yes (a := 48) (b := 57) (w := w p) c.2.1 c.2.2 (by omega) N
        have h3 : fX8_in N (nI (w p)) (nI 48) (nI 57) = some 0 := q
        rw [h2] at h3
        exact absurd h3 (by decide))]
    · have hv := (nI_eq (by omega) (by omega)).mp v3
      rw [q, Option.bind_some, if_neg (show ¬ (1 : Int32) = 0 by decide), if_pos (by omega)]
def aSk (w : Nat → Nat) : Nat → Nat → Nat
  | 0, p => p
  | d + 1, p => if w p = 32 then aSk w d (p + 1) else p
theorem sk_le (w : Nat → Nat) : ∀ d p, p ≤ aSk w d p ∧ aSk w d p ≤ p + d
  | 0, p => ⟨Nat.le_refl _, Nat.le_refl _⟩
  | d + 1, p => by
    unfold aSk
    split
    · have := sk_le w d (p + 1)
      omega
    · omega
theorem sk_7 {n : Nat} {w : Nat → Nat} {N : Nat} : ∀ (d fuel p : Nat) (a : MM), p + d = n → d < fuel → txC n w a → a 2 0 = nI p → ∃ a1, (∀ K, fX6_nextToken_L0 N K fuel a = K a1) ∧ a1 2 0 = nI (aSk w d p) ∧ ∀ k, k ≠ 2 → a1 k = a k
  | 0, fuel, p, a, hd, hf, ht, hp => by
    obtain ⟨m, rfl⟩ : ∃ m, fuel = m + 1 := ⟨fuel - 1, by omega⟩
    have h1 := ht.1
    refine ⟨a, fun K => ?_, hp, fun _ _ => rfl⟩
    rw [fX6_nextToken_L0, ht.2.1, hp, if_pos (nI_le (by omega) (by omega))]
  | d + 1, fuel, p, a, hd, hf, ht, hp => by
    obtain ⟨m, rfl⟩ : ∃ m, fuel = m + 1 := ⟨fuel - 1, by omega⟩
    have h1 := ht.1
    have hw := (ht.2.2 p (by omega)).1
    unfold aSk
    by_cases e : w p = 32
    · rw [if_pos e]
      obtain ⟨a1, i1, i2, i3⟩ := sk_7 d m (p + 1) (st a 2 (fun _ => nI (p + 1))) (by omega) (by omega) (txC_c ht (st_ne (by omega)) (st_ne (by omega))) (by rw [st_eq])
      refine ⟨a1, fun K => ?_, i2, fun k hk => by rw [i3 k hk, st_ne (Ne.symm hk)]⟩
      rw [fX6_nextToken_L0, ht.2.1, hp, if_neg (nI_ge (by omega) (by omega)), ltr_7 ht (by omega), Option.bind_some, if_pos (show nI (w p) = (32 : Int32) by rw [e]; rfl), nI_1]
      exact i1 K
    · rw [if_neg e]
      refine ⟨a, fun K => ?_, hp, fun _ _ => rfl⟩
      rw [fX6_nextToken_L0, ht.2.1, hp, if_neg (nI_ge (by omega) (by omega)), ltr_7 ht (by omega), Option.bind_some, if_neg (show ¬ nI (w p) = (32 : Int32) from fun q => e ((nI_eq (b := 32) (by omega) (by omega)).mp q))]
theorem sk_8 {n : Nat} {w : Nat → Nat} {N : Nat} : ∀ (d fuel p : Nat) (u : MM), p + d = n → d < fuel → txM n w u → u 27 0 = nI p → ∃ u1, (∀ K, fX8_takes_L0 N K fuel u = K u1) ∧ u1 27 0 = nI (aSk w d p) ∧ ∀ k, k ≠ 27 → u1 k = u k
  | 0, fuel, p, u, hd, hf, ht, hp => by
    obtain ⟨m, rfl⟩ : ∃ m, fuel = m + 1 := ⟨fuel - 1, by omega⟩
    have h1 := ht.1
    refine ⟨u, fun K => ?_, hp, fun _ _ => rfl⟩
    rw [fX8_takes_L0, ht.2.1, hp, if_pos (nI_le (by omega) (by omega))]
  | d + 1, fuel, p, u, hd, hf, ht, hp => by
    obtain ⟨m, rfl⟩ : ∃ m, fuel = m + 1 := ⟨fuel - 1, by omega⟩
    have h1 := ht.1
    obtain ⟨hw, hw2⟩ := ht.2.2 p (by omega)
    unfold aSk
    by_cases e : w p = 32
    · rw [if_pos e]
      obtain ⟨u1, i1, i2, i3⟩ := sk_8 d m (p + 1) (st u 27 (fun _ => nI (p + 1))) (by omega) (by omega) (txM_c ht (st_ne (by omega)) (st_ne (by omega))) (by rw [st_eq])
      refine ⟨u1, fun K => ?_, i2, fun k hk => by rw [i3 k hk, st_ne (Ne.symm hk)]⟩
      rw [fX8_takes_L0, ht.2.1, hp, if_neg (nI_ge (by omega) (by omega)), if_pos (ib_n (by omega) (by omega)), nI_clamp (by omega), hw2, if_pos (show nI (w p) = (32 : Int32) by rw [e]; rfl), nI_1]
      exact i1 K
    · rw [if_neg e]
      refine ⟨u, fun K => ?_, hp, fun _ _ => rfl⟩
      rw [fX8_takes_L0, ht.2.1, hp, if_neg (nI_ge (by omega) (by omega)), if_pos (ib_n (by omega) (by omega)), nI_clamp (by omega), hw2, if_neg (show ¬ nI (w p) = (32 : Int32) from fun q => e ((nI_eq (b := 32) (by omega) (by omega)).mp q))]
/-- figures from a place on: where they end, the number (held once above 99) -/
def aDg (w : Nat → Nat) : Nat → Nat → Nat → Nat × Nat
  | 0, p, m => (p, m)
  | d + 1, p, m => if 48 ≤ w p ∧ w p ≤ 57 then aDg w d (p + 1) (if m ≤ 99 then 10 * m + w p - 48 else m) else (p, m)
theorem dg_le (w : Nat → Nat) : ∀ d p m, m ≤ 999 → p ≤ (aDg w d p m).1 ∧ (aDg w d p m).1 ≤ p + d ∧ (aDg w d p m).2 ≤ 999
  | 0, p, m, h => ⟨Nat.le_refl _, Nat.le_refl _, h⟩
  | d + 1, p, m, h => by
    unfold aDg
    split
    · rename_i hc
      have := dg_le w d (p + 1) (if m ≤ 99 then 10 * m + w p - 48 else m) (by split <;> omega)
      omega
    · exact ⟨Nat.le_refl _, by show p ≤ p + (d + 1); omega, h⟩
theorem nn_7 {n q : Nat} {w : Nat → Nat} {N : Nat} : ∀ (d fuel p m : Nat) (r : Int32) (a : MM), p + d = n → d < fuel → txC n w a → a 2 0 = nI p → a 3 0 = nI q → a 5 0 = nI (min 100 m) → m ≤ 999 → q ≤ p → (p = q → m = 0) → (p = q + 1 → (m = 0 ↔ w q = 48)) → (q + 1 < p → w q ≠ 48 → 1 ≤ m) → r = (if p ≤ q + 1 ∨ w q ≠ 48 then 1 else 0) → ∃ a1, (∀ K, fX6_nextNumber_L7 N K fuel r a = K (if (aDg w d p m).1 ≤ q + 1 ∨ w q ≠ 48 then 1 else 0) a1) ∧ a1 2 0 = nI (aDg w d p m).1 ∧ a1 5 0 = nI (min 100 (aDg w d p m).2) ∧ ∀ k, k ≠ 2 → k ≠ 5 → a1 k = a k
  | 0, fuel, p, m, r, a, hd, hf, ht, hp, hq, h5, hm, hqp, c1, c2, c3, hr => by
    obtain ⟨f, rfl⟩ : ∃ f, fuel = f + 1 := ⟨fuel - 1, by omega⟩
    have h1 := ht.1
    refine ⟨a, fun K => ?_, hp, h5, fun _ _ _ => rfl⟩
    rw [fX6_nextNumber_L7, ht.2.1, hp, if_pos (nI_le (by omega) (by omega)), hr]
    rfl
  | d + 1, fuel, p, m, r, a, hd, hf, ht, hp, hq, h5, hm, hqp, c1, c2, c3, hr => by
    obtain ⟨f, rfl⟩ : ∃ f, fuel = f + 1 := ⟨fuel - 1, by omega⟩
    have h1 := ht.1
    have hw := (ht.2.2 p (by omega)).1
    unfold aDg
    by_cases e : 48 ≤ w p ∧ w p ≤ 57
    · rw [if_pos e]
      obtain ⟨m', hm'⟩ : ∃ m', m' = (if m ≤ 99 then 10 * m + w p - 48 else m) := ⟨_, rfl⟩
      rw [← hm']
      have hm2 : m' ≤ 999 := by rw [hm']; split <;> omega
      have hval : (if (((nI (min 100 m)) * (10 : Int32)) + nI (w p)) - (48 : Int32) < (100 : Int32) then (((nI (min 100 m)) * (10 : Int32)) + nI (w p)) - (48 : Int32) else (100 : Int32)) = nI (min 100 m') := by
        rw [show nI (min 100 m) * (10 : Int32) = nI (min 100 m * 10) from pk_mul _ 10, nI_add, show nI (min 100 m * 10 + w p) - (48 : Int32) = nI (min 100 m * 10 + w p - 48) from pk_sub (b := 48) (by omega)]
        have h2 := mn_nI (a := min 100 m * 10 + w p - 48) (b := 100) (by omega) (by omega)
        have h3 : min 100 (min 100 m * 10 + w p - 48) = min 100 m' := by rw [hm']; split <;> omega
        rw [← h3]
        exact h2
      have hst : ∀ r', r' = (if p + 1 ≤ q + 1 ∨ w q ≠ 48 then (1 : Int32) else 0) → ∃ a1, (∀ K, fX6_nextNumber_L7 N K f r' (st (st a 5 (fun _ => nI (min 100 m'))) 2 (fun _ => nI (p + 1))) = K (if (aDg w d (p + 1) m').1 ≤ q + 1 ∨ w q ≠ 48 then 1 else 0) a1) ∧ a1 2 0 = nI (aDg w d (p + 1) m').1 ∧ a1 5 0 = nI (min 100 (aDg w d (p + 1) m').2) ∧ ∀ k, k ≠ 2 → k ≠ 5 → a1 k = a k := by
        intro r' hr'
        obtain ⟨a1, i1, i2, i3, i4⟩ := nn_7 (q := q) d f (p + 1) m' r' (st (st a 5 (fun _ => nI (min 100 m'))) 2 (fun _ => nI (p + 1))) (by omega) (by omega) (txC_c ht (by rw [st_ne (by omega), st_ne (by omega)]) (by rw [st_ne (by omega), st_ne (by omega)])) (by rw [st_eq]) (by rw [st_ne (by omega), st_ne (by omega)]; exact hq) (by rw [st_ne (by omega), st_eq]) hm2 (by omega) (fun h => by omega) (fun h => by
          have h0 : p = q := by omega
          have h8 : m = 0 := c1 h0
          have h9 : w p = w q := by rw [h0]
          rw [hm']
          split <;> omega) (fun h hne => by
          rw [hm']
          by_cases h0 : p = q + 1
          · have h7 := c2 h0
            split <;> omega
          · have := c3 (by omega) hne
            split <;> omega) hr'
        exact ⟨a1, i1, i2, i3, fun k k1 k2 => by rw [i4 k k1 k2, st_ne (Ne.symm k1), st_ne (Ne.symm k2)]⟩
      have hpre : ∀ K, fX6_nextNumber_L7 N K (f + 1) r a = fX6_nextNumber_L7 N K f (if p + 1 ≤ q + 1 ∨ w q ≠ 48 then (1 : Int32) else 0) (st (st a 5 (fun _ => nI (min 100 m'))) 2 (fun _ => nI (p + 1))) := by
        intro K
        rw [fX6_nextNumber_L7, ht.2.1, hp, if_neg (nI_ge (by omega) (by omega)), ltr_7 ht (by omega), Option.bind_some, dg_7 hw, if_pos e, Option.bind_some, if_neg (show ¬ (1 : Int32) = 0 by decide), Option.bind_some, h5, hval, nI_1, hr, hq]
        by_cases r1 : p ≤ q + 1 ∨ w q ≠ 48
        · rw [if_pos r1, if_neg (show ¬ (1 : Int32) = 0 by decide)]
          by_cases h0 : p = q
          · rw [if_pos (show nI p = nI q by rw [h0]), if_pos (by omega), Option.bind_some, hval]
          · rw [if_neg (show ¬ nI p = nI q from fun x => h0 ((nI_eq (by omega) (by omega)).mp x))]
            by_cases h6 : m = 0
            · rw [if_pos (show nI (min 100 m) ≤ (0 : Int32) by rw [h6]; decide)]
              by_cases h7 : p = q + 1
              · rw [if_neg (by have := c2 h7; omega)]
              · have := c3 (by omega) (by omega)
                omega
            · rw [if_neg (nI_nle (by omega) (by omega))]
              by_cases h7 : p = q + 1
              · rw [if_pos (by have := c2 h7; omega), Option.bind_some, hval]
              · rw [if_pos (by omega), Option.bind_some, hval]
        · rw [if_neg r1, if_pos rfl, if_neg (by omega)]
      obtain ⟨a1, i1, i2, i3, i4⟩ := hst _ rfl
      exact ⟨a1, fun K => (hpre K).trans (i1 K), i2, i3, i4⟩
    · rw [if_neg e]
      refine ⟨a, fun K => ?_, hp, h5, fun _ _ _ => rfl⟩
      rw [fX6_nextNumber_L7, ht.2.1, hp, if_neg (nI_ge (by omega) (by omega)), ltr_7 ht (by omega), Option.bind_some, dg_7 hw, if_neg e, Option.bind_some, if_pos rfl, hr]
theorem nn_8 {n : Nat} {w : Nat → Nat} {N : Nat} : ∀ (d fuel p m : Nat) (u : MM), p + d = n → d < fuel → txM n w u → u 27 0 = nI p → m ≤ 999 → ∃ u1, (∀ K, fX8_takes_L113 N K fuel (nI m) u = K (nI (aDg w d p m).2) u1) ∧ u1 27 0 = nI (aDg w d p m).1 ∧ ∀ k, k ≠ 27 → u1 k = u k
  | 0, fuel, p, m, u, hd, hf, ht, hp, hm => by
    obtain ⟨f, rfl⟩ : ∃ f, fuel = f + 1 := ⟨fuel - 1, by omega⟩
    refine ⟨u, fun K => ?_, hp, fun _ _ => rfl⟩
    rw [fX8_takes_L113, hp, fig_8 ht (by omega), if_neg (by omega), Option.bind_some, if_pos rfl]
    rfl
  | d + 1, fuel, p, m, u, hd, hf, ht, hp, hm => by
    obtain ⟨f, rfl⟩ : ∃ f, fuel = f + 1 := ⟨fuel - 1, by omega⟩
    have h1 := ht.1
    obtain ⟨hw, hw2⟩ := ht.2.2 p (by omega)
    unfold aDg
    by_cases e : 48 ≤ w p ∧ w p ≤ 57
    · rw [if_pos e]
      have e' : p < n ∧ 48 ≤ w p ∧ w p ≤ 57 := ⟨by omega, e⟩
      by_cases c : m ≤ 99
      · rw [if_pos c]
        obtain ⟨u1, i1, i2, i3⟩ := nn_8 d f (p + 1) (10 * m + w p - 48) (st u 27 (fun _ => nI (p + 1))) (by omega) (by omega) (txM_c ht (st_ne (by omega)) (st_ne (by omega))) (by rw [st_eq]) (by omega)
        refine ⟨u1, fun K => ?_, i2, fun k hk => by rw [i3 k hk, st_ne (Ne.symm hk)]⟩
        rw [fX8_takes_L113, hp, fig_8 ht (by omega), if_pos e', Option.bind_some, if_neg (show ¬ (1 : Int32) = 0 by decide), if_pos (show nI m ≤ (99 : Int32) from nI_le (b := 99) c (by omega)), if_pos (ib_n (by omega) (by omega)), nI_clamp (by omega), hw2, show (10 : Int32) * nI m = nI (10 * m) from pk_mul 10 m, nI_add, show nI (10 * m + w p) - (48 : Int32) = nI (10 * m + w p - 48) from pk_sub (b := 48) (by omega), nI_1]
        exact i1 K
      · rw [if_neg c]
        obtain ⟨u1, i1, i2, i3⟩ := nn_8 d f (p + 1) m (st u 27 (fun _ => nI (p + 1))) (by omega) (by omega) (txM_c ht (st_ne (by omega)) (st_ne (by omega))) (by rw [st_eq]) hm
        refine ⟨u1, fun K => ?_, i2, fun k hk => by rw [i3 k hk, st_ne (Ne.symm hk)]⟩
        rw [fX8_takes_L113, hp, fig_8 ht (by omega), if_pos e', Option.bind_some, if_neg (show ¬ (1 : Int32) = 0 by decide), if_neg (show ¬ nI m ≤ (99 : Int32) from nI_ge (a := 99) (by omega) (by omega)), nI_1]
        exact i1 K
    · rw [if_neg e]
      refine ⟨u, fun K => ?_, hp, fun _ _ => rfl⟩
      rw [fX8_takes_L113, hp, fig_8 ht (by omega), if_neg (fun q => e q.2), Option.bind_some, if_pos rfl]
/-- the token from a place on: where it begins, where it ends, what it is (a letter; 1000 and a number; 2000 a wrong number; 3000 the end) -/
def aTq (n : Nat) (w : Nat → Nat) (p : Nat) : Nat := aSk w (n - p) p
def aTm (n : Nat) (w : Nat → Nat) (p : Nat) : Nat × Nat := aDg w (n - aTq n w p) (aTq n w p) 0
def aTe (n : Nat) (w : Nat → Nat) (p : Nat) : Nat := if aTq n w p = n then n else if 48 ≤ w (aTq n w p) ∧ w (aTq n w p) ≤ 57 then (aTm n w p).1 else aTq n w p + 1
def aTt (n : Nat) (w : Nat → Nat) (p : Nat) : Nat := if aTq n w p = n then 3000 else if 48 ≤ w (aTq n w p) ∧ w (aTq n w p) ≤ 57 then (if 99 < (aTm n w p).2 ∨ (w (aTq n w p) = 48 ∧ aTq n w p + 1 < (aTm n w p).1) then 2000 else 1000 + (aTm n w p).2) else w (aTq n w p)
theorem tk_le {n p : Nat} {w : Nat → Nat} (hp : p ≤ n) (hw : ∀ j, j < n → w j ≤ 255) : p ≤ aTq n w p ∧ aTq n w p ≤ n ∧ aTq n w p ≤ aTe n w p ∧ aTe n w p ≤ n ∧ (aTt n w p ≠ 3000 → p < aTe n w p) ∧ (aTt n w p ≤ 255 ∨ (1000 ≤ aTt n w p ∧ aTt n w p ≤ 1099) ∨ aTt n w p = 2000 ∨ aTt n w p = 3000) := by
  have h1 := sk_le w (n - p) p
  have hq : p ≤ aTq n w p ∧ aTq n w p ≤ n := by
    unfold aTq
    omega
  have h2 := dg_le w (n - aTq n w p) (aTq n w p) 0 (by omega)
  have h3 : aTq n w p ≤ (aTm n w p).1 ∧ (aTm n w p).1 ≤ n := by
    unfold aTm
    omega
  obtain ⟨q, hqq⟩ : ∃ q, q = aTq n w p := ⟨_, rfl⟩
  have h4 : q < n → 48 ≤ w q ∧ w q ≤ 57 → q < (aTm n w p).1 := by
    intro g1 g2
    unfold aTm
    rw [← hqq]
    obtain ⟨d, hd⟩ : ∃ d, n - q = d + 1 := ⟨n - q - 1, by omega⟩
    rw [hd]
    unfold aDg
    rw [if_pos g2]
    have := dg_le w d (q + 1) (if 0 ≤ 99 then 10 * 0 + w q - 48 else 0) (by rw [if_pos (by omega)]; omega)
    omega
  unfold aTe aTt
  rw [← hqq] at hq h3 ⊢
  refine ⟨hq.1, hq.2, ?_, ?_, ?_, ?_⟩
  · split
    · omega
    · split <;> omega
  · split
    · omega
    · split <;> omega
  · intro g
    split at g
    · exact absurd rfl g
    · rename_i g0
      rw [if_neg g0]
      split
      · have := h4 (by omega) (by assumption)
        omega
      · omega
  · split
    · omega
    · rename_i g0
      have := hw q (by omega)
      split
      · split <;> omega
      · omega
def aSg (x : Nat) : Prop := x = 116 ∨ x = 99 ∨ x = 115 ∨ x = 98 ∨ x = 114 ∨ x = 59
theorem sg_7 {x : Nat} (hx : x ≤ 255) (N : Nat) : (aSg x → fX6_isSign N (nI x) = some 1) ∧ (¬ aSg x → fX6_isSign N (nI x) = some 0) := by
  have hE : ∀ c : Nat, c ≤ 255 → x ≠ c → ¬ nI x = nI c := fun c hc h q => h ((nI_eq (by omega) (by omega)).mp q)
  unfold fX6_isSign aSg
  constructor
  · intro h
    by_cases e1 : nI x = (116 : Int32)
    · rw [if_pos e1]
    rw [if_neg e1]
    by_cases e2 : nI x = (99 : Int32)
    · rw [if_pos e2]
    rw [if_neg e2]
    by_cases e3 : nI x = (115 : Int32)
    · rw [if_pos e3]
    rw [if_neg e3]
    by_cases e4 : nI x = (98 : Int32)
    · rw [if_pos e4]
    rw [if_neg e4]
    by_cases e5 : nI x = (114 : Int32)
    · rw [if_pos e5]
    rw [if_neg e5]
    by_cases e6 : nI x = (59 : Int32)
    · rw [if_pos e6]
    rcases h with rfl | rfl | rfl | rfl | rfl | rfl
    · exact absurd rfl e1
    · exact absurd rfl e2
    · exact absurd rfl e3
    · exact absurd rfl e4
    · exact absurd rfl e5
    · exact absurd rfl e6
  · intro h
    rw [if_neg (show ¬ nI x = (116 : Int32) from hE 116 (by omega) (by omega)), if_neg (show ¬ nI x = (99 : Int32) from hE 99 (by omega) (by omega)), if_neg (show ¬ nI x = (115 : Int32) from hE 115 (by omega) (by omega)), if_neg (show ¬ nI x = (98 : Int32) from hE 98 (by omega) (by omega)), if_neg (show ¬ nI x = (114 : Int32) from hE 114 (by omega) (by omega)), if_neg (show ¬ nI x = (59 : Int32) from hE 59 (by omega) (by omega))]
/-- the class's word for a token, the model's -/
def clT (t : Nat) (x : Int32) : Prop := (t = 3000 ∧ x = nI 46) ∨ (t = 2000 ∧ x = nI 63) ∨ (1000 ≤ t ∧ t ≤ 1099 ∧ x = nI 48) ∨ (t ≤ 255 ∧ aSg t ∧ x = nI t) ∨ (t ≤ 255 ∧ ¬ aSg t ∧ x = nI 63)
def mdT (t : Nat) (x : Int32) : Prop := (t = 3000 ∧ x = nM1) ∨ (t ≤ 2000 ∧ x = nI t)
theorem tok_7 {n p : Nat} {w : Nat → Nat} {a : MM} (h : txC n w a) (hp : p ≤ n) (h2 : a 2 0 = nI p) {N : Nat} (hN : 200 < N) : ∃ a', fX6_nextToken N a = some a' ∧ a' 2 0 = nI (aTe n w p) ∧ a' 3 0 = nI (aTq n w p) ∧ clT (aTt n w p) (a' 4 0) ∧ (1000 ≤ aTt n w p → aTt n w p < 2000 → a' 5 0 = nI (aTt n w p - 1000)) ∧ ∀ k, k ≠ 2 → k ≠ 3 → k ≠ 4 → k ≠ 5 → a' k = a k := by
  have h120 := h.1
  have hle := tk_le hp (fun j hj => (h.2.2 j hj).1)
  obtain ⟨a1, s1, s2, s3⟩ := sk_7 (N := N) (w := w) (n - p) N p a (by omega) (by omega) h h2
  have s2 : a1 2 0 = nI (aTq n w p) := s2
  have ht1 : txC n w a1 := txC_c h (s3 0 (by omega)) (s3 1 (by omega))
  obtain ⟨q, hq⟩ : ∃ q, q = aTq n w p := ⟨_, rfl⟩
  rw [← hq] at s2
  obtain ⟨b, hb⟩ : ∃ b, b = st a1 3 (fun _ => nI q) := ⟨_, rfl⟩
  have b3 : b 3 0 = nI q := by rw [hb, st_eq]
  have bo : ∀ k, k ≠ 3 → b k = a1 k := fun k hk => by rw [hb, st_ne (Ne.symm hk)]
  have htb : txC n w b := txC_c ht1 (bo 0 (by omega)) (bo 1 (by omega))
  unfold fX6_nextToken
  rw [s1, s2, ← hb, ht1.2.1]
  unfold aTe aTt at hle ⊢
  rw [← hq] at hle ⊢
  by_cases e : q = n
  · rw [if_pos e, if_pos e]
    have hl : fX6_letterAt N (nI q) b = some (nI 0) := by rw [e]; exact ltr_7e htb N
    rw [hl, Option.bind_some, dg_7 (by omega), if_neg (by omega), Option.bind_some, if_pos rfl, if_neg (nI_nlt (by omega) (by omega))]
    refine ⟨_, rfl, ?_, ?_, Or.inl ⟨rfl, by rw [st_eq]; rfl⟩, fun _ h => absurd h (by omega), fun k k1 k2 k3 k4 => ?_⟩
    · rw [st_ne (by omega), bo 2 (by omega), s2, e]
    · rw [st_ne (by omega), b3]
    · rw [st_ne (Ne.symm k3), bo k k2, s3 k k1]
  · rw [if_neg e, if_neg e] at hle
    rw [if_neg e, if_neg e]
    have hw := (h.2.2 q (by omega)).1
    rw [ltr_7 htb (show q < n by omega), Option.bind_some, dg_7 hw]
    by_cases d : 48 ≤ w q ∧ w q ≤ 57
    · rw [if_pos d, if_pos d, if_pos d, Option.bind_some, if_neg (show ¬ (1 : Int32) = 0 by decide)]
      have hm : aTm n w p = aDg w (n - q) q 0 := by unfold aTm; rw [← hq]
      have hdl := dg_le w (n - q) q 0 (by omega)
      rw [hm]
      obtain ⟨c, i1, i2, i3, i4⟩ := nn_7 (q := q) (N := N) (w := w) (n - q) N q 0 1 (st b 5 (fun _ => nI 0)) (by omega) (by omega) (txC_c htb (st_ne (by omega)) (st_ne (by omega))) (by rw [st_ne (by omega), bo 2 (by omega), s2]) (by rw [st_ne (by omega), b3]) (by rw [st_eq]; rfl) (by omega) (by omega) (fun _ => rfl) (fun h => by omega) (fun h => by omega) (by rw [if_pos (by omega)])
      obtain ⟨E, hE⟩ : ∃ E, E = (aDg w (n - q) q 0).1 := ⟨_, rfl⟩
      obtain ⟨M, hM⟩ : ∃ M, M = (aDg w (n - q) q 0).2 := ⟨_, rfl⟩
      rw [← hE] at i1 i2 hdl
      rw [← hM] at i3 hdl
      rw [← hE, ← hM]
      have i1 : ∀ K, fX6_nextNumber_L7 N K N (1 : Int32) (st b 5 (fun _ => (0 : Int32))) = K (if E ≤ q + 1 ∨ w q ≠ 48 then 1 else 0) c := i1
      have co : ∀ k, k ≠ 2 → k ≠ 3 → k ≠ 4 → k ≠ 5 → st c 4 (fun _ => (63 : Int32)) k = a k ∧ st c 4 (fun _ => (48 : Int32)) k = a k := fun k k1 k2 k3 k4 => by
        rw [st_ne (Ne.symm k3), st_ne (Ne.symm k3), i4 k k1 k4, st_ne (Ne.symm k4), bo k k2, s3 k k1]
        exact ⟨rfl, rfl⟩
      have c3 : c 3 0 = nI q := by rw [i4 3 (by omega) (by omega), st_ne (by omega), b3]
      unfold fX6_nextNumber
      rw [i1]
      by_cases g : E ≤ q + 1 ∨ w q ≠ 48
      · rw [if_pos g, if_neg (show ¬ (1 : Int32) = 0 by decide), i3]
        by_cases g2 : 99 < M
        · rw [if_pos (show (99 : Int32) < nI (min 100 M) from nI_lt (a := 99) (by omega) (by omega)), Option.bind_some, if_pos (Or.inl g2)]
          exact ⟨_, rfl, by rw [st_ne (by omega), i2], by rw [st_ne (by omega), c3], Or.inr (Or.inl ⟨rfl, by rw [st_eq]; rfl⟩), fun _ h => absurd h (by omega), fun k k1 k2 k3 k4 => (co k k1 k2 k3 k4).1⟩
        · rw [if_neg (show ¬ (99 : Int32) < nI (min 100 M) from nI_nlt (a := 99) (by omega) (by omega)), Option.bind_some, if_neg (by omega)]
          refine ⟨_, rfl, by rw [st_ne (by omega), i2], by rw [st_ne (by omega), c3], Or.inr (Or.inr (Or.inl ⟨by omega, by omega, by rw [st_eq]; rfl⟩)), fun _ _ => ?_, fun k k1 k2 k3 k4 => (co k k1 k2 k3 k4).2⟩
          rw [st_ne (by omega), i3, show min 100 M = 1000 + M - 1000 by omega]
      · rw [if_neg g, if_pos rfl, Option.bind_some, if_pos (by omega)]
        exact ⟨_, rfl, by rw [st_ne (by omega), i2], by rw [st_ne (by omega), c3], Or.inr (Or.inl ⟨rfl, by rw [st_eq]; rfl⟩), fun _ h => absurd h (by omega), fun k k1 k2 k3 k4 => (co k k1 k2 k3 k4).1⟩
    · rw [if_neg d, if_neg d, if_neg d, Option.bind_some, if_pos rfl, if_pos (nI_lt (by omega) (by omega)), nI_1]
      have hsg := sg_7 hw N
      have co : ∀ (x : Int32) k, k ≠ 2 → k ≠ 3 → k ≠ 4 → k ≠ 5 → st (st b 4 (fun _ => x)) 2 (fun _ => nI (q + 1)) k = a k := fun x k k1 k2 k3 k4 => by
        rw [st_ne (Ne.symm k1), st_ne (Ne.symm k3), bo k k2, s3 k k1]
      by_cases g : aSg (w q)
      · rw [hsg.1 g, Option.bind_some, if_neg (show ¬ (1 : Int32) = 0 by decide)]
        exact ⟨_, rfl, by rw [st_eq], by rw [st_ne (by omega), st_ne (by omega), b3], Or.inr (Or.inr (Or.inr (Or.inl ⟨hw, g, by rw [st_ne (by omega), st_eq]⟩))), fun h => absurd h (by omega), co _⟩
      · rw [hsg.2 g, Option.bind_some, if_pos rfl]
        exact ⟨_, rfl, by rw [st_eq], by rw [st_ne (by omega), st_ne (by omega), b3], Or.inr (Or.inr (Or.inr (Or.inr ⟨hw, g, by rw [st_ne (by omega), st_eq]; rfl⟩))), fun h => absurd h (by omega), co _⟩
theorem tok_8 {n p : Nat} {w : Nat → Nat} {u : MM} (h : txM n w u) (hp : p ≤ n) (h2 : u 27 0 = nI p) {N : Nat} (hN : 200 < N) : ∃ u', fX8_takes N u = some u' ∧ u' 27 0 = nI (aTe n w p) ∧ u' 28 0 = nI (aTq n w p) ∧ mdT (aTt n w p) (u' 29 0) ∧ ∀ k, k ≠ 27 → k ≠ 28 → k ≠ 29 → u' k = u k := by
  have h120 := h.1
  have hle := tk_le hp (fun j hj => (h.2.2 j hj).1)
  obtain ⟨u1, s1, s2, s3⟩ := sk_8 (N := N) (w := w) (n - p) N p u (by omega) (by omega) h h2
  have s2 : u1 27 0 = nI (aTq n w p) := s2
  have ht1 : txM n w u1 := txM_c h (s3 25 (by omega)) (s3 26 (by omega))
  obtain ⟨q, hq⟩ : ∃ q, q = aTq n w p := ⟨_, rfl⟩
  rw [← hq] at s2
  obtain ⟨B, hB⟩ : ∃ B : Int32 → MM, B = fun x => st (st u1 28 (fun _ => nI q)) 29 (fun _ => x) := ⟨_, rfl⟩
  have hB' : ∀ x, st (st u1 28 (fun _ => nI q)) 29 (fun _ => x) = B x := fun x => by rw [hB]
  have b28 : ∀ x, B x 28 0 = nI q := fun x => by rw [hB]; show st _ 29 _ 28 0 = _; rw [st_ne (by omega), st_eq]
  have b29 : ∀ x, B x 29 0 = x := fun x => by rw [hB]; show st _ 29 _ 29 0 = _; rw [st_eq]
  have bo : ∀ x k, k ≠ 28 → k ≠ 29 → B x k = u1 k := fun x k k1 k2 => by rw [hB]; show st _ 29 _ k = _; rw [st_ne (Ne.symm k2), st_ne (Ne.symm k1)]
  have htb : ∀ x, txM n w (B x) := fun x => txM_c ht1 (bo x 25 (by omega) (by omega)) (bo x 26 (by omega) (by omega))
  unfold fX8_takes
  rw [s1, s2, ht1.2.1]
  unfold aTe aTt at hle ⊢
  rw [← hq] at hle ⊢
  by_cases e : q = n
  · rw [if_pos e, if_pos e, if_pos (nI_le (by omega) (by omega)), hB', fig_8 (htb _) (by omega), if_neg (by omega), Option.bind_some, if_pos rfl, if_pos (nI_le (by omega) (by omega)), show nI q + (0 : Int32) = nI q from nI_add q 0]
    refine ⟨_, rfl, ?_, ?_, Or.inl ⟨rfl, ?_⟩, fun k k1 k2 k3 => ?_⟩
    · rw [st_eq, e]
    · rw [st_ne (by omega), b28]
    · rw [st_ne (by omega), b29]; rfl
    · rw [st_ne (Ne.symm k1), bo _ k k2 k3, s3 k k1]
  · rw [if_neg e, if_neg e] at hle
    rw [if_neg e, if_neg e]
    obtain ⟨hw, hw2⟩ := ht1.2.2 q (by omega)
    rw [if_neg (nI_ge (by omega) (by omega)), if_pos (ib_n (by omega) (by omega)), nI_clamp (n := q) (by omega), hw2, hB', fig_8 (htb _) (by omega)]
    by_cases d : 48 ≤ w q ∧ w q ≤ 57
    · have d' : q < n ∧ 48 ≤ w q ∧ w q ≤ 57 := ⟨by omega, d⟩
      rw [if_pos d, if_pos d, if_pos d', Option.bind_some, if_neg (show ¬ (1 : Int32) = 0 by decide)]
      have hm : aTm n w p = aDg w (n - q) q 0 := by unfold aTm; rw [← hq]
      have hdl := dg_le w (n - q) q 0 (by omega)
      rw [hm]
      obtain ⟨c, i1, i2, i3⟩ := nn_8 (N := N) (w := w) (n - q) N q 0 (B (nI (w q))) (by omega) (by omega) (htb _) (by rw [bo _ 27 (by omega) (by omega), s2]) (by omega)
      obtain ⟨E, hE⟩ : ∃ E, E = (aDg w (n - q) q 0).1 := ⟨_, rfl⟩
      obtain ⟨M, hM⟩ : ∃ M, M = (aDg w (n - q) q 0).2 := ⟨_, rfl⟩
      rw [← hE] at i2 hdl
      rw [← hM] at i1 hdl
      rw [← hE, ← hM]
      have i1 : ∀ K, fX8_takes_L113 N K N (0 : Int32) (B (nI (w q))) = K (nI M) c := i1
      have c28 : c 28 0 = nI q := by rw [i3 28 (by omega), b28]
      have c26 : c 26 q = nI (w q) := by rw [i3 26 (by omega), bo _ 26 (by omega) (by omega), hw2]
      have co : ∀ (x : Int32) k, k ≠ 27 → k ≠ 28 → k ≠ 29 → st c 29 (fun _ => x) k = u k := fun x k k1 k2 k3 => by
        rw [st_ne (Ne.symm k3), i3 k k1, bo _ k k2 k3, s3 k k1]
      rw [i1]
      by_cases g2 : 99 < M
      · rw [if_pos (show (99 : Int32) < nI M from nI_lt (a := 99) g2 (by omega)), if_pos (Or.inl g2)]
        exact ⟨_, rfl, by rw [st_ne (by omega), i2], by rw [st_ne (by omega), c28], Or.inr ⟨by omega, by rw [st_eq]; rfl⟩, co _⟩
      · rw [if_neg (show ¬ (99 : Int32) < nI M from nI_nlt (a := 99) (by omega) (by omega)), c28, if_pos (ib_n (by omega) (by omega)), nI_clamp (n := q) (by omega), c26, i2, nI_1, show (1000 : Int32) + nI M = nI (1000 + M) from nI_add 1000 M]
        by_cases g : w q = 48
        · rw [if_pos (show nI (w q) = (48 : Int32) by rw [g]; rfl)]
          by_cases g3 : E ≤ q + 1
          · rw [if_pos (nI_le g3 (by omega)), if_neg (by omega)]
            exact ⟨_, rfl, by rw [st_ne (by omega), i2], by rw [st_ne (by omega), c28], Or.inr ⟨by omega, by rw [st_eq]⟩, co _⟩
          · rw [if_neg (nI_ge (by omega) (by omega)), if_pos (by omega)]
            exact ⟨_, rfl, by rw [st_ne (by omega), i2], by rw [st_ne (by omega), c28], Or.inr ⟨by omega, by rw [st_eq]; rfl⟩, co _⟩
        · rw [if_neg (show ¬ nI (w q) = (48 : Int32) from fun x => g ((nI_eq (b := 48) (by omega) (by omega)).mp x)), if_neg (by omega)]
          exact ⟨_, rfl, by rw [st_ne (by omega), i2], by rw [st_ne (by omega), c28], Or.inr ⟨by omega, by rw [st_eq]⟩, co _⟩
    · rw [if_neg d, if_neg d, if_neg (fun x => d x.2), Option.bind_some, if_pos rfl, if_neg (nI_ge (by omega) (by omega)), nI_1]
      refine ⟨_, rfl, ?_, ?_, Or.inr ⟨by omega, ?_⟩, fun k k1 k2 k3 => ?_⟩
      · rw [st_eq]
      · rw [st_ne (by omega), b28]
      · rw [st_ne (by omega), b29]
      · rw [st_ne (Ne.symm k1), bo _ k k2 k3, s3 k k1]
