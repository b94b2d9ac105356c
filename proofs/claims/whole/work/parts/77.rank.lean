/-! the classes of a terminal in their order: the place by priority and number, and the rank -/
theorem smN_lt {f g : Nat → Nat} : ∀ (n i : Nat), (∀ j, j < n → f j ≤ g j) → i < n → f i < g i → smN f n < smN g n
  | 0, _, _, h, _ => absurd h (by omega)
  | n + 1, i, hle, hi, hlt => by
    show smN f n + f n < smN g n + g n
    by_cases e : i = n
    · subst e
      have h1 : smN f i ≤ smN g i := by
        have : ∀ m, m ≤ i → smN f m ≤ smN g m := by
          intro m
          induction m with
          | zero => intro _; exact Nat.le_refl _
          | succ m ih =>
            intro hm
            have h1 := ih (by omega)
            have h2 := hle m (by omega)
            show smN f m + f m ≤ smN g m + g m
            omega
        exact this i (Nat.le_refl i)
      omega
    · have h1 := smN_lt n i (fun j hj => hle j (by omega)) (by omega) hlt
      have h2 := hle n (by omega)
      omega
theorem smN_one {f g : Nat → Nat} : ∀ (n c m : Nat), c < n → (∀ j, j < n → j ≠ c → f j = g j) → f c = g c + m → smN f n = smN g n + m
  | 0, _, _, h, _, _ => absurd h (by omega)
  | n + 1, c, m, hc, h1, h2 => by
    show smN f n + f n = smN g n + g n + m
    by_cases e : c = n
    · subst e
      rw [smN_congr c (fun j hj => h1 j (by omega) (by omega)), h2]
      omega
    · rw [smN_one n c m (by omega) (fun j hj hne => h1 j (by omega) hne) h2, h1 n (by omega) (by omega)]
      omega
theorem if_iff {p q : Prop} [Decidable p] [Decidable q] (h : p ↔ q) : (if p then 1 else 0 : Nat) = if q then 1 else 0 := by
  by_cases hp : p
  · rw [if_pos hp, if_pos (h.mp hp)]
  · rw [if_neg hp, if_neg (fun x => hp (h.mpr x))]
theorem rk_0 (S : RW) (t : Nat) : aRank S t 0 0 = 0 := smN_0 _ (fun i _ => if_neg (by omega))
theorem rk_in {S : RW} {t c : Nat} (hc : c < S 1 0) (h : S 7 c = t) : aRank S t (S 8 c) (c + 1) = aRank S t (S 8 c) c + 1 := by
  refine smN_one _ c 1 hc (fun j hj hne => if_iff ?_) ?_
  · omega
  · rw [if_pos (by omega), if_neg (by omega)]
theorem rk_out {S : RW} {t p c : Nat} (h : ¬ (S 7 c = t ∧ S 8 c = p)) : aRank S t p (c + 1) = aRank S t p c := by
  refine smN_congr _ (fun j hj => if_iff ?_)
  by_cases e : j = c
  · subst e
    omega
  · omega
theorem rk_wrap (S : RW) (t p : Nat) : aRank S t (p + 1) 0 = aRank S t p (S 1 0) := smN_congr _ (fun j hj => if_iff (by omega))
theorem rk_lt {S : RW} {t c : Nat} (hS : suR S) (hc : c < S 1 0) (h : S 7 c = t) : aRank S t (S 8 c) c < aRank S t 10 0 := by
  refine smN_lt _ c (fun j hj => ?_) hc ?_
  · have h8 := (hS.2.2.2.2.2.2 j hj).2.1
    by_cases e : S 7 j = t
    · rw [if_pos (show S 7 j = t ∧ (S 8 j < 10 ∨ S 8 j = 10 ∧ j < 0) by omega)]
      split <;> omega
    · rw [if_neg (show ¬ (S 7 j = t ∧ (S 8 j < S 8 c ∨ S 8 j = S 8 c ∧ j < c)) by omega)]
      omega
  · have h8 := (hS.2.2.2.2.2.2 c hc).2.1
    rw [if_neg (by omega), if_pos (by omega)]
    omega
theorem rk_mono {S : RW} {t c d : Nat} (hc : c < S 1 0) (h : S 7 c = t) (hlt : S 8 c < S 8 d ∨ (S 8 c = S 8 d ∧ c < d)) : aRank S t (S 8 c) c < aRank S t (S 8 d) d := by
  refine smN_lt _ c (fun j hj => ?_) hc ?_
  · by_cases e : S 7 j = t ∧ (S 8 j < S 8 c ∨ S 8 j = S 8 c ∧ j < c)
    · rw [if_pos e, if_pos (show S 7 j = t ∧ (S 8 j < S 8 d ∨ S 8 j = S 8 d ∧ j < d) by omega)]
      omega
    · rw [if_neg e]
      omega
  · rw [if_neg (by omega), if_pos (by omega)]
    omega
theorem rk_inj {S : RW} {t c d : Nat} (hc : c < S 1 0) (hd : d < S 1 0) (h1 : S 7 c = t) (h2 : S 7 d = t) (h : aRank S t (S 8 c) c = aRank S t (S 8 d) d) : c = d := by
  rcases Nat.lt_trichotomy (S 8 c) (S 8 d) with q | q | q
  · have := rk_mono (d := d) hc h1 (Or.inl q)
    omega
  · rcases Nat.lt_trichotomy c d with w | w | w
    · have := rk_mono (d := d) hc h1 (Or.inr ⟨q, w⟩)
      omega
    · exact w
    · have := rk_mono (d := c) hd h2 (Or.inr ⟨q.symm, w⟩)
      omega
  · have := rk_mono (d := c) hd h2 (Or.inl q)
    omega
theorem aAt_or (S : RW) (t n : Nat) : (aAt S t n = S 1 0 ∧ ∀ c, c < S 1 0 → ¬ (S 7 c = t ∧ aRank S t (S 8 c) c = n)) ∨ (aAt S t n < S 1 0 ∧ S 7 (aAt S t n) = t ∧ aRank S t (S 8 (aAt S t n)) (aAt S t n) = n) := by
  unfold aAt
  cases h : (List.range (S 1 0)).find? (aIsAt S t n) with
  | none =>
    left
    refine ⟨rfl, fun c hc q => ?_⟩
    have h2 := List.find?_eq_none.mp h c (List.mem_range.mpr hc)
    apply h2
    unfold aIsAt
    rw [q.1, q.2]
    simp
  | some c =>
    right
    have h1 := List.mem_range.mp (List.mem_of_find?_eq_some h)
    have h2 := List.find?_some h
    unfold aIsAt at h2
    simp at h2
    exact ⟨h1, h2.1, h2.2⟩
theorem aAt_in {S : RW} {t c : Nat} (hc : c < S 1 0) (h : S 7 c = t) : aAt S t (aRank S t (S 8 c) c) = c := by
  rcases aAt_or S t (aRank S t (S 8 c) c) with ⟨-, h2⟩ | ⟨h1, h2, h3⟩
  · exact absurd ⟨h, rfl⟩ (h2 c hc)
  · exact rk_inj h1 hc h2 h h3
theorem rk_le (S : RW) (t p c : Nat) : aRank S t p c ≤ S 1 0 := by
  have h := smN_le (f := fun o => if S 7 o = t ∧ (S 8 o < p ∨ (S 8 o = p ∧ o < c)) then 1 else 0) (m := 1) (S 1 0) (fun i _ => by
    show (if _ then 1 else 0) ≤ 1
    split <;> omega)
  rw [Nat.mul_one] at h
  exact h
theorem aFill_top {S : RW} {t : Nat} {bt : Bool} {s : FL} (hS : suR S) : aFill S t bt s = itN (aFillK S t bt) (aRank S t 10 0) s := by
  unfold aFill
  obtain ⟨d, hd⟩ : ∃ d, S 1 0 = aRank S t 10 0 + d := ⟨S 1 0 - aRank S t 10 0, by have := rk_le S t 10 0; omega⟩
  have h : ∀ d, itN (aFillK S t bt) (aRank S t 10 0 + d) s = itN (aFillK S t bt) (aRank S t 10 0) s := by
    intro d
    induction d with
    | zero => rfl
    | succ d ih =>
      show aFillK S t bt (aRank S t 10 0 + d) (itN (aFillK S t bt) (aRank S t 10 0 + d) s) = _
      rw [ih]
      unfold aFillK
      rcases aAt_or S t (aRank S t 10 0 + d) with ⟨h1, -⟩ | ⟨h1, h2, h3⟩
      · rw [if_neg (by omega)]
      · have := rk_lt hS h1 h2
        omega
  rw [hd]
  have h2 := h d
  exact h2
/-! a block being filled -/
def flI (S : RW) (g : Nat) (s : FL) : Prop := rwI S s.2.1 ∧ aTot (S 1 0) s.2.2 + s.1 = g ∧ ∀ c, S 1 0 ≤ c → s.2.2 c = 0
theorem many_le (bt : Bool) (c : Nat) (s : FL) : aMany bt c s ≤ s.1 ∧ aMany bt c s ≤ s.2.1 9 c := by
  unfold aMany
  cases bt
  · exact ⟨Nat.min_le_right _ _, Nat.min_le_left _ _⟩
  · show min (min (s.2.1 9 c) s.1) (s.2.1 10 c) ≤ _ ∧ min (min (s.2.1 9 c) s.1) (s.2.1 10 c) ≤ _
    omega
theorem fill1_I {S : RW} {g c : Nat} {bt : Bool} {s : FL} (hc : c < S 1 0) (h : flI S g s) : flI S g (aFill1 bt c s) := by
  obtain ⟨h1, h2, h3⟩ := h
  have hm := many_le bt c s
  have hb := h1.2.2.2.2.1 c hc
  refine ⟨?_, ?_, fun e he => ?_⟩
  · unfold aFill1
    cases bt
    · exact rwI_up h1 (by omega) (by omega) (by omega) (by omega) (by omega) (by omega) (by omega) (by omega) (by omega) (by omega)
    · exact rwI_up (rwI_up h1 (by omega) (by omega) (by omega) (by omega) (by omega) (by omega) (by omega) (by omega) (by omega) (by omega)) (by omega) (by omega) (by omega) (by omega) (by omega) (by omega) (by omega) (by omega) (by omega) (by omega)
  · have e1 : aTot (S 1 0) (aFill1 bt c s).2.2 = aTot (S 1 0) s.2.2 + aMany bt c s := smN_one _ c _ hc (fun j _ hne => if_neg hne) (if_pos rfl)
    rw [e1]
    show aTot (S 1 0) s.2.2 + aMany bt c s + (s.1 - aMany bt c s) = g
    omega
  · show (if e = c then _ else s.2.2 e) = 0
    rw [if_neg (by omega)]
    exact h3 e he
theorem fillK_I {S : RW} {t g n : Nat} {bt : Bool} {s : FL} (h : flI S g s) : flI S g (aFillK S t bt n s) := by
  unfold aFillK
  split
  · rename_i hc
    exact fill1_I hc h
  · exact h
theorem fillN_I {S : RW} {t g n : Nat} {bt : Bool} {s : FL} (h : flI S g s) : flI S g (itN (aFillK S t bt) n s) := itN_inv (fun _ q => flI S g q) n h (fun _ _ _ q => fillK_I q)
theorem fill_I {S : RW} {t g : Nat} {bt : Bool} {s : FL} (h : flI S g s) : flI S g (aFill S t bt s) := fillN_I h
