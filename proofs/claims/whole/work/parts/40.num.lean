/-! numbers and loops of the pure half -/
theorem nI_lit (k : Nat) : (OfNat.ofNat k : Int32) = nI k := rfl
theorem ib_nI {n m : Nat} (h : n < m) (hm : m < 2 ^ 31) : ib (nI n) m = true := by
  have h0 : n < 2 ^ 31 := by omega
  have a1 : ¬ nI n < 0 := nI_pos h0
  have a2 : Nat.ble m n = false := by
    cases hb : Nat.ble m n with
    | false => rfl
    | true => exact absurd (Nat.le_of_ble_eq_true hb) (by omega)
  unfold ib
  rw [nI_clamp h0, a2]
  simp [a1]
theorem lp_run {α ρ : Type} (L : Nat → Nat → α → Option ρ) (K : α → Option ρ) (e : Nat) (P : Nat → α → Prop) (hx : ∀ n a, P e a → L (n + 1) e a = K a) (hs : ∀ n i a, i < e → P i a → ∃ a', P (i + 1) a' ∧ L (n + 1) i a = L n (i + 1) a') : ∀ (d n i : Nat) (a : α), i + d = e → d < n → P i a → ∃ a', P e a' ∧ L n i a = K a'
  | 0, n, i, a, hi, hn, hp => by
    obtain ⟨n, rfl⟩ : ∃ m, n = m + 1 := ⟨n - 1, by omega⟩
    have h : i = e := by omega
    subst h
    exact ⟨a, hp, hx n a hp⟩
  | d + 1, n, i, a, hi, hn, hp => by
    obtain ⟨n, rfl⟩ : ∃ m, n = m + 1 := ⟨n - 1, by omega⟩
    obtain ⟨a1, h1, h2⟩ := hs n i a (by omega) hp
    obtain ⟨a', h3, h4⟩ := lp_run L K e P hx hs d n (i + 1) a1 (by omega) (by omega) h1
    exact ⟨a', h3, h2.trans h4⟩
/-- a loop that may leave early: what is sought of its result -/
theorem lp_any {α ρ : Type} (L : Nat → Nat → α → Option ρ) (Z : Option ρ → Prop) (e : Nat) (P : Nat → α → Prop) (hx : ∀ n a, P e a → Z (L (n + 1) e a)) (hs : ∀ n i a, i < e → P i a → Z (L (n + 1) i a) ∨ ∃ a', P (i + 1) a' ∧ L (n + 1) i a = L n (i + 1) a') : ∀ (d n i : Nat) (a : α), i + d = e → d < n → P i a → Z (L n i a)
  | 0, n, i, a, hi, hn, hp => by
    obtain ⟨n, rfl⟩ : ∃ m, n = m + 1 := ⟨n - 1, by omega⟩
    have h : i = e := by omega
    subst h
    exact hx n a hp
  | d + 1, n, i, a, hi, hn, hp => by
    obtain ⟨n, rfl⟩ : ∃ m, n = m + 1 := ⟨n - 1, by omega⟩
    rcases hs n i a (by omega) hp with h | ⟨a1, h1, h2⟩
    · exact h
    · rw [h2]
      exact lp_any L Z e P hx hs d n (i + 1) a1 (by omega) (by omega) h1
/-- a thing done i times -/
def itN {σ : Type} (f : Nat → σ → σ) : Nat → σ → σ
  | 0, s => s
  | i + 1, s => f i (itN f i s)
def smN (f : Nat → Nat) : Nat → Nat
  | 0 => 0
  | i + 1 => smN f i + f i
theorem smN_le {f : Nat → Nat} {m : Nat} : ∀ (n : Nat), (∀ i, i < n → f i ≤ m) → smN f n ≤ n * m
  | 0, _ => by simp [smN]
  | n + 1, h => by
    have h1 := smN_le n (fun i hi => h i (by omega))
    have h2 := h n (by omega)
    have h3 : (n + 1) * m = n * m + m := Nat.succ_mul n m
    show smN f n + f n ≤ (n + 1) * m
    omega
theorem smN_congr {f g : Nat → Nat} : ∀ (n : Nat), (∀ i, i < n → f i = g i) → smN f n = smN g n
  | 0, _ => rfl
  | n + 1, h => by
    show smN f n + f n = smN g n + g n
    rw [smN_congr n (fun i hi => h i (by omega)), h n (by omega)]
theorem smN_0 {f : Nat → Nat} : ∀ (n : Nat), (∀ i, i < n → f i = 0) → smN f n = 0
  | 0, _ => rfl
  | n + 1, h => by
    show smN f n + f n = 0
    rw [smN_0 n (fun i hi => h i (by omega)), h n (by omega)]
theorem smN_more {f : Nat → Nat} (n : Nat) : ∀ (m : Nat), (∀ i, n ≤ i → i < n + m → f i = 0) → smN f (n + m) = smN f n
  | 0, _ => rfl
  | m + 1, h => by
    show smN f (n + m) + f (n + m) = smN f n
    rw [smN_more n m (fun i h1 h2 => h i h1 (by omega)), h (n + m) (by omega) (by omega), Nat.add_zero]
