/-! THE ABSTRACT STATE. Rows of numbers in the order of State's fields: 0 now, 1 room, 2 last (0 none, t + 1), 3 wants, 4 banned till, 5 asked, 6 thought, 7 asks, 8 granted, 9 waits, 10 tokens, 11 through, 12 lost; 20 + t: deaf in a step (1, 0). Setup's rows S in the order of Setup's fields: 0 terminals, 1 classes, 3 ban, 4 back, 5 tries, 6 period, 7 owner, 8 priority, 9 rate, 10 limit. A block: owner, due (0 gone, d + 1), sent, report (0 none, r + 1), letters. -/
abbrev RW : Type := Nat → Nat → Nat
abbrev BL : Type := Nat × Nat × Nat × Nat × (Nat → Nat)
abbrev AS : Type := RW × List BL
def lastI : Nat → Int32
  | 0 => -9
  | t + 1 => nI t
def dueI : Nat → Int32
  | 0 => -1
  | d + 1 => nI d
def repI : Nat → Int32
  | 0 => -9
  | r + 1 => nI r
def au (r : RW) (k i x : Nat) : RW := fun q j => if q = k ∧ j = i then x else r q j
def ar (r : RW) (k : Nat) (f : Nat → Nat) : RW := fun q => if q = k then f else r q
def aTot (C : Nat) (l : Nat → Nat) : Nat := smN l C
def aCont (C : Nat) (x : BL) : Nat := aTot C x.2.2.2.2 + (if x.2.2.2.1 = 0 then 0 else 2)
/-- a terminal is deaf in a step -/
def aDeaf (r : RW) (t j : Nat) : Prop := j ≤ 199 ∧ r (20 + t) j = 1
/-- the ranges of a setup -/
def suR (S : RW) : Prop := S 0 0 ≤ 3 ∧ S 1 0 ≤ 6 ∧ S 3 0 ≤ 9 ∧ (1 ≤ S 4 0 ∧ S 4 0 ≤ 6) ∧ (1 ≤ S 5 0 ∧ S 5 0 ≤ 4) ∧ (∀ t, t < S 0 0 → 1 ≤ S 6 t ∧ S 6 t ≤ 9) ∧ ∀ c, c < S 1 0 → S 7 c < S 0 0 ∧ S 8 c ≤ 9 ∧ S 9 c ≤ 20 ∧ S 10 c ≤ 60
/-- the class's Setup stands for it -/
def suC (v : MM) (S : RW) : Prop := v 0 0 = nI (S 0 0) ∧ v 1 0 = nI (S 1 0) ∧ v 3 0 = nI (S 3 0) ∧ v 4 0 = nI (S 4 0) ∧ v 5 0 = nI (S 5 0) ∧ (∀ t, t < S 0 0 → v 6 t = nI (S 6 t)) ∧ ∀ k c, 7 ≤ k → k ≤ 10 → c < S 1 0 → v k c = nI (S k c)
/-- the model's rows stand for it -/
def suM (u : MM) (S : RW) : Prop := u 1 0 = nI (S 0 0) ∧ u 2 0 = nI (S 1 0) ∧ u 3 0 = nI (S 3 0) ∧ u 4 0 = nI (S 4 0) ∧ u 5 0 = nI (S 5 0) ∧ (∀ t, t < S 0 0 → u 6 t = nI (S 6 t)) ∧ ∀ k c, 7 ≤ k → k ≤ 10 → c < S 1 0 → u 7 (4 * c + (k - 7)) = nI (S k c)
/-- the class's Blocks stand for a list of blocks (those that are gone stay in it while a step goes on) -/
def blC (b : MM) (l : List BL) : Prop := l.length ≤ 60 ∧ b 0 0 = nI l.length ∧ ∀ k x, l[k]? = some x → b 1 k = nI x.1 ∧ b 2 k = dueI x.2.1 ∧ b 3 k = nI x.2.2.1 ∧ b 4 k = repI x.2.2.2.1 ∧ ∀ c, c < 6 → b 5 (6 * k + c) = nI (x.2.2.2.2 c)
/-- the class's State stands for rows -/
def rwC (a : MM) (r : RW) : Prop := a 0 0 = nI (r 0 0) ∧ a 1 0 = nI (r 1 0) ∧ a 2 0 = lastI (r 2 0) ∧ (∀ k t, 3 ≤ k → k ≤ 8 → t < 3 → a k t = nI (r k t)) ∧ (∀ k c, 9 ≤ k → k ≤ 12 → c < 6 → a k c = nI (r k c)) ∧ ∀ t j, t < 3 → j ≤ 199 → (a 13 j).toBitVec.getLsbD t = decide (r (20 + t) j = 1)
def stC (a b : MM) (z : AS) : Prop := rwC a z.1 ∧ blC b z.2
/-- the model's row stands for blocks, for rows -/
def blM (s : Nat → Int32) (l : List BL) : Prop := l.length ≤ 60 ∧ s 3 = nI l.length ∧ ∀ k x, l[k]? = some x → s (67 + 10 * k) = nI x.1 ∧ s (67 + 10 * k + 1) = dueI x.2.1 ∧ s (67 + 10 * k + 2) = nI x.2.2.1 ∧ s (67 + 10 * k + 3) = repI x.2.2.2.1 ∧ ∀ c, c < 6 → s (67 + 10 * k + (4 + c)) = nI (x.2.2.2.2 c)
def rwM (s : Nat → Int32) (r : RW) : Prop := s 0 = nI (r 0 0) ∧ s 1 = nI (r 1 0) ∧ s 2 = lastI (r 2 0) ∧ (∀ k t, k < 6 → t < 3 → s (4 + 13 * t + k) = nI (r (3 + k) t)) ∧ (∀ k c, k < 4 → c < 6 → s (43 + 4 * c + k) = nI (r (9 + k) c)) ∧ ∀ t j, t < 3 → j ≤ 199 → (s (4 + 13 * t + (6 + j / 30))).toBitVec.getLsbD (j % 30) = decide (r (20 + t) j = 1)
def stM (s : Nat → Int32) (z : AS) : Prop := rwM s z.1 ∧ blM s z.2
/-- when a block was made -/
def aMade (S : RW) (x : BL) : Nat := x.2.1 - 1 - S 4 0 * x.2.2.1
/-- what holds of every state between steps -/
def rwI (S r : RW) : Prop := r 0 0 ≤ 400 ∧ r 1 0 ≤ 60 ∧ r 2 0 ≤ S 0 0 ∧ (∀ t, t < 3 → r 3 t ≤ 1 ∧ r 4 t ≤ 500 ∧ r 5 t ≤ 1 ∧ r 6 t ≤ 6000) ∧ (∀ c, c < S 1 0 → r 9 c ≤ 999 ∧ r 10 c ≤ 60) ∧ ∀ k c, 9 ≤ k → k ≤ 12 → S 1 0 ≤ c → r k c = 0
def blI (S r : RW) (l : List BL) : Prop := (∀ x ∈ l, x.1 < S 0 0 ∧ r 0 0 + 1 ≤ x.2.1 ∧ x.2.1 ≤ r 0 0 + S 4 0 ∧ 1 ≤ x.2.2.1 ∧ x.2.2.1 < S 5 0 ∧ S 4 0 * x.2.2.1 + 1 ≤ x.2.1 ∧ x.2.2.2.1 ≤ 6000 ∧ (∀ c, S 1 0 ≤ c → x.2.2.2.2 c = 0) ∧ aTot (S 1 0) x.2.2.2.2 ≤ 60) ∧ l.Pairwise (fun x y => ¬ (x.1 = y.1 ∧ aMade S x = aMade S y))
def stI (S : RW) (z : AS) : Prop := rwI S z.1 ∧ blI S z.1 z.2
