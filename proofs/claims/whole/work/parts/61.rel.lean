/-! what holds between the class's numbers cv (its chunks in the order of wL) and the model's u -/
def rText (cv : Nat → MM) (u : MM) : Prop := ∃ n : Nat, n ≤ 120 ∧ cv 1 1 0 = nI n ∧ u 25 0 = nI n ∧ ∀ j, j < n → ∃ w : Nat, w ≤ 255 ∧ cv 1 0 j = nI w ∧ u 26 j = nI w
def rSeen (cv : Nat → MM) (u : MM) : Prop := ∃ n : Nat, n ≤ 4 ∧ cv 0 12 0 = nI n ∧ u 22 0 = nI n ∧ ∀ j, j < n → ∃ a q : Nat, 1 ≤ a ∧ a ≤ 40 ∧ q ≤ 9999 ∧ cv 0 10 j = nI a ∧ u 23 j = nI a ∧ cv 0 11 j = nI q ∧ u 24 j = nI q
/-- one state on both sides -/
def rSt (S : RW) (a b : MM) (s : Nat → Int32) : Prop := ∃ z : AS, stC a b z ∧ stM s z ∧ stI S z ∧ z.1 0 0 ≤ 199
def hvA (cv : Nat → MM) (p : Nat) : MM := match p with | 0 => cv 11 | 1 => cv 13 | 2 => cv 15 | 3 => cv 17 | 4 => cv 19 | 5 => cv 21 | 6 => cv 23 | _ => cv 25
def hvB (cv : Nat → MM) (p : Nat) : MM := match p with | 0 => cv 12 | 1 => cv 14 | 2 => cv 16 | 3 => cv 18 | 4 => cv 20 | 5 => cv 22 | 6 => cv 24 | _ => cv 26
/-- the ring of the class, the row of the model: i undone ago -/
def rHist (S : RW) (cv : Nat → MM) (u : MM) : Prop := ∃ n w : Nat, n ≤ 8 ∧ w < 8 ∧ cv 10 0 0 = nI n ∧ cv 10 1 0 = nI w ∧ u 17 0 = nI n ∧ ∀ i, i < n → rSt S (hvA cv ((w + 8 - i) % 8)) (hvB cv ((w + 8 - i) % 8)) (fun j => u 18 (667 * (n - 1 - i) + j))
def rImg (S : RW) (cv : Nat → MM) (u : MM) (i : Nat) : Prop := ∃ w : Nat, w ≤ 1 ∧ cv (27 + 3 * i) 0 0 = nI w ∧ u 20 i = nI w ∧ (w = 1 → rSt S (cv (28 + 3 * i)) (cv (29 + 3 * i)) (fun j => u 19 (667 * i + j)))
def RR (cv : Nat → MM) (u : MM) : Prop := rText cv u ∧ rSeen cv u ∧ ∃ S : RW, suR S ∧ suC (cv 2) S ∧ suM u S ∧ rSt S (cv 4) (cv 5) (u 16) ∧ rHist S cv u ∧ rImg S cv u 0 ∧ rImg S cv u 1
