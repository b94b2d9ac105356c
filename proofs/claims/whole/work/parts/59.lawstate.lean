/-! the law's state: the class's objects as a row of chunks by their numbers, the model's as one chunk -/
def NF : Nat := 6000
def up (cv : Nat → MM) (k : Nat) (v : MM) : Nat → MM := fun q => bif Nat.beq k q then v else cv q
def wL (g : GT) (ad : Nat → Nat → Nat) (am : Nat → Nat) (cv : Nat → MM) (u : MM) : List va_W := [kX7 g (ad 0) (ad 1 0) (ad 2 0) (ad 3 0) (ad 4 0) (ad 6 0) (ad 8 0) (ad 9 0) (ad 10 0) (ad 27 0) (ad 30 0) (cv 0), kX6 g (ad 1) (cv 1), kX3 g (ad 2) (cv 2), kX3 g (ad 3) (cv 3), kX4 g (ad 4) (ad 5 0) (cv 4), kX0 g (ad 5) (cv 5), kX4 g (ad 6) (ad 7 0) (cv 6), kX0 g (ad 7) (cv 7), kX5 g (ad 8) (ad 2 0) (ad 4 0) (cv 8), kX5 g (ad 9) (ad 2 0) (ad 6 0) (cv 9), kX1 g (ad 10) (ad 11 0) (ad 13 0) (ad 15 0) (ad 17 0) (ad 19 0) (ad 21 0) (ad 23 0) (ad 25 0) (cv 10), kX4 g (ad 11) (ad 12 0) (cv 11), kX0 g (ad 12) (cv 12), kX4 g (ad 13) (ad 14 0) (cv 13), kX0 g (ad 14) (cv 14), kX4 g (ad 15) (ad 16 0) (cv 15), kX0 g (ad 16) (cv 16), kX4 g (ad 17) (ad 18 0) (cv 17), kX0 g (ad 18) (cv 18), kX4 g (ad 19) (ad 20 0) (cv 19), kX0 g (ad 20) (cv 20), kX4 g (ad 21) (ad 22 0) (cv 21), kX0 g (ad 22) (cv 22), kX4 g (ad 23) (ad 24 0) (cv 23), kX0 g (ad 24) (cv 24), kX4 g (ad 25) (ad 26 0) (cv 25), kX0 g (ad 26) (cv 26), kX2 g (ad 27) (ad 28 0) (cv 27), kX4 g (ad 28) (ad 29 0) (cv 28), kX0 g (ad 29) (cv 29), kX2 g (ad 30) (ad 31 0) (cv 30), kX4 g (ad 31) (ad 32 0) (cv 31), kX0 g (ad 32) (cv 32), kX8 g am u]
theorem NF_eq : NF = 6000 := rfl
def cv0 (su : MM) (yb : MM × MM × MM × MM × MM × MM) : Nat → MM := fun q => match q with
  | 0 => yb.2.2.2.2.2
  | 1 => z0
  | 2 => su
  | 3 => su
  | 4 => yb.1
  | 5 => yb.2.1
  | 6 => z0
  | 7 => z0
  | 8 => z0
  | 9 => z0
  | 10 => yb.2.2.1
  | 11 => z0
  | 12 => z0
  | 13 => z0
  | 14 => z0
  | 15 => z0
  | 16 => z0
  | 17 => z0
  | 18 => z0
  | 19 => z0
  | 20 => z0
  | 21 => z0
  | 22 => z0
  | 23 => z0
  | 24 => z0
  | 25 => z0
  | 26 => z0
  | 27 => yb.2.2.2.1
  | 28 => z0
  | 29 => z0
  | 30 => yb.2.2.2.2.1
  | 31 => z0
  | _ => z0
