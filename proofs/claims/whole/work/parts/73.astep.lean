/-! THE ABSTRACT STEP -/
def aGain1 (S : RW) (c : Nat) (r : RW) : RW := au r 10 c (min (S 10 c) (r 10 c + S 9 c))
def aGain (S r : RW) : RW := itN (aGain1 S) (S 1 0) r
abbrev aAskP (S r : RW) (t : Nat) : Prop := r 3 t = 1 ∧ r 0 0 % S 6 t = t % S 6 t ∧ r 4 t ≤ r 0 0
def aAsk1 (S : RW) (t : Nat) (r : RW) : RW := if aAskP S r t then au (au (au r 5 t 1) 7 t (r 7 t + 1)) 4 t (r 0 0 + S 3 0 + 1) else r
def aAsks (S r : RW) : RW := itN (aAsk1 S) (S 0 0) r
def aHear (S r : RW) (x : BL) : RW := ar (au r 6 x.1 (if x.2.2.2.1 = 0 then r 6 x.1 - aTot (S 1 0) x.2.2.2.2 else x.2.2.2.1 - 1)) 11 (fun c => r 11 c + x.2.2.2.2 c)
def aLose (r : RW) (x : BL) : RW := ar (au r 3 x.1 1) 12 (fun c => r 12 c + x.2.2.2.2 c)
def aSendR (S r : RW) (x : BL) : RW :=
  if r 0 0 ≤ 199 ∧ r (20 + x.1) (r 0 0) = 1 then (if S 5 0 ≤ x.2.2.1 + 1 then aLose r x else r) else aHear S r x
def aSendB (S r : RW) (x : BL) : BL :=
  if r 0 0 ≤ 199 ∧ r (20 + x.1) (r 0 0) = 1 then (if S 5 0 ≤ x.2.2.1 + 1 then (x.1, 0, x.2.2.1 + 1, x.2.2.2) else (x.1, r 0 0 + S 4 0 + 1, x.2.2.1 + 1, x.2.2.2)) else (x.1, 0, x.2.2.1 + 1, x.2.2.2)
/-- rows, blocks, what is left of the room -/
abbrev SL : Type := RW × List BL × Nat
def aAgain1 (S : RW) (t k : Nat) (s : SL) : SL :=
  if (bAt s.2.1 k).1 = t ∧ (bAt s.2.1 k).2.1 = s.1 0 0 + 1 then (aSendR S s.1 (bAt s.2.1 k), s.2.1.set k (aSendB S s.1 (bAt s.2.1 k)), s.2.2 - aCont (S 1 0) (bAt s.2.1 k)) else s
def aAgainT (S : RW) (t : Nat) (s : SL) : SL := itN (aAgain1 S t) s.2.1.length s
def aAgain (S : RW) (s : SL) : SL := itN (aAgainT S) (S 0 0) s
def ngone (l : List BL) : List BL := l.filter (fun x => decide (x.2.1 ≠ 0))
/-- letters into a block: what is free, the rows, the block's letters -/
abbrev FL : Type := Nat × RW × (Nat → Nat)
def aMany (bt : Bool) (c : Nat) (s : FL) : Nat := if bt then min (min (s.2.1 9 c) s.1) (s.2.1 10 c) else min (s.2.1 9 c) s.1
def aFill1 (bt : Bool) (c : Nat) (s : FL) : FL :=
  (s.1 - aMany bt c s, (if bt then au (au s.2.1 10 c (s.2.1 10 c - aMany bt c s)) 9 c (s.2.1 9 c - aMany bt c s) else au s.2.1 9 c (s.2.1 9 c - aMany bt c s)), fun e => if e = c then s.2.2 e + aMany bt c s else s.2.2 e)
/-- of the classes of t, how many stand ahead of the place (p, c) -/
def aRank (S : RW) (t p c : Nat) : Nat := smN (fun o => if S 7 o = t ∧ (S 8 o < p ∨ (S 8 o = p ∧ o < c)) then 1 else 0) (S 1 0)
def aIsAt (S : RW) (t n c : Nat) : Bool := decide (S 7 c = t) && decide (aRank S t (S 8 c) c = n)
/-- the class of t with n ahead of it; the number of classes if there is none -/
def aAt (S : RW) (t n : Nat) : Nat := ((List.range (S 1 0)).find? (aIsAt S t n)).getD (S 1 0)
def aFillK (S : RW) (t : Nat) (bt : Bool) (n : Nat) (s : FL) : FL := if aAt S t n < S 1 0 then aFill1 bt (aAt S t n) s else s
def aFill (S : RW) (t : Nat) (bt : Bool) (s : FL) : FL := itN (aFillK S t bt) (S 1 0) s
/-- a grant packed: the rows, the block -/
def aFree (r : RW) (t g : Nat) : Nat := if r 3 t = 1 ∧ 2 ≤ g then g - 2 else g
def aPk (S r : RW) (t g : Nat) : FL := aFill S t false (aFill S t true (aFree r t g, r, fun _ => 0))
abbrev aRep (S r : RW) (t g : Nat) : Prop := (r 3 t = 1 ∧ 2 ≤ g) ∨ 2 ≤ (aPk S r t g).1
def aPackR (S r : RW) (t g : Nat) : RW := if aRep S r t g then au (aPk S r t g).2.1 3 t 0 else (aPk S r t g).2.1
def aPackB (S r : RW) (t g : Nat) : BL := (t, 0, 0, (if aRep S r t g then sWt S (aPk S r t g).2.1 t + 1 else 0), (aPk S r t g).2.2)
/-- it is sent, if there is something in it -/
def aPut (S r : RW) (t g : Nat) : RW := if aCont (S 1 0) (aPackB S r t g) = 0 then aPackR S r t g else aSendR S (aPackR S r t g) (aPackB S r t g)
def aPutB (S r : RW) (t g : Nat) : BL := if aCont (S 1 0) (aPackB S r t g) = 0 then aPackB S r t g else aSendB S (aPackR S r t g) (aPackB S r t g)
def aGrant (r : RW) (t left : Nat) : Nat := min (if 0 < r 6 t then r 6 t + 2 else 4) left
def aTake (r : RW) (t left : Nat) : RW := au (au (au r 5 t 0) 8 t (r 8 t + aGrant r t left)) 2 0 (t + 1)
/-- a grant in a step: f is the first terminal's number, i the turn -/
def aGive1 (S : RW) (f i : Nat) (s : SL) : SL :=
  if 0 < s.2.2 ∧ (s.1 5 ((f + i) % S 0 0) = 1 ∨ 0 < s.1 6 ((f + i) % S 0 0)) then
    (aPut S (aTake s.1 ((f + i) % S 0 0) s.2.2) ((f + i) % S 0 0) (aGrant s.1 ((f + i) % S 0 0) s.2.2), s.2.1 ++ ngone [aPutB S (aTake s.1 ((f + i) % S 0 0) s.2.2) ((f + i) % S 0 0) (aGrant s.1 ((f + i) % S 0 0) s.2.2)], s.2.2 - aGrant s.1 ((f + i) % S 0 0) s.2.2) else s
def aGive (S : RW) (s : SL) : SL := itN (aGive1 S (s.1 2 0)) (S 0 0) s
def aMid (S : RW) (z : AS) : SL := aAgain S (aAsks S (aGain S z.1), z.2, aAsks S (aGain S z.1) 1 0)
def aEnd (S : RW) (z : AS) : SL := aGive S ((aMid S z).1, ngone (aMid S z).2.1, (aMid S z).2.2)
def aStep (S : RW) (z : AS) : AS := (au (aEnd S z).1 0 0 ((aEnd S z).1 0 0 + 1), (aEnd S z).2.1)
