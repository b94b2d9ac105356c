/-! one world more of the law's row changed, or put back as it was -/
theorem pAll_c {α : Type} (ch : List α) (i : Nat) (is : List Nat) (c : α) (cs : List α) : pAll ch (i :: is) (c :: cs) = pAll (ch.set i c) is cs := rfl
theorem pAll_n {α : Type} (ch : List α) : pAll ch [] [] = ch := rfl
theorem uK_0 (g : GT) (ad : Nat → Nat → Nat) (am : Nat → Nat) (cv : Nat → MM) (u v : MM) : (wL g ad am cv u).set 0 (kX7 g (ad 0) (ad 1 0) (ad 2 0) (ad 3 0) (ad 4 0) (ad 6 0) (ad 8 0) (ad 9 0) (ad 10 0) (ad 27 0) (ad 30 0) v) = wL g ad am (up cv 0 v) u := rfl
theorem sK_0 (g : GT) (ad : Nat → Nat → Nat) (am : Nat → Nat) (cv : Nat → MM) (u v : MM) (h : cv 0 = v) : (wL g ad am cv u).set 0 (kX7 g (ad 0) (ad 1 0) (ad 2 0) (ad 3 0) (ad 4 0) (ad 6 0) (ad 8 0) (ad 9 0) (ad 10 0) (ad 27 0) (ad 30 0) v) = wL g ad am cv u := by
  subst h
  rfl
theorem uK_1 (g : GT) (ad : Nat → Nat → Nat) (am : Nat → Nat) (cv : Nat → MM) (u v : MM) : (wL g ad am cv u).set 1 (kX6 g (ad 1) v) = wL g ad am (up cv 1 v) u := rfl
theorem sK_1 (g : GT) (ad : Nat → Nat → Nat) (am : Nat → Nat) (cv : Nat → MM) (u v : MM) (h : cv 1 = v) : (wL g ad am cv u).set 1 (kX6 g (ad 1) v) = wL g ad am cv u := by
  subst h
  rfl
theorem uK_2 (g : GT) (ad : Nat → Nat → Nat) (am : Nat → Nat) (cv : Nat → MM) (u v : MM) : (wL g ad am cv u).set 2 (kX3 g (ad 2) v) = wL g ad am (up cv 2 v) u := rfl
theorem sK_2 (g : GT) (ad : Nat → Nat → Nat) (am : Nat → Nat) (cv : Nat → MM) (u v : MM) (h : cv 2 = v) : (wL g ad am cv u).set 2 (kX3 g (ad 2) v) = wL g ad am cv u := by
  subst h
  rfl
theorem uK_3 (g : GT) (ad : Nat → Nat → Nat) (am : Nat → Nat) (cv : Nat → MM) (u v : MM) : (wL g ad am cv u).set 3 (kX3 g (ad 3) v) = wL g ad am (up cv 3 v) u := rfl
theorem sK_3 (g : GT) (ad : Nat → Nat → Nat) (am : Nat → Nat) (cv : Nat → MM) (u v : MM) (h : cv 3 = v) : (wL g ad am cv u).set 3 (kX3 g (ad 3) v) = wL g ad am cv u := by
  subst h
  rfl
theorem uK_4 (g : GT) (ad : Nat → Nat → Nat) (am : Nat → Nat) (cv : Nat → MM) (u v : MM) : (wL g ad am cv u).set 4 (kX4 g (ad 4) (ad 5 0) v) = wL g ad am (up cv 4 v) u := rfl
theorem sK_4 (g : GT) (ad : Nat → Nat → Nat) (am : Nat → Nat) (cv : Nat → MM) (u v : MM) (h : cv 4 = v) : (wL g ad am cv u).set 4 (kX4 g (ad 4) (ad 5 0) v) = wL g ad am cv u := by
  subst h
  rfl
theorem uK_5 (g : GT) (ad : Nat → Nat → Nat) (am : Nat → Nat) (cv : Nat → MM) (u v : MM) : (wL g ad am cv u).set 5 (kX0 g (ad 5) v) = wL g ad am (up cv 5 v) u := rfl
theorem sK_5 (g : GT) (ad : Nat → Nat → Nat) (am : Nat → Nat) (cv : Nat → MM) (u v : MM) (h : cv 5 = v) : (wL g ad am cv u).set 5 (kX0 g (ad 5) v) = wL g ad am cv u := by
  subst h
  rfl
theorem uK_6 (g : GT) (ad : Nat → Nat → Nat) (am : Nat → Nat) (cv : Nat → MM) (u v : MM) : (wL g ad am cv u).set 6 (kX4 g (ad 6) (ad 7 0) v) = wL g ad am (up cv 6 v) u := rfl
theorem sK_6 (g : GT) (ad : Nat → Nat → Nat) (am : Nat → Nat) (cv : Nat → MM) (u v : MM) (h : cv 6 = v) : (wL g ad am cv u).set 6 (kX4 g (ad 6) (ad 7 0) v) = wL g ad am cv u := by
  subst h
  rfl
theorem uK_7 (g : GT) (ad : Nat → Nat → Nat) (am : Nat → Nat) (cv : Nat → MM) (u v : MM) : (wL g ad am cv u).set 7 (kX0 g (ad 7) v) = wL g ad am (up cv 7 v) u := rfl
theorem sK_7 (g : GT) (ad : Nat → Nat → Nat) (am : Nat → Nat) (cv : Nat → MM) (u v : MM) (h : cv 7 = v) : (wL g ad am cv u).set 7 (kX0 g (ad 7) v) = wL g ad am cv u := by
  subst h
  rfl
theorem uK_8 (g : GT) (ad : Nat → Nat → Nat) (am : Nat → Nat) (cv : Nat → MM) (u v : MM) : (wL g ad am cv u).set 8 (kX5 g (ad 8) (ad 2 0) (ad 4 0) v) = wL g ad am (up cv 8 v) u := rfl
theorem sK_8 (g : GT) (ad : Nat → Nat → Nat) (am : Nat → Nat) (cv : Nat → MM) (u v : MM) (h : cv 8 = v) : (wL g ad am cv u).set 8 (kX5 g (ad 8) (ad 2 0) (ad 4 0) v) = wL g ad am cv u := by
  subst h
  rfl
theorem uK_9 (g : GT) (ad : Nat → Nat → Nat) (am : Nat → Nat) (cv : Nat → MM) (u v : MM) : (wL g ad am cv u).set 9 (kX5 g (ad 9) (ad 2 0) (ad 6 0) v) = wL g ad am (up cv 9 v) u := rfl
theorem sK_9 (g : GT) (ad : Nat → Nat → Nat) (am : Nat → Nat) (cv : Nat → MM) (u v : MM) (h : cv 9 = v) : (wL g ad am cv u).set 9 (kX5 g (ad 9) (ad 2 0) (ad 6 0) v) = wL g ad am cv u := by
  subst h
  rfl
theorem uK_10 (g : GT) (ad : Nat → Nat → Nat) (am : Nat → Nat) (cv : Nat → MM) (u v : MM) : (wL g ad am cv u).set 10 (kX1 g (ad 10) (ad 11 0) (ad 13 0) (ad 15 0) (ad 17 0) (ad 19 0) (ad 21 0) (ad 23 0) (ad 25 0) v) = wL g ad am (up cv 10 v) u := rfl
theorem sK_10 (g : GT) (ad : Nat → Nat → Nat) (am : Nat → Nat) (cv : Nat → MM) (u v : MM) (h : cv 10 = v) : (wL g ad am cv u).set 10 (kX1 g (ad 10) (ad 11 0) (ad 13 0) (ad 15 0) (ad 17 0) (ad 19 0) (ad 21 0) (ad 23 0) (ad 25 0) v) = wL g ad am cv u := by
  subst h
  rfl
theorem uK_11 (g : GT) (ad : Nat → Nat → Nat) (am : Nat → Nat) (cv : Nat → MM) (u v : MM) : (wL g ad am cv u).set 11 (kX4 g (ad 11) (ad 12 0) v) = wL g ad am (up cv 11 v) u := rfl
theorem sK_11 (g : GT) (ad : Nat → Nat → Nat) (am : Nat → Nat) (cv : Nat → MM) (u v : MM) (h : cv 11 = v) : (wL g ad am cv u).set 11 (kX4 g (ad 11) (ad 12 0) v) = wL g ad am cv u := by
  subst h
  rfl
theorem uK_12 (g : GT) (ad : Nat → Nat → Nat) (am : Nat → Nat) (cv : Nat → MM) (u v : MM) : (wL g ad am cv u).set 12 (kX0 g (ad 12) v) = wL g ad am (up cv 12 v) u := rfl
theorem sK_12 (g : GT) (ad : Nat → Nat → Nat) (am : Nat → Nat) (cv : Nat → MM) (u v : MM) (h : cv 12 = v) : (wL g ad am cv u).set 12 (kX0 g (ad 12) v) = wL g ad am cv u := by
  subst h
  rfl
theorem uK_13 (g : GT) (ad : Nat → Nat → Nat) (am : Nat → Nat) (cv : Nat → MM) (u v : MM) : (wL g ad am cv u).set 13 (kX4 g (ad 13) (ad 14 0) v) = wL g ad am (up cv 13 v) u := rfl
theorem sK_13 (g : GT) (ad : Nat → Nat → Nat) (am : Nat → Nat) (cv : Nat → MM) (u v : MM) (h : cv 13 = v) : (wL g ad am cv u).set 13 (kX4 g (ad 13) (ad 14 0) v) = wL g ad am cv u := by
  subst h
  rfl
theorem uK_14 (g : GT) (ad : Nat → Nat → Nat) (am : Nat → Nat) (cv : Nat → MM) (u v : MM) : (wL g ad am cv u).set 14 (kX0 g (ad 14) v) = wL g ad am (up cv 14 v) u := rfl
theorem sK_14 (g : GT) (ad : Nat → Nat → Nat) (am : Nat → Nat) (cv : Nat → MM) (u v : MM) (h : cv 14 = v) : (wL g ad am cv u).set 14 (kX0 g (ad 14) v) = wL g ad am cv u := by
  subst h
  rfl
theorem uK_15 (g : GT) (ad : Nat → Nat → Nat) (am : Nat → Nat) (cv : Nat → MM) (u v : MM) : (wL g ad am cv u).set 15 (kX4 g (ad 15) (ad 16 0) v) = wL g ad am (up cv 15 v) u := rfl
theorem sK_15 (g : GT) (ad : Nat → Nat → Nat) (am : Nat → Nat) (cv : Nat → MM) (u v : MM) (h : cv 15 = v) : (wL g ad am cv u).set 15 (kX4 g (ad 15) (ad 16 0) v) = wL g ad am cv u := by
  subst h
  rfl
theorem uK_16 (g : GT) (ad : Nat → Nat → Nat) (am : Nat → Nat) (cv : Nat → MM) (u v : MM) : (wL g ad am cv u).set 16 (kX0 g (ad 16) v) = wL g ad am (up cv 16 v) u := rfl
theorem sK_16 (g : GT) (ad : Nat → Nat → Nat) (am : Nat → Nat) (cv : Nat → MM) (u v : MM) (h : cv 16 = v) : (wL g ad am cv u).set 16 (kX0 g (ad 16) v) = wL g ad am cv u := by
  subst h
  rfl
theorem uK_17 (g : GT) (ad : Nat → Nat → Nat) (am : Nat → Nat) (cv : Nat → MM) (u v : MM) : (wL g ad am cv u).set 17 (kX4 g (ad 17) (ad 18 0) v) = wL g ad am (up cv 17 v) u := rfl
theorem sK_17 (g : GT) (ad : Nat → Nat → Nat) (am : Nat → Nat) (cv : Nat → MM) (u v : MM) (h : cv 17 = v) : (wL g ad am cv u).set 17 (kX4 g (ad 17) (ad 18 0) v) = wL g ad am cv u := by
  subst h
  rfl
theorem uK_18 (g : GT) (ad : Nat → Nat → Nat) (am : Nat → Nat) (cv : Nat → MM) (u v : MM) : (wL g ad am cv u).set 18 (kX0 g (ad 18) v) = wL g ad am (up cv 18 v) u := rfl
theorem sK_18 (g : GT) (ad : Nat → Nat → Nat) (am : Nat → Nat) (cv : Nat → MM) (u v : MM) (h : cv 18 = v) : (wL g ad am cv u).set 18 (kX0 g (ad 18) v) = wL g ad am cv u := by
  subst h
  rfl
theorem uK_19 (g : GT) (ad : Nat → Nat → Nat) (am : Nat → Nat) (cv : Nat → MM) (u v : MM) : (wL g ad am cv u).set 19 (kX4 g (ad 19) (ad 20 0) v) = wL g ad am (up cv 19 v) u := rfl
theorem sK_19 (g : GT) (ad : Nat → Nat → Nat) (am : Nat → Nat) (cv : Nat → MM) (u v : MM) (h : cv 19 = v) : (wL g ad am cv u).set 19 (kX4 g (ad 19) (ad 20 0) v) = wL g ad am cv u := by
  subst h
  rfl
theorem uK_20 (g : GT) (ad : Nat → Nat → Nat) (am : Nat → Nat) (cv : Nat → MM) (u v : MM) : (wL g ad am cv u).set 20 (kX0 g (ad 20) v) = wL g ad am (up cv 20 v) u := rfl
theorem sK_20 (g : GT) (ad : Nat → Nat → Nat) (am : Nat → Nat) (cv : Nat → MM) (u v : MM) (h : cv 20 = v) : (wL g ad am cv u).set 20 (kX0 g (ad 20) v) = wL g ad am cv u := by
  subst h
  rfl
theorem uK_21 (g : GT) (ad : Nat → Nat → Nat) (am : Nat → Nat) (cv : Nat → MM) (u v : MM) : (wL g ad am cv u).set 21 (kX4 g (ad 21) (ad 22 0) v) = wL g ad am (up cv 21 v) u := rfl
theorem sK_21 (g : GT) (ad : Nat → Nat → Nat) (am : Nat → Nat) (cv : Nat → MM) (u v : MM) (h : cv 21 = v) : (wL g ad am cv u).set 21 (kX4 g (ad 21) (ad 22 0) v) = wL g ad am cv u := by
  subst h
  rfl
theorem uK_22 (g : GT) (ad : Nat → Nat → Nat) (am : Nat → Nat) (cv : Nat → MM) (u v : MM) : (wL g ad am cv u).set 22 (kX0 g (ad 22) v) = wL g ad am (up cv 22 v) u := rfl
theorem sK_22 (g : GT) (ad : Nat → Nat → Nat) (am : Nat → Nat) (cv : Nat → MM) (u v : MM) (h : cv 22 = v) : (wL g ad am cv u).set 22 (kX0 g (ad 22) v) = wL g ad am cv u := by
  subst h
  rfl
theorem uK_23 (g : GT) (ad : Nat → Nat → Nat) (am : Nat → Nat) (cv : Nat → MM) (u v : MM) : (wL g ad am cv u).set 23 (kX4 g (ad 23) (ad 24 0) v) = wL g ad am (up cv 23 v) u := rfl
theorem sK_23 (g : GT) (ad : Nat → Nat → Nat) (am : Nat → Nat) (cv : Nat → MM) (u v : MM) (h : cv 23 = v) : (wL g ad am cv u).set 23 (kX4 g (ad 23) (ad 24 0) v) = wL g ad am cv u := by
  subst h
  rfl
theorem uK_24 (g : GT) (ad : Nat → Nat → Nat) (am : Nat → Nat) (cv : Nat → MM) (u v : MM) : (wL g ad am cv u).set 24 (kX0 g (ad 24) v) = wL g ad am (up cv 24 v) u := rfl
theorem sK_24 (g : GT) (ad : Nat → Nat → Nat) (am : Nat → Nat) (cv : Nat → MM) (u v : MM) (h : cv 24 = v) : (wL g ad am cv u).set 24 (kX0 g (ad 24) v) = wL g ad am cv u := by
  subst h
  rfl
theorem uK_25 (g : GT) (ad : Nat → Nat → Nat) (am : Nat → Nat) (cv : Nat → MM) (u v : MM) : (wL g ad am cv u).set 25 (kX4 g (ad 25) (ad 26 0) v) = wL g ad am (up cv 25 v) u := rfl
theorem sK_25 (g : GT) (ad : Nat → Nat → Nat) (am : Nat → Nat) (cv : Nat → MM) (u v : MM) (h : cv 25 = v) : (wL g ad am cv u).set 25 (kX4 g (ad 25) (ad 26 0) v) = wL g ad am cv u := by
  subst h
  rfl
theorem uK_26 (g : GT) (ad : Nat → Nat → Nat) (am : Nat → Nat) (cv : Nat → MM) (u v : MM) : (wL g ad am cv u).set 26 (kX0 g (ad 26) v) = wL g ad am (up cv 26 v) u := rfl
theorem sK_26 (g : GT) (ad : Nat → Nat → Nat) (am : Nat → Nat) (cv : Nat → MM) (u v : MM) (h : cv 26 = v) : (wL g ad am cv u).set 26 (kX0 g (ad 26) v) = wL g ad am cv u := by
  subst h
  rfl
theorem uK_27 (g : GT) (ad : Nat → Nat → Nat) (am : Nat → Nat) (cv : Nat → MM) (u v : MM) : (wL g ad am cv u).set 27 (kX2 g (ad 27) (ad 28 0) v) = wL g ad am (up cv 27 v) u := rfl
theorem sK_27 (g : GT) (ad : Nat → Nat → Nat) (am : Nat → Nat) (cv : Nat → MM) (u v : MM) (h : cv 27 = v) : (wL g ad am cv u).set 27 (kX2 g (ad 27) (ad 28 0) v) = wL g ad am cv u := by
  subst h
  rfl
theorem uK_28 (g : GT) (ad : Nat → Nat → Nat) (am : Nat → Nat) (cv : Nat → MM) (u v : MM) : (wL g ad am cv u).set 28 (kX4 g (ad 28) (ad 29 0) v) = wL g ad am (up cv 28 v) u := rfl
theorem sK_28 (g : GT) (ad : Nat → Nat → Nat) (am : Nat → Nat) (cv : Nat → MM) (u v : MM) (h : cv 28 = v) : (wL g ad am cv u).set 28 (kX4 g (ad 28) (ad 29 0) v) = wL g ad am cv u := by
  subst h
  rfl
theorem uK_29 (g : GT) (ad : Nat → Nat → Nat) (am : Nat → Nat) (cv : Nat → MM) (u v : MM) : (wL g ad am cv u).set 29 (kX0 g (ad 29) v) = wL g ad am (up cv 29 v) u := rfl
theorem sK_29 (g : GT) (ad : Nat → Nat → Nat) (am : Nat → Nat) (cv : Nat → MM) (u v : MM) (h : cv 29 = v) : (wL g ad am cv u).set 29 (kX0 g (ad 29) v) = wL g ad am cv u := by
  subst h
  rfl
theorem uK_30 (g : GT) (ad : Nat → Nat → Nat) (am : Nat → Nat) (cv : Nat → MM) (u v : MM) : (wL g ad am cv u).set 30 (kX2 g (ad 30) (ad 31 0) v) = wL g ad am (up cv 30 v) u := rfl
theorem sK_30 (g : GT) (ad : Nat → Nat → Nat) (am : Nat → Nat) (cv : Nat → MM) (u v : MM) (h : cv 30 = v) : (wL g ad am cv u).set 30 (kX2 g (ad 30) (ad 31 0) v) = wL g ad am cv u := by
  subst h
  rfl
theorem uK_31 (g : GT) (ad : Nat → Nat → Nat) (am : Nat → Nat) (cv : Nat → MM) (u v : MM) : (wL g ad am cv u).set 31 (kX4 g (ad 31) (ad 32 0) v) = wL g ad am (up cv 31 v) u := rfl
theorem sK_31 (g : GT) (ad : Nat → Nat → Nat) (am : Nat → Nat) (cv : Nat → MM) (u v : MM) (h : cv 31 = v) : (wL g ad am cv u).set 31 (kX4 g (ad 31) (ad 32 0) v) = wL g ad am cv u := by
  subst h
  rfl
theorem uK_32 (g : GT) (ad : Nat → Nat → Nat) (am : Nat → Nat) (cv : Nat → MM) (u v : MM) : (wL g ad am cv u).set 32 (kX0 g (ad 32) v) = wL g ad am (up cv 32 v) u := rfl
theorem sK_32 (g : GT) (ad : Nat → Nat → Nat) (am : Nat → Nat) (cv : Nat → MM) (u v : MM) (h : cv 32 = v) : (wL g ad am cv u).set 32 (kX0 g (ad 32) v) = wL g ad am cv u := by
  subst h
  rfl
