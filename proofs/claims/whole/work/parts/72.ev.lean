/-! numbers in Nat's clothes: rows for simp -/
theorem li0 : (0 : Int32) = nI 0 := rfl
theorem li1 : (1 : Int32) = nI 1 := rfl
theorem li2 : (2 : Int32) = nI 2 := rfl
theorem li3 : (3 : Int32) = nI 3 := rfl
theorem li4 : (4 : Int32) = nI 4 := rfl
theorem li5 : (5 : Int32) = nI 5 := rfl
theorem li6 : (6 : Int32) = nI 6 := rfl
theorem li8 : (8 : Int32) = nI 8 := rfl
theorem li9 : (9 : Int32) = nI 9 := rfl
theorem li10 : (10 : Int32) = nI 10 := rfl
theorem li13 : (13 : Int32) = nI 13 := rfl
theorem li20 : (20 : Int32) = nI 20 := rfl
theorem li24 : (24 : Int32) = nI 24 := rfl
theorem li30 : (30 : Int32) = nI 30 := rfl
theorem li31 : (31 : Int32) = nI 31 := rfl
theorem li40 : (40 : Int32) = nI 40 := rfl
theorem li43 : (43 : Int32) = nI 43 := rfl
theorem li60 : (60 : Int32) = nI 60 := rfl
theorem li67 : (67 : Int32) = nI 67 := rfl
theorem li99 : (99 : Int32) = nI 99 := rfl
theorem li100 : (100 : Int32) = nI 100 := rfl
theorem li199 : (199 : Int32) = nI 199 := rfl
theorem li360 : (360 : Int32) = nI 360 := rfl
theorem li667 : (667 : Int32) = nI 667 := rfl
theorem li999 : (999 : Int32) = nI 999 := rfl
def nM9 : Int32 := -9
def nM1 : Int32 := -1
theorem m9 : (-9 : Int32) = nM9 := rfl
theorem m1 : (-1 : Int32) = nM1 := rfl
theorem nE {a b : Nat} (h : a = b) : (nI a = nI b) = True := by rw [h]; exact eq_self _
theorem nN {a b : Nat} (ha : a < 2 ^ 31) (hb : b < 2 ^ 31) (h : a ≠ b) : (nI a = nI b) = False := eq_false (fun q => h ((nI_eq ha hb).mp q))
theorem n_m9 {a : Nat} (h : a < 2 ^ 31) : ¬ nI a = nM9 := fun q => nI_pos h (by rw [q]; decide)
theorem n_m1 {a : Nat} (h : a < 2 ^ 31) : ¬ nI a = nM1 := fun q => nI_pos h (by rw [q]; decide)
theorem n9 {a : Nat} (h : a < 2 ^ 31) : (nI a = nM9) = False := eq_false (n_m9 h)
theorem n9s {a : Nat} (h : a < 2 ^ 31) : (nI a = nM1) = False := eq_false (n_m1 h)
theorem n1s {a : Nat} (h : a < 2 ^ 31) : (nM1 = nI a) = False := eq_false (fun q => n_m1 h q.symm)
theorem ib_n {n m : Nat} (h : n < m) (hn : n < 2 ^ 31) : ib (nI n) m = true := by
  unfold ib
  rw [nI_clamp hn]
  have h2 : Nat.ble m n = false := by
    cases hb : Nat.ble m n with
    | false => rfl
    | true => exact absurd (Nat.le_of_ble_eq_true hb) (by omega)
  rw [h2]
  simp [nI_pos hn]
theorem st_st (v : MM) (k : Nat) (f g : Nat → Int32) : st (st v k f) k g = st v k g := by
  funext q
  unfold st
  cases Nat.beq k q <;> rfl
theorem mn_nI {a b : Nat} (ha : a < 2 ^ 31) (hb : b < 2 ^ 31) : (if nI a < nI b then nI a else nI b) = nI (min b a) := by
  by_cases h : a < b
  · rw [if_pos (nI_lt h hb), Nat.min_eq_right (by omega)]
  · rw [if_neg (nI_nlt (by omega) ha), Nat.min_eq_left (by omega)]
theorem ls_8 (N : Nat) {a b : Nat} (ha : a < 2 ^ 31) (hb : b < 2 ^ 31) : fX8_less N (nI a) (nI b) = some (nI (min a b)) := by
  unfold fX8_less
  by_cases h : b ≤ a
  · rw [if_pos (nI_le h ha), Nat.min_eq_right h]
  · rw [if_neg (nI_ge (by omega) hb), Nat.min_eq_left (by omega)]
theorem mx_nI {a b : Nat} (hb : b < 2 ^ 30) (ha : a < 2 ^ 30) : (if (0 : Int32) < nI a - nI b then nI a - nI b else (0 : Int32)) = nI (a - b) := by
  by_cases h : b < a
  · rw [pk_sub (by omega), if_pos (show (0 : Int32) < nI (a - b) from nI_lt (a := 0) (by omega) (by omega))]
  · have h2 : ¬ (0 : Int32) < nI a - nI b := by
      rw [Int32.lt_iff_toInt_lt, pk_sub_toInt ha hb, Int32.toInt_zero]
      omega
    rw [if_neg h2, show a - b = 0 by omega]
    rfl
theorem rep_0 : repI 0 = nM9 := rfl
theorem rep_s {x : Nat} (h : x ≠ 0) : repI x = nI (x - 1) := by
  obtain ⟨y, rfl⟩ : ∃ y, x = y + 1 := ⟨x - 1, by omega⟩
  rfl
theorem due_0 : dueI 0 = nM1 := rfl
theorem due_s {x : Nat} (h : x ≠ 0) : dueI x = nI (x - 1) := by
  obtain ⟨y, rfl⟩ : ∃ y, x = y + 1 := ⟨x - 1, by omega⟩
  rfl
theorem last_0 : lastI 0 = nM9 := rfl
theorem last_s {x : Nat} (h : x ≠ 0) : lastI x = nI (x - 1) := by
  obtain ⟨y, rfl⟩ : ∃ y, x = y + 1 := ⟨x - 1, by omega⟩
  rfl
theorem due_is {x d : Nat} (hx : x < 2 ^ 31) (hd : d < 2 ^ 31) : (dueI x = nI d) ↔ x = d + 1 := by
  by_cases h : x = 0
  · subst h
    rw [due_0]
    exact ⟨fun q => absurd q.symm (n_m1 hd), fun q => by omega⟩
  · rw [due_s h, nI_eq (by omega) hd]
    omega
theorem due_gone {x : Nat} (hx : x < 2 ^ 31) : (dueI x = nM1) ↔ x = 0 := by
  by_cases h : x = 0
  · subst h
    exact ⟨fun _ => rfl, fun _ => rfl⟩
  · rw [due_s h]
    exact ⟨fun q => absurd q (n_m1 (by omega)), fun q => absurd q h⟩
theorem rep_none {x : Nat} (hx : x < 2 ^ 31) : (repI x = nM9) ↔ x = 0 := by
  by_cases h : x = 0
  · subst h
    exact ⟨fun _ => rfl, fun _ => rfl⟩
  · rw [rep_s h]
    exact ⟨fun q => absurd q (n_m9 (by omega)), fun q => absurd q h⟩
theorem last_none {x : Nat} (hx : x < 2 ^ 31) : (lastI x = nM9) ↔ x = 0 := by
  by_cases h : x = 0
  · subst h
    exact ⟨fun _ => rfl, fun _ => rfl⟩
  · rw [last_s h]
    exact ⟨fun q => absurd q (n_m9 (by omega)), fun q => absurd q h⟩
theorem au_eq (r : RW) (k i x : Nat) : au r k i x k i = x := by simp [au]
theorem au_ne {r : RW} {k i x q j : Nat} (h : q ≠ k ∨ j ≠ i) : au r k i x q j = r q j := by
  unfold au
  rw [if_neg (by omega)]
theorem au_row {r : RW} {k i x q : Nat} (h : q ≠ k) : au r k i x q = r q := by
  funext j
  exact au_ne (Or.inl h)
theorem au_self (r : RW) (k i : Nat) : au r k i (r k i) = r := by
  funext q j
  unfold au
  by_cases h : q = k ∧ j = i
  · rw [if_pos h, h.1, h.2]
  · rw [if_neg h]
theorem ar_at (r : RW) (k : Nat) (f : Nat → Nat) (j : Nat) : ar r k f k j = f j := by simp [ar]
/-! a change of one number on both sides -/
theorem rwC_up {a : MM} {r : RW} (h : rwC a r) {k t x : Nat} (hk : (3 ≤ k ∧ k ≤ 8 ∧ t < 3) ∨ (9 ≤ k ∧ k ≤ 12 ∧ t < 6)) : rwC (st a k (upd (a k) t (nI x))) (au r k t x) := by
  obtain ⟨h0, h1, h2, h3, h4, h5⟩ := h
  refine ⟨?_, ?_, ?_, fun q j q1 q2 hj => ?_, fun q j q1 q2 hj => ?_, fun t' j h1 h2 => ?_⟩
  · rw [st_ne (by omega), au_row (by omega)]; exact h0
  · rw [st_ne (by omega), au_row (by omega)]; exact h1
  · rw [st_ne (by omega), au_row (by omega)]; exact h2
  · by_cases hq : k = q
    · subst hq
      rw [st_eq]
      by_cases hj2 : j = t
      · subst hj2
        rw [upd_eq, au_eq]
      · rw [upd_ne hj2, au_ne (Or.inr hj2)]
        exact h3 _ j q1 q2 hj
    · rw [st_ne hq, au_row (Ne.symm hq)]
      exact h3 q j q1 q2 hj
  · by_cases hq : k = q
    · subst hq
      rw [st_eq]
      by_cases hj2 : j = t
      · subst hj2
        rw [upd_eq, au_eq]
      · rw [upd_ne hj2, au_ne (Or.inr hj2)]
        exact h4 _ j q1 q2 hj
    · rw [st_ne hq, au_row (Ne.symm hq)]
      exact h4 q j q1 q2 hj
  · rw [st_ne (by omega), au_row (by omega)]
    exact h5 t' j h1 h2
theorem rwC_now {a : MM} {r : RW} (h : rwC a r) (x : Nat) : rwC (st a 0 (fun _ => nI x)) (au r 0 0 x) := by
  obtain ⟨h0, h1, h2, h3, h4, h5⟩ := h
  exact ⟨by rw [st_eq, au_eq], by rw [st_ne (by omega), au_row (by omega)]; exact h1, by rw [st_ne (by omega), au_row (by omega)]; exact h2, fun q j q1 q2 hj => by rw [st_ne (by omega), au_row (by omega)]; exact h3 q j q1 q2 hj, fun q j q1 q2 hj => by rw [st_ne (by omega), au_row (by omega)]; exact h4 q j q1 q2 hj, fun t j h1 h2 => by rw [st_ne (by omega), au_row (by omega)]; exact h5 t j h1 h2⟩
theorem rwC_last {a : MM} {r : RW} (h : rwC a r) (x : Nat) : rwC (st a 2 (fun _ => lastI x)) (au r 2 0 x) := by
  obtain ⟨h0, h1, h2, h3, h4, h5⟩ := h
  exact ⟨by rw [st_ne (by omega), au_row (by omega)]; exact h0, by rw [st_ne (by omega), au_row (by omega)]; exact h1, by rw [st_eq, au_eq], fun q j q1 q2 hj => by rw [st_ne (by omega), au_row (by omega)]; exact h3 q j q1 q2 hj, fun q j q1 q2 hj => by rw [st_ne (by omega), au_row (by omega)]; exact h4 q j q1 q2 hj, fun t j h1 h2 => by rw [st_ne (by omega), au_row (by omega)]; exact h5 t j h1 h2⟩
theorem rwC_room {a : MM} {r : RW} (h : rwC a r) (x : Nat) : rwC (st a 1 (fun _ => nI x)) (au r 1 0 x) := by
  obtain ⟨h0, h1, h2, h3, h4, h5⟩ := h
  exact ⟨by rw [st_ne (by omega), au_row (by omega)]; exact h0, by rw [st_eq, au_eq], by rw [st_ne (by omega), au_row (by omega)]; exact h2, fun q j q1 q2 hj => by rw [st_ne (by omega), au_row (by omega)]; exact h3 q j q1 q2 hj, fun q j q1 q2 hj => by rw [st_ne (by omega), au_row (by omega)]; exact h4 q j q1 q2 hj, fun t j h1 h2 => by rw [st_ne (by omega), au_row (by omega)]; exact h5 t j h1 h2⟩
theorem rwC_row {a : MM} {r : RW} (h : rwC a r) {k : Nat} (hk : 9 ≤ k ∧ k ≤ 12) {f : Nat → Int32} {g : Nat → Nat} (hf : ∀ c, c < 6 → f c = nI (g c)) : rwC (st a k f) (ar r k g) := by
  obtain ⟨h0, h1, h2, h3, h4, h5⟩ := h
  refine ⟨by rw [st_ne (by omega), ar_ne (by omega)]; exact h0, by rw [st_ne (by omega), ar_ne (by omega)]; exact h1, by rw [st_ne (by omega), ar_ne (by omega)]; exact h2, fun q j q1 q2 hj => by rw [st_ne (by omega), ar_ne (by omega)]; exact h3 q j q1 q2 hj, fun q j q1 q2 hj => ?_, fun t j h1 h2 => by rw [st_ne (by omega), ar_ne (by omega)]; exact h5 t j h1 h2⟩
  by_cases hq : k = q
  · subst hq
    rw [st_eq, ar_at]
    exact hf j hj
  · rw [st_ne hq, ar_ne (Ne.symm hq)]
    exact h4 q j q1 q2 hj
theorem rwM_1 {s : Nat → Int32} {r : RW} (h : rwM s r) {k t x : Nat} (hk : k < 6) (ht : t < 3) : rwM (upd s (4 + 13 * t + k) (nI x)) (au r (3 + k) t x) := by
  obtain ⟨h0, h1, h2, h3, h4, h5⟩ := h
  refine ⟨?_, ?_, ?_, fun q j q1 q2 => ?_, fun q j q1 q2 => ?_, fun t' j h1 h2 => ?_⟩
  · rw [upd_ne (by omega), au_row (by omega)]; exact h0
  · rw [upd_ne (by omega), au_row (by omega)]; exact h1
  · rw [upd_ne (by omega), au_row (by omega)]; exact h2
  · by_cases hq : q = k ∧ j = t
    · rw [hq.1, hq.2, upd_eq, au_eq]
    · rw [upd_ne (by omega), au_ne (by omega)]
      exact h3 q j q1 q2
  · rw [upd_ne (by omega), au_row (by omega)]
    exact h4 q j q1 q2
  · rw [upd_ne (by omega), au_row (by omega)]
    exact h5 t' j h1 h2
theorem rwM_2 {s : Nat → Int32} {r : RW} (h : rwM s r) {k c x : Nat} (hk : k < 4) (hc : c < 6) : rwM (upd s (43 + 4 * c + k) (nI x)) (au r (9 + k) c x) := by
  obtain ⟨h0, h1, h2, h3, h4, h5⟩ := h
  refine ⟨?_, ?_, ?_, fun q j q1 q2 => ?_, fun q j q1 q2 => ?_, fun t' j h1 h2 => ?_⟩
  · rw [upd_ne (by omega), au_row (by omega)]; exact h0
  · rw [upd_ne (by omega), au_row (by omega)]; exact h1
  · rw [upd_ne (by omega), au_row (by omega)]; exact h2
  · rw [upd_ne (by omega), au_row (by omega)]
    exact h3 q j q1 q2
  · by_cases hq : q = k ∧ j = c
    · rw [hq.1, hq.2, upd_eq, au_eq]
    · rw [upd_ne (by omega), au_ne (by omega)]
      exact h4 q j q1 q2
  · rw [upd_ne (by omega), au_row (by omega)]
    exact h5 t' j h1 h2
theorem rwM_0 {s : Nat → Int32} {r : RW} (h : rwM s r) (x : Nat) : rwM (upd s 0 (nI x)) (au r 0 0 x) := by
  obtain ⟨h0, h1, h2, h3, h4, h5⟩ := h
  exact ⟨by rw [upd_eq, au_eq], by rw [upd_ne (by omega), au_row (by omega)]; exact h1, by rw [upd_ne (by omega), au_row (by omega)]; exact h2, fun q j q1 q2 => by rw [upd_ne (by omega), au_row (by omega)]; exact h3 q j q1 q2, fun q j q1 q2 => by rw [upd_ne (by omega), au_row (by omega)]; exact h4 q j q1 q2, fun t j h1 h2 => by rw [upd_ne (by omega), au_row (by omega)]; exact h5 t j h1 h2⟩
theorem rwM_r {s : Nat → Int32} {r : RW} (h : rwM s r) (x : Nat) : rwM (upd s 1 (nI x)) (au r 1 0 x) := by
  obtain ⟨h0, h1, h2, h3, h4, h5⟩ := h
  exact ⟨by rw [upd_ne (by omega), au_row (by omega)]; exact h0, by rw [upd_eq, au_eq], by rw [upd_ne (by omega), au_row (by omega)]; exact h2, fun q j q1 q2 => by rw [upd_ne (by omega), au_row (by omega)]; exact h3 q j q1 q2, fun q j q1 q2 => by rw [upd_ne (by omega), au_row (by omega)]; exact h4 q j q1 q2, fun t j h1 h2 => by rw [upd_ne (by omega), au_row (by omega)]; exact h5 t j h1 h2⟩
theorem rwM_l {s : Nat → Int32} {r : RW} (h : rwM s r) (x : Nat) : rwM (upd s 2 (lastI x)) (au r 2 0 x) := by
  obtain ⟨h0, h1, h2, h3, h4, h5⟩ := h
  exact ⟨by rw [upd_ne (by omega), au_row (by omega)]; exact h0, by rw [upd_ne (by omega), au_row (by omega)]; exact h1, by rw [upd_eq, au_eq], fun q j q1 q2 => by rw [upd_ne (by omega), au_row (by omega)]; exact h3 q j q1 q2, fun q j q1 q2 => by rw [upd_ne (by omega), au_row (by omega)]; exact h4 q j q1 q2, fun t j h1 h2 => by rw [upd_ne (by omega), au_row (by omega)]; exact h5 t j h1 h2⟩
/-- the rows don't see the blocks -/
theorem rwM_b {s s' : Nat → Int32} {r : RW} (h : rwM s r) (hs : ∀ j, j < 67 → j ≠ 3 → s' j = s j) : rwM s' r := by
  obtain ⟨h0, h1, h2, h3, h4, h5⟩ := h
  exact ⟨by rw [hs _ (by omega) (by omega)]; exact h0, by rw [hs _ (by omega) (by omega)]; exact h1, by rw [hs _ (by omega) (by omega)]; exact h2, fun q j q1 q2 => by rw [hs _ (by omega) (by omega)]; exact h3 q j q1 q2, fun q j q1 q2 => by rw [hs _ (by omega) (by omega)]; exact h4 q j q1 q2, fun t j h1 h2 => by rw [hs _ (by omega) (by omega)]; exact h5 t j h1 h2⟩
/-- the blocks don't see the rows -/
theorem blM_r {s s' : Nat → Int32} {l : List BL} (h : blM s l) (hs : ∀ j, 67 ≤ j ∨ j = 3 → s' j = s j) : blM s' l := by
  obtain ⟨h60, h0, h1⟩ := h
  refine ⟨h60, by rw [hs _ (by omega)]; exact h0, fun k x hk => ?_⟩
  obtain ⟨c1, c2, c3, c4, c5⟩ := h1 k x hk
  exact ⟨by rw [hs _ (by omega)]; exact c1, by rw [hs _ (by omega)]; exact c2, by rw [hs _ (by omega)]; exact c3, by rw [hs _ (by omega)]; exact c4, fun c hc => by rw [hs _ (by omega)]; exact c5 c hc⟩
