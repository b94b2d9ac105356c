/-! the text: numbers and items, on both sides -/
theorem lt_sub1 {hb v : Nat} (h : hb < 2 ^ 30) (hv : v < 2 ^ 30) : (nI hb - (1 : Int32) < nI v) ↔ hb ≤ v := by
  rw [Int32.lt_iff_toInt_lt, show nI hb - (1 : Int32) = nI hb - nI 1 from rfl, pk_sub_toInt h (by omega), nI_toInt (by omega)]
  omega
/-- the token is a number in a range (least, most and 1) -/
def aNm (t lo hb : Nat) : Prop := 1000 ≤ t ∧ t ≤ 1099 ∧ lo ≤ t - 1000 ∧ t - 1000 < hb
theorem rn_7 {n p lo hb : Nat} {w : Nat → Nat} {a : MM} {hi : Int32} (h : txC n w a) (hp : p ≤ n) (h2 : a 2 0 = nI p) (hlo : lo ≤ 1) (hhb : hb ≤ 100) (hhi : hi = nI hb - (1 : Int32)) {N : Nat} (hN : 200 < N) : ∃ y, fX6_readNumber N (nI lo) hi a = some y ∧ (aNm (aTt n w p) lo hb → y.1 = 1 ∧ y.2 5 0 = nI (aTt n w p - 1000)) ∧ (¬ aNm (aTt n w p) lo hb → y.1 = 0) ∧ y.2 2 0 = nI (aTe n w p) ∧ y.2 3 0 = nI (aTq n w p) ∧ ∀ k, k ≠ 2 → k ≠ 3 → k ≠ 4 → k ≠ 5 → y.2 k = a k := by
  obtain ⟨b, b1, b2, b3, b4, b5, b6⟩ := tok_7 h hp h2 hN
  have hle := tk_le hp (fun j hj => (h.2.2 j hj).1)
  unfold fX6_readNumber
  rw [b1, Option.bind_some]
  have sgs : ∀ x : Nat, aSg x → x ≠ 48 := fun x hx => by unfold aSg at hx; omega
  by_cases e : 1000 ≤ aTt n w p ∧ aTt n w p ≤ 1099
  · have e4 : b 4 0 = nI 48 := by
      rcases b4 with ⟨q, -⟩ | ⟨q, -⟩ | ⟨-, -, q⟩ | ⟨q, -, -⟩ | ⟨q, -, -⟩
      · omega
      · omega
      · exact q
      · omega
      · omega
    have e5 := b5 e.1 (by omega)
    rw [e4, if_pos (show nI 48 = (48 : Int32) from rfl), e5]
    by_cases c1 : aTt n w p - 1000 < lo
    · rw [if_pos (nI_lt c1 (by omega))]
      exact ⟨_, rfl, fun q => by unfold aNm at q; omega, fun _ => rfl, b2, b3, b6⟩
    · rw [if_neg (nI_nlt (by omega) (by omega)), hhi]
      by_cases c2 : hb ≤ aTt n w p - 1000
      · rw [if_pos ((lt_sub1 (by omega) (by omega)).mpr c2)]
        exact ⟨_, rfl, fun q => by unfold aNm at q; omega, fun _ => rfl, b2, b3, b6⟩
      · rw [if_neg (fun q => c2 ((lt_sub1 (by omega) (by omega)).mp q))]
        exact ⟨_, rfl, fun _ => ⟨rfl, e5⟩, fun q => absurd ⟨e.1, e.2, by omega, by omega⟩ q, b2, b3, b6⟩
  · have e4 : ¬ b 4 0 = (48 : Int32) := by
      rcases b4 with ⟨-, q⟩ | ⟨-, q⟩ | ⟨q1, q2, -⟩ | ⟨q1, q2, q⟩ | ⟨-, -, q⟩
      · rw [q]; decide
      · rw [q]; decide
      · exact absurd ⟨q1, q2⟩ e
      · rw [q]
        exact fun x => sgs _ q2 ((nI_eq (b := 48) (by omega) (by omega)).mp x)
      · rw [q]; decide
    rw [if_neg e4]
    exact ⟨_, rfl, fun q => absurd ⟨q.1, q.2.1⟩ e, fun _ => rfl, b2, b3, b6⟩
theorem rd_8 {n p lo hb : Nat} {w : Nat → Nat} {u : MM} {hi : Int32} (h : txM n w u) (hp : p ≤ n) (h2 : u 27 0 = nI p) (hlo : lo ≤ 1) (hhb : hb ≤ 100) (hhi : hi = nI hb - (1 : Int32)) {N : Nat} (hN : 200 < N) : ∃ y, fX8_reads N (nI lo) hi u = some y ∧ zb y.1 = true ∧ (aNm (aTt n w p) lo hb → y.1 = 1 ∧ y.2 30 0 = nI (aTt n w p - 1000)) ∧ (¬ aNm (aTt n w p) lo hb → y.1 = 0) ∧ y.2 27 0 = nI (aTe n w p) ∧ y.2 28 0 = nI (aTq n w p) ∧ ∀ k, k ≠ 27 → k ≠ 28 → k ≠ 29 → k ≠ 30 → y.2 k = u k := by
  obtain ⟨b, b1, b2, b3, b4, b6⟩ := tok_8 h hp h2 hN
  have hle := tk_le hp (fun j hj => (h.2.2 j hj).1)
  have key : ∃ x : Int32, fX8_in N ((b 29 0) - (1000 : Int32)) (nI lo) hi = some x ∧ zb x = true ∧ (aNm (aTt n w p) lo hb → x = 1 ∧ (b 29 0) - (1000 : Int32) = nI (aTt n w p - 1000)) ∧ (¬ aNm (aTt n w p) lo hb → x = 0) := by
    by_cases e : 1000 ≤ aTt n w p ∧ aTt n w p ≤ 2000
    · have e4 : b 29 0 = nI (aTt n w p) := by
        rcases b4 with ⟨q, -⟩ | ⟨-, q⟩
        · omega
        · exact q
      have e5 : nI (aTt n w p) - (1000 : Int32) = nI (aTt n w p - 1000) := pk_sub (b := 1000) (by omega)
      rw [e4, e5, hhi]
      unfold fX8_in
      by_cases c1 : aTt n w p - 1000 < lo
      · rw [if_pos (nI_lt c1 (by omega))]
        exact ⟨_, rfl, rfl, fun q => by unfold aNm at q; omega, fun _ => rfl⟩
      · rw [if_neg (nI_nlt (by omega) (by omega))]
        by_cases c2 : hb ≤ aTt n w p - 1000
        · rw [if_pos ((lt_sub1 (by omega) (by omega)).mpr c2)]
          exact ⟨_, rfl, rfl, fun q => by unfold aNm at q; omega, fun _ => rfl⟩
        · rw [if_neg (fun q => c2 ((lt_sub1 (by omega) (by omega)).mp q))]
          exact ⟨_, rfl, rfl, fun _ => ⟨rfl, rfl⟩, fun q => absurd ⟨e.1, by omega, by omega, by omega⟩ q⟩
    · have e4 : (b 29 0) - (1000 : Int32) < nI lo := by
        rcases b4 with ⟨-, q⟩ | ⟨q1, q⟩
        · rw [q]
          have hc : lo = 0 ∨ lo = 1 := by omega
          rcases hc with rfl | rfl <;> decide
        · rw [q, Int32.lt_iff_toInt_lt, show nI (aTt n w p) - (1000 : Int32) = nI (aTt n w p) - nI 1000 from rfl, pk_sub_toInt (by omega) (by omega), nI_toInt (by omega)]
          omega
      unfold fX8_in
      rw [if_pos e4]
      exact ⟨_, rfl, rfl, fun q => absurd ⟨q.1, by have := q.2.1; omega⟩ e, fun _ => rfl⟩
  obtain ⟨x, x1, x2, x3, x4⟩ := key
  unfold fX8_reads
  rw [b1, Option.bind_some, x1, Option.bind_some, if_pos x2]
  refine ⟨_, rfl, x2, fun q => ⟨(x3 q).1, ?_⟩, x4, ?_, ?_, fun k k1 k2 k3 k4 => ?_⟩
  · dsimp only
    rw [st_eq]
    exact (x3 q).2
  · dsimp only
    rw [st_ne (by omega)]
    exact b2
  · dsimp only
    rw [st_ne (by omega)]
    exact b3
  · dsimp only
    rw [st_ne (Ne.symm k4)]
    exact b6 k k1 k2 k3
/-- what the text has told so far: a setup, its row 2 the room -/
def drC (d : MM) (S : RW) : Prop := suC d S ∧ d 2 0 = nI (S 2 0)
def drM (u : MM) (S : RW) : Prop := u 8 0 = nI (S 0 0) ∧ u 9 0 = nI (S 1 0) ∧ u 10 0 = nI (S 2 0) ∧ u 11 0 = nI (S 3 0) ∧ u 12 0 = nI (S 4 0) ∧ u 13 0 = nI (S 5 0) ∧ (∀ t, t < S 0 0 → u 14 t = nI (S 6 t)) ∧ ∀ k c, 7 ≤ k → k ≤ 10 → c < S 1 0 → u 15 (4 * c + (k - 7)) = nI (S k c)
def drR (S : RW) : Prop := suR S ∧ S 2 0 ≤ 60
def frC (a' a : MM) : Prop := ∀ k, k ≠ 2 → k ≠ 3 → k ≠ 4 → k ≠ 5 → a' k = a k
def frM (u' u : MM) : Prop := ∀ k, k ≤ 7 ∨ (16 ≤ k ∧ k ≤ 26) → u' k = u k
theorem drM_c {u u' : MM} {S : RW} (h : drM u S) (hu : ∀ k, 8 ≤ k → k ≤ 15 → u' k = u k) : drM u' S := by
  obtain ⟨h1, h2, h3, h4, h5, h6, h7, h8⟩ := h
  exact ⟨by rw [hu 8 (by omega) (by omega)]; exact h1, by rw [hu 9 (by omega) (by omega)]; exact h2, by rw [hu 10 (by omega) (by omega)]; exact h3, by rw [hu 11 (by omega) (by omega)]; exact h4, by rw [hu 12 (by omega) (by omega)]; exact h5, by rw [hu 13 (by omega) (by omega)]; exact h6, by rw [hu 14 (by omega) (by omega)]; exact h7, by rw [hu 15 (by omega) (by omega)]; exact h8⟩
/-- one number of the setup told anew: room (2), ban (3), back (4), tries (5) -/
theorem dr_1 {d u u' : MM} {S : RW} {k x : Nat} (hC : drC d S) (hM : drM u S) (hk : 2 ≤ k ∧ k ≤ 5) (h1 : u' (8 + k) 0 = nI x) (h2 : ∀ j, 8 ≤ j → j ≤ 15 → j ≠ 8 + k → u' j = u j) : drC (st d k (fun _ => nI x)) (au S k 0 x) ∧ drM u' (au S k 0 x) := by
  obtain ⟨⟨c1, c2, c3, c4, c5, c6, c7⟩, c8⟩ := hC
  obtain ⟨m1, m2, m3, m4, m5, m6, m7, m8⟩ := hM
  have e0 : au S k 0 x 0 0 = S 0 0 := au_ne (Or.inl (by omega))
  have e1 : au S k 0 x 1 0 = S 1 0 := au_ne (Or.inl (by omega))
  have eC : ∀ q, 2 ≤ q → q ≤ 5 → d q 0 = nI (S q 0) → st d k (fun _ => nI x) q 0 = nI (au S k 0 x q 0) := fun q q1 q2 hq => by
    by_cases e : k = q
    · rw [← e, st_eq, au_eq]
    · rw [st_ne e, au_ne (Or.inl (Ne.symm e))]
      exact hq
  have eM : ∀ q, 2 ≤ q → q ≤ 5 → u (8 + q) 0 = nI (S q 0) → u' (8 + q) 0 = nI (au S k 0 x q 0) := fun q q1 q2 hq => by
    by_cases e : k = q
    · rw [← e, h1, au_eq]
    · rw [h2 _ (by omega) (by omega) (by omega), au_ne (Or.inl (Ne.symm e))]
      exact hq
  refine ⟨⟨⟨?_, ?_, eC 3 (by omega) (by omega) c3, eC 4 (by omega) (by omega) c4, eC 5 (by omega) (by omega) c5, fun t ht => ?_, fun q c q1 q2 hc => ?_⟩, eC 2 (by omega) (by omega) c8⟩, ?_, ?_, eM 2 (by omega) (by omega) m3, eM 3 (by omega) (by omega) m4, eM 4 (by omega) (by omega) m5, eM 5 (by omega) (by omega) m6, fun t ht => ?_, fun q c q1 q2 hc => ?_⟩
  · rw [st_ne (by omega), e0]; exact c1
  · rw [st_ne (by omega), e1]; exact c2
  · rw [e0] at ht
    rw [st_ne (by omega), au_ne (Or.inl (by omega))]; exact c6 t ht
  · rw [e1] at hc
    rw [st_ne (by omega), au_ne (Or.inl (by omega))]; exact c7 q c q1 q2 hc
  · rw [h2 8 (by omega) (by omega) (by omega), e0]; exact m1
  · rw [h2 9 (by omega) (by omega) (by omega), e1]; exact m2
  · rw [e0] at ht
    rw [h2 14 (by omega) (by omega) (by omega), au_ne (Or.inl (by omega))]; exact m7 t ht
  · rw [e1] at hc
    rw [h2 15 (by omega) (by omega) (by omega), au_ne (Or.inl (by omega))]; exact m8 q c q1 q2 hc
theorem dr_R {S : RW} {k x : Nat} (h : drR S) (hk : 2 ≤ k ∧ k ≤ 5) (h2 : k = 2 → x ≤ 60) (h3 : k = 3 → x ≤ 9) (h4 : k = 4 → 1 ≤ x ∧ x ≤ 6) (h5 : k = 5 → 1 ≤ x ∧ x ≤ 4) : drR (au S k 0 x) := by
  obtain ⟨⟨r0, r1, r3, r4, r5, r6, r7⟩, r2⟩ := h
  have e0 : au S k 0 x 0 0 = S 0 0 := au_ne (Or.inl (by omega))
  have e1 : au S k 0 x 1 0 = S 1 0 := au_ne (Or.inl (by omega))
  have er : ∀ q, 6 ≤ q → au S k 0 x q = S q := fun q hq => au_row (by omega)
  have eq1 : ∀ q, k = q → au S k 0 x q 0 = x := fun q hq => by rw [← hq, au_eq]
  have eq2 : ∀ q, k ≠ q → au S k 0 x q 0 = S q 0 := fun q hq => au_ne (Or.inl (Ne.symm hq))
  refine ⟨⟨by rw [e0]; exact r0, by rw [e1]; exact r1, ?_, ?_, ?_, ?_, ?_⟩, ?_⟩
  · by_cases e : k = 3
    · rw [eq1 3 e]; exact h3 e
    · rw [eq2 3 e]; exact r3
  · by_cases e : k = 4
    · rw [eq1 4 e]; exact h4 e
    · rw [eq2 4 e]; exact r4
  · by_cases e : k = 5
    · rw [eq1 5 e]; exact h5 e
    · rw [eq2 5 e]; exact r5
  · rw [e0, er 6 (by omega)]; exact r6
  · rw [e0, e1, er 7 (by omega), er 8 (by omega), er 9 (by omega), er 10 (by omega)]; exact r7
  · by_cases e : k = 2
    · rw [eq1 2 e]; exact h2 e
    · rw [eq2 2 e]; exact r2
/-- a terminal more -/
def aTrm (S : RW) (x : Nat) : RW := au (au S 6 (S 0 0) x) 0 0 (S 0 0 + 1)
theorem trm_0 (S : RW) (x : Nat) : aTrm S x 0 0 = S 0 0 + 1 := au_eq _ _ _ _
theorem trm_o {S : RW} {x k : Nat} (h0 : k ≠ 0) (h6 : k ≠ 6) : aTrm S x k = S k := by
  unfold aTrm
  rw [au_row h0, au_row h6]
theorem trm_6 {S : RW} {x t : Nat} : aTrm S x 6 t = if t = S 0 0 then x else S 6 t := by
  unfold aTrm
  rw [au_ne (Or.inl (by omega))]
  by_cases e : t = S 0 0
  · rw [if_pos e, e, au_eq]
  · rw [if_neg e, au_ne (Or.inr e)]
theorem trm_C {d : MM} {S : RW} {x : Nat} (h : drC d S) : drC (st (st d 6 (upd (d 6) (S 0 0) (nI x))) 0 (fun _ => nI (S 0 0 + 1))) (aTrm S x) := by
  obtain ⟨⟨c1, c2, c3, c4, c5, c6, c7⟩, c8⟩ := h
  refine ⟨⟨?_, ?_, ?_, ?_, ?_, fun t ht => ?_, fun q c q1 q2 hc => ?_⟩, ?_⟩
  · rw [st_eq, trm_0]
  · rw [st_ne (by omega), st_ne (by omega), trm_o (by omega) (by omega)]; exact c2
  · rw [st_ne (by omega), st_ne (by omega), trm_o (by omega) (by omega)]; exact c3
  · rw [st_ne (by omega), st_ne (by omega), trm_o (by omega) (by omega)]; exact c4
  · rw [st_ne (by omega), st_ne (by omega), trm_o (by omega) (by omega)]; exact c5
  · rw [trm_0] at ht
    rw [st_ne (by omega), st_eq, trm_6]
    by_cases e : t = S 0 0
    · rw [if_pos e, e, upd_eq]
    · rw [if_neg e, upd_ne e]; exact c6 t (by omega)
  · rw [trm_o (by omega) (by omega)] at hc
    rw [st_ne (by omega), st_ne (by omega), trm_o (by omega) (by omega)]; exact c7 q c q1 q2 hc
  · rw [st_ne (by omega), st_ne (by omega), trm_o (by omega) (by omega)]; exact c8
theorem trm_M {u u' : MM} {S : RW} {x : Nat} (h : drM u S) (h8 : u' 8 0 = nI (S 0 0 + 1)) (h14 : u' 14 = upd (u 14) (S 0 0) (nI x)) (ho : ∀ k, 9 ≤ k → k ≤ 15 → k ≠ 14 → u' k = u k) : drM u' (aTrm S x) := by
  obtain ⟨m1, m2, m3, m4, m5, m6, m7, m8⟩ := h
  refine ⟨?_, ?_, ?_, ?_, ?_, ?_, fun t ht => ?_, fun q c q1 q2 hc => ?_⟩
  · rw [h8, trm_0]
  · rw [ho 9 (by omega) (by omega) (by omega), trm_o (by omega) (by omega)]; exact m2
  · rw [ho 10 (by omega) (by omega) (by omega), trm_o (by omega) (by omega)]; exact m3
  · rw [ho 11 (by omega) (by omega) (by omega), trm_o (by omega) (by omega)]; exact m4
  · rw [ho 12 (by omega) (by omega) (by omega), trm_o (by omega) (by omega)]; exact m5
  · rw [ho 13 (by omega) (by omega) (by omega), trm_o (by omega) (by omega)]; exact m6
  · rw [trm_0] at ht
    rw [h14, trm_6]
    by_cases e : t = S 0 0
    · rw [if_pos e, e, upd_eq]
    · rw [if_neg e, upd_ne e]; exact m7 t (by omega)
  · rw [trm_o (by omega) (by omega)] at hc
    rw [ho 15 (by omega) (by omega) (by omega), trm_o (by omega) (by omega)]; exact m8 q c q1 q2 hc
theorem trm_R {S : RW} {x : Nat} (h : drR S) (hT : S 0 0 < 3) (hx : 1 ≤ x ∧ x ≤ 9) : drR (aTrm S x) := by
  obtain ⟨⟨r0, r1, r3, r4, r5, r6, r7⟩, r2⟩ := h
  refine ⟨⟨?_, ?_, ?_, ?_, ?_, fun t ht => ?_, fun c hc => ?_⟩, ?_⟩
  · rw [trm_0]; omega
  · rw [trm_o (by omega) (by omega)]; exact r1
  · rw [trm_o (by omega) (by omega)]; exact r3
  · rw [trm_o (by omega) (by omega)]; exact r4
  · rw [trm_o (by omega) (by omega)]; exact r5
  · rw [trm_0] at ht
    rw [trm_6]
    split
    · exact hx
    · exact r6 t (by omega)
  · rw [trm_o (by omega) (by omega)] at hc
    have := r7 c hc
    rw [trm_0, trm_o (by omega) (by omega), trm_o (by omega) (by omega), trm_o (by omega) (by omega), trm_o (by omega) (by omega)]
    omega
  · rw [trm_o (by omega) (by omega)]; exact r2
/-- a class more -/
def aCls (S : RW) (f : Nat → Nat) : RW := fun k j => if k = 1 ∧ j = 0 then S 1 0 + 1 else if 7 ≤ k ∧ k ≤ 10 ∧ j = S 1 0 then f k else S k j
theorem cls_1 (S : RW) (f : Nat → Nat) : aCls S f 1 0 = S 1 0 + 1 := if_pos ⟨rfl, rfl⟩
theorem cls_o {S : RW} {f : Nat → Nat} {k j : Nat} (h1 : k ≠ 1) (h7 : k < 7) : aCls S f k j = S k j := by
  show (if _ then _ else if _ then _ else _) = _
  rw [if_neg (by omega), if_neg (by omega)]
theorem cls_c {S : RW} {f : Nat → Nat} {k c : Nat} (h1 : 7 ≤ k) (h2 : k ≤ 10) : aCls S f k c = if c = S 1 0 then f k else S k c := by
  show (if _ then _ else if _ then _ else _) = _
  rw [if_neg (by omega)]
  by_cases e : c = S 1 0
  · rw [if_pos ⟨h1, h2, e⟩, if_pos e]
  · rw [if_neg (fun q => e q.2.2), if_neg e]
theorem cls_C {d d' : MM} {S : RW} {f : Nat → Nat} (h : drC d S) (h1 : d' 1 0 = nI (S 1 0 + 1)) (hk : ∀ k, 7 ≤ k → k ≤ 10 → d' k = upd (d k) (S 1 0) (nI (f k))) (ho : ∀ k, k ≠ 1 → k < 7 → d' k = d k) : drC d' (aCls S f) := by
  obtain ⟨⟨c1, c2, c3, c4, c5, c6, c7⟩, c8⟩ := h
  refine ⟨⟨?_, ?_, ?_, ?_, ?_, fun t ht => ?_, fun q c q1 q2 hc => ?_⟩, ?_⟩
  · rw [ho 0 (by omega) (by omega), cls_o (by omega) (by omega)]; exact c1
  · rw [h1, cls_1]
  · rw [ho 3 (by omega) (by omega), cls_o (by omega) (by omega)]; exact c3
  · rw [ho 4 (by omega) (by omega), cls_o (by omega) (by omega)]; exact c4
  · rw [ho 5 (by omega) (by omega), cls_o (by omega) (by omega)]; exact c5
  · rw [cls_o (by omega) (by omega)] at ht
    rw [ho 6 (by omega) (by omega), cls_o (by omega) (by omega)]; exact c6 t ht
  · rw [cls_1] at hc
    rw [hk q q1 q2, cls_c q1 q2]
    by_cases e : c = S 1 0
    · rw [if_pos e, e, upd_eq]
    · rw [if_neg e, upd_ne e]; exact c7 q c q1 q2 (by omega)
  · rw [ho 2 (by omega) (by omega), cls_o (by omega) (by omega)]; exact c8
theorem cls_M {u u' : MM} {S : RW} {f : Nat → Nat} (h : drM u S) (h9 : u' 9 0 = nI (S 1 0 + 1)) (hk : ∀ k, 7 ≤ k → k ≤ 10 → u' 15 (4 * S 1 0 + (k - 7)) = nI (f k)) (hj : ∀ j, j < 4 * S 1 0 → u' 15 j = u 15 j) (ho : ∀ k, 8 ≤ k → k ≤ 14 → k ≠ 9 → u' k = u k) : drM u' (aCls S f) := by
  obtain ⟨m1, m2, m3, m4, m5, m6, m7, m8⟩ := h
  refine ⟨?_, ?_, ?_, ?_, ?_, ?_, fun t ht => ?_, fun q c q1 q2 hc => ?_⟩
  · rw [ho 8 (by omega) (by omega) (by omega), cls_o (by omega) (by omega)]; exact m1
  · rw [h9, cls_1]
  · rw [ho 10 (by omega) (by omega) (by omega), cls_o (by omega) (by omega)]; exact m3
  · rw [ho 11 (by omega) (by omega) (by omega), cls_o (by omega) (by omega)]; exact m4
  · rw [ho 12 (by omega) (by omega) (by omega), cls_o (by omega) (by omega)]; exact m5
  · rw [ho 13 (by omega) (by omega) (by omega), cls_o (by omega) (by omega)]; exact m6
  · rw [cls_o (by omega) (by omega)] at ht
    rw [ho 14 (by omega) (by omega) (by omega), cls_o (by omega) (by omega)]; exact m7 t ht
  · rw [cls_1] at hc
    rw [cls_c q1 q2]
    by_cases e : c = S 1 0
    · rw [if_pos e, e]
      exact hk q q1 q2
    · rw [if_neg e, hj _ (by omega)]
      exact m8 q c q1 q2 (by omega)
theorem cls_R {S : RW} {f : Nat → Nat} (h : drR S) (hC : S 1 0 < 6) (h7 : f 7 < S 0 0) (h8 : f 8 ≤ 9) (h9 : f 9 ≤ 20) (hA : f 10 ≤ 60) : drR (aCls S f) := by
  obtain ⟨⟨r0, r1, r3, r4, r5, r6, r7⟩, r2⟩ := h
  refine ⟨⟨?_, ?_, ?_, ?_, ?_, fun t ht => ?_, fun c hc => ?_⟩, ?_⟩
  · rw [cls_o (by omega) (by omega)]; exact r0
  · rw [cls_1]; omega
  · rw [cls_o (by omega) (by omega)]; exact r3
  · rw [cls_o (by omega) (by omega)]; exact r4
  · rw [cls_o (by omega) (by omega)]; exact r5
  · rw [cls_o (by omega) (by omega)] at ht
    rw [cls_o (by omega) (by omega)]; exact r6 t ht
  · rw [cls_1] at hc
    rw [cls_o (k := 0) (by omega) (by omega), cls_c (by omega) (by omega), cls_c (by omega) (by omega), cls_c (by omega) (by omega), cls_c (by omega) (by omega)]
    by_cases e : c = S 1 0
    · rw [if_pos e, if_pos e, if_pos e, if_pos e]
      exact ⟨h7, h8, h9, hA⟩
    · rw [if_neg e, if_neg e, if_neg e, if_neg e]
      exact r7 c (by omega)
  · rw [cls_o (by omega) (by omega)]; exact r2
