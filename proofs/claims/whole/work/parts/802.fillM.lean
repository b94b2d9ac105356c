/-! the model: the class of a rank, a block filled -/
theorem isah_8 {u : MM} {S : RW} {a b : Nat} (hS : suR S) (hM : suM u S) (ha : a < S 1 0) (hb : b < S 1 0) (N : Nat) : fX8_isAhead N (nI a) (nI b) u = some (if S 8 a < S 8 b ∨ (S 8 a = S 8 b ∧ a < b) then 1 else 0) := by
  have hC := hS.2.1
  have h8a : u 7 (4 * a + 1) = nI (S 8 a) := hM.2.2.2.2.2.2 8 a (by omega) (by omega) ha
  have h8b : u 7 (4 * b + 1) = nI (S 8 b) := hM.2.2.2.2.2.2 8 b (by omega) (by omega) hb
  have la := (hS.2.2.2.2.2.2 a ha).2.1
  have lb := (hS.2.2.2.2.2.2 b hb).2.1
  have ea : (4 : Int32) * nI a + (1 : Int32) = nI (4 * a + 1) := by rw [show (4 : Int32) * nI a = nI (4 * a) from pk_mul 4 a, nI_1]
  have eb : (4 : Int32) * nI b + (1 : Int32) = nI (4 * b + 1) := by rw [show (4 : Int32) * nI b = nI (4 * b) from pk_mul 4 b, nI_1]
  unfold fX8_isAhead
  rw [ea, eb, if_pos (ib_n (n := 4 * a + 1) (by omega) (by omega)), if_pos (ib_n (n := 4 * b + 1) (by omega) (by omega)), nI_clamp (n := 4 * a + 1) (by omega), nI_clamp (n := 4 * b + 1) (by omega), h8a, h8b]
  by_cases e : S 8 a = S 8 b
  · rw [if_pos (show nI (S 8 a) = nI (S 8 b) by rw [e])]
    by_cases q : b ≤ a
    · rw [if_pos (nI_le q (by omega)), if_neg (by omega)]
    · rw [if_neg (nI_ge (by omega) (by omega)), if_pos (by omega)]
  · rw [if_neg (show ¬ nI (S 8 a) = nI (S 8 b) from fun q => e ((nI_eq (by omega) (by omega)).mp q)), if_pos (ib_n (n := 4 * a + 1) (by omega) (by omega)), if_pos (ib_n (n := 4 * b + 1) (by omega) (by omega))]
    by_cases q : S 8 b ≤ S 8 a
    · rw [if_pos (nI_le q (by omega)), if_neg (by omega)]
    · rw [if_neg (nI_ge (by omega) (by omega)), if_pos (by omega)]
theorem rank_8 {u : MM} {S : RW} {t c : Nat} {x2 : Int32} (hS : suR S) (hM : suM u S) (ht : t < 3) (hc : c < S 1 0) {N : Nat} (hN : 100 < N) (K : Int32 → Int32 → Option Int32) : fX8_classAt_L16 N K (nI t) x2 (nI c) u N (0 : Int32) (0 : Int32) = K (nI (aRank S t (S 8 c) c)) (nI (S 1 0)) := by
  have hC := hS.2.1
  have hT := hS.1
  have h2 := hM.2.1
  exact lp_sum (fun n acc i => fX8_classAt_L16 N K (nI t) x2 (nI c) u n acc i) K (S 1 0) (fun o => if S 7 o = t ∧ (S 8 o < S 8 c ∨ (S 8 o = S 8 c ∧ o < c)) then 1 else 0)
    (fun n acc => by
      show fX8_classAt_L16 N K (nI t) x2 (nI c) u (n + 1) acc (nI (S 1 0)) = _
      rw [fX8_classAt_L16, h2, if_pos (nI_le (Nat.le_refl _) (by omega))])
    (fun n i acc hi => by
      have h7 : u 7 (4 * i) = nI (S 7 i) := hM.2.2.2.2.2.2 7 i (by omega) (by omega) hi
      have l7 := (hS.2.2.2.2.2.2 i hi).1
      show fX8_classAt_L16 N K (nI t) x2 (nI c) u (n + 1) acc (nI i) = _
      rw [fX8_classAt_L16, h2, if_neg (nI_ge hi (by omega)), show (4 : Int32) * nI i = nI (4 * i) from pk_mul 4 i, if_pos (ib_n (by omega) (by omega)), nI_clamp (by omega), h7, nI_1]
      by_cases e : S 7 i = t
      · rw [if_pos (show nI (S 7 i) = nI t by rw [e]), isah_8 hS hM hi hc, Option.bind_some]
        by_cases q : S 8 i < S 8 c ∨ (S 8 i = S 8 c ∧ i < c)
        · rw [if_pos q, if_neg (show ¬ (1 : Int32) = 0 by decide), if_pos ⟨e, q⟩]
          rfl
        · rw [if_neg q, if_pos rfl, if_neg (fun w => q w.2)]
          rfl
      · rw [if_neg (show ¬ nI (S 7 i) = nI t from fun q => e ((nI_eq (by omega) (by omega)).mp q)), if_neg (fun w => e w.1)]
        rfl) (by omega)
theorem clsat_8 {u : MM} {S : RW} {t m : Nat} (hS : suR S) (hM : suM u S) (ht : t < 3) (hm : m ≤ 6) {N : Nat} (hN : 100 < N) : fX8_classAt N (nI t) (nI m) u = some (if aAt S t m < S 1 0 then nI (aAt S t m) else nM9) := by
  have hC := hS.2.1
  have hT := hS.1
  have h2 := hM.2.1
  unfold fX8_classAt
  refine lp_any (fun n i (_ : Unit) => fX8_classAt_L2 N (fun (x3_3 : Int32) => some (-9 : Int32)) (nI t) (nI m) u n (nI i)) (fun res => res = some (if aAt S t m < S 1 0 then nI (aAt S t m) else nM9)) (S 1 0) (fun i _ => ∀ c, c < i → ¬ (S 7 c = t ∧ aRank S t (S 8 c) c = m)) (fun n _ hq => ?_) (fun n i _ hi hq => ?_) (S 1 0) N 0 () (by omega) (by omega) (fun c hc => absurd hc (by omega))
  · show fX8_classAt_L2 N _ (nI t) (nI m) u (n + 1) (nI (S 1 0)) = _
    rw [fX8_classAt_L2, h2, if_pos (nI_le (Nat.le_refl _) (by omega))]
    rcases aAt_or S t m with ⟨h1, -⟩ | ⟨h1, h3, h4⟩
    · rw [if_neg (by omega)]
      rfl
    · exact absurd ⟨h3, h4⟩ (hq _ h1)
  · have h7 : u 7 (4 * i) = nI (S 7 i) := hM.2.2.2.2.2.2 7 i (by omega) (by omega) hi
    have l7 := (hS.2.2.2.2.2.2 i hi).1
    have hr := rk_le S t (S 8 i) i
    have e0 : fX8_classAt_L2 N (fun (x3_3 : Int32) => some (-9 : Int32)) (nI t) (nI m) u (n + 1) (nI i) = if S 7 i = t ∧ aRank S t (S 8 i) i = m then some (nI i) else fX8_classAt_L2 N (fun (x3_3 : Int32) => some (-9 : Int32)) (nI t) (nI m) u n (nI (i + 1)) := by
      rw [fX8_classAt_L2, h2, if_neg (nI_ge hi (by omega)), rank_8 hS hM ht hi hN, show (4 : Int32) * nI i = nI (4 * i) from pk_mul 4 i, if_pos (ib_n (by omega) (by omega)), nI_clamp (by omega), h7, nI_1]
      by_cases e : S 7 i = t
      · rw [if_pos (show nI (S 7 i) = nI t by rw [e])]
        by_cases q : aRank S t (S 8 i) i = m
        · rw [if_pos (show nI (aRank S t (S 8 i) i) = nI m by rw [q]), if_pos ⟨e, q⟩]
        · rw [if_neg (show ¬ nI (aRank S t (S 8 i) i) = nI m from fun w => q ((nI_eq (by omega) (by omega)).mp w)), if_neg (fun w => q w.2)]
      · rw [if_neg (show ¬ nI (S 7 i) = nI t from fun q => e ((nI_eq (by omega) (by omega)).mp q)), if_neg (fun w => e w.1)]
    by_cases q : S 7 i = t ∧ aRank S t (S 8 i) i = m
    · left
      have h9 := aAt_in hi q.1
      rw [q.2] at h9
      show fX8_classAt_L2 N (fun (x3_3 : Int32) => some (-9 : Int32)) (nI t) (nI m) u (n + 1) (nI i) = _
      rw [e0, if_pos q, h9, if_pos hi]
    · right
      refine ⟨(), fun c hc => ?_, ?_⟩
      · by_cases w : c = i
        · rw [w]
          exact q
        · exact hq c (by omega)
      · show fX8_classAt_L2 N (fun (x3_3 : Int32) => some (-9 : Int32)) (nI t) (nI m) u (n + 1) (nI i) = _
        rw [e0, if_neg q]
/-- the model while it fills the block behind l -/
def flM (u : MM) (l : List BL) (t : Nat) (v : MM) (s : FL) : Prop := rwM (v 16) s.2.1 ∧ blM (v 16) l ∧ (v 16 (67 + 10 * l.length) = nI t ∧ v 16 (67 + 10 * l.length + 1) = nI 0 ∧ v 16 (67 + 10 * l.length + 2) = nI 0 ∧ ∀ c, c < 6 → v 16 (67 + 10 * l.length + (4 + c)) = nI (s.2.2 c)) ∧ ∀ j, j ≠ 16 → v j = u j
theorem suM_c {u v : MM} {S : RW} (h : suM u S) (hv : ∀ j, 1 ≤ j → j ≤ 7 → v j = u j) : suM v S := by
  obtain ⟨h1, h2, h3, h4, h5, h6, h7⟩ := h
  exact ⟨by rw [hv 1 (by omega) (by omega)]; exact h1, by rw [hv 2 (by omega) (by omega)]; exact h2, by rw [hv 3 (by omega) (by omega)]; exact h3, by rw [hv 4 (by omega) (by omega)]; exact h4, by rw [hv 5 (by omega) (by omega)]; exact h5, by rw [hv 6 (by omega) (by omega)]; exact h6, by rw [hv 7 (by omega) (by omega)]; exact h7⟩
theorem blM_lo {s s' : Nat → Int32} {l : List BL} (h : blM s l) (h3 : s' 3 = s 3) (hs : ∀ j, 67 ≤ j → j < 67 + 10 * l.length → s' j = s j) : blM s' l := ⟨h.1, by rw [h3]; exact h.2.1, fun k x hk => by
  have hlt := (List.getElem?_eq_some_iff.mp hk).1
  exact bkM_c (h.2.2 k x hk) (fun j h1 h2 => hs j (by omega) (by omega))⟩
theorem fl1_8 {u v : MM} {S : RW} {l : List BL} {t c tk m : Nat} {bt : Bool} {s : FL} (hl : l.length < 60) (hc : c < S 1 0) (hC : S 1 0 ≤ 6) (hq : flM u l t v s) (hm : m = aMany bt c s) (htk : tk = if bt then s.2.1 10 c - m else s.2.1 10 c) : flM u l t (st v 16 (upd (upd (upd (v 16) (43 + 4 * c + 0) (nI (s.2.1 9 c - m))) (43 + 4 * c + 1) (nI tk)) (67 + 10 * l.length + (4 + c)) (nI (s.2.2 c + m)))) (aFill1 bt c s) := by
  obtain ⟨q1, q2, ⟨q3, q4, q5, q6⟩, q7⟩ := hq
  have e1 := rwM_2 (k := 0) (c := c) (x := s.2.1 9 c - m) q1 (by omega) (by omega)
  have e2 := rwM_2 (k := 1) (c := c) (x := tk) e1 (by omega) (by omega)
  have e3 : (aFill1 bt c s).2.1 = au (au s.2.1 (9 + 0) c (s.2.1 9 c - m)) (9 + 1) c tk := by
    rw [htk, hm]
    cases bt
    · show au s.2.1 9 c (s.2.1 9 c - aMany false c s) = au (au s.2.1 9 c (s.2.1 9 c - aMany false c s)) 10 c (s.2.1 10 c)
      have e4 := au_self (au s.2.1 9 c (s.2.1 9 c - aMany false c s)) 10 c
      rw [au_ne (k := 9) (q := 10) (Or.inl (by omega))] at e4
      exact e4.symm
    · show au (au s.2.1 10 c (s.2.1 10 c - aMany true c s)) 9 c (s.2.1 9 c - aMany true c s) = au (au s.2.1 9 c (s.2.1 9 c - aMany true c s)) 10 c (s.2.1 10 c - aMany true c s)
      exact au_comm (by omega)
  refine ⟨?_, ?_, ⟨?_, ?_, ?_, fun e he => ?_⟩, fun j hj => ?_⟩
  · rw [st_eq, e3]
    exact rwM_b e2 (fun j h1 h2 => by rw [upd_ne (by omega)])
  · rw [st_eq]
    exact blM_lo q2 (by rw [upd_ne (by omega), upd_ne (by omega), upd_ne (by omega)]) (fun j h1 h2 => by rw [upd_ne (by omega), upd_ne (by omega), upd_ne (by omega)])
  · rw [st_eq, upd_ne (by omega), upd_ne (by omega), upd_ne (by omega)]; exact q3
  · rw [st_eq, upd_ne (by omega), upd_ne (by omega), upd_ne (by omega)]; exact q4
  · rw [st_eq, upd_ne (by omega), upd_ne (by omega), upd_ne (by omega)]; exact q5
  · rw [st_eq]
    show upd _ _ _ (67 + 10 * l.length + (4 + e)) = nI (if e = c then s.2.2 e + aMany bt c s else s.2.2 e)
    by_cases w : e = c
    · rw [w, upd_eq, if_pos rfl, hm]
    · rw [upd_ne (by omega), upd_ne (by omega), upd_ne (by omega), if_neg w]
      exact q6 e he
  · rw [st_ne (Ne.symm hj)]
    exact q7 j hj
theorem flK_8 {u v : MM} {S : RW} {l : List BL} {t i g : Nat} {bt : Bool} {s : FL} {x3 x4 : Int32} (hS : suR S) (hM : suM u S) (hl : l.length < 60) (hg : g ≤ 60) (ht : t < 3) (hiC : i < S 1 0) (hb : (x4 = (0 : Int32) ∧ bt = false) ∨ (x4 = (1 : Int32) ∧ bt = true)) (hq : flM u l t v s) (hi : flI S g s) {N : Nat} (hN : 100 < N) (n : Nat) : ∃ v', flM u l t v' (aFillK S t bt i s) ∧ ∀ K, fX8_fills_L6 N K (nI l.length) (nI t) x3 x4 (n + 1) (nI s.1) (nI i) v = fX8_fills_L6 N K (nI l.length) (nI t) x3 x4 n (nI (aFillK S t bt i s).1) (nI (i + 1)) v' := by
  have hC := hS.2.1
  have hT := hS.1
  have hMv : suM v S := suM_c hM (fun j h1 h2 => hq.2.2.2 j (by omega))
  have h2 := hMv.2.1
  have hcl := clsat_8 (m := i) hS hMv ht (by omega) hN
  obtain ⟨c, hc⟩ : ∃ c, c = aAt S t i := ⟨_, rfl⟩
  rw [← hc] at hcl
  unfold aFillK
  rw [← hc]
  by_cases e : c < S 1 0
  · rw [if_pos e] at hcl ⊢
    have w9 : v 16 (43 + 4 * c + 0) = nI (s.2.1 9 c) := hq.1.2.2.2.2.1 0 c (by omega) (by omega)
    have w10 : v 16 (43 + 4 * c + 1) = nI (s.2.1 10 c) := hq.1.2.2.2.2.1 1 c (by omega) (by omega)
    have wl : v 16 (67 + 10 * l.length + (4 + c)) = nI (s.2.2 c) := hq.2.2.1.2.2.2 c (by omega)
    have hb9 := hi.1.2.2.2.2.1 c e
    have hs1 : s.1 ≤ g := by have := hi.2.1; omega
    rcases hb with ⟨rfl, rfl⟩ | ⟨rfl, rfl⟩
    · refine ⟨_, fl1_8 (m := min (s.2.1 9 c) s.1) (tk := s.2.1 10 c) hl e hC hq rfl rfl, fun K => ?_⟩
      show _ = fX8_fills_L6 N K (nI l.length) (nI t) x3 (0 : Int32) n (nI (s.1 - min (s.2.1 9 c) s.1)) (nI (i + 1)) _
      rw [fX8_fills_L6, h2, if_neg (nI_ge hiC (by omega)), hcl, Option.bind_some, if_neg (show ¬ nI c = (-9 : Int32) from n_m9 (by omega)), qc0, if_pos (ib_n (by omega) (by omega)), nI_clamp (n := 43 + 4 * c + 0) (by omega), w9, qls N (by omega) (by omega), if_pos rfl, qc0, if_pos (ib_n (by omega) (by omega)), if_pos (ib_n (by omega) (by omega)), qc1, if_pos (ib_n (by omega) (by omega)), if_pos rfl, if_pos (ib_n (by omega) (by omega)), qb4, if_pos (ib_n (by omega) (by omega)), if_pos (ib_n (by omega) (by omega)), nI_clamp (n := 43 + 4 * c + 0) (by omega), nI_clamp (n := 43 + 4 * c + 1) (by omega), nI_clamp (n := 67 + 10 * l.length + (4 + c)) (by omega), w9, pk_sub (a := s.2.1 9 c) (by omega), pk_sub (a := s.1) (by omega), upd_ne (j := 43 + 4 * c + 1) (k := 43 + 4 * c + 0) (by omega), w10, show nI (s.2.1 10 c) - (0 : Int32) = nI (s.2.1 10 c) from pk_sub (b := 0) (by omega), upd_ne (j := 67 + 10 * l.length + (4 + c)) (k := 43 + 4 * c + 1) (by omega), upd_ne (j := 67 + 10 * l.length + (4 + c)) (k := 43 + 4 * c + 0) (by omega), wl, nI_add, st_st, st_st, nI_1]
    · refine ⟨_, fl1_8 (m := min (min (s.2.1 9 c) s.1) (s.2.1 10 c)) (tk := s.2.1 10 c - min (min (s.2.1 9 c) s.1) (s.2.1 10 c)) hl e hC hq rfl rfl, fun K => ?_⟩
      show _ = fX8_fills_L6 N K (nI l.length) (nI t) x3 (1 : Int32) n (nI (s.1 - min (min (s.2.1 9 c) s.1) (s.2.1 10 c))) (nI (i + 1)) _
      rw [fX8_fills_L6, h2, if_neg (nI_ge hiC (by omega)), hcl, Option.bind_some, if_neg (show ¬ nI c = (-9 : Int32) from n_m9 (by omega)), qc0, if_pos (ib_n (by omega) (by omega)), nI_clamp (n := 43 + 4 * c + 0) (by omega), w9, qls N (by omega) (by omega), if_neg (show ¬ (1 : Int32) = 0 by decide), qc1, if_pos (ib_n (by omega) (by omega)), nI_clamp (n := 43 + 4 * c + 1) (by omega), w10, qls N (by omega) (by omega), qc0, if_pos (ib_n (by omega) (by omega)), if_pos (ib_n (by omega) (by omega)), qc1, if_pos (ib_n (by omega) (by omega)), if_neg (show ¬ (1 : Int32) = 0 by decide), if_pos (ib_n (by omega) (by omega)), qb4, if_pos (ib_n (by omega) (by omega)), if_pos (ib_n (by omega) (by omega)), nI_clamp (n := 43 + 4 * c + 0) (by omega), nI_clamp (n := 43 + 4 * c + 1) (by omega), nI_clamp (n := 67 + 10 * l.length + (4 + c)) (by omega), w9, pk_sub (a := s.2.1 9 c) (by omega), pk_sub (a := s.1) (by omega), upd_ne (j := 43 + 4 * c + 1) (k := 43 + 4 * c + 0) (by omega), w10, pk_sub (a := s.2.1 10 c) (by omega), upd_ne (j := 67 + 10 * l.length + (4 + c)) (k := 43 + 4 * c + 1) (by omega), upd_ne (j := 67 + 10 * l.length + (4 + c)) (k := 43 + 4 * c + 0) (by omega), wl, nI_add, st_st, st_st, nI_1]
  · rw [if_neg e] at hcl ⊢
    refine ⟨v, hq, fun K => ?_⟩
    rw [fX8_fills_L6, h2, if_neg (nI_ge hiC (by omega)), hcl, Option.bind_some, if_pos (show nM9 = (-9 : Int32) from rfl), nI_1]
theorem fill_le {S : RW} {t : Nat} {bt : Bool} {s : FL} : (aFill S t bt s).1 ≤ s.1 := itN_inv (fun _ (q : FL) => q.1 ≤ s.1) _ (Nat.le_refl _) (fun i q _ hq => by
  unfold aFillK
  split
  · show q.1 - _ ≤ s.1
    omega
  · exact hq)
theorem fills_8 {u v : MM} {S : RW} {l : List BL} {t g : Nat} {bt : Bool} {s : FL} {x4 : Int32} (hS : suR S) (hM : suM u S) (hl : l.length < 60) (hg : g ≤ 60) (ht : t < 3) (hb : (x4 = (0 : Int32) ∧ bt = false) ∨ (x4 = (1 : Int32) ∧ bt = true)) (hq : flM u l t v s) (hi : flI S g s) {N : Nat} (hN : 100 < N) : ∃ y, fX8_fills N (nI l.length) (nI t) (nI s.1) x4 v = some y ∧ y.1 = nI (s.1 - (aFill S t bt s).1) ∧ flM u l t y.2 (aFill S t bt s) := by
  have hC := hS.2.1
  obtain ⟨y, y1, e⟩ := lp_run (fun n i (q : Nat × MM) => fX8_fills_L6 N (fun (x5_14 : Int32) (x6_14 : Int32) (v0_14 : MM) => some ((nI s.1 - x5_14), v0_14)) (nI l.length) (nI t) (nI s.1) x4 n (nI q.1) (nI i) q.2) (fun q => some (nI s.1 - nI q.1, q.2)) (S 1 0) (fun i q => q.1 = (itN (aFillK S t bt) i s).1 ∧ flM u l t q.2 (itN (aFillK S t bt) i s))
    (fun n q hq => by
      have h2 : q.2 2 0 = nI (S 1 0) := by rw [hq.2.2.2.2 2 (by omega)]; exact hM.2.1
      show fX8_fills_L6 N _ (nI l.length) (nI t) (nI s.1) x4 (n + 1) (nI q.1) (nI (S 1 0)) q.2 = _
      rw [fX8_fills_L6, h2, if_pos (nI_le (Nat.le_refl _) (by omega))])
    (fun n i q hiC hq => by
      obtain ⟨v', h1, h2⟩ := flK_8 (x3 := nI s.1) hS hM hl hg ht hiC hb hq.2 (fillN_I hi) hN n
      refine ⟨((itN (aFillK S t bt) (i + 1) s).1, v'), ⟨rfl, h1⟩, ?_⟩
      show fX8_fills_L6 N _ (nI l.length) (nI t) (nI s.1) x4 (n + 1) (nI q.1) (nI i) q.2 = _
      rw [hq.1, h2]
      rfl) (S 1 0) N 0 (s.1, v) (by omega) (by omega) ⟨rfl, hq⟩
  have hle := fill_le (S := S) (t := t) (bt := bt) (s := s)
  unfold fX8_fills
  refine ⟨(nI s.1 - nI y.1, y.2), e, ?_, y1.2⟩
  show nI s.1 - nI y.1 = _
  rw [y1.1]
  exact pk_sub hle
