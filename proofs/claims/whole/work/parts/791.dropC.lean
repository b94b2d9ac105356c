/-! the class: gone blocks dropped, grants given, a step -/
theorem ngone_cons (x : BL) (l : List BL) : ngone (x :: l) = if x.2.1 = 0 then ngone l else x :: ngone l := by
  unfold ngone
  rw [List.filter_cons]
  by_cases e : x.2.1 = 0
  · rw [if_pos e, if_neg (by simp [e])]
  · rw [if_neg e, if_pos (by simp [e])]
theorem mov_7 {b : MM} {f t : Nat} {x : BL} (h : bkC b f x) (hf : f < 60) (ht : t ≤ f) {N : Nat} (hN : 100 < N) : ∃ y, fX0_move N (nI f) (nI t) b = some y ∧ bkC y t x ∧ y 0 0 = b 0 0 ∧ ∀ j z, j < 60 → j ≠ t → bkC b j z → bkC y j z := by
  by_cases e : t = f
  · subst e
    unfold fX0_move
    rw [if_neg (nI_pos (by omega)), if_pos (nI_le (Nat.le_refl _) (by omega))]
    exact ⟨b, rfl, h, rfl, fun j z _ _ hz => hz⟩
  · obtain ⟨h1, h2, h3, h4, h5⟩ := h
    have e6 : ∀ n c : Nat, nI n * (6 : Int32) + nI c = nI (6 * n + c) := fun n c => by rw [show nI n * (6 : Int32) = nI (n * 6) from pk_mul n 6, nI_add, Nat.mul_comm]
    obtain ⟨B, hB⟩ : ∃ B, B = st (st (st (st b 1 (upd (b 1) t (b 1 f))) 2 (upd (b 2) t (b 2 f))) 3 (upd (b 3) t (b 3 f))) 4 (upd (b 4) t (b 4 f)) := ⟨_, rfl⟩
    obtain ⟨y, ⟨y1, y2, y3⟩, e⟩ := lp_run (fun n i (q : MM) => fX0_move_L66 N (fun (_ : Int32) (v : MM) => some v) (nI f) (nI t) n (nI i) q) (fun v => some v) 6 (fun i q => (∀ k, k ≠ 5 → q k = B k) ∧ (∀ c, c < i → q 5 (6 * t + c) = nI (x.2.2.2.2 c)) ∧ ∀ j, j < 6 * t ∨ 6 * t + 6 ≤ j → q 5 j = b 5 j)
      (fun n q hq => by
        show fX0_move_L66 N _ (nI f) (nI t) (n + 1) (nI 6) q = _
        rw [fX0_move_L66, if_pos (show (6 : Int32) ≤ nI 6 by decide)])
      (fun n i q hi hq => by
        have hx := h5 i hi
        rw [← hq.2.2 (6 * f + i) (by omega)] at hx
        refine ⟨st q 5 (upd (q 5) (6 * t + i) (nI (x.2.2.2.2 i))), ⟨fun k hk => ?_, fun c hc => ?_, fun j hj => ?_⟩, ?_⟩
        · rw [st_ne (Ne.symm hk)]
          exact hq.1 k hk
        · rw [st_eq]
          by_cases e : c = i
          · rw [e, upd_eq]
          · rw [upd_ne (by omega)]
            exact hq.2.1 c (by omega)
        · rw [st_eq, upd_ne (by omega)]
          exact hq.2.2 j hj
        · show fX0_move_L66 N _ (nI f) (nI t) (n + 1) (nI i) q = _
          rw [fX0_move_L66, if_neg (show ¬ (6 : Int32) ≤ nI i from nI_ge (b := 6) hi (by omega)), e6, e6, if_pos (ib_n (by omega) (by omega)), if_pos (ib_n (by omega) (by omega)), nI_clamp (n := 6 * f + i) (by omega), nI_clamp (n := 6 * t + i) (by omega), hx, nI_1]) 6 N 0 B (by omega) (by omega) ⟨fun _ _ => rfl, fun c hc => absurd hc (by omega), fun j _ => by rw [hB, st_ne (by omega), st_ne (by omega), st_ne (by omega), st_ne (by omega)]⟩
    have B0 : B 0 = b 0 := by rw [hB, st_ne (by omega), st_ne (by omega), st_ne (by omega), st_ne (by omega)]
    have B1 : B 1 = upd (b 1) t (b 1 f) := by rw [hB, st_ne (by omega), st_ne (by omega), st_ne (by omega), st_eq]
    have B2 : B 2 = upd (b 2) t (b 2 f) := by rw [hB, st_ne (by omega), st_ne (by omega), st_eq]
    have B3 : B 3 = upd (b 3) t (b 3 f) := by rw [hB, st_ne (by omega), st_eq]
    have B4 : B 4 = upd (b 4) t (b 4 f) := by rw [hB, st_eq]
    refine ⟨y, ?_, ⟨?_, ?_, ?_, ?_, y2⟩, ?_, fun j z hj hne hz => ?_⟩
    · unfold fX0_move
      have l60 : nI f < (60 : Int32) := nI_lt (b := 60) hf (by omega)
      have i1 : ib (nI f) 60 = true := ib_n hf (by omega)
      have i2 : ib (nI t) 60 = true := ib_n (by omega) (by omega)
      rw [if_neg (nI_pos (by omega)), if_neg (nI_ge (by omega) (by omega)), if_pos l60, if_pos i1, if_pos i2, if_pos i1, if_pos i2, if_pos i1, if_pos i2, if_pos i1, if_pos i2, nI_clamp (n := f) (by omega), nI_clamp (n := t) (by omega), ← hB]
      exact e
    · rw [y1 1 (by omega), B1, upd_eq]; exact h1
    · rw [y1 2 (by omega), B2, upd_eq]; exact h2
    · rw [y1 3 (by omega), B3, upd_eq]; exact h3
    · rw [y1 4 (by omega), B4, upd_eq]; exact h4
    · rw [y1 0 (by omega), B0]
    · obtain ⟨z1, z2, z3, z4, z5⟩ := hz
      refine ⟨?_, ?_, ?_, ?_, fun c hc => ?_⟩
      · rw [y1 1 (by omega), B1, upd_ne hne]; exact z1
      · rw [y1 2 (by omega), B2, upd_ne hne]; exact z2
      · rw [y1 3 (by omega), B3, upd_ne hne]; exact z3
      · rw [y1 4 (by omega), B4, upd_ne hne]; exact z4
      · rw [y3 _ (by omega)]; exact z5 c hc
theorem get_app {l : List BL} {x z : BL} {j : Nat} (h : (l ++ [x])[j]? = some z) : (j < l.length ∧ l[j]? = some z) ∨ (j = l.length ∧ z = x) := by
  by_cases hl : j < l.length
  · rw [List.getElem?_append_left hl] at h
    exact Or.inl ⟨hl, h⟩
  · have hlt := (List.getElem?_eq_some_iff.mp h).1
    rw [len_last] at hlt
    have hj : j = l.length := by omega
    subst hj
    rw [List.getElem?_append_right (Nat.le_refl _), Nat.sub_self] at h
    cases h
    exact Or.inr ⟨rfl, rfl⟩
theorem dr_7 {N : Nat} (hN : 100 < N) : ∀ (post : List BL) (fuel k : Nat) (b : MM) (out : List BL), post.length < fuel → k + post.length ≤ 60 → b 0 0 = nI (k + post.length) → out.length ≤ k → (∀ j x, out[j]? = some x → bkC b j x) → (∀ j x, post[j]? = some x → bkC b (k + j) x) → (∀ x ∈ post, x.2.1 < 2 ^ 31) → ∃ b', fX0_dropGone_L4 N (fun (x1 : Int32) (_ : Int32) (v : MM) => some (st v 0 (fun _ => x1))) fuel (nI out.length) (nI k) b = some b' ∧ blC b' (out ++ ngone post)
  | [], fuel, k, b, out, hf, hk, h0, ho, h1, h2, h3 => by
    obtain ⟨n, rfl⟩ : ∃ n, fuel = n + 1 := ⟨fuel - 1, by have : ([] : List BL).length = 0 := rfl; omega⟩
    have hk : k ≤ 60 := hk
    refine ⟨_, by rw [fX0_dropGone_L4, h0, if_pos (nI_le (show k + ([] : List BL).length ≤ k from Nat.le_refl k) (by omega))], ?_⟩
    rw [show ngone [] = [] from rfl, List.append_nil]
    refine ⟨by omega, by rw [st_eq], fun j x hj => ?_⟩
    obtain ⟨a1, a2, a3, a4, a5⟩ := h1 j x hj
    rw [st_ne (by omega), st_ne (by omega), st_ne (by omega), st_ne (by omega), st_ne (by omega)]
    exact ⟨a1, a2, a3, a4, a5⟩
  | x :: rest, fuel, k, b, out, hf, hk, h0, ho, h1, h2, h3 => by
    obtain ⟨n, rfl⟩ : ∃ n, fuel = n + 1 := ⟨fuel - 1, by omega⟩
    rw [List.length_cons] at hf hk h0
    have hx : bkC b k x := h2 0 x rfl
    have hd := hx.2.1
    have hx3 := h3 x (List.mem_cons_self)
    rw [fX0_dropGone_L4, h0, if_neg (nI_ge (by omega) (by omega)), if_neg (show ¬ (60 : Int32) ≤ nI k from nI_ge (b := 60) (by omega) (by omega)), if_pos (ib_n (by omega) (by omega)), nI_clamp (by omega), hd, ngone_cons]
    by_cases e : x.2.1 = 0
    · rw [if_pos (show dueI x.2.1 = (-1 : Int32) from (due_gone hx3).mpr e), if_pos e, nI_1]
      exact dr_7 hN rest n (k + 1) b out (by omega) (by omega) (by rw [h0]; congr 1; omega) (by omega) h1 (fun j z hj => by
        have := h2 (j + 1) z (by simpa using hj)
        rw [show k + 1 + j = k + (j + 1) by omega]
        exact this) (fun z hz => h3 z (List.mem_cons_of_mem _ hz))
    · obtain ⟨y, y1, y2, y3, y4⟩ := mov_7 (t := out.length) hx (by omega) ho hN
      rw [if_neg (show ¬ dueI x.2.1 = (-1 : Int32) from fun q => e ((due_gone hx3).mp q)), if_neg e, y1, Option.bind_some, nI_1, nI_1]
      have h := dr_7 hN rest n (k + 1) y (out ++ [x]) (by omega) (by omega) (by rw [y3, h0]; congr 1; omega) (by rw [len_last]; omega) (fun j z hj => by
        rcases get_app hj with ⟨hl, h⟩ | ⟨rfl, rfl⟩
        · exact y4 j z (by omega) (by omega) (h1 j z h)
        · exact y2) (fun j z hj => by
        have := h2 (j + 1) z (by simpa using hj)
        rw [show k + 1 + j = k + (j + 1) by omega]
        have hlt := (List.getElem?_eq_some_iff.mp hj).1
        exact y4 _ z (by omega) (by omega) this) (fun z hz => h3 z (List.mem_cons_of_mem _ hz))
      rw [len_last, List.append_assoc] at h
      exact h
theorem drop_7 {b : MM} {l : List BL} (h : blC b l) (hd : ∀ x ∈ l, x.2.1 < 2 ^ 31) {N : Nat} (hN : 100 < N) : ∃ y, fX0_dropGone N b = some y ∧ blC y (ngone l) := by
  have h60 := h.1
  unfold fX0_dropGone
  exact dr_7 hN l N 0 b [] (by omega) (by omega) (by rw [Nat.zero_add]; exact h.2.1) (by show 0 ≤ 0; omega) (fun j x hj => by simp at hj) (fun j x hj => by rw [Nat.zero_add]; exact h.2.2 j x hj) hd
/-- the class between two grants of a step -/
def sgG (n0 : Nat) (a b w : MM) (s : SL) (m : Nat) : Prop := rwC a s.1 ∧ (∃ lc, blC b lc ∧ ngone lc = s.2.1 ∧ lc.length ≤ m ∧ ∀ x ∈ lc, x.2.1 ≤ 500) ∧ w 2 0 = nI s.2.2
def gvI (S : RW) (n0 : Nat) (s : SL) : Prop := rwI S s.1 ∧ s.2.2 ≤ 60 ∧ s.1 0 0 = n0
theorem take_row {r : RW} {t left q : Nat} (hq : q ≠ 5 ∧ q ≠ 8 ∧ q ≠ 2) : aTake r t left q = r q := by
  unfold aTake
  rw [au_row (by omega), au_row (by omega), au_row (by omega)]
theorem fill1_row {bt : Bool} {c q : Nat} {s : FL} (hq : q ≠ 9 ∧ q ≠ 10) : (aFill1 bt c s).2.1 q = s.2.1 q := by
  unfold aFill1
  cases bt
  · exact au_row (by omega)
  · show au (au s.2.1 10 c _) 9 c _ q = _
    rw [au_row (by omega), au_row (by omega)]
theorem fill_row {S : RW} {t : Nat} {bt : Bool} {q : Nat} {s : FL} (hq : q ≠ 9 ∧ q ≠ 10) : (aFill S t bt s).2.1 q = s.2.1 q := itN_inv (fun _ (y : FL) => y.2.1 q = s.2.1 q) _ rfl (fun i y _ h => by
  unfold aFillK
  split
  · rw [fill1_row hq]
    exact h
  · exact h)
theorem pk_row {S r : RW} {t g q : Nat} (hq : q ≠ 9 ∧ q ≠ 10) : (aPk S r t g).2.1 q = r q := by
  unfold aPk
  rw [fill_row hq, fill_row hq]
theorem packR_row {S r : RW} {t g q : Nat} (hq : q ≠ 9 ∧ q ≠ 10 ∧ q ≠ 3) : aPackR S r t g q = r q := by
  unfold aPackR
  split
  · rw [au_row (by omega), pk_row (by omega)]
  · exact pk_row (by omega)
theorem put_row {S r : RW} {t g q : Nat} (hq : q ≠ 3 ∧ q ≠ 6 ∧ q ≠ 9 ∧ q ≠ 10 ∧ q ≠ 11 ∧ q ≠ 12) : aPut S r t g q = r q := by
  unfold aPut
  split
  · exact packR_row (by omega)
  · rw [send_row (by omega), packR_row (by omega)]
theorem grant_le (r : RW) (t left : Nat) : aGrant r t left ≤ left := Nat.min_le_right _ _
theorem gv1_I {S : RW} {n0 f i : Nat} {s : SL} (hS : suR S) (hT : 0 < S 0 0) (h : gvI S n0 s) : gvI S n0 (aGive1 S f i s) := by
  obtain ⟨h1, h2, h3⟩ := h
  unfold aGive1
  split
  · have hm : (f + i) % S 0 0 < S 0 0 := Nat.mod_lt _ hT
    have hg := grant_le s.1 ((f + i) % S 0 0) s.2.2
    refine ⟨put_I hS (take_I h1 hm) hm (by omega), ?_, ?_⟩
    · show s.2.2 - _ ≤ 60
      omega
    · show aPut S _ _ _ 0 0 = n0
      rw [put_row (by omega), take_row (by omega)]
      exact h3
  · exact ⟨h1, h2, h3⟩
theorem putB_due {S r : RW} {t g : Nat} (hS : suR S) (h0 : r 0 0 ≤ 400) : (aPutB S r t g).2.1 ≤ 500 := by
  have h4 := hS.2.2.2.1.2
  have hn : aPackR S r t g 0 0 = r 0 0 := by rw [packR_row (by omega)]
  unfold aPutB
  split
  · show (0 : Nat) ≤ 500
    omega
  · unfold aSendB
    split
    · split
      · show (0 : Nat) ≤ 500
        omega
      · show aPackR S r t g 0 0 + S 4 0 + 1 ≤ 500
        omega
    · show (0 : Nat) ≤ 500
      omega
theorem gv1_7 {v a b w : MM} {S : RW} {n0 f i m : Nat} {s : SL} (hS : suR S) (hv : suC v S) (hT0 : 0 < S 0 0) (hn : n0 ≤ 400) (hf : f ≤ 3) (hi : i < 3) (hm : m < 60) (hc : sgG n0 a b w s m) (hI : gvI S n0 s) (hleft : 0 < s.2.2) {N : Nat} (hN : 100 < N) (K : Int32 → MM → MM → MM → Option (MM × MM × MM)) (n : Nat) (hiT : i < S 0 0) : ∃ a' b' w', sgG n0 a' b' w' (aGive1 S f i s) (m + 1) ∧ fX5_giveGrants_L36 N K (nI (S 0 0)) (nI f) v (n + 1) (nI i) a b w = fX5_giveGrants_L36 N K (nI (S 0 0)) (nI f) v n (nI (i + 1)) a' b' w' := by
  have hT := hS.1
  obtain ⟨c1, ⟨lc, l1, l2, l3, l4⟩, c3⟩ := hc
  obtain ⟨i1, i2, i3⟩ := hI
  obtain ⟨t, ht⟩ : ∃ t, t = (f + i) % S 0 0 := ⟨_, rfl⟩
  have ht2 : t < S 0 0 := by rw [ht]; exact Nat.mod_lt _ hT0
  have t5 := c1.2.2.2.1 5 t (by omega) (by omega) (by omega)
  have t6 := c1.2.2.2.1 6 t (by omega) (by omega) (by omega)
  have hb := i1.2.2.2.1 t (by omega)
  obtain ⟨y, y1, y2, y3, y4⟩ := take_7 (t := t) i1 c1 c3 i2 (by omega) N
  have hgr := grant_le s.1 t s.2.2
  obtain ⟨z, z1, z2, z3⟩ := pack_7 (w := y.2.2) (t := t) (g := aGrant s.1 t s.2.2) hS hv y3 (take_I i1 ht2) l1 (by omega) ht2 (by omega) hN
  rw [← y2] at z1
  have hmod : (nI f + nI i) - (nI f + nI i) / nI (S 0 0) * nI (S 0 0) = nI t := by rw [nI_add, pk_rem (by omega) (by omega) (by omega), ht]
  rw [fX5_giveGrants_L36, if_neg (nI_ge hiT (by omega)), c3, if_neg (nI_nle hleft (by omega)), if_pos (show ¬ nI (S 0 0) = 0 from nI_ne0 hT0 (by omega)), hmod, if_neg (nI_pos (by omega)), if_neg (show ¬ (3 : Int32) ≤ nI t from nI_ge (b := 3) (by omega) (by omega)), if_pos (ib_n (show t < 3 by omega) (by omega)), if_pos (ib_n (show t < 3 by omega) (by omega)), nI_clamp (by omega), t5, t6, y1, Option.bind_some, z1, Option.bind_some, nI_1]
  have hres : sgG n0 z.1 z.2 y.2.2 (aPut S (aTake s.1 t s.2.2) t (aGrant s.1 t s.2.2), s.2.1 ++ ngone [aPutB S (aTake s.1 t s.2.2) t (aGrant s.1 t s.2.2)], s.2.2 - aGrant s.1 t s.2.2) (m + 1) := by
    refine ⟨z2, ⟨_, z3, ?_, by rw [len_last]; omega, fun x hx => ?_⟩, y4⟩
    · show ngone (lc ++ [_]) = s.2.1 ++ ngone [_]
      rw [← l2]
      unfold ngone
      rw [List.filter_append]
    · rcases List.mem_append.mp hx with hx | hx
      · exact l4 x hx
      · rw [List.mem_singleton.mp hx]
        exact putB_due hS (by rw [take_row (by omega)]; omega)
  unfold aGive1
  rw [← ht]
  by_cases e5 : s.1 5 t = 1
  · rw [if_pos (show nI (s.1 5 t) = (1 : Int32) by rw [e5]; rfl), if_pos ⟨hleft, Or.inl e5⟩]
    exact ⟨_, _, _, hres, rfl⟩
  · rw [if_neg (show ¬ nI (s.1 5 t) = (1 : Int32) from fun q => e5 ((nI_eq (b := 1) (by omega) (by omega)).mp q))]
    by_cases e6 : 0 < s.1 6 t
    · rw [if_neg (nI_nle e6 (by omega)), if_pos ⟨hleft, Or.inr e6⟩]
      exact ⟨_, _, _, hres, rfl⟩
    · rw [if_pos (show nI (s.1 6 t) ≤ (0 : Int32) by rw [show s.1 6 t = 0 by omega]; decide), if_neg (by omega)]
      exact ⟨_, _, _, ⟨c1, ⟨lc, l1, l2, by omega, l4⟩, c3⟩, rfl⟩
theorem gv_z {S : RW} {f i : Nat} {s : SL} (h : s.2.2 = 0) : aGive1 S f i s = s := by
  unfold aGive1
  rw [if_neg (by omega)]
theorem gv_stop {S : RW} {f i : Nat} {s : SL} (h : (itN (aGive1 S f) i s).2.2 = 0) : ∀ d, itN (aGive1 S f) (i + d) s = itN (aGive1 S f) i s
  | 0 => rfl
  | d + 1 => by
    show aGive1 S f (i + d) (itN (aGive1 S f) (i + d) s) = _
    rw [gv_stop h d]
    exact gv_z h
theorem gv_7 {v a b w : MM} {S : RW} {n0 m : Nat} {s : SL} (hS : suR S) (hv : suC v S) (hn : n0 ≤ 400) (hm : m < 57) (hc : sgG n0 a b w s m) (hI : gvI S n0 s) {N : Nat} (hN : 100 < N) : ∃ y, fX5_giveGrants N v a b w = some y ∧ sgG n0 y.1 y.2.1 y.2.2 (aGive S s) 60 := by
  have hT := hS.1
  have hl := hI.1.2.2.1
  obtain ⟨f, hf⟩ : ∃ f, f = s.1 2 0 := ⟨_, rfl⟩
  have key : ∃ y, fX5_giveGrants_L36 N (fun (_ : Int32) (a b w : MM) => some (a, b, w)) (nI (S 0 0)) (nI f) v N (0 : Int32) a b w = some y ∧ sgG n0 y.1 y.2.1 y.2.2 (itN (aGive1 S f) (S 0 0) s) 60 := by
    refine lp_any (fun n i (q : MM × MM × MM) => fX5_giveGrants_L36 N (fun (_ : Int32) (a b w : MM) => some (a, b, w)) (nI (S 0 0)) (nI f) v n (nI i) q.1 q.2.1 q.2.2) (fun res => ∃ y, res = some y ∧ sgG n0 y.1 y.2.1 y.2.2 (itN (aGive1 S f) (S 0 0) s) 60) (S 0 0) (fun i q => sgG n0 q.1 q.2.1 q.2.2 (itN (aGive1 S f) i s) (m + i) ∧ gvI S n0 (itN (aGive1 S f) i s))
      (fun n q hq => ?_) (fun n i q hi hq => ?_) (S 0 0) N 0 (a, b, w) (by omega) (by omega) ⟨hc, hI⟩
    · obtain ⟨q1, ⟨lc, l1, l2, l3, l4⟩, q3⟩ := hq.1
      refine ⟨q, ?_, q1, ⟨lc, l1, l2, by omega, l4⟩, q3⟩
      show fX5_giveGrants_L36 N _ (nI (S 0 0)) (nI f) v (n + 1) (nI (S 0 0)) q.1 q.2.1 q.2.2 = _
      rw [fX5_giveGrants_L36, if_pos (nI_le (Nat.le_refl _) (by omega))]
    · obtain ⟨hq1, hq2⟩ := hq
      by_cases e : (itN (aGive1 S f) i s).2.2 = 0
      · left
        have hst := gv_stop e (S 0 0 - i)
        rw [show i + (S 0 0 - i) = S 0 0 by omega] at hst
        rw [hst]
        obtain ⟨q1, ⟨lc, l1, l2, l3, l4⟩, q3⟩ := hq1
        refine ⟨q, ?_, q1, ⟨lc, l1, l2, by omega, l4⟩, q3⟩
        show fX5_giveGrants_L36 N _ (nI (S 0 0)) (nI f) v (n + 1) (nI i) q.1 q.2.1 q.2.2 = _
        rw [e] at q3
        rw [fX5_giveGrants_L36, if_neg (nI_ge hi (by omega)), q3, if_pos (show nI 0 ≤ (0 : Int32) by decide)]
      · right
        obtain ⟨a', b', w', h1, h2⟩ := gv1_7 (f := f) (i := i) hS hv (by omega) hn (by omega) (by omega) (by omega) hq1 hq2 (by omega) hN (fun (_ : Int32) (a b w : MM) => some (a, b, w)) n hi
        exact ⟨(a', b', w'), ⟨h1, gv1_I hS (by omega) hq2⟩, h2⟩
  unfold fX5_giveGrants aGive
  rw [hc.1.2.2.1, hv.1, ← hf]
  by_cases e : f = 0
  · rw [e] at key ⊢
    rw [if_pos (show lastI 0 = (-9 : Int32) from rfl)]
    exact key
  · rw [if_neg (show ¬ lastI f = (-9 : Int32) from fun q => e ((last_none (by omega)).mp q)), last_s e, nI_1, show f - 1 + 1 = f by omega]
    exact key
