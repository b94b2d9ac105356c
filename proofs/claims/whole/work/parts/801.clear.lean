/-! the model: gone blocks cleared -/
theorem mov_8 {u : MM} {to k : Nat} (hto : to ≤ k) (hk : k < 60) {N : Nat} (hN : 100 < N) : ∃ v, (∀ K, fX8_clearsGone_L30 N K (nI to) (nI k) N (0 : Int32) u = K (nI 10) v) ∧ (∀ j, j ≠ 16 → v j = u j) ∧ (∀ e, e < 10 → v 16 (67 + 10 * to + e) = u 16 (67 + 10 * k + e)) ∧ ∀ j, (j < 67 + 10 * to ∨ 67 + 10 * to + 10 ≤ j) → v 16 j = u 16 j := by
  obtain ⟨v, ⟨p1, p2, p3⟩, e⟩ := lp_all (fun K n i (v : MM) => fX8_clearsGone_L30 N K (nI to) (nI k) n (nI i) v) (fun K v => K (nI 10) v) 10 (fun i v => (∀ j, j ≠ 16 → v j = u j) ∧ (∀ e, e < i → v 16 (67 + 10 * to + e) = u 16 (67 + 10 * k + e)) ∧ ∀ j, (∀ e, e < i → j ≠ 67 + 10 * to + e) → v 16 j = u 16 j)
    (fun K n v hv => by
      show fX8_clearsGone_L30 N K (nI to) (nI k) (n + 1) (nI 10) v = _
      rw [fX8_clearsGone_L30, if_pos (show (10 : Int32) ≤ nI 10 by decide)])
    (fun n i v hi hv => by
      obtain ⟨v1, v2, v3⟩ := hv
      have a1 : v 16 (67 + 10 * k + i) = u 16 (67 + 10 * k + i) := v3 _ (fun e he => by omega)
      refine ⟨st v 16 (upd (v 16) (67 + 10 * to + i) (u 16 (67 + 10 * k + i))), ⟨fun j hj => ?_, fun e he => ?_, fun j hj => ?_⟩, fun K => ?_⟩
      · rw [st_ne (Ne.symm hj)]
        exact v1 j hj
      · rw [st_eq]
        by_cases q : e = i
        · rw [q, upd_eq]
        · rw [upd_ne (by omega)]
          exact v2 e (by omega)
      · rw [st_eq, upd_ne (hj i (by omega))]
        exact v3 j (fun e he => hj e (by omega))
      · show fX8_clearsGone_L30 N K (nI to) (nI k) (n + 1) (nI i) v = _
        rw [fX8_clearsGone_L30, if_neg (show ¬ (10 : Int32) ≤ nI i from nI_ge (b := 10) hi (by omega)), qbn, qbn, if_pos (ib_n (by omega) (by omega)), if_pos (ib_n (by omega) (by omega)), nI_clamp (n := 67 + 10 * to + i) (by omega), nI_clamp (n := 67 + 10 * k + i) (by omega), a1, nI_1]) 10 N 0 u (by omega) (by omega) ⟨fun _ _ => rfl, fun e he => absurd he (by omega), fun _ _ => rfl⟩
  exact ⟨v, e, p1, p2, fun j hj => p3 j (fun e he => by omega)⟩
theorem cg_8 {N : Nat} (hN : 100 < N) : ∀ (post : List BL) (fuel k : Nat) (u : MM) (out : List BL), post.length < fuel → k + post.length ≤ 60 → u 16 3 = nI (k + post.length) → out.length ≤ k → (∀ j x, out[j]? = some x → bkM (u 16) j x) → (∀ j x, post[j]? = some x → bkM (u 16) (k + j) x) → (∀ x ∈ post, x.2.1 < 2 ^ 31) → ∃ v, (∀ K, fX8_clearsGone_L4 N K fuel (nI out.length) (nI k) u = K (nI (out ++ ngone post).length) (nI (k + post.length)) v) ∧ (∀ j, j ≠ 16 → v j = u j) ∧ (∀ j, j < 67 → v 16 j = u 16 j) ∧ ∀ j x, (out ++ ngone post)[j]? = some x → bkM (v 16) j x
  | [], fuel, k, u, out, hf, hk, h0, ho, h1, h2, h3 => by
    obtain ⟨n, rfl⟩ : ∃ n, fuel = n + 1 := ⟨fuel - 1, by have : ([] : List BL).length = 0 := rfl; omega⟩
    have hk : k ≤ 60 := hk
    have h0 : u 16 3 = nI k := h0
    refine ⟨u, fun K => ?_, fun _ _ => rfl, fun _ _ => rfl, fun j x hj => ?_⟩
    · rw [fX8_clearsGone_L4, if_pos (show ib (3 : Int32) 667 = true by decide), show Int32.toNatClampNeg (3 : Int32) = 3 by decide, h0, if_pos (nI_le (Nat.le_refl _) (by omega)), show ngone [] = [] from rfl, List.append_nil]
      rfl
    · rw [show ngone [] = [] from rfl, List.append_nil] at hj
      exact h1 j x hj
  | x :: rest, fuel, k, u, out, hf, hk, h0, ho, h1, h2, h3 => by
    obtain ⟨n, rfl⟩ : ∃ n, fuel = n + 1 := ⟨fuel - 1, by omega⟩
    rw [List.length_cons] at hf hk h0
    have hx : bkM (u 16) k x := h2 0 x rfl
    have hd := hx.2.1
    have hx3 := h3 x (List.mem_cons_self)
    by_cases e : x.2.1 = 0
    · obtain ⟨v, i1, i2, i3, i4⟩ := cg_8 hN rest n (k + 1) u out (by omega) (by omega) (by rw [h0]; congr 1; omega) (by omega) h1 (fun j z hj => by
        have := h2 (j + 1) z (by simpa using hj)
        rw [show k + 1 + j = k + (j + 1) by omega]
        exact this) (fun z hz => h3 z (List.mem_cons_of_mem _ hz))
      refine ⟨v, fun K => ?_, i2, i3, ?_⟩
      · rw [fX8_clearsGone_L4, if_pos (show ib (3 : Int32) 667 = true by decide), show Int32.toNatClampNeg (3 : Int32) = 3 by decide, h0, if_neg (nI_ge (by omega) (by omega)), qb1, if_pos (ib_n (by omega) (by omega)), nI_clamp (by omega), hd, if_pos (show dueI x.2.1 = (-1 : Int32) from (due_gone hx3).mpr e), nI_1, i1 K, ngone_cons, if_pos e, List.length_cons, show k + 1 + rest.length = k + (rest.length + 1) by omega]
      · rw [ngone_cons, if_pos e]
        exact i4
    · obtain ⟨y, y1, y2, y3, y4⟩ := mov_8 (u := u) (to := out.length) (k := k) ho (by omega) hN
      obtain ⟨v, i1, i2, i3, i4⟩ := cg_8 hN rest n (k + 1) y (out ++ [x]) (by omega) (by omega) (by rw [y4 3 (by omega), h0]; congr 1; omega) (by rw [len_last]; omega) (fun j z hj => by
        rcases get_app hj with ⟨hl, h⟩ | ⟨rfl, rfl⟩
        · exact bkM_c (h1 j z h) (fun i q1 q2 => y4 i (by omega))
        · obtain ⟨a1, a2, a3, a4, a5⟩ := hx
          exact ⟨(y3 0 (by omega)).trans a1, (y3 1 (by omega)).trans a2, (y3 2 (by omega)).trans a3, (y3 3 (by omega)).trans a4, fun c hc => (y3 (4 + c) (by omega)).trans (a5 c hc)⟩) (fun j z hj => by
        have := h2 (j + 1) z (by simpa using hj)
        rw [show k + 1 + j = k + (j + 1) by omega]
        exact bkM_c this (fun i q1 q2 => y4 i (by omega))) (fun z hz => h3 z (List.mem_cons_of_mem _ hz))
      rw [len_last, List.append_assoc] at i1
      rw [List.append_assoc] at i4
      refine ⟨v, fun K => ?_, fun j hj => (i2 j hj).trans (y2 j hj), fun j hj => (i3 j hj).trans (y4 j (by omega)), ?_⟩
      · rw [fX8_clearsGone_L4, if_pos (show ib (3 : Int32) 667 = true by decide), show Int32.toNatClampNeg (3 : Int32) = 3 by decide, h0, if_neg (nI_ge (by omega) (by omega)), qb1, if_pos (ib_n (by omega) (by omega)), nI_clamp (by omega), hd, if_neg (show ¬ dueI x.2.1 = (-1 : Int32) from fun q => e ((due_gone hx3).mp q)), y1, nI_1, nI_1, i1 K, ngone_cons, if_neg e, List.length_cons, show k + 1 + rest.length = k + (rest.length + 1) by omega]
        rfl
      · rw [ngone_cons, if_neg e]
        exact i4
theorem z1_8 {u : MM} {k : Nat} {x1 : Int32} (hk : k < 60) {N : Nat} (hN : 100 < N) : ∃ v, (∀ K, fX8_clearsGone_L85 N K x1 (nI k) N (0 : Int32) u = K (nI 10) v) ∧ (∀ j, j ≠ 16 → v j = u j) ∧ ∀ j, j < 67 + 10 * k → v 16 j = u 16 j := by
  obtain ⟨v, p, e⟩ := lp_all (fun K n i (v : MM) => fX8_clearsGone_L85 N K x1 (nI k) n (nI i) v) (fun K v => K (nI 10) v) 10 (fun i v => (∀ j, j ≠ 16 → v j = u j) ∧ ∀ j, j < 67 + 10 * k → v 16 j = u 16 j)
    (fun K n v hv => by
      show fX8_clearsGone_L85 N K x1 (nI k) (n + 1) (nI 10) v = _
      rw [fX8_clearsGone_L85, if_pos (show (10 : Int32) ≤ nI 10 by decide)])
    (fun n i v hi hv => by
      obtain ⟨v1, v2⟩ := hv
      refine ⟨st v 16 (upd (v 16) (67 + 10 * k + i) (0 : Int32)), ⟨fun j hj => ?_, fun j hj => ?_⟩, fun K => ?_⟩
      · rw [st_ne (Ne.symm hj)]
        exact v1 j hj
      · rw [st_eq, upd_ne (by omega)]
        exact v2 j hj
      · show fX8_clearsGone_L85 N K x1 (nI k) (n + 1) (nI i) v = _
        rw [fX8_clearsGone_L85, if_neg (show ¬ (10 : Int32) ≤ nI i from nI_ge (b := 10) hi (by omega)), qbn, if_pos (ib_n (by omega) (by omega)), nI_clamp (by omega), nI_1]) 10 N 0 u (by omega) (by omega) ⟨fun _ _ => rfl, fun _ _ => rfl⟩
  exact ⟨v, e, p⟩
theorem zz_8 {u : MM} {to n : Nat} {x1 : Int32} (hn : n ≤ 60) (h3 : u 16 3 = nI n) (hto : to ≤ n) {N : Nat} (hN : 100 < N) : ∃ v, (∀ K, fX8_clearsGone_L73 N K x1 N (nI to) u = K (nI n) v) ∧ (∀ j, j ≠ 16 → v j = u j) ∧ ∀ j, j < 67 + 10 * to → v 16 j = u 16 j := by
  obtain ⟨v, ⟨-, p1, p2⟩, e⟩ := lp_all (fun K m i (v : MM) => fX8_clearsGone_L73 N K x1 m (nI i) v) (fun K v => K (nI n) v) n (fun i v => to ≤ i ∧ (∀ j, j ≠ 16 → v j = u j) ∧ ∀ j, j < 67 + 10 * to → v 16 j = u 16 j)
    (fun K m v hv => by
      show fX8_clearsGone_L73 N K x1 (m + 1) (nI n) v = _
      rw [fX8_clearsGone_L73, if_pos (show ib (3 : Int32) 667 = true by decide), show Int32.toNatClampNeg (3 : Int32) = 3 by decide, hv.2.2 3 (by omega), h3, if_pos (nI_le (Nat.le_refl _) (by omega))])
    (fun m i v hi hv => by
      obtain ⟨v0, v1, v2⟩ := hv
      obtain ⟨y, y1, y2, y3⟩ := z1_8 (u := v) (k := i) (x1 := x1) (by omega) hN
      refine ⟨y, ⟨by omega, fun j hj => (y2 j hj).trans (v1 j hj), fun j hj => (y3 j (by omega)).trans (v2 j hj)⟩, fun K => ?_⟩
      show fX8_clearsGone_L73 N K x1 (m + 1) (nI i) v = _
      rw [fX8_clearsGone_L73, if_pos (show ib (3 : Int32) 667 = true by decide), show Int32.toNatClampNeg (3 : Int32) = 3 by decide, v2 3 (by omega), h3, if_neg (nI_ge hi (by omega)), y1, nI_1]) (n - to) N to u (by omega) (by omega) ⟨Nat.le_refl _, fun _ _ => rfl, fun _ _ => rfl⟩
  exact ⟨v, e, p1, p2⟩
theorem clr_8 {u0 u : MM} {D : Int32} {r : RW} {l : List BL} (hg : sgM u0 D u r l) (hd : ∀ x ∈ l, x.2.1 < 2 ^ 31) {N : Nat} (hN : 100 < N) : ∃ v, fX8_clearsGone N u = some v ∧ sgM u0 D v r (ngone l) := by
  obtain ⟨g1, g2, g3, g4⟩ := hg
  have h60 := g2.1
  have hle : (ngone l).length ≤ l.length := List.length_filter_le _ _
  obtain ⟨v, i1, i2, i3, i4⟩ := cg_8 hN l N 0 u [] (by omega) (by omega) (by rw [Nat.zero_add]; exact g2.2.1) (by show 0 ≤ 0; omega) (fun j x hj => by simp at hj) (fun j x hj => by rw [Nat.zero_add]; exact g2.2.2 j x hj) hd
  rw [Nat.zero_add, List.nil_append] at i1
  rw [List.nil_append] at i4
  obtain ⟨w, w1, w2, w3⟩ := zz_8 (u := v) (to := (ngone l).length) (n := l.length) (x1 := nI (ngone l).length) h60 (by rw [i3 3 (by omega)]; exact g2.2.1) hle hN
  refine ⟨st w 16 (upd (w 16) 3 (nI (ngone l).length)), ?_, ?_, ⟨by omega, by rw [st_eq, upd_eq], fun k x hk => ?_⟩, fun j h1 h2 => ?_, ?_⟩
  · unfold fX8_clearsGone
    have i1 : ∀ K, fX8_clearsGone_L4 N K N (0 : Int32) (0 : Int32) u = K (nI (ngone l).length) (nI l.length) v := i1
    rw [i1, w1, if_pos (show ib (3 : Int32) 667 = true by decide), show Int32.toNatClampNeg (3 : Int32) = 3 by decide]
  · rw [st_eq]
    exact rwM_b g1 (fun j h1 h2 => by rw [upd_ne h2, w3 j (by omega), i3 j h1])
  · have hlt := (List.getElem?_eq_some_iff.mp hk).1
    rw [st_eq]
    exact bkM_c (i4 k x hk) (fun j h1 h2 => by rw [upd_ne (by omega), w3 j (by omega)])
  · rw [st_ne (Ne.symm h1), w2 j h1, i2 j h1]
    exact g3 j h1 h2
  · rw [st_ne (by omega), w2 31 (by omega), i2 31 (by omega)]
    exact g4
