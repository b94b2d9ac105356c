/-! the model: a grant packed -/
theorem ngone_app (a b : List BL) : ngone (a ++ b) = ngone a ++ ngone b := by
  unfold ngone
  rw [List.filter_append]
theorem ngone_id {l : List BL} (h : ∀ x ∈ l, x.2.1 ≠ 0) : ngone l = l := by
  unfold ngone
  rw [List.filter_eq_self]
  intro x hx
  simp [h x hx]
theorem sendB_due (S r : RW) (x : BL) : (aSendB S r x).2.1 ≤ r 0 0 + S 4 0 + 1 := by
  unfold aSendB
  split
  · split
    · exact Nat.zero_le _
    · exact Nat.le_refl _
  · exact Nat.zero_le _
theorem tl_8 {u0 W : MM} {A : Nat → Int32} {D : Int32} {S R : RW} {l : List BL} {B : BL} (hS : suR S) (hM : suM u0 S) (hA : W 16 = A) (hw : rwM A R) (hb : blM A l) (hl : l.length < 60) (ho : okS S B) (hBd : B.2.1 = 0) (hB0 : A (67 + 10 * l.length) = nI B.1) (hB1 : A (67 + 10 * l.length + 1) = nI 0) (hB2 : A (67 + 10 * l.length + 2) = nI B.2.2.1) (hB3 : A (67 + 10 * l.length + 3) = repI B.2.2.2.1) (hB5 : ∀ c, c < 6 → A (67 + 10 * l.length + (4 + c)) = nI (B.2.2.2.2 c)) (hz : ∀ j, j ≠ 16 → j ≠ 31 → W j = u0 j) (hth : W 31 0 = D + nI (aThr R)) (hI : rwI S R) (hgl : ∀ x ∈ l, x.2.1 ≠ 0 ∧ x.2.1 < 2 ^ 31) {N : Nat} (hN : 100 < N) : ∃ v, ((fX8_inBlock N (nI l.length) W).bind (fun y10 => (if y10 ≤ 0 then ((fX8_ofBlock N (nI l.length) (0 : Int32)).bind (fun y11 => (if ib y11 667 = true then ((fX8_ofBlock N (nI l.length) (3 : Int32)).bind (fun y12 => (if ib y12 667 = true then some (st (st W 16 (upd A (Int32.toNatClampNeg y11) (0 : Int32))) 16 (upd (upd A (Int32.toNatClampNeg y11) (0 : Int32)) (Int32.toNatClampNeg y12) (0 : Int32))) else none))) else none))) else (if ib (3 : Int32) 667 = true then (if ib (3 : Int32) 667 = true then ((fX8_sends N (nI l.length) (st W 16 (upd A (Int32.toNatClampNeg (3 : Int32)) ((A (Int32.toNatClampNeg (3 : Int32))) + (1 : Int32))))).bind (fun y13 => ((fX8_clearsGone N y13).bind (fun y14 => some y14)))) else none) else none)))) = some v ∧ sgM u0 D v (if aCont (S 1 0) B = 0 then R else aSendR S R B) (l ++ ngone [if aCont (S 1 0) B = 0 then B else aSendB S R B]) := by
  have hC6 := hS.2.1
  have hW2 : W 2 0 = nI (S 1 0) := by rw [hz 2 (by omega) (by omega)]; exact hM.2.1
  have h3 := ho.2.2.1
  have h45 := ho.2.2.2.2
  have hcon : fX8_inBlock N (nI l.length) W = some (nI (aCont (S 1 0) B)) := inb_8 hC6 hW2 hl (fun c hc => by rw [hA]; exact hB5 c hc) (by rw [hA]; exact hB3) (by omega) hN
  have hco : aCont (S 1 0) B ≤ 62 := by
    show aTot (S 1 0) B.2.2.2.2 + (if B.2.2.2.1 = 0 then 0 else 2) ≤ 62
    split <;> omega
  rw [hcon, Option.bind_some]
  by_cases e : aCont (S 1 0) B = 0
  · rw [if_pos e, if_pos e, if_pos (show nI (aCont (S 1 0) B) ≤ (0 : Int32) by rw [e]; decide), qb0, if_pos (ib_n (by omega) (by omega)), qb3, if_pos (ib_n (by omega) (by omega)), nI_clamp (n := 67 + 10 * l.length + 0) (by omega), nI_clamp (n := 67 + 10 * l.length + 3) (by omega), st_st, ngone_cons, if_pos hBd, show ngone [] = [] from rfl, List.append_nil]
    refine ⟨_, rfl, ?_, ?_, fun j h1 h2 => ?_, ?_⟩
    · rw [st_eq]
      exact rwM_b hw (fun j h1 h2 => by rw [upd_ne (by omega), upd_ne (by omega)])
    · rw [st_eq]
      exact blM_lo hb (by rw [upd_ne (by omega), upd_ne (by omega)]) (fun j h1 h2 => by rw [upd_ne (by omega), upd_ne (by omega)])
    · rw [st_ne (Ne.symm h1)]
      exact hz j h1 h2
    · rw [st_ne (by omega)]
      exact hth
  · rw [if_neg e, if_neg e, if_neg (show ¬ nI (aCont (S 1 0) B) ≤ (0 : Int32) from nI_nle (by omega) (by omega)), if_pos (show ib (3 : Int32) 667 = true by decide), if_pos (show ib (3 : Int32) 667 = true by decide), show Int32.toNatClampNeg (3 : Int32) = 3 by decide, hb.2.1, nI_1]
    have hsg : sgM u0 D (st W 16 (upd A 3 (nI (l.length + 1)))) R (l ++ [(B.1, 1, B.2.2)]) := by
      refine ⟨?_, ⟨by rw [len_last]; omega, by rw [st_eq, upd_eq, len_last], fun k x hk => ?_⟩, fun j h1 h2 => ?_, ?_⟩
      · rw [st_eq]
        exact rwM_b hw (fun j h1 h2 => by rw [upd_ne h2])
      · rw [st_eq]
        rcases get_app hk with ⟨h1, h2⟩ | ⟨rfl, rfl⟩
        · exact bkM_c (hb.2.2 k x h2) (fun j q1 q2 => by rw [upd_ne (by omega)])
        · refine ⟨?_, ?_, ?_, ?_, fun c hc => ?_⟩
          · rw [upd_ne (by omega)]; exact hB0
          · rw [upd_ne (by omega)]; exact hB1
          · rw [upd_ne (by omega)]; exact hB2
          · rw [upd_ne (by omega)]; exact hB3
          · rw [upd_ne (by omega)]; exact hB5 c hc
      · rw [st_ne (Ne.symm h1)]
        exact hz j h1 h2
      · rw [st_ne (by omega)]
        exact hth
    obtain ⟨v, v1, v2⟩ := sends_8 (k := l.length) (x := (B.1, 1, B.2.2)) hS hM hsg hI.1 (fun t ht => (hI.2.2.2.1 t ht).2.2.2) (by rw [len_last]; omega) (bAt_last l _).symm ho hN
    rw [set_last] at v2
    have v2 : sgM u0 D v (aSendR S R B) (l ++ [aSendB S R B]) := v2
    have h4 := hS.2.2.2.1.2
    have h0 := hI.1
    have hdu := sendB_due S R B
    obtain ⟨w, w1, w2⟩ := clr_8 v2 (fun x hx => by
      rcases List.mem_append.mp hx with hx | hx
      · exact (hgl x hx).2
      · rw [List.mem_singleton.mp hx]
        omega) hN
    rw [ngone_app, ngone_id (fun x hx => (hgl x hx).1)] at w2
    rw [v1, Option.bind_some, w1, Option.bind_some]
    exact ⟨w, rfl, w2⟩
theorem noR_8 {u v : MM} {D : Int32} {S : RW} {l : List BL} {t g : Nat} {s : FL} (hS : suR S) (hM : suM u S) (hl : l.length < 60) (ht : t < S 0 0) (hg : g ≤ 60) (hq : flM u l t v s) (hi : flI S g s) (hth : u 31 0 = D + nI (aThr s.2.1)) (hgl : ∀ x ∈ l, x.2.1 ≠ 0 ∧ x.2.1 < 2 ^ 31) {N : Nat} (hN : 100 < N) : ∃ w, ((fX8_ofBlock N (nI l.length) (3 : Int32)).bind (fun y7 => (if ib y7 667 = true then ((fX8_ofTerminal N (nI t) (0 : Int32)).bind (fun y8 => ((fX8_ofTerminal N (nI t) (0 : Int32)).bind (fun y9 => (if ib y9 667 = true then (if ib y8 667 = true then ((fX8_inBlock N (nI l.length) (st (st v 16 (upd (v 16) (Int32.toNatClampNeg y7) (-9 : Int32))) 16 (upd (upd (v 16) (Int32.toNatClampNeg y7) (-9 : Int32)) (Int32.toNatClampNeg y8) ((upd (v 16) (Int32.toNatClampNeg y7) (-9 : Int32)) (Int32.toNatClampNeg y9))))).bind (fun y10 => (if y10 ≤ 0 then ((fX8_ofBlock N (nI l.length) (0 : Int32)).bind (fun y11 => (if ib y11 667 = true then ((fX8_ofBlock N (nI l.length) (3 : Int32)).bind (fun y12 => (if ib y12 667 = true then some (st (st (st (st v 16 (upd (v 16) (Int32.toNatClampNeg y7) (-9 : Int32))) 16 (upd (upd (v 16) (Int32.toNatClampNeg y7) (-9 : Int32)) (Int32.toNatClampNeg y8) ((upd (v 16) (Int32.toNatClampNeg y7) (-9 : Int32)) (Int32.toNatClampNeg y9)))) 16 (upd (upd (upd (v 16) (Int32.toNatClampNeg y7) (-9 : Int32)) (Int32.toNatClampNeg y8) ((upd (v 16) (Int32.toNatClampNeg y7) (-9 : Int32)) (Int32.toNatClampNeg y9))) (Int32.toNatClampNeg y11) (0 : Int32))) 16 (upd (upd (upd (upd (v 16) (Int32.toNatClampNeg y7) (-9 : Int32)) (Int32.toNatClampNeg y8) ((upd (v 16) (Int32.toNatClampNeg y7) (-9 : Int32)) (Int32.toNatClampNeg y9))) (Int32.toNatClampNeg y11) (0 : Int32)) (Int32.toNatClampNeg y12) (0 : Int32))) else none))) else none))) else (if ib (3 : Int32) 667 = true then (if ib (3 : Int32) 667 = true then ((fX8_sends N (nI l.length) (st (st (st v 16 (upd (v 16) (Int32.toNatClampNeg y7) (-9 : Int32))) 16 (upd (upd (v 16) (Int32.toNatClampNeg y7) (-9 : Int32)) (Int32.toNatClampNeg y8) ((upd (v 16) (Int32.toNatClampNeg y7) (-9 : Int32)) (Int32.toNatClampNeg y9)))) 16 (upd (upd (upd (v 16) (Int32.toNatClampNeg y7) (-9 : Int32)) (Int32.toNatClampNeg y8) ((upd (v 16) (Int32.toNatClampNeg y7) (-9 : Int32)) (Int32.toNatClampNeg y9))) (Int32.toNatClampNeg (3 : Int32)) (((upd (upd (v 16) (Int32.toNatClampNeg y7) (-9 : Int32)) (Int32.toNatClampNeg y8) ((upd (v 16) (Int32.toNatClampNeg y7) (-9 : Int32)) (Int32.toNatClampNeg y9))) (Int32.toNatClampNeg (3 : Int32))) + (1 : Int32))))).bind (fun y13 => ((fX8_clearsGone N y13).bind (fun y14 => some y14)))) else none) else none)))) else none) else none))))) else none))) = some w ∧ sgM u D w (if aCont (S 1 0) (t, 0, 0, 0, s.2.2) = 0 then s.2.1 else aSendR S s.2.1 (t, 0, 0, 0, s.2.2)) (l ++ ngone [if aCont (S 1 0) (t, 0, 0, 0, s.2.2) = 0 then (t, 0, 0, 0, s.2.2) else aSendB S s.2.1 (t, 0, 0, 0, s.2.2)]) := by
  have hT := hS.1
  obtain ⟨q1, q2, ⟨q3, q4, q5, q6⟩, q7⟩ := hq
  have hok : okS S (t, 0, 0, 0, s.2.2) := bkF_ok hS ht hg hi (by omega)
  rw [qb3, if_pos (ib_n (by omega) (by omega)), qt0, qt0, if_pos (ib_n (by omega) (by omega)), if_pos (ib_n (by omega) (by omega)), nI_clamp (n := 67 + 10 * l.length + 3) (by omega), nI_clamp (n := 4 + 13 * t + 0) (by omega), upd_ne (j := 4 + 13 * t + 0) (k := 67 + 10 * l.length + 3) (by omega)]
  have key : ∀ j, j ≠ 67 + 10 * l.length + 3 → upd (upd (v 16) (67 + 10 * l.length + 3) (-9 : Int32)) (4 + 13 * t + 0) (v 16 (4 + 13 * t + 0)) j = v 16 j := fun j hj => by
    by_cases e : j = 4 + 13 * t + 0
    · rw [e, upd_eq]
    · rw [upd_ne e, upd_ne hj]
  refine tl_8 (A := upd (upd (v 16) (67 + 10 * l.length + 3) (-9 : Int32)) (4 + 13 * t + 0) (v 16 (4 + 13 * t + 0))) (R := s.2.1) (B := (t, 0, 0, 0, s.2.2)) hS hM (st_eq _ _ _) ?_ ?_ hl hok rfl ?_ ?_ ?_ ?_ (fun c hc => ?_) (fun j h1 h2 => ?_) ?_ hi.1 hgl hN
  · exact rwM_b q1 (fun j h1 h2 => key j (by omega))
  · exact blM_lo q2 (key 3 (by omega)) (fun j h1 h2 => key j (by omega))
  · rw [key _ (by omega)]; exact q3
  · rw [key _ (by omega)]; exact q4
  · rw [key _ (by omega)]; exact q5
  · rw [upd_ne (by omega), upd_eq]; rfl
  · rw [key _ (by omega)]; exact q6 c hc
  · rw [st_ne (Ne.symm h1), st_ne (Ne.symm h1)]
    exact q7 j h1
  · rw [st_ne (by omega), st_ne (by omega), q7 31 (by omega)]
    exact hth
theorem yesR_8 {u v : MM} {D : Int32} {S : RW} {l : List BL} {t g : Nat} {s : FL} (hS : suR S) (hM : suM u S) (hl : l.length < 60) (ht : t < S 0 0) (hg : g ≤ 60) (hq : flM u l t v s) (hi : flI S g s) (hth : u 31 0 = D + nI (aThr s.2.1)) (hgl : ∀ x ∈ l, x.2.1 ≠ 0 ∧ x.2.1 < 2 ^ 31) {N : Nat} (hN : 100 < N) : ∃ w, ((fX8_ofBlock N (nI l.length) (3 : Int32)).bind (fun y15 => ((fX8_waitsOf N (nI t) v).bind (fun y16 => (if ib y15 667 = true then ((fX8_ofTerminal N (nI t) (0 : Int32)).bind (fun y17 => (if ib y17 667 = true then ((fX8_inBlock N (nI l.length) (st (st v 16 (upd (v 16) (Int32.toNatClampNeg y15) y16)) 16 (upd (upd (v 16) (Int32.toNatClampNeg y15) y16) (Int32.toNatClampNeg y17) (0 : Int32)))).bind (fun y18 => (if y18 ≤ 0 then ((fX8_ofBlock N (nI l.length) (0 : Int32)).bind (fun y19 => (if ib y19 667 = true then ((fX8_ofBlock N (nI l.length) (3 : Int32)).bind (fun y20 => (if ib y20 667 = true then some (st (st (st (st v 16 (upd (v 16) (Int32.toNatClampNeg y15) y16)) 16 (upd (upd (v 16) (Int32.toNatClampNeg y15) y16) (Int32.toNatClampNeg y17) (0 : Int32))) 16 (upd (upd (upd (v 16) (Int32.toNatClampNeg y15) y16) (Int32.toNatClampNeg y17) (0 : Int32)) (Int32.toNatClampNeg y19) (0 : Int32))) 16 (upd (upd (upd (upd (v 16) (Int32.toNatClampNeg y15) y16) (Int32.toNatClampNeg y17) (0 : Int32)) (Int32.toNatClampNeg y19) (0 : Int32)) (Int32.toNatClampNeg y20) (0 : Int32))) else none))) else none))) else (if ib (3 : Int32) 667 = true then (if ib (3 : Int32) 667 = true then ((fX8_sends N (nI l.length) (st (st (st v 16 (upd (v 16) (Int32.toNatClampNeg y15) y16)) 16 (upd (upd (v 16) (Int32.toNatClampNeg y15) y16) (Int32.toNatClampNeg y17) (0 : Int32))) 16 (upd (upd (upd (v 16) (Int32.toNatClampNeg y15) y16) (Int32.toNatClampNeg y17) (0 : Int32)) (Int32.toNatClampNeg (3 : Int32)) (((upd (upd (v 16) (Int32.toNatClampNeg y15) y16) (Int32.toNatClampNeg y17) (0 : Int32)) (Int32.toNatClampNeg (3 : Int32))) + (1 : Int32))))).bind (fun y21 => ((fX8_clearsGone N y21).bind (fun y22 => some y22)))) else none) else none)))) else none))) else none))))) = some w ∧ sgM u D w (if aCont (S 1 0) (bkF S t s) = 0 then au s.2.1 3 t 0 else aSendR S (au s.2.1 3 t 0) (bkF S t s)) (l ++ ngone [if aCont (S 1 0) (bkF S t s) = 0 then bkF S t s else aSendB S (au s.2.1 3 t 0) (bkF S t s)]) := by
  have hT := hS.1
  have hMv : suM v S := suM_c hM (fun j h1 h2 => hq.2.2.2 j (by omega))
  obtain ⟨q1, q2, ⟨q3, q4, q5, q6⟩, q7⟩ := hq
  have i1 := hi.1
  have hw := wt_le (t := t) hS i1
  have hok : okS S (bkF S t s) := bkF_ok hS ht hg hi (by omega)
  rw [qb3, wt_8 hS hMv q1 hN (by omega), Option.bind_some, if_pos (ib_n (by omega) (by omega)), qt0, if_pos (ib_n (by omega) (by omega)), nI_clamp (n := 67 + 10 * l.length + 3) (by omega), nI_clamp (n := 4 + 13 * t + 0) (by omega)]
  refine tl_8 (A := upd (upd (v 16) (67 + 10 * l.length + 3) (nI (sWt S s.2.1 t))) (4 + 13 * t + 0) (0 : Int32)) (R := au s.2.1 3 t 0) (B := bkF S t s) hS hM (st_eq _ _ _) ?_ ?_ hl hok rfl ?_ ?_ ?_ ?_ (fun c hc => ?_) (fun j h1 h2 => ?_) ?_ ?_ hgl hN
  · have e1 : rwM (upd (v 16) (67 + 10 * l.length + 3) (nI (sWt S s.2.1 t))) s.2.1 := rwM_b q1 (fun j h1 h2 => by rw [upd_ne (by omega)])
    exact rwM_1 (k := 0) (t := t) (x := 0) e1 (by omega) (by omega)
  · exact blM_lo q2 (by rw [upd_ne (by omega), upd_ne (by omega)]) (fun j h1 h2 => by rw [upd_ne (by omega), upd_ne (by omega)])
  · rw [upd_ne (by omega), upd_ne (by omega)]; exact q3
  · rw [upd_ne (by omega), upd_ne (by omega)]; exact q4
  · rw [upd_ne (by omega), upd_ne (by omega)]; exact q5
  · rw [upd_ne (by omega), upd_eq]; rfl
  · rw [upd_ne (by omega), upd_ne (by omega)]; exact q6 c hc
  · rw [st_ne (Ne.symm h1), st_ne (Ne.symm h1)]
    exact q7 j h1
  · rw [st_ne (by omega), st_ne (by omega), q7 31 (by omega), hth]
    exact congrArg (fun n => D + nI n) (thr_row (au_row (by omega))).symm
  · exact rwI_up i1 (by omega) (by omega) (by omega) (by omega) (by omega) (by omega) (by omega) (by omega) (by omega) (by omega)
theorem zb_8 {u : MM} {k : Nat} {x1 x2 : Int32} (hk : k < 60) {N : Nat} (hN : 100 < N) : ∃ v, (∀ K, fX8_packs_L10 N K x1 x2 (nI k) N (0 : Int32) u = K (nI 10) v) ∧ (∀ j, j ≠ 16 → v j = u j) ∧ (∀ e, e < 10 → v 16 (67 + 10 * k + e) = nI 0) ∧ ∀ j, (j < 67 + 10 * k ∨ 67 + 10 * k + 10 ≤ j) → v 16 j = u 16 j := by
  obtain ⟨v, p, e⟩ := lp_all (fun K n i (v : MM) => fX8_packs_L10 N K x1 x2 (nI k) n (nI i) v) (fun K v => K (nI 10) v) 10 (fun i v => (∀ j, j ≠ 16 → v j = u j) ∧ (∀ e, e < i → v 16 (67 + 10 * k + e) = nI 0) ∧ ∀ j, (j < 67 + 10 * k ∨ 67 + 10 * k + 10 ≤ j) → v 16 j = u 16 j)
    (fun K n v hv => by
      show fX8_packs_L10 N K x1 x2 (nI k) (n + 1) (nI 10) v = _
      rw [fX8_packs_L10, if_pos (show (10 : Int32) ≤ nI 10 by decide)])
    (fun n i v hi hv => by
      obtain ⟨v1, v2, v3⟩ := hv
      refine ⟨st v 16 (upd (v 16) (67 + 10 * k + i) (0 : Int32)), ⟨fun j hj => ?_, fun e he => ?_, fun j hj => ?_⟩, fun K => ?_⟩
      · rw [st_ne (Ne.symm hj)]
        exact v1 j hj
      · rw [st_eq]
        by_cases q : e = i
        · rw [q, upd_eq]
          rfl
        · rw [upd_ne (by omega)]
          exact v2 e (by omega)
      · rw [st_eq, upd_ne (by omega)]
        exact v3 j hj
      · show fX8_packs_L10 N K x1 x2 (nI k) (n + 1) (nI i) v = _
        rw [fX8_packs_L10, if_neg (show ¬ (10 : Int32) ≤ nI i from nI_ge (b := 10) hi (by omega)), qbn, if_pos (ib_n (by omega) (by omega)), nI_clamp (by omega), nI_1]) 10 N 0 u (by omega) (by omega) ⟨fun _ _ => rfl, fun e he => absurd he (by omega), fun _ _ => rfl⟩
  exact ⟨v, e, p⟩
theorem packs_8 {u0 u : MM} {D : Int32} {S r : RW} {l : List BL} {t g : Nat} (hS : suR S) (hM : suM u0 S) (hsg : sgM u0 D u r l) (hI : rwI S r) (hl : l.length < 60) (hgl : ∀ x ∈ l, x.2.1 ≠ 0 ∧ x.2.1 < 2 ^ 31) (ht : t < S 0 0) (hg : g ≤ 60) {N : Nat} (hN : 100 < N) : ∃ w, fX8_packs N (nI t) (nI g) u = some w ∧ sgM u0 D w (aPut S r t g) (l ++ ngone [aPutB S r t g]) := by
  have hT := hS.1
  obtain ⟨g1, g2, g3, g4⟩ := hsg
  have hMu : suM u S := suM_c hM (fun j h1 h2 => g3 j (by omega) (by omega))
  have h3 := (hI.2.2.2.1 t (by omega)).1
  have hfr : aFree r t g ≤ 60 := by
    unfold aFree
    split <;> omega
  obtain ⟨z, z1, z2, z3, z4⟩ := zb_8 (u := u) (k := l.length) (x1 := nI t) (x2 := nI g) hl hN
  obtain ⟨v, hv⟩ : ∃ v, v = st z 16 (upd (z 16) (67 + 10 * l.length + 0) (nI t)) := ⟨_, rfl⟩
  have vlo : ∀ j, j < 67 → v 16 j = u 16 j := fun j hj => by rw [hv, st_eq, upd_ne (by omega), z4 j (by omega)]
  have vo : ∀ j, j ≠ 16 → v j = u j := fun j hj => by rw [hv, st_ne (Ne.symm hj), z2 j hj]
  have f0 : flM u l t v (aFree r t g, r, fun _ => 0) := by
    refine ⟨rwM_b g1 (fun j h1 h2 => vlo j h1), blM_lo g2 (vlo 3 (by omega)) (fun j h1 h2 => ?_), ⟨?_, ?_, ?_, fun c hc => ?_⟩, vo⟩
    · rw [hv, st_eq, upd_ne (by omega), z4 j (by omega)]
    · rw [hv, st_eq]
      exact upd_eq _ _ _
    · rw [hv, st_eq, upd_ne (by omega)]
      exact z3 1 (by omega)
    · rw [hv, st_eq, upd_ne (by omega)]
      exact z3 2 (by omega)
    · rw [hv, st_eq, upd_ne (by omega)]
      exact z3 (4 + c) (by omega)
  have k0 := flI_0 (g := aFree r t g) hI
  obtain ⟨y1, p1, y1e, f1⟩ := fills_8 (bt := true) (x4 := (1 : Int32)) hS hMu hl hfr (by omega) (Or.inr ⟨rfl, rfl⟩) f0 k0 hN
  have k1 := fill_I (t := t) (bt := true) k0
  have l1 := fill_le (S := S) (t := t) (bt := true) (s := (aFree r t g, r, fun _ => 0))
  obtain ⟨s1, hs1⟩ : ∃ s1, s1 = aFill S t true (aFree r t g, r, fun _ => 0) := ⟨_, rfl⟩
  rw [← hs1] at y1e f1 k1 l1
  have p1 : fX8_fills N (nI l.length) (nI t) (nI (aFree r t g)) (1 : Int32) v = some y1 := p1
  have y1e : y1.1 = nI (aFree r t g - s1.1) := y1e
  have l1 : s1.1 ≤ aFree r t g := l1
  obtain ⟨y2, p2, y2e, f2⟩ := fills_8 (bt := false) (x4 := (0 : Int32)) hS hMu hl hfr (by omega) (Or.inl ⟨rfl, rfl⟩) f1 k1 hN
  have k2 := fill_I (t := t) (bt := false) k1
  have l2 := fill_le (S := S) (t := t) (bt := false) (s := s1)
  obtain ⟨s, hs⟩ : ∃ s, s = aPk S r t g := ⟨_, rfl⟩
  have hs' : aFill S t false s1 = s := by rw [hs, hs1]; rfl
  rw [hs'] at f2 k2 y2e l2
  have e1 : nI (aFree r t g) - nI (aFree r t g - s1.1) = nI s1.1 := by rw [pk_sub (by omega)]; congr 1; omega
  have e2 : nI s1.1 - nI (s1.1 - s.1) = nI s.1 := by rw [pk_sub (by omega)]; congr 1; omega
  have hth : u 31 0 = D + nI (aThr s.2.1) := by
    rw [g4]
    exact congrArg (fun n => D + nI n) (thr_row (by rw [hs, pk_row (by omega)])).symm
  have wrap : ∀ {w : MM} {R : RW} {L : List BL}, sgM u D w R L → sgM u0 D w R L := fun h => ⟨h.1, h.2.1, fun j h1 h2 => (h.2.2.1 j h1 h2).trans (g3 j h1 h2), h.2.2.2⟩
  have hfree : aRep S r t g ↔ ((r 3 t = 1 ∧ 2 ≤ g) ∨ 2 ≤ s.1) := by rw [hs]
  have hss : s.1 ≤ 60 := by omega
  have yes := yesR_8 (D := D) hS hMu hl ht hfr f2 k2 hth hgl hN
  have no := noR_8 (D := D) hS hMu hl ht hfr f2 k2 hth hgl hN
  have ye : aRep S r t g → (aPut S r t g = (if aCont (S 1 0) (bkF S t s) = 0 then au s.2.1 3 t 0 else aSendR S (au s.2.1 3 t 0) (bkF S t s)) ∧ aPutB S r t g = (if aCont (S 1 0) (bkF S t s) = 0 then bkF S t s else aSendB S (au s.2.1 3 t 0) (bkF S t s))) := by
    intro hr
    have e1 : aPackR S r t g = au s.2.1 3 t 0 := by
      unfold aPackR
      rw [if_pos hr, hs]
    have e2 : aPackB S r t g = bkF S t s := by
      unfold aPackB bkF
      rw [if_pos hr, hs]
    unfold aPut aPutB
    rw [e1, e2]
    exact ⟨rfl, rfl⟩
  have ne : ¬ aRep S r t g → (aPut S r t g = (if aCont (S 1 0) (t, 0, 0, 0, s.2.2) = 0 then s.2.1 else aSendR S s.2.1 (t, 0, 0, 0, s.2.2)) ∧ aPutB S r t g = (if aCont (S 1 0) (t, 0, 0, 0, s.2.2) = 0 then (t, 0, 0, 0, s.2.2) else aSendB S s.2.1 (t, 0, 0, 0, s.2.2))) := by
    intro hr
    have e1 : aPackR S r t g = s.2.1 := by
      unfold aPackR
      rw [if_neg hr, hs]
    have e2 : aPackB S r t g = (t, 0, 0, 0, s.2.2) := by
      unfold aPackB
      rw [if_neg hr, hs]
    unfold aPut aPutB
    rw [e1, e2]
    exact ⟨rfl, rfl⟩
  have w0 : upd (z 16) (67 + 10 * l.length + 0) (nI t) (4 + 13 * t + 0) = nI (r 3 t) := by
    rw [upd_ne (by omega), z4 _ (by omega)]
    exact g1.2.2.2.1 0 t (by omega) (by omega)
  unfold fX8_packs
  rw [if_pos (show ib (3 : Int32) 667 = true by decide), show Int32.toNatClampNeg (3 : Int32) = 3 by decide, g2.2.1, z1, qb0, if_pos (ib_n (by omega) (by omega)), qt0, if_pos (ib_n (by omega) (by omega)), nI_clamp (n := 67 + 10 * l.length + 0) (by omega), nI_clamp (n := 4 + 13 * t + 0) (by omega), w0, ← hv]
  by_cases e3 : r 3 t = 1
  · rw [if_pos (show nI (r 3 t) = (1 : Int32) by rw [e3]; rfl)]
    by_cases q2 : g ≤ 1
    · have hg2 : aFree r t g = g := by
        unfold aFree
        rw [if_neg (by omega)]
      rw [hg2] at p1 e1 y1e
      rw [if_pos (show nI g ≤ (1 : Int32) from nI_le (b := 1) q2 (by omega)), p1, Option.bind_some, y1e, e1, p2, Option.bind_some, y2e, e2]
      by_cases e4 : s.1 ≤ 1
      · obtain ⟨n1, n2⟩ := ne (fun q => by rw [hfree] at q; omega)
        rw [if_pos (show nI s.1 ≤ (1 : Int32) from nI_le (b := 1) e4 (by omega)), n1, n2]
        obtain ⟨w, a1, a2⟩ := no
        exact ⟨w, a1, wrap a2⟩
      · obtain ⟨n1, n2⟩ := ye (hfree.mpr (Or.inr (by omega)))
        rw [if_neg (show ¬ nI s.1 ≤ (1 : Int32) from nI_ge (a := 1) (by omega) (by omega)), n1, n2]
        obtain ⟨w, a1, a2⟩ := yes
        exact ⟨w, a1, wrap a2⟩
    · have hg2 : aFree r t g = g - 2 := by
        unfold aFree
        rw [if_pos (by omega)]
      rw [hg2] at p1 e1 y1e
      obtain ⟨n1, n2⟩ := ye (hfree.mpr (Or.inl (by omega)))
      rw [if_neg (show ¬ nI g ≤ (1 : Int32) from nI_ge (a := 1) (by omega) (by omega)), show nI g - (2 : Int32) = nI (g - 2) from pk_sub (b := 2) (by omega), p1, Option.bind_some, y1e, e1, p2, Option.bind_some, n1, n2]
      obtain ⟨w, a1, a2⟩ := yes
      exact ⟨w, a1, wrap a2⟩
  · have hg2 : aFree r t g = g := by
      unfold aFree
      rw [if_neg (by omega)]
    rw [hg2] at p1 e1 y1e
    rw [if_neg (show ¬ nI (r 3 t) = (1 : Int32) from fun q => e3 ((nI_eq (b := 1) (by omega) (by omega)).mp q)), p1, Option.bind_some, y1e, e1, p2, Option.bind_some, y2e, e2]
    by_cases e4 : s.1 ≤ 1
    · obtain ⟨n1, n2⟩ := ne (fun q => by rw [hfree] at q; omega)
      rw [if_pos (show nI s.1 ≤ (1 : Int32) from nI_le (b := 1) e4 (by omega)), n1, n2]
      obtain ⟨w, a1, a2⟩ := no
      exact ⟨w, a1, wrap a2⟩
    · obtain ⟨n1, n2⟩ := ye (hfree.mpr (Or.inr (by omega)))
      rw [if_neg (show ¬ nI s.1 ≤ (1 : Int32) from nI_ge (a := 1) (by omega) (by omega)), n1, n2]
      obtain ⟨w, a1, a2⟩ := yes
      exact ⟨w, a1, wrap a2⟩
