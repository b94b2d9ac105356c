/-! how long till nothing waits, the least room -/
theorem lp_sum2 {ρ : Type} (L : Nat → Int32 → Int32 → Option ρ) (k : Int32 → Int32 → Option ρ) (e a0 : Nat) (g : Nat → Nat) (hx : ∀ n acc, L (n + 1) acc (nI e) = k acc (nI e)) (hs : ∀ n i acc, i < e → L (n + 1) acc (nI i) = L n (acc + nI (g i)) (nI (i + 1))) {N : Nat} (hN : e < N) : L N (nI a0) (0 : Int32) = k (nI (a0 + smN g e)) (nI e) := by
  obtain ⟨y, hy, h⟩ := lp_run (fun n i acc => L n acc (nI i)) (fun acc => k acc (nI e)) e (fun i acc => acc = nI (a0 + smN g i)) (fun n acc _ => hx n acc) (fun n i acc hi ha => ⟨acc + nI (g i), by rw [ha, nI_add, Nat.add_assoc]; rfl, hs n i acc hi⟩) e N 0 (nI a0) (by omega) hN rfl
  rw [hy] at h
  exact h
/-- nothing waits, nothing is on the way -/
def aDr (z : AS) : Prop := z.2.length + smN (z.1 9) 6 = 0
theorem wts_le {S r : RW} (hS : suR S) (h : rwI S r) : smN (r 9) 6 ≤ 6 * 999 ∧ smN (r 9) (S 1 0) = smN (r 9) 6 := by
  have hC := hS.2.1
  constructor
  · refine smN_le 6 (fun c hc => ?_)
    by_cases e : c < S 1 0
    · exact (h.2.2.2.2.1 c e).1
    · rw [h.2.2.2.2.2 9 c (by omega) (by omega) (by omega)]
      omega
  · have h1 := smN_more (f := r 9) (S 1 0) (6 - S 1 0) (fun i h1 _ => h.2.2.2.2.2 9 i (by omega) (by omega) h1)
    rw [show S 1 0 + (6 - S 1 0) = 6 by omega] at h1
    exact h1.symm
theorem isdr_7 {a b : MM} {S : RW} {z : AS} (hS : suR S) (hc : stC a b z) (hI : stI S z) {N : Nat} (hN : 100 < N) : (aDr z → fX4_isDrained N b a = some 1) ∧ (¬ aDr z → fX4_isDrained N b a = some 0) := by
  have h60 := hc.2.1
  have hw := (wts_le hS hI.1).1
  have h : fX4_isDrained N b a = if nI (z.2.length + smN (z.1 9) 6) = 0 then some 1 else some 0 := by
    unfold fX4_isDrained
    rw [hc.2.2.1]
    exact lp_sum2 (fun n acc i => fX4_isDrained_L10 N (fun (x1_1 : Int32) (x2_1 : Int32) => (if x1_1 = 0 then some (1 : Int32) else some (0 : Int32))) b a n acc i) (fun x1_1 _ => (if x1_1 = 0 then some (1 : Int32) else some (0 : Int32))) 6 z.2.length (z.1 9)
      (fun n acc => by
        show fX4_isDrained_L10 N _ b a (n + 1) acc (nI 6) = _
        rw [fX4_isDrained_L10, if_pos (show (6 : Int32) ≤ nI 6 by decide)])
      (fun n i acc hi => by
        show fX4_isDrained_L10 N _ b a (n + 1) acc (nI i) = _
        rw [fX4_isDrained_L10, if_neg (show ¬ (6 : Int32) ≤ nI i from nI_ge (b := 6) hi (by omega)), if_pos (ib_n (by omega) (by omega)), nI_clamp (by omega), hc.1.2.2.2.2.1 9 i (by omega) (by omega) hi, nI_1]) (by omega)
  rw [h]
  unfold aDr
  constructor
  · intro e
    rw [e, if_pos (show nI 0 = (0 : Int32) from rfl)]
  · intro e
    rw [if_neg (nI_ne0 (by omega) (by omega))]
theorem isdr_8 {u : MM} {S : RW} {z : AS} (hS : suR S) (hM : suM u S) (hc : stM (u 16) z) (hI : stI S z) {N : Nat} (hN : 100 < N) : (aDr z → fX8_isDrained N u = some 1) ∧ (¬ aDr z → fX8_isDrained N u = some 0) := by
  have h60 := hc.2.1
  have hC := hS.2.1
  have hw := wts_le hS hI.1
  have h : fX8_isDrained N u = if nI (z.2.length + smN (z.1 9) (S 1 0)) = 0 then some 1 else some 0 := by
    unfold fX8_isDrained
    rw [if_pos (show ib (3 : Int32) 667 = true by decide), show Int32.toNatClampNeg (3 : Int32) = 3 by decide, hc.2.2.1]
    exact lp_sum2 (fun n acc i => fX8_isDrained_L9 N (fun (x1_1 : Int32) (x2_1 : Int32) => (if x1_1 = 0 then some (1 : Int32) else some (0 : Int32))) u n acc i) (fun x1_1 _ => (if x1_1 = 0 then some (1 : Int32) else some (0 : Int32))) (S 1 0) z.2.length (z.1 9)
      (fun n acc => by
        show fX8_isDrained_L9 N _ u (n + 1) acc (nI (S 1 0)) = _
        rw [fX8_isDrained_L9, hM.2.1, if_pos (nI_le (Nat.le_refl _) (by omega))])
      (fun n i acc hi => by
        have t9 : u 16 (43 + 4 * i + 0) = nI (z.1 9 i) := hc.1.2.2.2.2.1 0 i (by omega) (by omega)
        show fX8_isDrained_L9 N _ u (n + 1) acc (nI i) = _
        rw [fX8_isDrained_L9, hM.2.1, if_neg (nI_ge hi (by omega)), qc0, if_pos (ib_n (by omega) (by omega)), nI_clamp (by omega), t9, nI_1]) (by omega)
  rw [h, hw.2]
  unfold aDr
  constructor
  · intro e
    rw [e, if_pos (show nI 0 = (0 : Int32) from rfl)]
  · intro e
    rw [if_neg (nI_ne0 (by omega) (by omega))]
/-- the answer to: how many steps, m at most -/
def isDrn (S : RW) (z : AS) (m : Nat) (x : Int32) : Prop := (∃ i, i ≤ m ∧ aDr (aOn S z i) ∧ (∀ j, j < i → ¬ aDr (aOn S z j)) ∧ x = nI i) ∨ ((∀ j, j ≤ m → ¬ aDr (aOn S z j)) ∧ x = nM9)
theorem drn_un {S : RW} {z : AS} {m : Nat} {x y : Int32} (hx : isDrn S z m x) (hy : isDrn S z m y) : x = y := by
  rcases hx with ⟨i, a1, a2, a3, rfl⟩ | ⟨a1, rfl⟩
  · rcases hy with ⟨j, b1, b2, b3, rfl⟩ | ⟨b1, rfl⟩
    · rcases Nat.lt_trichotomy i j with q | q | q
      · exact absurd a2 (b3 i q)
      · rw [q]
      · exact absurd b2 (a3 j q)
    · exact absurd a2 (b1 i a1)
  · rcases hy with ⟨j, b1, b2, b3, rfl⟩ | ⟨b1, rfl⟩
    · exact absurd b2 (a1 j b1)
    · rfl
theorem drn_none {S : RW} {z : AS} {m : Nat} {x : Int32} (hm : m < 2 ^ 30) (hx : isDrn S z m x) : x = nM9 ↔ ∀ j, j ≤ m → ¬ aDr (aOn S z j) := by
  rcases hx with ⟨i, a1, a2, a3, rfl⟩ | ⟨a1, rfl⟩
  · exact ⟨fun q => absurd q (n_m9 (by omega)), fun q => absurd a2 (q i a1)⟩
  · exact ⟨fun _ => a1, fun _ => rfl⟩
theorem dw_7 {v a b w : MM} {S : RW} {z : AS} {m : Nat} (hS : suR S) (hv : suC v S) (hc : stC a b z) (hI : stI S z) (hm : z.1 0 0 + m + 1 ≤ 400) {N : Nat} (hN : 500 < N) : ∃ y, fX5_drainedWithin N (nI m) v a b w = some y ∧ isDrn S z m y.1 := by
  unfold fX5_drainedWithin
  refine lp_any (fun n i (q : MM × MM × MM) => fX5_drainedWithin_L2 N (fun (x2_3 : Int32) (v1_3 : MM) (v2_3 : MM) (v3_3 : MM) => some ((-9 : Int32), v1_3, v2_3, v3_3)) (nI m) v n (nI i) q.1 q.2.1 q.2.2) (fun res => ∃ y, res = some y ∧ isDrn S z m y.1) (m + 1) (fun i q => stC q.1 q.2.1 (aOn S z i) ∧ ∀ j, j < i → ¬ aDr (aOn S z j)) (fun n q hq => ?_) (fun n i q hi hq => ?_) (m + 1) N 0 (a, b, w) (by omega) (by omega) ⟨hc, fun j hj => absurd hj (by omega)⟩
  · refine ⟨((-9 : Int32), q.1, q.2.1, q.2.2), ?_, Or.inr ⟨fun j hj => hq.2 j (by omega), rfl⟩⟩
    show fX5_drainedWithin_L2 N _ (nI m) v (n + 1) (nI (m + 1)) q.1 q.2.1 q.2.2 = _
    rw [fX5_drainedWithin_L2, if_pos (nI_lt (by omega) (by omega))]
  · obtain ⟨q1, q2⟩ := hq
    obtain ⟨i1, i2⟩ := on_I hS hI i (by omega)
    have hd := isdr_7 hS q1 i1 (show 100 < N by omega)
    by_cases e : aDr (aOn S z i)
    · left
      refine ⟨(nI i, q.1, q.2.1, q.2.2), ?_, Or.inl ⟨i, by omega, e, q2, rfl⟩⟩
      show fX5_drainedWithin_L2 N _ (nI m) v (n + 1) (nI i) q.1 q.2.1 q.2.2 = _
      rw [fX5_drainedWithin_L2, if_neg (nI_nlt (by omega) (by omega)), hd.1 e, Option.bind_some, if_neg (show ¬ (1 : Int32) = 0 by decide)]
    · right
      obtain ⟨p, p1, p2, p3⟩ := steps_7 (w := q.2.2) (m := 1) hS hv q1 i1 (by omega) hN
      have p1 : fX5_takeSteps N (1 : Int32) v q.1 q.2.1 q.2.2 = some p := p1
      refine ⟨p.2, ⟨p3, fun j hj => ?_⟩, ?_⟩
      · by_cases w : j = i
        · rw [w]; exact e
        · exact q2 j (by omega)
      · show fX5_drainedWithin_L2 N _ (nI m) v (n + 1) (nI i) q.1 q.2.1 q.2.2 = _
        rw [fX5_drainedWithin_L2, if_neg (nI_nlt (by omega) (by omega)), hd.2 e, Option.bind_some, if_pos rfl, p1, Option.bind_some, nI_1]
theorem dw_8 {u0 u : MM} {D : Int32} {S : RW} {z : AS} {m : Nat} (hS : suR S) (hM : suM u0 S) (hg : sgM u0 D u z.1 z.2) (hI : stI S z) (hm : z.1 0 0 + m + 1 ≤ 400) {N : Nat} (hN : 500 < N) : ∃ y, fX8_drains N (nI m) u = some y ∧ isDrn S z m y.1 ∧ ∀ j, j ≠ 16 → j ≠ 31 → y.2 j = u0 j := by
  unfold fX8_drains
  refine lp_any (fun n i (q : MM) => fX8_drains_L2 N (fun (x2_3 : Int32) (v0_3 : MM) => some ((-9 : Int32), v0_3)) (nI m) n (nI i) q) (fun res => ∃ y, res = some y ∧ isDrn S z m y.1 ∧ ∀ j, j ≠ 16 → j ≠ 31 → y.2 j = u0 j) (m + 1) (fun i q => sgM u0 D q (aOn S z i).1 (aOn S z i).2 ∧ ∀ j, j < i → ¬ aDr (aOn S z j)) (fun n q hq => ?_) (fun n i q hi hq => ?_) (m + 1) N 0 u (by omega) (by omega) ⟨hg, fun j hj => absurd hj (by omega)⟩
  · refine ⟨((-9 : Int32), q), ?_, Or.inr ⟨fun j hj => hq.2 j (by omega), rfl⟩, hq.1.2.2.1⟩
    show fX8_drains_L2 N _ (nI m) (n + 1) (nI (m + 1)) q = _
    rw [fX8_drains_L2, if_pos (nI_lt (by omega) (by omega))]
  · obtain ⟨q1, q2⟩ := hq
    obtain ⟨i1, i2⟩ := on_I hS hI i (by omega)
    have hd := isdr_8 hS (sg_su hM q1) ⟨q1.1, q1.2.1⟩ i1 (show 100 < N by omega)
    by_cases e : aDr (aOn S z i)
    · left
      refine ⟨(nI i, q), ?_, Or.inl ⟨i, by omega, e, q2, rfl⟩, q1.2.2.1⟩
      show fX8_drains_L2 N _ (nI m) (n + 1) (nI i) q = _
      rw [fX8_drains_L2, if_neg (nI_nlt (by omega) (by omega)), hd.1 e, Option.bind_some, if_neg (show ¬ (1 : Int32) = 0 by decide)]
    · right
      obtain ⟨p, p1, p2⟩ := st1_8 hS hM hI (by omega) q1 (show 100 < N by omega)
      refine ⟨p, ⟨p2, fun j hj => ?_⟩, ?_⟩
      · by_cases w : j = i
        · rw [w]; exact e
        · exact q2 j (by omega)
      · show fX8_drains_L2 N _ (nI m) (n + 1) (nI i) q = _
        rw [fX8_drains_L2, if_neg (nI_nlt (by omega) (by omega)), hd.2 e, Option.bind_some, if_pos rfl, p1, Option.bind_some, nI_1]
theorem sm_drain (cv : Nat → MM) (u : MM) (h : RR cv u) : ∃ (y : Int32 × MM × MM × MM) (z : Int32 × MM), fX7_drain NF (cv 2) (cv 4) (cv 5) (cv 6) (cv 7) (cv 9) (cv 0) = some y ∧ fX8_drain NF u = some z ∧ y.1 = z.1 ∧ RR (up (up (up cv 6 y.2.1) 7 y.2.2.1) 9 y.2.2.2) z.2 := by
  have hR := h
  obtain ⟨ht, hs, S, sR, sC, sM, h0, hh, h1, h2⟩ := id h
  obtain ⟨z, z1, z2, z3, z4⟩ := id h0
  unfold fX7_drain fX8_drain
  obtain ⟨y, y1, y2⟩ := cp_st NF (cv 7) (cv 6) (cv 4) (cv 5)
  obtain ⟨p, p1, p2⟩ := dw_7 (w := cv 9) (m := 100) (N := NF) sR sC (y2 z z1) z3 (by omega) (by decide)
  have p1 : fX5_drainedWithin NF (100 : Int32) (cv 2) y.2 y.1 (cv 9) = some p := p1
  obtain ⟨m, m1, m2, m3⟩ := cp_8 (a := 0) (b := 0) (n0 := 667) (n1 := 667) (N := NF) (by decide) (by omega) (by omega) (by omega) (by omega) (u 16) (u 21)
  have m1 : fX8_copies NF (0 : Int32) (0 : Int32) 667 667 (u 16) (u 21) = some m := m1
  obtain ⟨U, hU⟩ : ∃ U, U = st (st u 0 (fun _ => (0 : Int32))) 21 m := ⟨_, rfl⟩
  have U16 : U 16 = u 16 := by rw [hU, st_ne (by omega), st_ne (by omega)]
  have U21 : U 21 = m := by rw [hU, st_eq]
  have Uo : ∀ j, j ≠ 0 → j ≠ 21 → U j = u j := fun j j1 j2 => by rw [hU, st_ne (Ne.symm j2), st_ne (Ne.symm j1)]
  have hM' : suM U S := suM_c sM (fun j j1 j2 => Uo j (by omega) (by omega))
  have hg0 := sgM_0 (u := U) (z := z) (by rw [U16]; exact z2)
  obtain ⟨q, q1, q2, q3⟩ := dw_8 (m := 100) (N := NF) sR hM' hg0 z3 (by omega) (by decide)
  have q1 : fX8_drains NF (100 : Int32) U = some q := q1
  have q21 : q.2 21 = m := by rw [q3 21 (by omega) (by omega), U21]
  obtain ⟨m', n1, n2, n3⟩ := cp_8 (a := 0) (b := 0) (n0 := 667) (n1 := 667) (N := NF) (by decide) (by omega) (by omega) (by omega) (by omega) (q.2 21) (q.2 16)
  have n1 : fX8_copies NF (0 : Int32) (0 : Int32) 667 667 (q.2 21) (q.2 16) = some m' := n1
  have hback : ∀ j, j < 667 → m' j = u 16 j := fun j hj => by
    have a1 := n2 j hj
    have a2 := m2 j hj
    rw [Nat.zero_add] at a1 a2
    rw [a1, q21, a2]
  rw [y1, Option.bind_some, p1, Option.bind_some, m1, Option.bind_some, ← hU, q1, Option.bind_some, n1, Option.bind_some]
  refine ⟨_, _, rfl, rfl, drn_un p2 q2, rr_try hR (fun k k1 k2 k3 k4 => ?_) (fun j hj => ?_)⟩
  · show st q.2 16 m' k = u k
    rw [st_ne (by omega), q3 k (by omega) (by omega), Uo k (by omega) (by omega)]
  · show st q.2 16 m' 16 j = u 16 j
    rw [st_eq]
    exact hback j hj
/-- another room -/
def aRm (z : AS) (r : Nat) : AS := (au z.1 1 0 r, z.2)
theorem rm_now (z : AS) (r : Nat) : (aRm z r).1 0 0 = z.1 0 0 := by
  show au z.1 1 0 r 0 0 = _
  exact au_ne (Or.inl (by omega))
theorem rm_I {S : RW} {z : AS} {r : Nat} (h : stI S z) (hr : r ≤ 60) : stI S (aRm z r) := by
  obtain ⟨h1, h2, h3⟩ := h
  refine ⟨rwI_up h1 (by omega) (by omega) (by omega) (by omega) (by omega) (by omega) (by omega) (by omega) (by omega) (by omega), ?_, h3⟩
  show ∀ x ∈ z.2, _
  rw [rm_now]
  exact h2
/-- the least room -/
def isEn (S : RW) (z : AS) (m : Nat) (x : Int32) : Prop := (∃ i, i ≤ 60 ∧ ¬ (∀ j, j ≤ m → ¬ aDr (aOn S (aRm z i) j)) ∧ (∀ i', i' < i → ∀ j, j ≤ m → ¬ aDr (aOn S (aRm z i') j)) ∧ x = nI i) ∨ ((∀ i', i' ≤ 60 → ∀ j, j ≤ m → ¬ aDr (aOn S (aRm z i') j)) ∧ x = nM9)
theorem en_un {S : RW} {z : AS} {m : Nat} {x y : Int32} (hx : isEn S z m x) (hy : isEn S z m y) : x = y := by
  rcases hx with ⟨i, a1, a2, a3, rfl⟩ | ⟨a1, rfl⟩
  · rcases hy with ⟨j, b1, b2, b3, rfl⟩ | ⟨b1, rfl⟩
    · rcases Nat.lt_trichotomy i j with q | q | q
      · exact absurd (b3 i q) a2
      · rw [q]
      · exact absurd (a3 j q) b2
    · exact absurd (b1 i a1) a2
  · rcases hy with ⟨j, b1, b2, b3, rfl⟩ | ⟨b1, rfl⟩
    · exact absurd (a1 j b1) b2
    · rfl
theorem en_7 {v a b w tb ta v6 : MM} {S : RW} {z : AS} {m : Nat} (hS : suR S) (hv : suC v S) (hc : stC a b z) (hI : stI S z) (hm : z.1 0 0 + m + 1 ≤ 400) {N : Nat} (hN : 500 < N) : ∃ y, fX7_enough_L14 N (fun (x2_4 : Int32) (v3_4 : MM) (v4_4 : MM) (v5_4 : MM) => some ((-9 : Int32), v3_4, v4_4, v5_4)) (nI m) v a b v6 N (0 : Int32) ta tb w = some y ∧ isEn S z m y.1 := by
  refine lp_any (fun n i (q : MM × MM × MM) => fX7_enough_L14 N (fun (x2_4 : Int32) (v3_4 : MM) (v4_4 : MM) (v5_4 : MM) => some ((-9 : Int32), v3_4, v4_4, v5_4)) (nI m) v a b v6 n (nI i) q.1 q.2.1 q.2.2) (fun res => ∃ y, res = some y ∧ isEn S z m y.1) 61 (fun i q => ∀ i', i' < i → ∀ j, j ≤ m → ¬ aDr (aOn S (aRm z i') j)) (fun n q hq => ?_) (fun n i q hi hq => ?_) 61 N 0 (ta, tb, w) (by omega) (by omega) (fun j hj => absurd hj (by omega))
  · refine ⟨((-9 : Int32), q.1, q.2.1, q.2.2), ?_, Or.inr ⟨fun j hj => hq j (by omega), rfl⟩⟩
    show fX7_enough_L14 N _ (nI m) v a b v6 (n + 1) (nI 61) q.1 q.2.1 q.2.2 = _
    rw [fX7_enough_L14, if_pos (show (60 : Int32) < nI 61 by decide)]
  · obtain ⟨y, y1, y2⟩ := cp_st N q.2.1 q.1 a b
    have hs := y2 z hc
    have hr : stC (st y.2 1 (fun _ => nI i)) y.1 (aRm z i) := ⟨rwC_room hs.1 i, hs.2⟩
    obtain ⟨p, p1, p2⟩ := dw_7 (w := q.2.2) (m := m) hS hv hr (rm_I hI (by omega)) (by rw [rm_now]; exact hm) hN
    have hn := drn_none (by omega) p2
    by_cases e : p.1 = nM9
    · right
      refine ⟨p.2, fun i' hi' => ?_, ?_⟩
      · by_cases w : i' = i
        · rw [w]; exact hn.mp e
        · exact hq i' (by omega)
      · show fX7_enough_L14 N _ (nI m) v a b v6 (n + 1) (nI i) q.1 q.2.1 q.2.2 = _
        rw [fX7_enough_L14, if_neg (show ¬ (60 : Int32) < nI i from nI_nlt (a := 60) (by omega) (by omega)), y1, Option.bind_some, p1, Option.bind_some, if_pos (show p.1 = (-9 : Int32) from e), nI_1]
    · left
      refine ⟨(nI i, p.2.1, p.2.2.1, p.2.2.2), ?_, Or.inl ⟨i, by omega, fun q => e (hn.mpr q), hq, rfl⟩⟩
      show fX7_enough_L14 N _ (nI m) v a b v6 (n + 1) (nI i) q.1 q.2.1 q.2.2 = _
      rw [fX7_enough_L14, if_neg (show ¬ (60 : Int32) < nI i from nI_nlt (a := 60) (by omega) (by omega)), y1, Option.bind_some, p1, Option.bind_some, if_neg (show ¬ p.1 = (-9 : Int32) from e)]
theorem en_8 {U : MM} {s : Nat → Int32} {S : RW} {z : AS} {m : Nat} (hS : suR S) (hM : suM U S) (hs : stM s z) (h16 : ∀ j, j < 667 → U 16 j = s j) (h21 : ∀ j, j < 667 → U 21 j = s j) (hI : stI S z) (hm : z.1 0 0 + m + 1 ≤ 400) {N : Nat} (hN : 700 < N) : ∃ y, fX8_enough_L36 N (fun (x2_7 : Int32) (x3_7 : Int32) (v0_7 : MM) => some (x2_7, v0_7)) (nI m) N (-9 : Int32) (0 : Int32) U = some y ∧ isEn S z m y.1 ∧ (∀ j, j ≠ 16 → j ≠ 31 → y.2 j = U j) ∧ ∀ j, j < 667 → y.2 16 j = s j := by
  obtain ⟨N', hN'⟩ : ∃ n, N = n + 1 := ⟨N - 1, by omega⟩
  have key : ∃ y, fX8_enough_L36 N (fun (x2_7 : Int32) (x3_7 : Int32) (v0_7 : MM) => some (x2_7, v0_7)) (nI m) (N' + 1) (-9 : Int32) (0 : Int32) U = some y ∧ isEn S z m y.1 ∧ (∀ j, j ≠ 16 → j ≠ 31 → y.2 j = U j) ∧ ∀ j, j < 667 → y.2 16 j = s j := by
    refine lp_any (fun n i (q : MM) => fX8_enough_L36 N (fun (x2_7 : Int32) (x3_7 : Int32) (v0_7 : MM) => some (x2_7, v0_7)) (nI m) (n + 1) (-9 : Int32) (nI i) q) (fun res => ∃ y, res = some y ∧ isEn S z m y.1 ∧ (∀ j, j ≠ 16 → j ≠ 31 → y.2 j = U j) ∧ ∀ j, j < 667 → y.2 16 j = s j) 61 (fun i q => (∀ i', i' < i → ∀ j, j ≤ m → ¬ aDr (aOn S (aRm z i') j)) ∧ (∀ j, j ≠ 16 → j ≠ 31 → q j = U j) ∧ ∀ j, j < 667 → q 16 j = s j) (fun n q hq => ?_) (fun n i q hi hq => ?_) 61 N' 0 U (by omega) (by omega) ⟨fun j hj => absurd hj (by omega), fun _ _ _ => rfl, h16⟩
    · refine ⟨((-9 : Int32), q), ?_, Or.inr ⟨fun j hj => hq.1 j (by omega), rfl⟩, hq.2.1, hq.2.2⟩
      show fX8_enough_L36 N _ (nI m) (n + 1 + 1) (-9 : Int32) (nI 61) q = _
      rw [fX8_enough_L36, if_pos (show (60 : Int32) < nI 61 by decide)]
    · obtain ⟨q1, q2, q3⟩ := hq
      obtain ⟨V, hV⟩ : ∃ V, V = st q 16 (upd (q 16) 1 (nI i)) := ⟨_, rfl⟩
      have Vo : ∀ j, j ≠ 16 → V j = q j := fun j hj => by rw [hV, st_ne (Ne.symm hj)]
      have hMV : suM V S := suM_c hM (fun j j1 j2 => by rw [Vo j (by omega), q2 j (by omega) (by omega)])
      have hq' : stM (q 16) z := stM_congr q3 hs
      have hVs : stM (V 16) (aRm z i) := by
        rw [hV, st_eq]
        exact ⟨rwM_r hq'.1 i, blM_r hq'.2 (fun j hj => upd_ne (by omega))⟩
      have hg0 := sgM_0 (u := V) (z := aRm z i) hVs
      obtain ⟨p, p1, p2, p3⟩ := dw_8 (m := m) hS hMV hg0 (rm_I hI (by omega)) (by rw [rm_now]; exact hm) (show 500 < N by omega)
      have hn := drn_none (by omega) p2
      obtain ⟨m', n1, n2, n3⟩ := cp_8 (a := 0) (b := 0) (n0 := 667) (n1 := 667) (N := N) (by omega) (by omega) (by omega) (by omega) (by omega) (p.2 21) (p.2 16)
      have n1 : fX8_copies N (0 : Int32) (0 : Int32) 667 667 (p.2 21) (p.2 16) = some m' := n1
      have hback : ∀ j, j < 667 → m' j = s j := fun j hj => by
        have a1 := n2 j hj
        rw [Nat.zero_add] at a1
        rw [a1, p3 21 (by omega) (by omega), Vo 21 (by omega), q2 21 (by omega) (by omega), h21 j hj]
      have ho : ∀ j, j ≠ 16 → j ≠ 31 → st p.2 16 m' j = U j := fun j j1 j2 => by rw [st_ne (Ne.symm j1), p3 j j1 j2, Vo j j1, q2 j j1 j2]
      have hs16 : ∀ j, j < 667 → st p.2 16 m' 16 j = s j := fun j hj => by rw [st_eq]; exact hback j hj
      by_cases e : p.1 = nM9
      · right
        refine ⟨st p.2 16 m', ⟨fun i' hi' => ?_, ho, hs16⟩, ?_⟩
        · by_cases w : i' = i
          · rw [w]; exact hn.mp e
          · exact q1 i' (by omega)
        · show fX8_enough_L36 N _ (nI m) (n + 1 + 1) (-9 : Int32) (nI i) q = _
          rw [fX8_enough_L36, if_neg (show ¬ (60 : Int32) < nI i from nI_nlt (a := 60) (by omega) (by omega)), if_pos rfl, if_pos (show ib (1 : Int32) 667 = true by decide), show Int32.toNatClampNeg (1 : Int32) = 1 by decide, ← hV, p1, Option.bind_some, if_pos (show p.1 = (-9 : Int32) from e), n1, Option.bind_some, nI_1]
      · left
        refine ⟨(nI i, st p.2 16 m'), ?_, Or.inl ⟨i, by omega, fun q => e (hn.mpr q), q1, rfl⟩, ho, hs16⟩
        show fX8_enough_L36 N _ (nI m) (n + 1 + 1) (-9 : Int32) (nI i) q = _
        rw [fX8_enough_L36, if_neg (show ¬ (60 : Int32) < nI i from nI_nlt (a := 60) (by omega) (by omega)), if_pos rfl, if_pos (show ib (1 : Int32) 667 = true by decide), show Int32.toNatClampNeg (1 : Int32) = 1 by decide, ← hV, p1, Option.bind_some, if_neg (show ¬ p.1 = (-9 : Int32) from e), n1, Option.bind_some, nI_1, fX8_enough_L36]
        by_cases w : (60 : Int32) < nI (i + 1)
        · rw [if_pos w]
        · rw [if_neg w, if_neg (show ¬ nI i = (-9 : Int32) from n_m9 (by omega))]
  rw [← hN'] at key
  exact key
theorem sm_enough (x1 : Int32) (cv : Nat → MM) (u : MM) (h : RR cv u) : ∃ (y : Int32 × MM × MM × MM) (z : Int32 × MM), fX7_enough NF x1 (cv 2) (cv 4) (cv 5) (cv 6) (cv 7) (cv 9) (cv 0) = some y ∧ fX8_enough NF x1 u = some z ∧ y.1 = z.1 ∧ RR (up (up (up cv 6 y.2.1) 7 y.2.2.1) 9 y.2.2.2) z.2 := by
  have hR := h
  obtain ⟨ht, hs, S, sR, sC, sM, h0, hh, h1, h2⟩ := id h
  obtain ⟨z, z1, z2, z3, z4⟩ := id h0
  unfold fX7_enough fX8_enough
  rw [in_eq]
  rcases in_01 (x := x1) (A := 0) (B := 40) (a := 0) (b := 40) rfl rfl (by omega) (by omega) NF with e | ⟨e, w, -, hw, rfl⟩
  · rw [e]
    exact ⟨_, _, rfl, rfl, rfl, rr_try hR (fun k k1 k2 k3 k4 => by show st u 0 _ k = u k; rw [st_ne (by omega)]) (fun j hj => rfl)⟩
  · obtain ⟨p, p1, p2⟩ := en_7 (v6 := cv 0) (w := cv 9) (ta := cv 6) (tb := cv 7) (m := w) (N := NF) sR sC z1 z3 (by omega) (by decide)
    obtain ⟨m, m1, m2, m3⟩ := cp_8 (a := 0) (b := 0) (n0 := 667) (n1 := 667) (N := NF) (by decide) (by omega) (by omega) (by omega) (by omega) (u 16) (u 21)
    have m1 : fX8_copies NF (0 : Int32) (0 : Int32) 667 667 (u 16) (u 21) = some m := m1
    obtain ⟨U, hU⟩ : ∃ U, U = st (st u 0 (fun _ => (0 : Int32))) 21 m := ⟨_, rfl⟩
    have U16 : U 16 = u 16 := by rw [hU, st_ne (by omega), st_ne (by omega)]
    have U21 : U 21 = m := by rw [hU, st_eq]
    have Uo : ∀ j, j ≠ 0 → j ≠ 21 → U j = u j := fun j j1 j2 => by rw [hU, st_ne (Ne.symm j2), st_ne (Ne.symm j1)]
    have hM' : suM U S := suM_c sM (fun j j1 j2 => Uo j (by omega) (by omega))
    obtain ⟨q, q1, q2, q3, q4⟩ := en_8 (U := U) (s := u 16) (m := w) (N := NF) sR hM' z2 (fun j hj => by rw [U16]) (fun j hj => by
      have a2 := m2 j hj
      rw [Nat.zero_add] at a2
      rw [U21, a2]) z3 (by omega) (by decide)
    rw [e, Option.bind_some, Option.bind_some, if_neg (show ¬ (1 : Int32) = 0 by decide), if_neg (show ¬ (1 : Int32) = 0 by decide), p1, m1, Option.bind_some, ← hU, q1]
    exact ⟨_, _, rfl, rfl, en_un p2 q2, rr_try hR (fun k k1 k2 k3 k4 => by rw [q3 k (by omega) (by omega), Uo k (by omega) (by omega)]) q4⟩
