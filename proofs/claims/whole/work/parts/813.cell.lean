/-! the text told: the loop over items, a setup taken, all begun anew -/
theorem cl_46 {t : Nat} {x : Int32} (h : clT t x) : x = (46 : Int32) ↔ t = 3000 := by
  rcases h with ⟨h1, rfl⟩ | ⟨h1, rfl⟩ | ⟨h1, h2, rfl⟩ | ⟨h1, h2, rfl⟩ | ⟨h1, h2, rfl⟩
  · exact ⟨fun _ => h1, fun _ => rfl⟩
  · exact ⟨fun q => absurd q (by decide), fun q => by omega⟩
  · exact ⟨fun q => absurd q (by decide), fun q => by omega⟩
  · exact ⟨fun q => by
      have h3 := (nI_eq (b := 46) (by omega) (by omega)).mp q
      unfold aSg at h2
      omega, fun q => by omega⟩
  · exact ⟨fun q => absurd q (by decide), fun q => by omega⟩
theorem cl_59 {t : Nat} {x : Int32} (h : clT t x) : x = (59 : Int32) ↔ t = 59 := by
  rcases h with ⟨h1, rfl⟩ | ⟨h1, rfl⟩ | ⟨h1, h2, rfl⟩ | ⟨h1, h2, rfl⟩ | ⟨h1, h2, rfl⟩
  · exact ⟨fun q => absurd q (by decide), fun q => by omega⟩
  · exact ⟨fun q => absurd q (by decide), fun q => by omega⟩
  · exact ⟨fun q => absurd q (by decide), fun q => by omega⟩
  · exact nI_eq (b := 59) (by omega) (by omega)
  · exact ⟨fun q => absurd q (by decide), fun q => by
      unfold aSg at h2
      omega⟩
theorem md_1 {t : Nat} {x : Int32} (h : mdT t x) : x = (-1 : Int32) ↔ t = 3000 := by
  rcases h with ⟨h1, rfl⟩ | ⟨h1, rfl⟩
  · exact ⟨fun _ => h1, fun _ => rfl⟩
  · exact ⟨fun q => absurd q (n_m1 (by omega)), fun q => by omega⟩
theorem md_59 {t : Nat} {x : Int32} (h : mdT t x) : x = (59 : Int32) ↔ t = 59 := by
  rcases h with ⟨h1, rfl⟩ | ⟨h1, rfl⟩
  · exact ⟨fun q => absurd q (by decide), fun q => by omega⟩
  · exact nI_eq (b := 59) (by omega) (by omega)
/-- the class's loop behind a token -/
def clB (N : Nat) (K : Int32 → MM → MM → Option (Int32 × MM × MM)) (n : Nat) (x2 : Int32) (a d : MM) : Option (Int32 × MM × MM) := if (a 4 0) = (46 : Int32) then some (x2, a, d) else (clItem N a d).bind (fun y => if y.1 = 0 then some (((-10 : Int32) - (y.2.1 3 0)), y.2.1, y.2.2) else (fX6_readEnd N y.2.1).bind (fun e => if e.1 = 0 then some (((-10 : Int32) - (e.2 3 0)), e.2, y.2.2) else fX6_readInto_L11 N K n (x2 + 1) e.2 y.2.2))
theorem L11_step (N : Nat) (K : Int32 → MM → MM → Option (Int32 × MM × MM)) (n : Nat) (x2 : Int32) (a d : MM) (h : ¬ (120 : Int32) < x2) : fX6_readInto_L11 N K (n + 1) x2 a d = (fX6_nextToken N a).bind (fun y2 => clB N K n x2 y2 d) := by
  rw [fX6_readInto_L11, if_neg h]
  refine congrArg (fun f => Option.bind (fX6_nextToken N a) f) (funext fun y2 => ?_)
  unfold clB clItem
  by_cases c0 : (y2 4 0) = (46 : Int32)
  · rw [if_pos c0, if_pos c0]
  rw [if_neg c0, if_neg c0]
  by_cases c1 : (y2 4 0) = (98 : Int32)
  · rw [if_pos c1, if_pos c1]
  rw [if_neg c1, if_neg c1]
  by_cases c2 : (y2 4 0) = (99 : Int32)
  · rw [if_pos c2, if_pos c2]
  rw [if_neg c2, if_neg c2]
  by_cases c3 : (y2 4 0) = (114 : Int32)
  · rw [if_pos c3, if_pos c3]
  rw [if_neg c3, if_neg c3]
  by_cases c4 : (y2 4 0) = (115 : Int32)
  · rw [if_pos c4, if_pos c4]
  rw [if_neg c4, if_neg c4]
  by_cases c5 : (y2 4 0) = (116 : Int32)
  · rw [if_pos c5, if_pos c5]
  rw [if_neg c5, if_neg c5, Option.bind_some]
  exact (if_pos rfl).symm
/-- the two sides behind a token -/
def tkA (n : Nat) (w : Nat → Nat) (e q t : Nat) (a d u : MM) (S : RW) : Prop := txC n w a ∧ txM n w u ∧ a 2 0 = nI e ∧ u 27 0 = nI e ∧ e ≤ n ∧ a 3 0 = nI q ∧ u 28 0 = nI q ∧ q ≤ n ∧ clT t (a 4 0) ∧ mdT t (u 29 0) ∧ drC d S ∧ drM u S ∧ drR S
theorem nx_sim {n e q t i : Nat} {w : Nat → Nat} {a d u : MM} {S : RW} (h : tkA n w e q t a d u S) (ht : t ≠ 3000) {N : Nat} (hN : 200 < N) : (∃ (q' : Nat) (a' d' u' : MM), q' ≤ n ∧ (∀ K m, clB N K m (nI i) a d = some (((-10 : Int32) - nI q'), a', d')) ∧ (∀ K m, fX8_cell_L20 N K (m + 1) (nI i) u = some (((-10 : Int32) - nI q'), u')) ∧ frC a' a ∧ frM u' u) ∨ (∃ (p e' q' t' : Nat) (a1 a' d' u' : MM) (S' : RW), e < p ∧ p ≤ e' ∧ (t' ≠ 3000 → p < e') ∧ (∀ K m, clB N K m (nI i) a d = fX6_readInto_L11 N K m (nI (i + 1)) a1 d') ∧ fX6_nextToken N a1 = some a' ∧ (∀ K m, fX8_cell_L20 N K (m + 1) (nI i) u = fX8_cell_L20 N K m (nI (i + 1)) u') ∧ tkA n w e' q' t' a' d' u' S' ∧ frC a' a ∧ frM u' u) := by
  obtain ⟨hC, hM, h2, h27, he, h3, h28, hq, h4, h29, dC, dM, dR⟩ := h
  have hw : ∀ j, j < n → w j ≤ 255 := fun j hj => (hC.2.2 j hj).1
  have n46 : ¬ a 4 0 = (46 : Int32) := fun x => ht ((cl_46 h4).mp x)
  have nm1 : ¬ u 29 0 = (-1 : Int32) := fun x => ht ((md_1 h29).mp x)
  rcases item_sim hC hM h2 h27 he h3 h28 hq h4 h29 ht dC dM dR hN with ⟨q', Y, Z, k1, k2, k3, k4, k5, k6, k7, k8, k9⟩ | ⟨p', Y, Z, S', k1, k2, k3, k4, k5, k6, k7, k8, k9, kA, kB, kC, kD⟩
  · left
    refine ⟨q', Y.2.1, Y.2.2, Z.2, k1, fun K m => ?_, fun K m => ?_, k8, k9⟩
    · unfold clB
      rw [if_neg n46, k2, Option.bind_some, if_pos k4, k6]
    · rw [fX8_cell_L20, if_neg nm1, k3, Option.bind_some, if_pos k5, if_pos k5, k7]
  · have hC1 : txC n w Y.2.1 := txC_c hC (kC 0 (by omega) (by omega) (by omega) (by omega)) (kC 1 (by omega) (by omega) (by omega) (by omega))
    have hM1 : txM n w Z.2 := txM_c hM (kD 25 (by omega)) (kD 26 (by omega))
    obtain ⟨b, b1, b2, b3, b4, b5, b6⟩ := tok_7 hC1 k2 k7 hN
    obtain ⟨c, c1, c2, c3, c4, c6⟩ := tok_8 hM1 k2 k8 hN
    have hle := tk_le k2 hw
    obtain ⟨t1, ht1⟩ : ∃ t1, t1 = aTt n w p' := ⟨_, rfl⟩
    obtain ⟨e1, he1⟩ : ∃ e1, e1 = aTe n w p' := ⟨_, rfl⟩
    obtain ⟨q1, hq1⟩ : ∃ q1, q1 = aTq n w p' := ⟨_, rfl⟩
    rw [← ht1] at b4 c4 hle
    rw [← he1] at b2 c2 hle
    rw [← hq1] at b3 c3 hle
    have ny : ¬ Y.1 = 0 := by rw [k5]; decide
    have nz : ¬ Z.1 = 0 := by rw [k6]; decide
    have fb : frC b a := frC_t b6 kC
    have fc : frM c u := frM_t (fun k hk => c6 k (by omega) (by omega) (by omega)) kD
    by_cases e59 : t1 = 59
    · right
      have hCb : txC n w b := txC_c hC1 (b6 0 (by omega) (by omega) (by omega) (by omega)) (b6 1 (by omega) (by omega) (by omega) (by omega))
      have hMc : txM n w c := txM_c hM1 (c6 25 (by omega) (by omega) (by omega)) (c6 26 (by omega) (by omega) (by omega))
      obtain ⟨b', B1, B2, B3, B4, B5, B6⟩ := tok_7 hCb (show e1 ≤ n by omega) b2 hN
      obtain ⟨c', C1, C2, C3, C4, C6⟩ := tok_8 hMc (show e1 ≤ n by omega) c2 hN
      have hle2 := tk_le (show e1 ≤ n by omega) hw
      refine ⟨e1, aTe n w e1, aTq n w e1, aTt n w e1, b, b', Y.2.2, c', S', by omega, by omega, fun g => hle2.2.2.2.2.1 g, fun K m => ?_, B1, fun K m => ?_, ⟨?_, ?_, B2, C2, by omega, B3, C3, by omega, B4, C4, k9, ?_, kB⟩, frC_t B6 fb, frM_t (fun k hk => C6 k (by omega) (by omega) (by omega)) fc⟩
      · unfold clB fX6_readEnd
        rw [if_neg n46, k3, Option.bind_some, if_neg ny, b1, Option.bind_some, if_pos ((cl_59 b4).mpr e59), Option.bind_some, if_neg (show ¬ (1 : Int32) = 0 by decide), nI_1]
      · rw [fX8_cell_L20, if_neg nm1, k4, Option.bind_some, if_neg nz, c1, Option.bind_some, if_neg nz, if_pos ((md_59 c4).mpr e59), C1, Option.bind_some, nI_1]
      · exact txC_c hCb (B6 0 (by omega) (by omega) (by omega) (by omega)) (B6 1 (by omega) (by omega) (by omega) (by omega))
      · exact txM_c hMc (C6 25 (by omega) (by omega) (by omega)) (C6 26 (by omega) (by omega) (by omega))
      · exact drM_c kA (fun k x1 x2 => by rw [C6 k (by omega) (by omega) (by omega), c6 k (by omega) (by omega) (by omega)])
    · left
      refine ⟨q1, b, Y.2.2, c, by omega, fun K m => ?_, fun K m => ?_, fb, fc⟩
      · unfold clB fX6_readEnd
        rw [if_neg n46, k3, Option.bind_some, if_neg ny, b1, Option.bind_some, if_neg (fun x => e59 ((cl_59 b4).mp x)), Option.bind_some, if_pos rfl]
        show some ((-10 : Int32) - b 3 0, b, Y.2.2) = _
        rw [b3]
      · rw [fX8_cell_L20, if_neg nm1, k4, Option.bind_some, if_neg nz, c1, Option.bind_some, if_neg nz, if_neg (fun x => e59 ((md_59 c4).mp x)), c3]
theorem loop_sim {n : Nat} {w : Nat → Nat} {N : Nat} (hN : 200 < N) : ∀ (f i e q t : Nat) (a d u : MM) (S : RW), n - e ≤ f → (t ≠ 3000 → i < e) → i ≤ e → tkA n w e q t a d u S → (∃ (i' : Nat) (a' d' u' : MM) (S' : RW), i' ≤ 120 ∧ (∀ K, clB N K f (nI i) a d = some (nI i', a', d')) ∧ (∀ K, fX8_cell_L20 N K (f + 1) (nI i) u = K (nI i') u') ∧ drC d' S' ∧ drM u' S' ∧ drR S' ∧ frC a' a ∧ frM u' u) ∨ (∃ (q' : Nat) (a' d' u' : MM), q' ≤ n ∧ (∀ K, clB N K f (nI i) a d = some (((-10 : Int32) - nI q'), a', d')) ∧ (∀ K, fX8_cell_L20 N K (f + 1) (nI i) u = some (((-10 : Int32) - nI q'), u')) ∧ frC a' a ∧ frM u' u)
  | f, i, e, q, t, a, d, u, S, hf, hi, hie, hA => by
    have hA' := hA
    obtain ⟨hC, hM, h2, h27, he, h3, h28, hq, h4, h29, dC, dM, dR⟩ := hA'
    have h120 := hC.1
    by_cases ht : t = 3000
    · left
      refine ⟨i, a, d, u, S, by omega, fun K => ?_, fun K => ?_, dC, dM, dR, fun _ _ _ _ _ => rfl, fun _ _ => rfl⟩
      · unfold clB
        rw [if_pos ((cl_46 h4).mpr ht)]
      · rw [fX8_cell_L20, if_pos ((md_1 h29).mpr ht)]
    · have hie2 := hi ht
      rcases nx_sim (i := i) hA ht hN with ⟨q', a', d', u', m1, m2, m3, m4, m5⟩ | ⟨p, e', q', t', a1, a', d', u', S', m1, m2, m3, m4, m5, m6, m7, m8, m9⟩
      · right
        exact ⟨q', a', d', u', m1, fun K => m2 K f, fun K => m3 K f, m4, m5⟩
      · have he' := m7.2.2.2.2.1
        match f, hf with
        | 0, hf => omega
        | f + 1, hf =>
          have hs : ∀ K, clB N K (f + 1) (nI i) a d = clB N K f (nI (i + 1)) a' d' := fun K => by
            rw [m4 K (f + 1), L11_step N K f (nI (i + 1)) a1 d' (show ¬ (120 : Int32) < nI (i + 1) from nI_nlt (a := 120) (by omega) (by omega)), m5, Option.bind_some]
          rcases loop_sim hN f (i + 1) e' q' t' a' d' u' S' (by omega) (fun g => by have := m3 g; omega) (by omega) m7 with ⟨i', A, D, U, SS, r1, r2, r3, r4, r5, r6, r7, r8⟩ | ⟨Q, A, D, U, r1, r2, r3, r4, r5⟩
          · left
            exact ⟨i', A, D, U, SS, r1, fun K => (hs K).trans (r2 K), fun K => (m6 K (f + 1)).trans (r3 K), r4, r5, r6, frC_t r7 m8, frM_t r8 m9⟩
          · right
            exact ⟨Q, A, D, U, r1, fun K => (hs K).trans (r2 K), fun K => (m6 K (f + 1)).trans (r3 K), frC_t r4 m8, frM_t r5 m9⟩
/-- a setup taken over -/
theorem cs_7 {v d : MM} {S : RW} (hR : drR S) (h : drC d S) (N : Nat) : ∃ y, fX3_copyFrom N v d = some y ∧ drC y S := by
  obtain ⟨⟨c1, c2, c3, c4, c5, c6, c7⟩, c8⟩ := h
  have hT := hR.1.1
  have hC := hR.1.2.1
  unfold fX3_copyFrom
  rw [cp_row (by omega), Option.bind_some, cp_row (by omega), Option.bind_some, cp_row (by omega), Option.bind_some, cp_row (by omega), Option.bind_some, cp_row (by omega), Option.bind_some]
  refine ⟨_, rfl, ⟨?_, ?_, ?_, ?_, ?_, fun t ht => ?_, fun k c k1 k2 hc => ?_⟩, ?_⟩
  · exact c1
  · exact c2
  · exact c3
  · exact c4
  · exact c5
  · exact (cpy_in (by omega)).trans (c6 t ht)
  · have hk4 : k = 7 ∨ k = 8 ∨ k = 9 ∨ k = 10 := by omega
    rcases hk4 with rfl | rfl | rfl | rfl
    · exact (cpy_in (by omega)).trans (c7 7 c (by omega) (by omega) hc)
    · exact (cpy_in (by omega)).trans (c7 8 c (by omega) (by omega) hc)
    · exact (cpy_in (by omega)).trans (c7 9 c (by omega) (by omega) hc)
    · exact (cpy_in (by omega)).trans (c7 10 c (by omega) (by omega) hc)
  · exact c8
theorem fl_0 {n0 N : Nat} (hn : n0 < N) (h31 : n0 < 2 ^ 31) (v : Nat → Int32) : ∃ y, fJ7_fill_53178 N (0 : Int32) n0 v = some y ∧ ∀ j, j < n0 → y j = nI 0 := by
  unfold fJ7_fill_53178
  obtain ⟨y, hy, e⟩ := lp_run (fun n i (w : Nat → Int32) => fJ7_fill_53178_L5 N (fun (x2_1 : Int32) (v0_1 : (Nat → Int32)) => some v0_1) (0 : Int32) (nI n0) n0 n (nI i) w) (fun w => some w) n0 (fun i w => ∀ j, j < i → w j = nI 0)
    (fun n w hw => by
      show fJ7_fill_53178_L5 N _ (0 : Int32) (nI n0) n0 (n + 1) (nI n0) w = _
      rw [fJ7_fill_53178_L5, if_pos (nI_le (Nat.le_refl _) (by omega))])
    (fun n i w hi hw => by
      refine ⟨upd w i (0 : Int32), fun j hj => ?_, ?_⟩
      · by_cases e : j = i
        · rw [e, upd_eq]
          rfl
        · rw [upd_ne e]
          exact hw j (by omega)
      · show fJ7_fill_53178_L5 N _ (0 : Int32) (nI n0) n0 (n + 1) (nI i) w = _
        rw [fJ7_fill_53178_L5, if_neg (nI_ge hi (by omega)), if_pos (ib_n hi (by omega)), nI_clamp (by omega), nI_1]) n0 N 0 v (by omega) (by omega) (fun j hj => absurd hj (by omega))
  exact ⟨y, e, hy⟩
/-- the state at first -/
def zI (rm : Nat) : AS := (fun k _ => if k = 1 then rm else 0, [])
theorem zI_o {rm k : Nat} (h : k ≠ 1) (j : Nat) : (zI rm).1 k j = 0 := if_neg h
theorem zI_1 (rm j : Nat) : (zI rm).1 1 j = rm := by
  show (if 1 = 1 then rm else 0) = rm
  exact if_pos rfl
theorem bg_7 {rm N : Nat} (hN : 300 < N) (b a : MM) : ∃ y, fX4_begin N (nI rm) b a = some y ∧ stC y.2 y.1 (zI rm) := by
  unfold fX4_begin
  obtain ⟨y1, f1, g1⟩ := fl_0 (n0 := 3) (N := N) (by omega) (by omega) (a 3)
  obtain ⟨y2, f2, g2⟩ := fl_0 (n0 := 3) (N := N) (by omega) (by omega) (a 4)
  obtain ⟨y3, f3, g3⟩ := fl_0 (n0 := 3) (N := N) (by omega) (by omega) (a 5)
  obtain ⟨y4, f4, g4⟩ := fl_0 (n0 := 3) (N := N) (by omega) (by omega) (a 6)
  obtain ⟨y5, f5, g5⟩ := fl_0 (n0 := 3) (N := N) (by omega) (by omega) (a 7)
  obtain ⟨y6, f6, g6⟩ := fl_0 (n0 := 3) (N := N) (by omega) (by omega) (a 8)
  obtain ⟨y7, f7, g7⟩ := fl_0 (n0 := 6) (N := N) (by omega) (by omega) (a 9)
  obtain ⟨y8, f8, g8⟩ := fl_0 (n0 := 6) (N := N) (by omega) (by omega) (a 10)
  obtain ⟨y9, f9, g9⟩ := fl_0 (n0 := 6) (N := N) (by omega) (by omega) (a 11)
  obtain ⟨yA, fA, gA⟩ := fl_0 (n0 := 6) (N := N) (by omega) (by omega) (a 12)
  obtain ⟨yB, fB, gB⟩ := fl_0 (n0 := 200) (N := N) (by omega) (by omega) (a 13)
  rw [f1, Option.bind_some, f2, Option.bind_some, f3, Option.bind_some, f4, Option.bind_some, f5, Option.bind_some, f6, Option.bind_some, f7, Option.bind_some, f8, Option.bind_some, f9, Option.bind_some, fA, Option.bind_some, fB, Option.bind_some]
  refine ⟨_, rfl, ⟨rfl, ?_, rfl, fun k t k1 k2 ht => ?_, fun k c k1 k2 hc => ?_, fun t j ht hj => ?_⟩, by show 0 ≤ 60; omega, rfl, fun k x hk => by simp [zI] at hk⟩
  · rw [zI_1]
    rfl
  · rw [zI_o (by omega)]
    have hk6 : k = 3 ∨ k = 4 ∨ k = 5 ∨ k = 6 ∨ k = 7 ∨ k = 8 := by omega
    rcases hk6 with rfl | rfl | rfl | rfl | rfl | rfl
    · exact g1 t ht
    · exact g2 t ht
    · exact g3 t ht
    · exact g4 t ht
    · exact g5 t ht
    · exact g6 t ht
  · rw [zI_o (by omega)]
    have hk4 : k = 9 ∨ k = 10 ∨ k = 11 ∨ k = 12 := by omega
    rcases hk4 with rfl | rfl | rfl | rfl
    · exact g7 c hc
    · exact g8 c hc
    · exact g9 c hc
    · exact gA c hc
  · rw [zI_o (by omega)]
    have h0 : yB j = nI 0 := gB j (by omega)
    show (yB j).toBitVec.getLsbD t = _
    rw [h0]
    simp [nI]
theorem bc_8 {u : MM} {S : RW} {N : Nat} (hN : 700 < N) (hR : drR S) (dM : drM u S) : ∃ y, fX8_becomes N u = some y ∧ suM y S ∧ stM (y 16) (zI (S 2 0)) ∧ y 17 0 = nI 0 ∧ y 22 0 = nI 0 ∧ y 20 0 = nI 0 ∧ y 20 1 = nI 0 ∧ ∀ k, 23 ≤ k → y k = u k := by
  have hT := hR.1.1
  have hC := hR.1.2.1
  obtain ⟨m1, m2, m3, m4, m5, m6, m7, m8⟩ := dM
  obtain ⟨V, hV⟩ : ∃ V, V = (st (st (st (st (st u 1 (fun _ => (u 8 0))) 2 (fun _ => (u 9 0))) 3 (fun _ => (u 11 0))) 4 (fun _ => (u 12 0))) 5 (fun _ => (u 13 0))) := ⟨_, rfl⟩
  have V1 : V 1 0 = nI (S 0 0) := by rw [hV]; exact m1
  have V2 : V 2 0 = nI (S 1 0) := by rw [hV]; exact m2
  have V3 : V 3 0 = nI (S 3 0) := by rw [hV]; exact m4
  have V4 : V 4 0 = nI (S 4 0) := by rw [hV]; exact m5
  have V5 : V 5 0 = nI (S 5 0) := by rw [hV]; exact m6
  have Vo : ∀ k, 6 ≤ k → V k = u k := fun k hk => by rw [hV, st_ne (by omega), st_ne (by omega), st_ne (by omega), st_ne (by omega), st_ne (by omega)]
  obtain ⟨A, ⟨a1, a2⟩, a3⟩ := lp_all (fun K n i (v : MM) => fX8_becomes_L42 N K n (nI i) v) (fun K v => K (nI 3) v) 3 (fun i v => (∀ j, j ≠ 6 → v j = V j) ∧ ∀ j, j < i → v 6 j = V 14 j)
    (fun K n v hv => by
      show fX8_becomes_L42 N K (n + 1) (nI 3) v = _
      rw [fX8_becomes_L42, if_pos (show (3 : Int32) ≤ nI 3 by decide)])
    (fun n i v hi hv => by
      refine ⟨st v 6 (upd (v 6) i (v 14 i)), ⟨fun j hj => by rw [st_ne (Ne.symm hj)]; exact hv.1 j hj, fun j hj => ?_⟩, fun K => ?_⟩
      · rw [st_eq]
        by_cases e : j = i
        · rw [e, upd_eq, hv.1 14 (by omega)]
        · rw [upd_ne e]
          exact hv.2 j (by omega)
      · show fX8_becomes_L42 N K (n + 1) (nI i) v = _
        rw [fX8_becomes_L42, if_neg (show ¬ (3 : Int32) ≤ nI i from nI_ge (b := 3) hi (by omega)), if_pos (ib_n (by omega) (by omega)), if_pos (ib_n (by omega) (by omega)), nI_clamp (by omega), nI_1]) 3 N 0 V (by omega) (by omega) ⟨fun _ _ => rfl, fun j hj => absurd hj (by omega)⟩
  obtain ⟨B, ⟨b1, b2⟩, b3⟩ := lp_all (fun K n i (v : MM) => fX8_becomes_L67 N K n (nI i) v) (fun K v => K (nI 24) v) 24 (fun i v => (∀ j, j ≠ 7 → v j = A j) ∧ ∀ j, j < i → v 7 j = V 15 j)
    (fun K n v hv => by
      show fX8_becomes_L67 N K (n + 1) (nI 24) v = _
      rw [fX8_becomes_L67, if_pos (show (24 : Int32) ≤ nI 24 by decide)])
    (fun n i v hi hv => by
      refine ⟨st v 7 (upd (v 7) i (v 15 i)), ⟨fun j hj => by rw [st_ne (Ne.symm hj)]; exact hv.1 j hj, fun j hj => ?_⟩, fun K => ?_⟩
      · rw [st_eq]
        by_cases e : j = i
        · rw [e, upd_eq, hv.1 15 (by omega), a1 15 (by omega)]
        · rw [upd_ne e]
          exact hv.2 j (by omega)
      · show fX8_becomes_L67 N K (n + 1) (nI i) v = _
        rw [fX8_becomes_L67, if_neg (show ¬ (24 : Int32) ≤ nI i from nI_ge (b := 24) hi (by omega)), if_pos (ib_n (by omega) (by omega)), if_pos (ib_n (by omega) (by omega)), nI_clamp (by omega), nI_1]) 24 N 0 A (by omega) (by omega) ⟨fun _ _ => rfl, fun j hj => absurd hj (by omega)⟩
  obtain ⟨C, ⟨c1, c2⟩, c3⟩ := lp_all (fun K n i (v : MM) => fX8_becomes_L93 N K n (nI i) v) (fun K v => K (nI 667) v) 667 (fun i v => (∀ j, j ≠ 16 → v j = B j) ∧ ∀ j, j < i → v 16 j = nI 0)
    (fun K n v hv => by
      show fX8_becomes_L93 N K (n + 1) (nI 667) v = _
      rw [fX8_becomes_L93, if_pos (show (667 : Int32) ≤ nI 667 by decide)])
    (fun n i v hi hv => by
      refine ⟨st v 16 (upd (v 16) i (0 : Int32)), ⟨fun j hj => by rw [st_ne (Ne.symm hj)]; exact hv.1 j hj, fun j hj => ?_⟩, fun K => ?_⟩
      · rw [st_eq]
        by_cases e : j = i
        · rw [e, upd_eq]
          rfl
        · rw [upd_ne e]
          exact hv.2 j (by omega)
      · show fX8_becomes_L93 N K (n + 1) (nI i) v = _
        rw [fX8_becomes_L93, if_neg (show ¬ (667 : Int32) ≤ nI i from nI_ge (b := 667) hi (by omega)), if_pos (ib_n (by omega) (by omega)), nI_clamp (by omega), nI_1]) 667 N 0 B (by omega) (by omega) ⟨fun _ _ => rfl, fun j hj => absurd hj (by omega)⟩
  have a3 : ∀ K, fX8_becomes_L42 N K N (0 : Int32) V = K (nI 3) A := a3
  have b3 : ∀ K, fX8_becomes_L67 N K N (0 : Int32) A = K (nI 24) B := b3
  have c3 : ∀ K, fX8_becomes_L93 N K N (0 : Int32) B = K (nI 667) C := c3
  have Co : ∀ k, k ≠ 6 → k ≠ 7 → k ≠ 16 → C k = V k := fun k k1 k2 k3 => by rw [c1 k k3, b1 k k2, a1 k k1]
  have hrm : C 10 0 = nI (S 2 0) := by rw [Co 10 (by omega) (by omega) (by omega), Vo 10 (by omega)]; exact m3
  obtain ⟨s, hs⟩ : ∃ s, s = upd (upd (C 16) 1 (nI (S 2 0))) 2 (-9 : Int32) := ⟨_, rfl⟩
  have s1 : s 1 = nI (S 2 0) := by rw [hs, upd_ne (by omega), upd_eq]
  have s2 : s 2 = (-9 : Int32) := by rw [hs, upd_eq]
  have so : ∀ j, j < 667 → j ≠ 1 → j ≠ 2 → s j = nI 0 := fun j h0 h1 h2 => by rw [hs, upd_ne h2, upd_ne h1]; exact c2 j h0
  have hb0 : vp_nar .boolean (0 : Int32) = (0 : Int32) := by decide
  unfold fX8_becomes
  rw [← hV, a3, b3, c3, if_pos (show ib (1 : Int32) 667 = true by decide), if_pos (show ib (2 : Int32) 667 = true by decide), if_pos (show ib (0 : Int32) 2 = true by decide), if_pos (show ib (1 : Int32) 2 = true by decide), show Int32.toNatClampNeg (1 : Int32) = 1 by decide, show Int32.toNatClampNeg (2 : Int32) = 2 by decide, show Int32.toNatClampNeg (0 : Int32) = 0 by decide, hrm, ← hs, st_st, st_st, hb0]
  refine ⟨_, rfl, ⟨?_, ?_, ?_, ?_, ?_, fun t ht => ?_, fun k c k1 k2 hc => ?_⟩, ?_, ?_, ?_, ?_, ?_, fun k hk => ?_⟩
  · rw [st_ne (by omega), st_ne (by omega), st_ne (by omega), st_ne (by omega), Co 1 (by omega) (by omega) (by omega)]; exact V1
  · rw [st_ne (by omega), st_ne (by omega), st_ne (by omega), st_ne (by omega), Co 2 (by omega) (by omega) (by omega)]; exact V2
  · rw [st_ne (by omega), st_ne (by omega), st_ne (by omega), st_ne (by omega), Co 3 (by omega) (by omega) (by omega)]; exact V3
  · rw [st_ne (by omega), st_ne (by omega), st_ne (by omega), st_ne (by omega), Co 4 (by omega) (by omega) (by omega)]; exact V4
  · rw [st_ne (by omega), st_ne (by omega), st_ne (by omega), st_ne (by omega), Co 5 (by omega) (by omega) (by omega)]; exact V5
  · rw [st_ne (by omega), st_ne (by omega), st_ne (by omega), st_ne (by omega), c1 6 (by omega), b1 6 (by omega), a2 t (by omega), Vo 14 (by omega)]
    exact m7 t ht
  · rw [st_ne (by omega), st_ne (by omega), st_ne (by omega), st_ne (by omega), c1 7 (by omega), b2 _ (by omega), Vo 15 (by omega)]
    exact m8 k c k1 k2 hc
  · rw [st_ne (by omega), st_ne (by omega), st_ne (by omega), st_eq]
    refine ⟨⟨?_, ?_, s2, fun k t hk ht => ?_, fun k c hk hc => ?_, fun t j ht hj => ?_⟩, by show 0 ≤ 60; omega, so 3 (by omega) (by omega) (by omega), fun k x hk => by simp [zI] at hk⟩
    · rw [zI_o (by omega)]; exact so 0 (by omega) (by omega) (by omega)
    · rw [zI_1]; exact s1
    · rw [zI_o (by omega)]; exact so _ (by omega) (by omega) (by omega)
    · rw [zI_o (by omega)]; exact so _ (by omega) (by omega) (by omega)
    · rw [zI_o (by omega), so _ (by omega) (by omega) (by omega)]
      simp [nI]
  · rw [st_ne (by omega), st_ne (by omega), st_eq]
    rfl
  · rw [st_ne (by omega), st_eq]
    rfl
  · rw [st_eq, upd_ne (by omega), upd_eq]
    rfl
  · rw [st_eq, upd_eq]
    rfl
  · rw [st_ne (by omega), st_ne (by omega), st_ne (by omega), st_ne (by omega), Co k (by omega) (by omega) (by omega), Vo k (by omega)]
theorem zI_I {S : RW} {rm : Nat} (h : rm ≤ 60) : stI S (zI rm) := by
  refine ⟨⟨?_, ?_, ?_, fun t ht => ?_, fun c hc => ?_, fun k c k1 k2 hc => ?_⟩, fun x hx => by simp [zI] at hx, List.Pairwise.nil⟩
  · rw [zI_o (by omega)]; omega
  · rw [zI_1]; exact h
  · rw [zI_o (by omega)]; omega
  · rw [zI_o (by omega), zI_o (by omega), zI_o (by omega), zI_o (by omega)]; omega
  · rw [zI_o (by omega), zI_o (by omega)]; omega
  · exact zI_o (by omega) c
theorem rr_new {cv : Nat → MM} {u : MM} {S : RW} (hR : drR S) (hC : suC (cv 2) S) (hM : suM u S) (hst : stC (cv 4) (cv 5) (zI (S 2 0))) (hsm : stM (u 16) (zI (S 2 0))) (t1 : cv 1 1 0 = nI 0) (t2 : u 25 0 = nI 0) (s1 : cv 0 12 0 = nI 0) (s2 : u 22 0 = nI 0) (h1 : cv 10 0 0 = nI 0) (hw : ∃ w : Nat, w < 8 ∧ cv 10 1 0 = nI w) (h3 : u 17 0 = nI 0) (i1 : cv 27 0 0 = nI 0) (i2 : cv 30 0 0 = nI 0) (i3 : u 20 0 = nI 0) (i4 : u 20 1 = nI 0) : RR cv u := by
  obtain ⟨w, w1, w2⟩ := hw
  exact ⟨⟨0, by omega, t1, t2, fun j hj => absurd hj (by omega)⟩, ⟨0, by omega, s1, s2, fun j hj => absurd hj (by omega)⟩, S, hR.1, hC, hM, ⟨zI (S 2 0), hst, hsm, zI_I hR.2, by rw [zI_o (by omega)]; omega⟩, ⟨0, w, by omega, w1, h1, w2, h3, fun i hi => absurd hi (by omega)⟩, ⟨0, by omega, i1, i3, fun h => absurd h (by omega)⟩, ⟨0, by omega, i2, i4, fun h => absurd h (by omega)⟩⟩
/-- a text that fails leaves all as it was -/
theorem rr_txt {cv cv' : Nat → MM} {u u' : MM} (h : RR cv u) (c0 : cv' 0 = cv 0) (c10 : cv' 1 0 = cv 1 0) (c11 : cv' 1 1 = cv 1 1) (c2 : cv' 2 = cv 2) (c4 : cv' 4 = cv 4) (c5 : cv' 5 = cv 5) (ch : ∀ k, 10 ≤ k → k ≤ 26 → cv' k = cv k) (c27 : cv' 27 = cv 27) (c28 : cv' 28 = cv 28) (c29 : cv' 29 = cv 29) (c30 : cv' 30 = cv 30) (c31 : cv' 31 = cv 31) (c32 : cv' 32 = cv 32) (hu : ∀ k, 1 ≤ k → (k ≤ 7 ∨ (16 ≤ k ∧ k ≤ 26)) → u' k = u k) : RR cv' u' := by
  obtain ⟨ht, hs, S, sR, sC, sM, h0, hh, h1, h2⟩ := h
  refine ⟨?_, ?_, S, sR, ?_, suM_c sM (fun j j1 j2 => hu j j1 (by omega)), ?_, rHist_cv ch (rHist_u (hu 17 (by omega) (by omega)) (hu 18 (by omega) (by omega)) hh), ?_, ?_⟩
  · obtain ⟨n, a1, a2, a3, a4⟩ := ht
    refine ⟨n, a1, by rw [c11]; exact a2, by rw [hu 25 (by omega) (by omega)]; exact a3, fun j hj => ?_⟩
    obtain ⟨w, b1, b2, b3⟩ := a4 j hj
    exact ⟨w, b1, by rw [c10]; exact b2, by rw [hu 26 (by omega) (by omega)]; exact b3⟩
  · unfold rSeen
    rw [c0, hu 22 (by omega) (by omega), hu 23 (by omega) (by omega), hu 24 (by omega) (by omega)]
    exact hs
  · rw [c2]
    exact sC
  · rw [c4, c5, hu 16 (by omega) (by omega)]
    exact h0
  · unfold rImg
    rw [hu 19 (by omega) (by omega), hu 20 (by omega) (by omega)]
    show ∃ w : Nat, w ≤ 1 ∧ cv' 27 0 0 = nI w ∧ u 20 0 = nI w ∧ (w = 1 → rSt S (cv' 28) (cv' 29) (fun j => u 19 (667 * 0 + j)))
    rw [c27, c28, c29]
    exact h1
  · unfold rImg
    rw [hu 19 (by omega) (by omega), hu 20 (by omega) (by omega)]
    show ∃ w : Nat, w ≤ 1 ∧ cv' 30 0 0 = nI w ∧ u 20 1 = nI w ∧ (w = 1 → rSt S (cv' 31) (cv' 32) (fun j => u 19 (667 * 1 + j)))
    rw [c30, c31, c32]
    exact h2
/-- the setup at first -/
def aS0 : RW := fun k _ => if k = 2 then 20 else if k = 3 then 2 else if k = 4 then 4 else if k = 5 then 3 else 0
theorem aS0_R : drR aS0 := ⟨⟨by decide, by decide, by decide, by decide, by decide, fun t ht => absurd ht (by show ¬ t < 0; omega), fun c hc => absurd hc (by show ¬ c < 0; omega)⟩, by decide⟩
theorem s0_C (d : MM) (N : Nat) : ∃ y, fX3_begin N d = some y ∧ drC y aS0 := ⟨_, rfl, ⟨⟨rfl, rfl, rfl, rfl, rfl, fun t ht => absurd ht (by show ¬ t < 0; omega), fun k c _ _ hc => absurd hc (by show ¬ c < 0; omega)⟩, rfl⟩⟩
theorem s0_M (u : MM) (N : Nat) : ∃ y, fX8_begins N u = some y ∧ drM y aS0 ∧ ∀ k, k < 8 ∨ 14 ≤ k → y k = u k := ⟨_, rfl, ⟨rfl, rfl, rfl, rfl, rfl, rfl, fun t ht => absurd ht (by show ¬ t < 0; omega), fun k c _ _ hc => absurd hc (by show ¬ c < 0; omega)⟩, fun k hk => by rw [st_ne (by omega), st_ne (by omega), st_ne (by omega), st_ne (by omega), st_ne (by omega), st_ne (by omega)]⟩
theorem rr_init : ∃ (su : MM) (yb : MM × MM × MM × MM × MM × MM) (y1 y2 : MM), fX3_begin 0 z0 = some su ∧ fX7_beginAnew NF su z0 z0 z0 z0 z0 z0 = some yb ∧ fX8_begins NF z0 = some y1 ∧ fX8_becomes NF y1 = some y2 ∧ RR (cv0 su yb) y2 := by
  obtain ⟨su, e1, e2⟩ := s0_C z0 0
  obtain ⟨y1, f1, f2, f3⟩ := s0_M z0 NF
  obtain ⟨b, b1, b2⟩ := bg_7 (rm := 20) (N := NF) (by decide) z0 z0
  obtain ⟨y2, g1, g2, g3, g4, g5, g6, g7, g8⟩ := bc_8 (N := NF) (by decide) aS0_R f2
  have hb : fX7_beginAnew NF su z0 z0 z0 z0 z0 z0 = some (b.2, b.1, (st z0 0 (fun _ => (0 : Int32))), (st z0 0 (fun _ => (0 : Int32))), (st z0 0 (fun _ => (0 : Int32))), (st z0 12 (fun _ => (0 : Int32)))) := by
    unfold fX7_beginAnew
    rw [e2.2, show aS0 2 0 = 20 from rfl, b1, Option.bind_some]
  refine ⟨su, _, y1, y2, e1, hb, f1, g1, rr_new aS0_R e2.1 g2 b2 g3 rfl ?_ rfl g5 rfl ⟨0, by omega, rfl⟩ g4 rfl rfl g6 g7⟩
  rw [g8 25 (by omega), f3 25 (by omega)]
  rfl
set_option maxRecDepth 100000 in
theorem neg10 : ∀ q, q < 121 → ¬ (0 : Int32) ≤ (-10 : Int32) - nI q := by decide
theorem sm_cell (cv : Nat → MM) (u : MM) (h : RR cv u) : ∃ (y : Int32 × MM × MM × MM × MM × MM × MM × MM × MM × MM) (z : Int32 × MM), fX7_cell NF (cv 1) (cv 2) (cv 3) (cv 4) (cv 5) (cv 10) (cv 27) (cv 30) (cv 0) = some y ∧ fX8_cell NF u = some z ∧ y.1 = z.1 ∧ RR (up (up (up (up (up (up (up (up (up cv 1 y.2.1) 2 y.2.2.1) 3 y.2.2.2.1) 4 y.2.2.2.2.1) 5 y.2.2.2.2.2.1) 10 y.2.2.2.2.2.2.1) 27 y.2.2.2.2.2.2.2.1) 30 y.2.2.2.2.2.2.2.2.1) 0 y.2.2.2.2.2.2.2.2.2) z.2 := by
  have hR := h
  obtain ⟨⟨n, n1, n2, n3, n4⟩, hs, S, sR, sC, sM, h0, hh, h1, h2⟩ := id h
  obtain ⟨w, hw⟩ : ∃ w : Nat → Nat, ∀ j, j < n → w j ≤ 255 ∧ cv 1 0 j = nI (w j) ∧ u 26 j = nI (w j) := ⟨fun j => if hj : j < n then (n4 j hj).choose else 0, fun j hj => by
    simp only [dif_pos hj]
    exact (n4 j hj).choose_spec⟩
  obtain ⟨N', hN'⟩ : ∃ m, NF = m + 1 := ⟨5999, by decide⟩
  have h6000 := NF_eq
  obtain ⟨d0, d1, d2⟩ := s0_C (cv 3) NF
  obtain ⟨y1, f1, f2, f3⟩ := s0_M (st u 0 (fun _ => (0 : Int32))) NF
  have hC : txC n w (st (cv 1) 2 (fun _ => (0 : Int32))) := ⟨n1, by rw [st_ne (by omega)]; exact n2, fun j hj => ⟨(hw j hj).1, by rw [st_ne (by omega)]; exact (hw j hj).2.1⟩⟩
  have hM : txM n w (st y1 27 (fun _ => (0 : Int32))) := ⟨n1, by rw [st_ne (by omega), f3 25 (by omega), st_ne (by omega)]; exact n3, fun j hj => ⟨(hw j hj).1, by rw [st_ne (by omega), f3 26 (by omega), st_ne (by omega)]; exact (hw j hj).2.2⟩⟩
  obtain ⟨b, B1, B2, B3, B4, B5, B6⟩ := tok_7 (p := 0) (N := NF) hC (by omega) (by rw [st_eq]; rfl) (by decide)
  obtain ⟨c, C1, C2, C3, C4, C6⟩ := tok_8 (p := 0) (N := NF) hM (by omega) (by rw [st_eq]; rfl) (by decide)
  have hle := tk_le (n := n) (w := w) (p := 0) (by omega) (fun j hj => (hw j hj).1)
  have hA : tkA n w (aTe n w 0) (aTq n w 0) (aTt n w 0) b d0 c aS0 := ⟨txC_c hC (B6 0 (by omega) (by omega) (by omega) (by omega)) (B6 1 (by omega) (by omega) (by omega) (by omega)), txM_c hM (C6 25 (by omega) (by omega) (by omega)) (C6 26 (by omega) (by omega) (by omega)), B2, C2, by omega, B3, C3, by omega, B4, C4, d2, drM_c f2 (fun k k1 k2 => by rw [C6 k (by omega) (by omega) (by omega), st_ne (by omega)]), aS0_R⟩
  have hread : fX6_readInto NF (cv 1) (cv 3) = clB NF (fun (x2_13 : Int32) (v0_13 : MM) (v1_13 : MM) => some (((-10 : Int32) - (v0_13 3 0)), v0_13, v1_13)) N' (nI 0) b d0 := by
    have e := L11_step NF (fun (x2_13 : Int32) (v0_13 : MM) (v1_13 : MM) => some (((-10 : Int32) - (v0_13 3 0)), v0_13, v1_13)) N' (0 : Int32) (st (cv 1) 2 (fun _ => (0 : Int32))) d0 (by decide)
    rw [← hN', B1, Option.bind_some] at e
    unfold fX6_readInto
    rw [d1, Option.bind_some]
    exact e
  have ao : ∀ a', frC a' b → a' 0 = cv 1 0 ∧ a' 1 = cv 1 1 := fun a' g => by
    constructor
    · rw [g 0 (by omega) (by omega) (by omega) (by omega), B6 0 (by omega) (by omega) (by omega) (by omega), st_ne (by omega)]
    · rw [g 1 (by omega) (by omega) (by omega) (by omega), B6 1 (by omega) (by omega) (by omega) (by omega), st_ne (by omega)]
  have uo : ∀ u', frM u' c → ∀ k, 1 ≤ k → (k ≤ 7 ∨ (16 ≤ k ∧ k ≤ 26)) → u' k = u k := fun u' g k k1 k2 => by
    rw [g k k2, C6 k (by omega) (by omega) (by omega), st_ne (by omega), f3 k (by omega), st_ne (by omega)]
  unfold fX7_cell fX8_cell
  rw [f1, Option.bind_some, C1, Option.bind_some]
  rcases loop_sim (N := NF) (by decide) N' 0 (aTe n w 0) (aTq n w 0) (aTt n w 0) b d0 c aS0 (by omega) (fun g => hle.2.2.2.2.1 g) (by omega) hA with ⟨i', a', d', u', S', r1, r2, r3, r4, r5, r6, r7, r8⟩ | ⟨q', a', d', u', r1, r2, r3, r4, r5⟩
  · rw [← hN'] at r3
    have r3 : ∀ K, fX8_cell_L20 NF K NF (0 : Int32) c = K (nI i') u' := r3
    rw [r2] at hread
    obtain ⟨Y, hY⟩ : ∃ Y : Int32 × MM × MM, Y = (nI i', a', d') := ⟨_, rfl⟩
    have Y1 : Y.1 = nI i' := by rw [hY]
    have Y2 : Y.2.1 = a' := by rw [hY]
    have Y3 : Y.2.2 = d' := by rw [hY]
    rw [← hY] at hread
    obtain ⟨e, e1, e2⟩ := cs_7 (v := cv 2) r6 r4 NF
    obtain ⟨s, s1, s2⟩ := bg_7 (rm := S' 2 0) (N := NF) (by decide) (cv 5) (cv 4)
    obtain ⟨y8, g1, g2, g3, g4, g5, g6, g7, g8⟩ := bc_8 (N := NF) (by decide) r6 r5
    have hb : fX7_beginAnew NF e (cv 4) (cv 5) (cv 10) (cv 27) (cv 30) (cv 0) = some (s.2, s.1, (st (cv 10) 0 (fun _ => (0 : Int32))), (st (cv 27) 0 (fun _ => (0 : Int32))), (st (cv 30) 0 (fun _ => (0 : Int32))), (st (cv 0) 12 (fun _ => (0 : Int32)))) := by
      unfold fX7_beginAnew
      rw [e2.2, s1, Option.bind_some]
    obtain ⟨hn, hw2, hh1, hh2, hh3, hh4, hh5⟩ := hh
    rw [hread, Option.bind_some, Y1, if_pos (nI_pos' (by omega)), Y2, Y3, e1, Option.bind_some, show fX6_empty NF a' = some ((a' 1 0), (st a' 1 (fun _ => (0 : Int32)))) from rfl, Option.bind_some, hb, Option.bind_some, r3, g1, Option.bind_some]
    exact ⟨_, _, rfl, rfl, rfl, rr_new r6 e2.1 g2 s2 g3 rfl rfl rfl g5 rfl ⟨hw2, hh2, hh4⟩ g4 rfl rfl g6 g7⟩
  · rw [← hN'] at r3
    have r3 : ∀ K, fX8_cell_L20 NF K NF (0 : Int32) c = some (((-10 : Int32) - nI q'), u') := r3
    rw [r2] at hread
    obtain ⟨Y, hY⟩ : ∃ Y : Int32 × MM × MM, Y = ((-10 : Int32) - nI q', a', d') := ⟨_, rfl⟩
    have Y1 : Y.1 = (-10 : Int32) - nI q' := by rw [hY]
    have Y2 : Y.2.1 = a' := by rw [hY]
    rw [← hY] at hread
    have ha := ao a' r4
    rw [hread, Option.bind_some, Y1, if_neg (neg10 q' (by omega)), r3]
    refine ⟨_, _, rfl, rfl, rfl, rr_txt hR rfl ?_ ?_ rfl rfl rfl (fun k k1 k2 => ?_) rfl rfl rfl rfl rfl rfl (uo u' r5)⟩
    · show Y.2.1 0 = cv 1 0
      rw [Y2]
      exact ha.1
    · show Y.2.1 1 = cv 1 1
      rw [Y2]
      exact ha.2
    · by_cases e : k = 10
      · subst e
        rfl
      · rw [up_ne (by omega), up_ne (by omega), up_ne (by omega), up_ne (by omega), up_ne (by omega), up_ne (by omega), up_ne (by omega), up_ne (by omega), up_ne (by omega)]
