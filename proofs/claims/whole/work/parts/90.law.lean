set_option maxHeartbeats 4000000 in
set_option maxRecDepth 100000 in
theorem law_loop {p : Program} {e : Env} {s : State} {m : MethodId} {below : List Frame} {meth : Method} {c : Code} (l : Launch) {b L : Nat} {xs : Nat → Int32} (hL : L ≤ 2048) (C0 : lw_At p s m meth c b L xs) {g : GT} (C : cx g p m c code 4 s #[Value.ref b] wsL_law RL) : ∀ (d i : Nat), L - i < d → i ≤ L + 4 → ∀ (ad : Nat → Nat → Nat) (am : Nat → Nat) (cv : Nat → MM) (u : MM) (H : Heap) (locs : List Loc) (ls : Array Slot), RR cv u → wd g (fun q : Nat => s.heap.size ≤ q) s.heap (wL g ad am cv u) H locs → lv_has ls 4 [(0, .ref b), (1, .ref (ad 0 0)), (2, .ref (am 0)), (3, .int (nI i))] → W p l e room_1 s m #[Value.ref b] below meth c H locs 600000 7302250 (lw_Z below #[Value.ref b] s) (F0 m 18 ls []) := by
  intro d
  induction d with
  | zero => intro i h; omega
  | succ d ih =>
    intro i hd hi ad am cv u H locs ls hR hW hl
    obtain ⟨hx, hb, hr, hml, hown, -, hX, hbl, hlocks, hgv⟩ := id C0
    have hA : ∀ q : Nat, s.heap.size ≤ q → (fun q : Nat => s.heap.size ≤ q) q := fun _ h => h
    have hbA : ¬ (fun q : Nat => s.heap.size ≤ q) b := Nat.not_le.mpr hbl
    refine lv_iload_n hx hb dL_law_18 rfl (lv_at hl 3 rfl) ?_
    refine lv_aload_n hx hb dL_law_19 rfl (lv_at hl 0 rfl) ?_
    refine va_slen hx hb hX hbl hbA hW.2.2 dL_law_20 ?_
    refine lv_iconst (v := (4 : Int32)) hx hb dL_law_21 (by decide) ?_
    refine lv_isub hx hb dL_law_22 ?_
    have e4 : (Int32.ofNat L - (4 : Int32)).toInt = (L : Int) - (4 : Nat) := pk_sub_toInt (a := L) (b := 4) (by omega) (by omega)
    have ei : (nI i).toInt = (i : Int) := nI_toInt (by omega)
    refine lv_icmp_gt (tgt := 651) hx hb dL_law_23 (by decide) (fun h => ?_) (fun h => ?_)
    · refine va_forget (fun q hq => hW.2.2.2.2 q hq) ?_
      refine lv_iconst (v := (1 : Int32)) hx hb dL_law_651 (by decide) ?_
      exact lw_ret hx hb hr hlocks dL_law_652
    · have hi4 : i + 4 ≤ L := by
        rw [Int32.lt_iff_toInt_lt, e4, ei] at h
        omega
      have i0 : vp_in (nI i) L := vp_in_nI (by omega) (by omega)
      refine lv_aload_n hx hb dL_law_26 rfl (lv_at hl 0 rfl) ?_
      refine lv_iload_n hx hb dL_law_27 rfl (lv_at hl 3 rfl) ?_
      refine va_sld hx hb hX hbl hbA hW.2.2 i0 dL_law_28 ?_
      refine lv_bipush (v := (31 : Int32)) hx hb dL_law_29 (by decide) ?_
      refine lv_iand hx hb dL_law_31 ?_
      have kk : ∀ (H : Heap) (locs : List Loc) (cv : Nat → MM) (u : MM) (ls : Array Slot), RR cv u → wd g (fun q : Nat => s.heap.size ≤ q) s.heap (wL g ad am cv u) H locs → lv_has ls 4 [(0, .ref b), (1, .ref (ad 0 0)), (2, .ref (am 0)), (3, .int (nI i))] → W p l e room_1 s m #[Value.ref b] below meth c H locs 600000 7302250 (lw_Z below #[Value.ref b] s) (F0 m 645 ls []) := by
        intro H locs cv u ls hR hW hl
        refine lv_iinc (v := nI (i + 4)) (lv' := [(3, .int (nI (i + 4))), (0, .ref b), (1, .ref (ad 0 0)), (2, .ref (am 0))]) hx hb dL_law_645 hl (k := 3) rfl (by rw [show Int32.ofInt 4 = nI 4 from rfl, nI_add]) (by decide) rfl (fun ls hl => ?_)
        refine lv_goto (tgt := 18) hx hb dL_law_648 (by decide) ?_
        exact ih (i + 4) (by omega) (by omega) ad am cv u H locs ls hR hW (lv_sub hl [1, 2, 3, 0] rfl)
      obtain ⟨w, hw⟩ : ∃ w, w = xs (nI i).toNatClampNeg &&& (31 : Int32) := ⟨_, rfl⟩
      rw [← hw]
      rcases Decidable.em (w = (0 : Int32)) with h0 | h0
      · refine g_tsw C (off := 100) h0 dL_law_32 (by decide) (by decide) (tgt := 132) (by decide) ?_
        exact law_type sm_type l hL C0 C hi4 hR hW hl kk
      rcases Decidable.em (w = (1 : Int32)) with h1 | h1
      · refine g_tsw C (off := 123) h1 dL_law_32 (by decide) (by decide) (tgt := 155) (by decide) ?_
        exact law_clear sm_clear l hL C0 C hi4 hR hW hl kk
      rcases Decidable.em (w = (2 : Int32)) with h2 | h2
      · refine g_tsw C (off := 136) h2 dL_law_32 (by decide) (by decide) (tgt := 168) (by decide) ?_
        exact law_cell sm_cell l hL C0 C hi4 hR hW hl kk
      rcases Decidable.em (w = (3 : Int32)) with h3 | h3
      · refine g_tsw C (off := 149) h3 dL_law_32 (by decide) (by decide) (tgt := 181) (by decide) ?_
        exact law_comes sm_comes l hL C0 C hi4 hR hW hl kk
      rcases Decidable.em (w = (4 : Int32)) with h4 | h4
      · refine g_tsw C (off := 182) h4 dL_law_32 (by decide) (by decide) (tgt := 214) (by decide) ?_
        exact law_steps sm_steps l hL C0 C hi4 hR hW hl kk
      rcases Decidable.em (w = (5 : Int32)) with h5 | h5
      · refine g_tsw C (off := 205) h5 dL_law_32 (by decide) (by decide) (tgt := 237) (by decide) ?_
        exact law_deafens sm_deafens l hL C0 C hi4 hR hW hl kk
      rcases Decidable.em (w = (6 : Int32)) with h6 | h6
      · refine g_tsw C (off := 248) h6 dL_law_32 (by decide) (by decide) (tgt := 280) (by decide) ?_
        exact law_widens sm_widens l hL C0 C hi4 hR hW hl kk
      rcases Decidable.em (w = (7 : Int32)) with h7 | h7
      · refine g_tsw C (off := 271) h7 dL_law_32 (by decide) (by decide) (tgt := 303) (by decide) ?_
        exact law_undo sm_undo l hL C0 C hi4 hR hW hl kk
      rcases Decidable.em (w = (8 : Int32)) with h8 | h8
      · refine g_tsw C (off := 284) h8 dL_law_32 (by decide) (by decide) (tgt := 316) (by decide) ?_
        exact law_sort sm_sort l hL C0 C hi4 hR hW hl kk
      rcases Decidable.em (w = (9 : Int32)) with h9 | h9
      · refine g_tsw C (off := 317) h9 dL_law_32 (by decide) (by decide) (tgt := 349) (by decide) ?_
        exact law_terminal sm_terminal l hL C0 C hi4 hR hW hl kk
      rcases Decidable.em (w = (10 : Int32)) with h10 | h10
      · refine g_tsw C (off := 350) h10 dL_law_32 (by decide) (by decide) (tgt := 382) (by decide) ?_
        exact law_block sm_block l hL C0 C hi4 hR hW hl kk
      rcases Decidable.em (w = (11 : Int32)) with h11 | h11
      · refine g_tsw C (off := 383) h11 dL_law_32 (by decide) (by decide) (tgt := 415) (by decide) ?_
        exact law_deaf sm_deaf l hL C0 C hi4 hR hW hl kk
      rcases Decidable.em (w = (12 : Int32)) with h12 | h12
      · refine g_tsw C (off := 416) h12 dL_law_32 (by decide) (by decide) (tgt := 448) (by decide) ?_
        exact law_drain sm_drain l hL C0 C hi4 hR hW hl kk
      rcases Decidable.em (w = (13 : Int32)) with h13 | h13
      · refine g_tsw C (off := 429) h13 dL_law_32 (by decide) (by decide) (tgt := 461) (by decide) ?_
        exact law_enough sm_enough l hL C0 C hi4 hR hW hl kk
      rcases Decidable.em (w = (14 : Int32)) with h14 | h14
      · refine g_tsw C (off := 452) h14 dL_law_32 (by decide) (by decide) (tgt := 484) (by decide) ?_
        exact law_ahead sm_ahead l hL C0 C hi4 hR hW hl kk
      rcases Decidable.em (w = (15 : Int32)) with h15 | h15
      · refine g_tsw C (off := 485) h15 dL_law_32 (by decide) (by decide) (tgt := 517) (by decide) ?_
        exact law_sees sm_sees l hL C0 C hi4 hR hW hl kk
      rcases Decidable.em (w = (16 : Int32)) with h16 | h16
      · refine g_tsw C (off := 518) h16 dL_law_32 (by decide) (by decide) (tgt := 550) (by decide) ?_
        exact law_forget sm_forget l hL C0 C hi4 hR hW hl kk
      rcases Decidable.em (w = (17 : Int32)) with h17 | h17
      · refine g_tsw C (off := 531) h17 dL_law_32 (by decide) (by decide) (tgt := 563) (by decide) ?_
        exact law_unseen sm_unseen l hL C0 C hi4 hR hW hl kk
      rcases Decidable.em (w = (18 : Int32)) with h18 | h18
      · refine g_tsw C (off := 544) h18 dL_law_32 (by decide) (by decide) (tgt := 576) (by decide) ?_
        exact law_keep sm_keep l hL C0 C hi4 hR hW hl kk
      rcases Decidable.em (w = (19 : Int32)) with h19 | h19
      · refine g_tsw C (off := 567) h19 dL_law_32 (by decide) (by decide) (tgt := 599) (by decide) ?_
        exact law_back sm_back l hL C0 C hi4 hR hW hl kk
      rcases Decidable.em (w = (20 : Int32)) with h20 | h20
      · refine g_tsw C (off := 590) h20 dL_law_32 (by decide) (by decide) (tgt := 622) (by decide) ?_
        exact law_count sm_count l hL C0 C hi4 hR hW hl kk
      have t0 := lv_neT h0 (show (0 : Int32).toInt = 0 by decide)
      have t1 := lv_neT h1 (show (1 : Int32).toInt = 1 by decide)
      have t2 := lv_neT h2 (show (2 : Int32).toInt = 2 by decide)
      have t3 := lv_neT h3 (show (3 : Int32).toInt = 3 by decide)
      have t4 := lv_neT h4 (show (4 : Int32).toInt = 4 by decide)
      have t5 := lv_neT h5 (show (5 : Int32).toInt = 5 by decide)
      have t6 := lv_neT h6 (show (6 : Int32).toInt = 6 by decide)
      have t7 := lv_neT h7 (show (7 : Int32).toInt = 7 by decide)
      have t8 := lv_neT h8 (show (8 : Int32).toInt = 8 by decide)
      have t9 := lv_neT h9 (show (9 : Int32).toInt = 9 by decide)
      have t10 := lv_neT h10 (show (10 : Int32).toInt = 10 by decide)
      have t11 := lv_neT h11 (show (11 : Int32).toInt = 11 by decide)
      have t12 := lv_neT h12 (show (12 : Int32).toInt = 12 by decide)
      have t13 := lv_neT h13 (show (13 : Int32).toInt = 13 by decide)
      have t14 := lv_neT h14 (show (14 : Int32).toInt = 14 by decide)
      have t15 := lv_neT h15 (show (15 : Int32).toInt = 15 by decide)
      have t16 := lv_neT h16 (show (16 : Int32).toInt = 16 by decide)
      have t17 := lv_neT h17 (show (17 : Int32).toInt = 17 by decide)
      have t18 := lv_neT h18 (show (18 : Int32).toInt = 18 by decide)
      have t19 := lv_neT h19 (show (19 : Int32).toInt = 19 by decide)
      have t20 := lv_neT h20 (show (20 : Int32).toInt = 20 by decide)
      refine lv_tableOut hx hb dL_law_32 (by omega) (tgt := 645) (by decide) ?_
      exact kk H locs cv u ls hR hW hl
set_option maxHeartbeats 4000000 in
set_option maxRecDepth 100000 in
theorem law_known {s : State} {b : Nat} (hts : ∀ w ∈ lw_tbl, w.before #[Value.ref b] s = true) : ∃ g : GT, gK g s ∧ AO s := by
  obtain ⟨c0, iS0, hKn0⟩ := u_known (C := RX0) (T := TX0) (N := 6) (n := 6) hts inX0 (hts (.instantiable RX0 6) (by decide +kernel))
  obtain ⟨c1, iS1, hKn1⟩ := u_known (C := RX1) (T := TX1) (N := 3) (n := 3) hts inX1 (hts (.instantiable RX1 3) (by decide +kernel))
  obtain ⟨c2, iS2, hKn2⟩ := u_known (C := RX2) (T := TX2) (N := 2) (n := 2) hts inX2 (hts (.instantiable RX2 2) (by decide +kernel))
  obtain ⟨c3, iS3, hKn3⟩ := u_known (C := RX3) (T := TX3) (N := 11) (n := 11) hts inX3 (hts (.instantiable RX3 11) (by decide +kernel))
  obtain ⟨c4, iS4, hKn4⟩ := u_known (C := RX4) (T := TX4) (N := 15) (n := 15) hts inX4 (hts (.instantiable RX4 15) (by decide +kernel))
  obtain ⟨c5, iS5, hKn5⟩ := u_known (C := RX5) (T := TX5) (N := 3) (n := 3) hts inX5 (hts (.instantiable RX5 3) (by decide +kernel))
  obtain ⟨c6, iS6, hKn6⟩ := u_known (C := RX6) (T := TX6) (N := 6) (n := 6) hts inX6 (hts (.instantiable RX6 6) (by decide +kernel))
  obtain ⟨c7, iS7, hKn7⟩ := u_known (C := RX7) (T := TX7) (N := 13) (n := 13) hts inX7 (hts (.instantiable RX7 13) (by decide +kernel))
  obtain ⟨c8, iS8, hKn8⟩ := u_known (C := RX8) (T := TX8) (N := 32) (n := 32) hts inX8 (hts (.instantiable RX8 32) (by decide +kernel))
  obtain ⟨yI, kI, mI, aI1, aI2, aI3⟩ := Cond.arrayClass_spec (show (Cond.arrayClass .int).holds #[Value.ref b] s none s [] = true from hts (.arrayClass .int) (by decide +kernel))
  obtain ⟨yC, kC, mC, aC1, aC2, aC3⟩ := Cond.arrayClass_spec (show (Cond.arrayClass .char).holds #[Value.ref b] s none s [] = true from hts (.arrayClass .char) (by decide +kernel))
  obtain ⟨yZ, kZ, mZ, aZ1, aZ2, aZ3⟩ := Cond.arrayClass_spec (show (Cond.arrayClass .boolean).holds #[Value.ref b] s none s [] = true from hts (.arrayClass .boolean) (by decide +kernel))
  have hO : AO s := va_AO.of (hts (.arrayOver (.object "UpwardGrants$State")) (by decide +kernel))
  obtain ⟨oc, yO, kO, o1, o2, o3, o4, o5⟩ := Cond.arrayOver_spec (va_AO.use (A := #[]) hO)
  refine ⟨((fun k => if k = 0 then c0 else if k = 1 then c1 else if k = 2 then c2 else if k = 3 then c3 else if k = 4 then c4 else if k = 5 then c5 else if k = 6 then c6 else if k = 7 then c7 else c8, fun k => if k = 0 then iS0 else if k = 1 then iS1 else if k = 2 then iS2 else if k = 3 then iS3 else if k = 4 then iS4 else if k = 5 then iS5 else if k = 6 then iS6 else if k = 7 then iS7 else iS8), (yI, yC, yZ, yO)), ⟨⟨?_, ?_⟩, ?_⟩, hO⟩
  · intro k q hq
    match k, hq with
    | 0, hq => cases hq; exact hKn0
    | 1, hq => cases hq; exact hKn1
    | 2, hq => cases hq; exact hKn2
    | 3, hq => cases hq; exact hKn3
    | 4, hq => cases hq; exact hKn4
    | 5, hq => cases hq; exact hKn5
    | 6, hq => cases hq; exact hKn6
    | 7, hq => cases hq; exact hKn7
    | 8, hq => cases hq; exact hKn8
    | k + 9, hq => simp [vwCl] at hq
  · intro k q hq
    match k, hq with
    | 0, hq => cases hq; exact ⟨fun n z => ⟨fun k h => (by cases h), kI, aI2, mI, aI3⟩, aI1⟩
    | 1, hq => cases hq; exact ⟨fun n z => ⟨fun k h => (by cases h), kC, aC2, mC, aC3⟩, aC1⟩
    | 2, hq => cases hq; exact ⟨fun n z => ⟨fun k h => (by cases h), kZ, aZ2, mZ, aZ3⟩, aZ1⟩
    | 3, hq => cases hq; exact ⟨fun n z => ⟨fun k h => (by cases h), kO, o3, oc, o4⟩, kO, oc, o3, o4, o1, o5⟩
    | k + 4, hq => simp [gTy] at hq
  · intro q hq
    have hall : ∀ q ∈ gNest, Cond.methodLinkNest q.1 q.2.1 q.2.2 "UpwardGrants" ∈ lw_tbl := by decide +kernel
    exact va_Nw.of rfl (hts _ (hall q hq))
set_option maxHeartbeats 4000000 in
set_option maxRecDepth 100000 in
theorem whole_start {p : Program} {e : Env} {s : State} {m : MethodId} {below : List Frame} {meth : Method} {c : Code} (l : Launch) (hflags : l.flags = flags0) {b L : Nat} {xs : Nat → Int32} (hL : L ≤ 2048) (C0 : lw_At p s m meth c b L xs) : W p l e room_1 s m #[Value.ref b] below meth c s.heap [] 0 0 (lw_Z below #[Value.ref b] s) (entryFrame m ([Value.ref b] : List Value).toArray 4) := by
  obtain ⟨hx, hb, hr, hml, hown, hts, hX, hbl, hlocks, hgv⟩ := id C0
  obtain ⟨g, hK, hO⟩ := law_known hts
  have C : cx g p m c code 4 s #[Value.ref b] wsL_law RL := ⟨⟨hx, hb, hml, hown, fun w h => hts w (wsL_law_in w h)⟩, hK⟩
  have hA : ∀ q : Nat, s.heap.size ≤ q → (fun q : Nat => s.heap.size ≤ q) q := fun _ h => h
  have hW : wd g (fun q : Nat => s.heap.size ≤ q) s.heap [] s.heap [] := ⟨fun k q h => by simp at h, ⟨fun i j p q h => by simp at h, fun k q h => by simp at h⟩, va_S.rf⟩
  have hl := lv_entry ([.ref b]) (n := 4) (Nat.le_of_ble_eq_true rfl)
  rw [lg_entry_eq]
  generalize (lg_sl ([.ref b]) ++ List.replicate (4 - (lg_sl ([.ref b])).length) Slot.unset).toArray = ls at hl ⊢
  have hl : lv_has ls 4 [(0, .ref b)] := hl
  obtain ⟨su, yb, y1, y2, h1, h2, h3, h4, hR⟩ := rr_init
  refine g_new C hW hA inlX7 tyX7_ok (by decide +kernel) (by decide +kernel) (by decide +kernel) (ci := 7) rfl (fs := [.null, .null, .null, .null, .null, .null, .null, .null, .null, .null, .null, .null, .int 0]) (fun j hj => by rcases (show j = 0 ∨ j = 1 ∨ j = 2 ∨ j = 3 ∨ j = 4 ∨ j = 5 ∨ j = 6 ∨ j = 7 ∨ j = 8 ∨ j = 9 ∨ j = 10 ∨ j = 11 ∨ j = 12 by omega) with rfl | rfl | rfl | rfl | rfl | rfl | rfl | rfl | rfl | rfl | rfl | rfl | rfl <;> rfl) rfl rfl dL_law_0 (fun q H hW => ?_)
  replace hW : wd g (fun q : Nat => s.heap.size ≤ q) s.heap [[(q, .inr (7, [.null, .null, .null, .null, .null, .null, .null, .null, .null, .null, .null, .null, .int 0]))]] H [] := hW
  refine lv_dup hx hb dL_law_3 rfl ?_
  refine g_cI C hO (ct_X7_init g l q NF su h1 yb h2) gL_law_X7_init rfl 0 (by decide +kernel) (by decide +kernel) (by decide +kernel) (by decide +kernel) rfl ⟨rfl, rfl, ⟨(Nat.le_of_ble_eq_true rfl), (Nat.le_of_ble_eq_true rfl)⟩, (Nat.le_of_ble_eq_true rfl), (Nat.le_of_ble_eq_true rfl)⟩ rfl hl (Nat.le_of_ble_eq_true rfl) dL_law_4 rfl hW hA 0 rfl (fun ch1 hp H locs hW => ?_)
  obtain ⟨e0, e1, e2, e3, e4, e5, e6, e7, e8, e9, e10, e11, e12, e13, e14, e15, e16, e17, e18, e19, e20, e21, e22, e23, e24, e25, e26, e27, e28, e29, e30, e31, e32, ho, rfl⟩ := hp
  subst ho
  obtain ⟨ad, had⟩ : ∃ ad : Nat → Nat → Nat, ad = (fun q => match q with | 0 => e0 | 1 => e1 | 2 => e2 | 3 => e3 | 4 => e4 | 5 => e5 | 6 => e6 | 7 => e7 | 8 => e8 | 9 => e9 | 10 => e10 | 11 => e11 | 12 => e12 | 13 => e13 | 14 => e14 | 15 => e15 | 16 => e16 | 17 => e17 | 18 => e18 | 19 => e19 | 20 => e20 | 21 => e21 | 22 => e22 | 23 => e23 | 24 => e24 | 25 => e25 | 26 => e26 | 27 => e27 | 28 => e28 | 29 => e29 | 30 => e30 | 31 => e31 | _ => e32) := ⟨_, rfl⟩
  replace hW : wd g (fun q : Nat => s.heap.size ≤ q) s.heap [kX7 g (ad 0) (ad 1 0) (ad 2 0) (ad 3 0) (ad 4 0) (ad 6 0) (ad 8 0) (ad 9 0) (ad 10 0) (ad 27 0) (ad 30 0) (cv0 su yb 0), kX6 g (ad 1) (cv0 su yb 1), kX3 g (ad 2) (cv0 su yb 2), kX3 g (ad 3) (cv0 su yb 3), kX4 g (ad 4) (ad 5 0) (cv0 su yb 4), kX0 g (ad 5) (cv0 su yb 5), kX4 g (ad 6) (ad 7 0) (cv0 su yb 6), kX0 g (ad 7) (cv0 su yb 7), kX5 g (ad 8) (ad 2 0) (ad 4 0) (cv0 su yb 8), kX5 g (ad 9) (ad 2 0) (ad 6 0) (cv0 su yb 9), kX1 g (ad 10) (ad 11 0) (ad 13 0) (ad 15 0) (ad 17 0) (ad 19 0) (ad 21 0) (ad 23 0) (ad 25 0) (cv0 su yb 10), kX4 g (ad 11) (ad 12 0) (cv0 su yb 11), kX0 g (ad 12) (cv0 su yb 12), kX4 g (ad 13) (ad 14 0) (cv0 su yb 13), kX0 g (ad 14) (cv0 su yb 14), kX4 g (ad 15) (ad 16 0) (cv0 su yb 15), kX0 g (ad 16) (cv0 su yb 16), kX4 g (ad 17) (ad 18 0) (cv0 su yb 17), kX0 g (ad 18) (cv0 su yb 18), kX4 g (ad 19) (ad 20 0) (cv0 su yb 19), kX0 g (ad 20) (cv0 su yb 20), kX4 g (ad 21) (ad 22 0) (cv0 su yb 21), kX0 g (ad 22) (cv0 su yb 22), kX4 g (ad 23) (ad 24 0) (cv0 su yb 23), kX0 g (ad 24) (cv0 su yb 24), kX4 g (ad 25) (ad 26 0) (cv0 su yb 25), kX0 g (ad 26) (cv0 su yb 26), kX2 g (ad 27) (ad 28 0) (cv0 su yb 27), kX4 g (ad 28) (ad 29 0) (cv0 su yb 28), kX0 g (ad 29) (cv0 su yb 29), kX2 g (ad 30) (ad 31 0) (cv0 su yb 30), kX4 g (ad 31) (ad 32 0) (cv0 su yb 31), kX0 g (ad 32) (cv0 su yb 32)] H locs := hW.re (by rw [had]; rfl)
  refine lv_astore_n (lv' := [(1, .ref (e0 0)), (0, .ref b)]) hx hb dL_law_7 rfl hl (by decide) rfl (fun ls hl => ?_)
  replace hl : lv_has ls 4 [(1, .ref (ad 0 0)), (0, .ref b)] := by rw [had]; exact hl
  refine g_new C hW hA inlX8 tyX8_ok (by decide +kernel) (by decide +kernel) (by decide +kernel) (ci := 8) rfl (fs := [.int 0, .int 0, .int 0, .int 0, .int 0, .int 0, .null, .null, .int 0, .int 0, .int 0, .int 0, .int 0, .int 0, .null, .null, .null, .int 0, .null, .null, .null, .null, .int 0, .null, .null, .int 0, .null, .int 0, .int 0, .int 0, .int 0, .int 0]) (fun j hj => by rcases (show j = 0 ∨ j = 1 ∨ j = 2 ∨ j = 3 ∨ j = 4 ∨ j = 5 ∨ j = 6 ∨ j = 7 ∨ j = 8 ∨ j = 9 ∨ j = 10 ∨ j = 11 ∨ j = 12 ∨ j = 13 ∨ j = 14 ∨ j = 15 ∨ j = 16 ∨ j = 17 ∨ j = 18 ∨ j = 19 ∨ j = 20 ∨ j = 21 ∨ j = 22 ∨ j = 23 ∨ j = 24 ∨ j = 25 ∨ j = 26 ∨ j = 27 ∨ j = 28 ∨ j = 29 ∨ j = 30 ∨ j = 31 by omega) with rfl | rfl | rfl | rfl | rfl | rfl | rfl | rfl | rfl | rfl | rfl | rfl | rfl | rfl | rfl | rfl | rfl | rfl | rfl | rfl | rfl | rfl | rfl | rfl | rfl | rfl | rfl | rfl | rfl | rfl | rfl | rfl <;> rfl) rfl rfl dL_law_8 (fun q H hW => ?_)
  replace hW : wd g (fun q : Nat => s.heap.size ≤ q) s.heap [kX7 g (ad 0) (ad 1 0) (ad 2 0) (ad 3 0) (ad 4 0) (ad 6 0) (ad 8 0) (ad 9 0) (ad 10 0) (ad 27 0) (ad 30 0) (cv0 su yb 0), kX6 g (ad 1) (cv0 su yb 1), kX3 g (ad 2) (cv0 su yb 2), kX3 g (ad 3) (cv0 su yb 3), kX4 g (ad 4) (ad 5 0) (cv0 su yb 4), kX0 g (ad 5) (cv0 su yb 5), kX4 g (ad 6) (ad 7 0) (cv0 su yb 6), kX0 g (ad 7) (cv0 su yb 7), kX5 g (ad 8) (ad 2 0) (ad 4 0) (cv0 su yb 8), kX5 g (ad 9) (ad 2 0) (ad 6 0) (cv0 su yb 9), kX1 g (ad 10) (ad 11 0) (ad 13 0) (ad 15 0) (ad 17 0) (ad 19 0) (ad 21 0) (ad 23 0) (ad 25 0) (cv0 su yb 10), kX4 g (ad 11) (ad 12 0) (cv0 su yb 11), kX0 g (ad 12) (cv0 su yb 12), kX4 g (ad 13) (ad 14 0) (cv0 su yb 13), kX0 g (ad 14) (cv0 su yb 14), kX4 g (ad 15) (ad 16 0) (cv0 su yb 15), kX0 g (ad 16) (cv0 su yb 16), kX4 g (ad 17) (ad 18 0) (cv0 su yb 17), kX0 g (ad 18) (cv0 su yb 18), kX4 g (ad 19) (ad 20 0) (cv0 su yb 19), kX0 g (ad 20) (cv0 su yb 20), kX4 g (ad 21) (ad 22 0) (cv0 su yb 21), kX0 g (ad 22) (cv0 su yb 22), kX4 g (ad 23) (ad 24 0) (cv0 su yb 23), kX0 g (ad 24) (cv0 su yb 24), kX4 g (ad 25) (ad 26 0) (cv0 su yb 25), kX0 g (ad 26) (cv0 su yb 26), kX2 g (ad 27) (ad 28 0) (cv0 su yb 27), kX4 g (ad 28) (ad 29 0) (cv0 su yb 28), kX0 g (ad 29) (cv0 su yb 29), kX2 g (ad 30) (ad 31 0) (cv0 su yb 30), kX4 g (ad 31) (ad 32 0) (cv0 su yb 31), kX0 g (ad 32) (cv0 su yb 32), [(q, .inr (8, [.int 0, .int 0, .int 0, .int 0, .int 0, .int 0, .null, .null, .int 0, .int 0, .int 0, .int 0, .int 0, .int 0, .null, .null, .null, .int 0, .null, .null, .null, .null, .int 0, .null, .null, .int 0, .null, .int 0, .int 0, .int 0, .int 0, .int 0]))]] H locs := hW
  refine lv_dup hx hb dL_law_11 rfl ?_
  refine g_cI C hO (ct_X8_init g l q NF y1 h3 y2 h4) gL_law_X8_init rfl 0 (by decide +kernel) (by decide +kernel) (by decide +kernel) (by decide +kernel) rfl ⟨rfl, rfl, ⟨(Nat.le_of_ble_eq_true rfl), (Nat.le_of_ble_eq_true rfl)⟩, (Nat.le_of_ble_eq_true rfl), (Nat.le_of_ble_eq_true rfl)⟩ rfl hl (Nat.le_of_ble_eq_true rfl) dL_law_12 rfl hW hA 33 rfl (fun ch1 hp H locs hW => ?_)
  obtain ⟨am, ho, rfl⟩ := hp
  subst ho
  replace hW : wd g (fun q : Nat => s.heap.size ≤ q) s.heap (wL g ad am (cv0 su yb) y2) H locs := hW.re rfl
  refine lv_astore_n (lv' := [(2, .ref (am 0)), (1, .ref (ad 0 0)), (0, .ref b)]) hx hb dL_law_15 rfl hl (by decide) rfl (fun ls hl => ?_)
  refine lv_iconst (v := (0 : Int32)) hx hb dL_law_16 (by decide) ?_
  refine lv_istore_n (lv' := [(3, .int (nI 0)), (2, .ref (am 0)), (1, .ref (ad 0 0)), (0, .ref b)]) hx hb dL_law_17 rfl hl (by decide) rfl (fun ls hl => ?_)
  refine W.widen (k := 600000) (n := 7302250) (Nat.le_of_ble_eq_true rfl) (Nat.le_of_ble_eq_true rfl) ?_
  exact law_loop l hL C0 C (L + 1) 0 (by omega) (by omega) ad am (cv0 su yb) y2 H locs ls hR hW (lv_sub hl [3, 2, 1, 0] rfl)
