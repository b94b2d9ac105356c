/-! the law at keep -/
set_option maxHeartbeats 4000000 in
set_option maxRecDepth 100000 in
theorem law_keep {RR : (Nat → MM) → MM → Prop} (hsm : ∀ (x1 : Int32) (cv : Nat → MM) (u : MM), RR cv u → ∃ (y : Int32 × MM × MM × MM × MM × MM × MM) (z : Int32 × MM), fX7_keep NF x1 (cv 4) (cv 5) (cv 27) (cv 28) (cv 29) (cv 30) (cv 31) (cv 32) (cv 0) = some y ∧ fX8_keep NF x1 u = some z ∧ y.1 = z.1 ∧ RR (up (up (up (up (up (up cv 27 y.2.1) 28 y.2.2.1) 29 y.2.2.2.1) 30 y.2.2.2.2.1) 31 y.2.2.2.2.2.1) 32 y.2.2.2.2.2.2) z.2) {p : Program} {e : Env} {s : State} {m : MethodId} {below : List Frame} {meth : Method} {c : Code} (l : Launch) {b L : Nat} {xs : Nat → Int32} (hL : L ≤ 2048) (C0 : lw_At p s m meth c b L xs) {g : GT} (C : cx g p m c code 4 s #[Value.ref b] wsL_law RL) {i : Nat} (hi : i + 4 ≤ L) {ad : Nat → Nat → Nat} {am : Nat → Nat} {cv : Nat → MM} {u : MM} {H : Heap} {locs : List Loc} {ls : Array Slot} (hR : RR cv u) (hW : wd g (fun q : Nat => s.heap.size ≤ q) s.heap (wL g ad am cv u) H locs) (hl : lv_has ls 4 [(0, .ref b), (1, .ref (ad 0 0)), (2, .ref (am 0)), (3, .int (nI i))]) (kk : ∀ (H : Heap) (locs : List Loc) (cv : Nat → MM) (u : MM) (ls : Array Slot), RR cv u → wd g (fun q : Nat => s.heap.size ≤ q) s.heap (wL g ad am cv u) H locs → lv_has ls 4 [(0, .ref b), (1, .ref (ad 0 0)), (2, .ref (am 0)), (3, .int (nI i))] → W p l e room_1 s m #[Value.ref b] below meth c H locs 600000 7302250 (lw_Z below #[Value.ref b] s) (F0 m 645 ls [])) : W p l e room_1 s m #[Value.ref b] below meth c H locs 600000 7302250 (lw_Z below #[Value.ref b] s) (F0 m 576 ls []) := by
  obtain ⟨hx, hb, hr, hml, hown, -, hX, hbl, hlocks, hgv⟩ := id C0
  have hA : ∀ q : Nat, s.heap.size ≤ q → (fun q : Nat => s.heap.size ≤ q) q := fun _ h => h
  have hbA : ¬ (fun q : Nat => s.heap.size ≤ q) b := Nat.not_le.mpr hbl
  have i1 : vp_in (nI i + 1) L := by rw [show (1 : Int32) = nI 1 from rfl, nI_add]; exact vp_in_nI (by omega) (by omega)
  have i2 : vp_in (nI i + 2) L := by rw [show (2 : Int32) = nI 2 from rfl, nI_add]; exact vp_in_nI (by omega) (by omega)
  have i3 : vp_in (nI i + 3) L := by rw [show (3 : Int32) = nI 3 from rfl, nI_add]; exact vp_in_nI (by omega) (by omega)
  obtain ⟨y, z, hy, hz, hyz, hRR⟩ := hsm (xs (Int32.toNatClampNeg (nI i + (1 : Int32)))) cv u hR
  refine lv_aload_n hx hb dL_law_576 rfl (lv_at hl 1 rfl) ?_
  refine lv_aload_n hx hb dL_law_577 rfl (lv_at hl 0 rfl) ?_
  refine lv_iload_n hx hb dL_law_578 rfl (lv_at hl 3 rfl) ?_
  refine lv_iconst (v := (1 : Int32)) hx hb dL_law_579 (by decide) ?_
  refine lv_iadd hx hb dL_law_580 ?_
  refine va_sld hx hb hX hbl hbA hW.2.2 i1 dL_law_581 ?_
  refine g_cV (Cn := RX7) C (ct_X7_keep g l NF (ad 4) (ad 5) (ad 27) (ad 28) (ad 29) (ad 30) (ad 31) (ad 32) (ad 0) (ad 1 0) (ad 2 0) (ad 3 0) (ad 6 0) (ad 8 0) (ad 9 0) (ad 10 0) (xs (Int32.toNatClampNeg (nI i + (1 : Int32)))) (cv 4) (cv 5) (cv 27) (cv 28) (cv 29) (cv 30) (cv 31) (cv 32) (cv 0) hy) gL_law_X7_keep rfl 1 (by decide +kernel) ⟨rfl, rfl, ⟨(Nat.le_of_ble_eq_true rfl), (Nat.le_of_ble_eq_true rfl)⟩, (Nat.le_of_ble_eq_true rfl), (Nat.le_of_ble_eq_true rfl)⟩ rfl hl (Nat.le_of_ble_eq_true rfl) dL_law_582 rfl hW hA [4, 5, 27, 28, 29, 30, 31, 32, 0] rfl rfl rfl (ch' := wL g ad am (up (up (up (up (up (up cv 27 y.2.1) 28 y.2.2.1) 29 y.2.2.2.1) 30 y.2.2.2.2.1) 31 y.2.2.2.2.2.1) 32 y.2.2.2.2.2.2) u) (by rw [pAll_c, sK_4 _ _ _ _ _ (cv 4), pAll_c, sK_5 _ _ _ _ _ (cv 5), pAll_c, uK_27, pAll_c, uK_28, pAll_c, uK_29, pAll_c, uK_30, pAll_c, uK_31, pAll_c, uK_32, pAll_c, sK_0 _ _ _ _ _ (cv 0), pAll_n] <;> rfl) 0 rfl rfl rfl (fun H locs hW => ?_)
  refine lv_aload_n hx hb dL_law_585 rfl (lv_at hl 2 rfl) ?_
  refine lv_aload_n hx hb dL_law_586 rfl (lv_at hl 0 rfl) ?_
  refine lv_iload_n hx hb dL_law_587 rfl (lv_at hl 3 rfl) ?_
  refine lv_iconst (v := (1 : Int32)) hx hb dL_law_588 (by decide) ?_
  refine lv_iadd hx hb dL_law_589 ?_
  refine va_sld hx hb hX hbl hbA hW.2.2 i1 dL_law_590 ?_
  refine g_cV (Cn := RX8) C (ct_X8_keep g l NF (am) (xs (Int32.toNatClampNeg (nI i + (1 : Int32)))) u hz) gL_law_X8_keep rfl 1 (by decide +kernel) ⟨rfl, rfl, ⟨(Nat.le_of_ble_eq_true rfl), (Nat.le_of_ble_eq_true rfl)⟩, (Nat.le_of_ble_eq_true rfl), (Nat.le_of_ble_eq_true rfl)⟩ rfl hl (Nat.le_of_ble_eq_true rfl) dL_law_591 rfl hW hA [33] rfl rfl rfl (ch' := wL g ad am (up (up (up (up (up (up cv 27 y.2.1) 28 y.2.2.1) 29 y.2.2.2.1) 30 y.2.2.2.2.1) 31 y.2.2.2.2.2.1) 32 y.2.2.2.2.2.2) z.2) rfl 33 rfl rfl rfl (fun H locs hW => ?_)
  refine lv_icmp_eq (tgt := 645) hx hb dL_law_594 (by decide) (fun _ => ?_) (fun h => absurd hyz h)
  exact kk H locs (up (up (up (up (up (up cv 27 y.2.1) 28 y.2.2.1) 29 y.2.2.2.1) 30 y.2.2.2.2.1) 31 y.2.2.2.2.2.1) 32 y.2.2.2.2.2.2) z.2 ls hRR hW hl
