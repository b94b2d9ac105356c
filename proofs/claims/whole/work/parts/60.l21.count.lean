/-! the law at count -/
set_option maxHeartbeats 4000000 in
set_option maxRecDepth 100000 in
theorem law_count {RR : (Nat → MM) → MM → Prop} (hsm : ∀ (x1 : Int32) (cv : Nat → MM) (u : MM), RR cv u → ∃ (y : Int32) (z : Int32 × MM), fX7_count NF x1 (cv 1) (cv 2) (cv 4) (cv 5) (cv 10) (cv 0) = some y ∧ fX8_count NF x1 u = some z ∧ y = z.1 ∧ RR cv z.2) {p : Program} {e : Env} {s : State} {m : MethodId} {below : List Frame} {meth : Method} {c : Code} (l : Launch) {b L : Nat} {xs : Nat → Int32} (hL : L ≤ 2048) (C0 : lw_At p s m meth c b L xs) {g : GT} (C : cx g p m c code 4 s #[Value.ref b] wsL_law RL) {i : Nat} (hi : i + 4 ≤ L) {ad : Nat → Nat → Nat} {am : Nat → Nat} {cv : Nat → MM} {u : MM} {H : Heap} {locs : List Loc} {ls : Array Slot} (hR : RR cv u) (hW : wd g (fun q : Nat => s.heap.size ≤ q) s.heap (wL g ad am cv u) H locs) (hl : lv_has ls 4 [(0, .ref b), (1, .ref (ad 0 0)), (2, .ref (am 0)), (3, .int (nI i))]) (kk : ∀ (H : Heap) (locs : List Loc) (cv : Nat → MM) (u : MM) (ls : Array Slot), RR cv u → wd g (fun q : Nat => s.heap.size ≤ q) s.heap (wL g ad am cv u) H locs → lv_has ls 4 [(0, .ref b), (1, .ref (ad 0 0)), (2, .ref (am 0)), (3, .int (nI i))] → W p l e room_1 s m #[Value.ref b] below meth c H locs 600000 7302250 (lw_Z below #[Value.ref b] s) (F0 m 645 ls [])) : W p l e room_1 s m #[Value.ref b] below meth c H locs 600000 7302250 (lw_Z below #[Value.ref b] s) (F0 m 622 ls []) := by
  obtain ⟨hx, hb, hr, hml, hown, -, hX, hbl, hlocks, hgv⟩ := id C0
  have hA : ∀ q : Nat, s.heap.size ≤ q → (fun q : Nat => s.heap.size ≤ q) q := fun _ h => h
  have hbA : ¬ (fun q : Nat => s.heap.size ≤ q) b := Nat.not_le.mpr hbl
  have i1 : vp_in (nI i + 1) L := by rw [show (1 : Int32) = nI 1 from rfl, nI_add]; exact vp_in_nI (by omega) (by omega)
  have i2 : vp_in (nI i + 2) L := by rw [show (2 : Int32) = nI 2 from rfl, nI_add]; exact vp_in_nI (by omega) (by omega)
  have i3 : vp_in (nI i + 3) L := by rw [show (3 : Int32) = nI 3 from rfl, nI_add]; exact vp_in_nI (by omega) (by omega)
  obtain ⟨y, z, hy, hz, hyz, hRR⟩ := hsm (xs (Int32.toNatClampNeg (nI i + (1 : Int32)))) cv u hR
  refine lv_aload_n hx hb dL_law_622 rfl (lv_at hl 1 rfl) ?_
  refine lv_aload_n hx hb dL_law_623 rfl (lv_at hl 0 rfl) ?_
  refine lv_iload_n hx hb dL_law_624 rfl (lv_at hl 3 rfl) ?_
  refine lv_iconst (v := (1 : Int32)) hx hb dL_law_625 (by decide) ?_
  refine lv_iadd hx hb dL_law_626 ?_
  refine va_sld hx hb hX hbl hbA hW.2.2 i1 dL_law_627 ?_
  refine g_cV (Cn := RX7) C (ct_X7_count g l NF (ad 1) (ad 2) (ad 4) (ad 5) (ad 10) (ad 0) (ad 11 0) (ad 13 0) (ad 15 0) (ad 17 0) (ad 19 0) (ad 21 0) (ad 23 0) (ad 25 0) (ad 3 0) (ad 6 0) (ad 8 0) (ad 9 0) (ad 27 0) (ad 30 0) (xs (Int32.toNatClampNeg (nI i + (1 : Int32)))) (cv 1) (cv 2) (cv 4) (cv 5) (cv 10) (cv 0) hy) gL_law_X7_count rfl 1 (by decide +kernel) ⟨rfl, rfl, ⟨(Nat.le_of_ble_eq_true rfl), (Nat.le_of_ble_eq_true rfl)⟩, (Nat.le_of_ble_eq_true rfl), (Nat.le_of_ble_eq_true rfl)⟩ rfl hl (Nat.le_of_ble_eq_true rfl) dL_law_628 rfl hW hA [1, 2, 4, 5, 10, 0] rfl rfl rfl (ch' := wL g ad am cv u) rfl 0 rfl rfl rfl (fun H locs hW => ?_)
  refine lv_aload_n hx hb dL_law_631 rfl (lv_at hl 2 rfl) ?_
  refine lv_aload_n hx hb dL_law_632 rfl (lv_at hl 0 rfl) ?_
  refine lv_iload_n hx hb dL_law_633 rfl (lv_at hl 3 rfl) ?_
  refine lv_iconst (v := (1 : Int32)) hx hb dL_law_634 (by decide) ?_
  refine lv_iadd hx hb dL_law_635 ?_
  refine va_sld hx hb hX hbl hbA hW.2.2 i1 dL_law_636 ?_
  refine g_cV (Cn := RX8) C (ct_X8_count g l NF (am) (xs (Int32.toNatClampNeg (nI i + (1 : Int32)))) u hz) gL_law_X8_count rfl 1 (by decide +kernel) ⟨rfl, rfl, ⟨(Nat.le_of_ble_eq_true rfl), (Nat.le_of_ble_eq_true rfl)⟩, (Nat.le_of_ble_eq_true rfl), (Nat.le_of_ble_eq_true rfl)⟩ rfl hl (Nat.le_of_ble_eq_true rfl) dL_law_637 rfl hW hA [33] rfl rfl rfl (ch' := wL g ad am cv z.2) rfl 33 rfl rfl rfl (fun H locs hW => ?_)
  refine lv_icmp_eq (tgt := 645) hx hb dL_law_640 (by decide) (fun _ => ?_) (fun h => absurd hyz h)
  exact kk H locs cv z.2 ls hRR hW hl
