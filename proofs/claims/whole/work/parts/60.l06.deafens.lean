/-! the law at deafens -/
set_option maxHeartbeats 4000000 in
set_option maxRecDepth 100000 in
theorem law_deafens {RR : (Nat → MM) → MM → Prop} (hsm : ∀ (x1 x2 x3 : Int32) (cv : Nat → MM) (u : MM), RR cv u → ∃ (y : Int32 × MM × MM × MM × MM × MM × MM × MM × MM × MM × MM × MM × MM × MM × MM × MM × MM × MM × MM) (z : Int32 × MM), fX7_deafens NF x1 x2 x3 (cv 2) (cv 4) (cv 5) (cv 10) (cv 11) (cv 12) (cv 13) (cv 14) (cv 15) (cv 16) (cv 17) (cv 18) (cv 19) (cv 20) (cv 21) (cv 22) (cv 23) (cv 24) (cv 25) (cv 26) (cv 0) = some y ∧ fX8_deafens NF x1 x2 x3 u = some z ∧ y.1 = z.1 ∧ RR (up (up (up (up (up (up (up (up (up (up (up (up (up (up (up (up (up (up cv 4 y.2.1) 10 y.2.2.1) 11 y.2.2.2.1) 12 y.2.2.2.2.1) 13 y.2.2.2.2.2.1) 14 y.2.2.2.2.2.2.1) 15 y.2.2.2.2.2.2.2.1) 16 y.2.2.2.2.2.2.2.2.1) 17 y.2.2.2.2.2.2.2.2.2.1) 18 y.2.2.2.2.2.2.2.2.2.2.1) 19 y.2.2.2.2.2.2.2.2.2.2.2.1) 20 y.2.2.2.2.2.2.2.2.2.2.2.2.1) 21 y.2.2.2.2.2.2.2.2.2.2.2.2.2.1) 22 y.2.2.2.2.2.2.2.2.2.2.2.2.2.2.1) 23 y.2.2.2.2.2.2.2.2.2.2.2.2.2.2.2.1) 24 y.2.2.2.2.2.2.2.2.2.2.2.2.2.2.2.2.1) 25 y.2.2.2.2.2.2.2.2.2.2.2.2.2.2.2.2.2.1) 26 y.2.2.2.2.2.2.2.2.2.2.2.2.2.2.2.2.2.2) z.2) {p : Program} {e : Env} {s : State} {m : MethodId} {below : List Frame} {meth : Method} {c : Code} (l : Launch) {b L : Nat} {xs : Nat → Int32} (hL : L ≤ 2048) (C0 : lw_At p s m meth c b L xs) {g : GT} (C : cx g p m c code 4 s #[Value.ref b] wsL_law RL) {i : Nat} (hi : i + 4 ≤ L) {ad : Nat → Nat → Nat} {am : Nat → Nat} {cv : Nat → MM} {u : MM} {H : Heap} {locs : List Loc} {ls : Array Slot} (hR : RR cv u) (hW : wd g (fun q : Nat => s.heap.size ≤ q) s.heap (wL g ad am cv u) H locs) (hl : lv_has ls 4 [(0, .ref b), (1, .ref (ad 0 0)), (2, .ref (am 0)), (3, .int (nI i))]) (kk : ∀ (H : Heap) (locs : List Loc) (cv : Nat → MM) (u : MM) (ls : Array Slot), RR cv u → wd g (fun q : Nat => s.heap.size ≤ q) s.heap (wL g ad am cv u) H locs → lv_has ls 4 [(0, .ref b), (1, .ref (ad 0 0)), (2, .ref (am 0)), (3, .int (nI i))] → W p l e room_1 s m #[Value.ref b] below meth c H locs 600000 7302250 (lw_Z below #[Value.ref b] s) (F0 m 645 ls [])) : W p l e room_1 s m #[Value.ref b] below meth c H locs 600000 7302250 (lw_Z below #[Value.ref b] s) (F0 m 237 ls []) := by
  obtain ⟨hx, hb, hr, hml, hown, -, hX, hbl, hlocks, hgv⟩ := id C0
  have hA : ∀ q : Nat, s.heap.size ≤ q → (fun q : Nat => s.heap.size ≤ q) q := fun _ h => h
  have hbA : ¬ (fun q : Nat => s.heap.size ≤ q) b := Nat.not_le.mpr hbl
  have i1 : vp_in (nI i + 1) L := by rw [show (1 : Int32) = nI 1 from rfl, nI_add]; exact vp_in_nI (by omega) (by omega)
  have i2 : vp_in (nI i + 2) L := by rw [show (2 : Int32) = nI 2 from rfl, nI_add]; exact vp_in_nI (by omega) (by omega)
  have i3 : vp_in (nI i + 3) L := by rw [show (3 : Int32) = nI 3 from rfl, nI_add]; exact vp_in_nI (by omega) (by omega)
  obtain ⟨y, z, hy, hz, hyz, hRR⟩ := hsm (xs (Int32.toNatClampNeg (nI i + (1 : Int32)))) (xs (Int32.toNatClampNeg (nI i + (2 : Int32)))) (xs (Int32.toNatClampNeg (nI i + (3 : Int32)))) cv u hR
  refine lv_aload_n hx hb dL_law_237 rfl (lv_at hl 1 rfl) ?_
  refine lv_aload_n hx hb dL_law_238 rfl (lv_at hl 0 rfl) ?_
  refine lv_iload_n hx hb dL_law_239 rfl (lv_at hl 3 rfl) ?_
  refine lv_iconst (v := (1 : Int32)) hx hb dL_law_240 (by decide) ?_
  refine lv_iadd hx hb dL_law_241 ?_
  refine va_sld hx hb hX hbl hbA hW.2.2 i1 dL_law_242 ?_
  refine lv_aload_n hx hb dL_law_243 rfl (lv_at hl 0 rfl) ?_
  refine lv_iload_n hx hb dL_law_244 rfl (lv_at hl 3 rfl) ?_
  refine lv_iconst (v := (2 : Int32)) hx hb dL_law_245 (by decide) ?_
  refine lv_iadd hx hb dL_law_246 ?_
  refine va_sld hx hb hX hbl hbA hW.2.2 i2 dL_law_247 ?_
  refine lv_aload_n hx hb dL_law_248 rfl (lv_at hl 0 rfl) ?_
  refine lv_iload_n hx hb dL_law_249 rfl (lv_at hl 3 rfl) ?_
  refine lv_iconst (v := (3 : Int32)) hx hb dL_law_250 (by decide) ?_
  refine lv_iadd hx hb dL_law_251 ?_
  refine va_sld hx hb hX hbl hbA hW.2.2 i3 dL_law_252 ?_
  refine g_cV (Cn := RX7) C (ct_X7_deafens g l NF (ad 2) (ad 4) (ad 5) (ad 10) (ad 11) (ad 12) (ad 13) (ad 14) (ad 15) (ad 16) (ad 17) (ad 18) (ad 19) (ad 20) (ad 21) (ad 22) (ad 23) (ad 24) (ad 25) (ad 26) (ad 0) (ad 1 0) (ad 3 0) (ad 6 0) (ad 8 0) (ad 9 0) (ad 27 0) (ad 30 0) (xs (Int32.toNatClampNeg (nI i + (1 : Int32)))) (xs (Int32.toNatClampNeg (nI i + (2 : Int32)))) (xs (Int32.toNatClampNeg (nI i + (3 : Int32)))) (cv 2) (cv 4) (cv 5) (cv 10) (cv 11) (cv 12) (cv 13) (cv 14) (cv 15) (cv 16) (cv 17) (cv 18) (cv 19) (cv 20) (cv 21) (cv 22) (cv 23) (cv 24) (cv 25) (cv 26) (cv 0) hy) gL_law_X7_deafens rfl 3 (by decide +kernel) ⟨rfl, rfl, ⟨(Nat.le_of_ble_eq_true rfl), (Nat.le_of_ble_eq_true rfl)⟩, (Nat.le_of_ble_eq_true rfl), (Nat.le_of_ble_eq_true rfl)⟩ rfl hl (Nat.le_of_ble_eq_true rfl) dL_law_253 rfl hW hA [2, 4, 5, 10, 11, 12, 13, 14, 15, 16, 17, 18, 19, 20, 21, 22, 23, 24, 25, 26, 0] rfl rfl rfl (ch' := wL g ad am (up (up (up (up (up (up (up (up (up (up (up (up (up (up (up (up (up (up cv 4 y.2.1) 10 y.2.2.1) 11 y.2.2.2.1) 12 y.2.2.2.2.1) 13 y.2.2.2.2.2.1) 14 y.2.2.2.2.2.2.1) 15 y.2.2.2.2.2.2.2.1) 16 y.2.2.2.2.2.2.2.2.1) 17 y.2.2.2.2.2.2.2.2.2.1) 18 y.2.2.2.2.2.2.2.2.2.2.1) 19 y.2.2.2.2.2.2.2.2.2.2.2.1) 20 y.2.2.2.2.2.2.2.2.2.2.2.2.1) 21 y.2.2.2.2.2.2.2.2.2.2.2.2.2.1) 22 y.2.2.2.2.2.2.2.2.2.2.2.2.2.2.1) 23 y.2.2.2.2.2.2.2.2.2.2.2.2.2.2.2.1) 24 y.2.2.2.2.2.2.2.2.2.2.2.2.2.2.2.2.1) 25 y.2.2.2.2.2.2.2.2.2.2.2.2.2.2.2.2.2.1) 26 y.2.2.2.2.2.2.2.2.2.2.2.2.2.2.2.2.2.2) u) (by rw [pAll_c, sK_2 _ _ _ _ _ (cv 2), pAll_c, uK_4, pAll_c, sK_5 _ _ _ _ _ (cv 5), pAll_c, uK_10, pAll_c, uK_11, pAll_c, uK_12, pAll_c, uK_13, pAll_c, uK_14, pAll_c, uK_15, pAll_c, uK_16, pAll_c, uK_17, pAll_c, uK_18, pAll_c, uK_19, pAll_c, uK_20, pAll_c, uK_21, pAll_c, uK_22, pAll_c, uK_23, pAll_c, uK_24, pAll_c, uK_25, pAll_c, uK_26, pAll_c, sK_0 _ _ _ _ _ (cv 0), pAll_n] <;> rfl) 0 rfl rfl rfl (fun H locs hW => ?_)
  refine lv_aload_n hx hb dL_law_256 rfl (lv_at hl 2 rfl) ?_
  refine lv_aload_n hx hb dL_law_257 rfl (lv_at hl 0 rfl) ?_
  refine lv_iload_n hx hb dL_law_258 rfl (lv_at hl 3 rfl) ?_
  refine lv_iconst (v := (1 : Int32)) hx hb dL_law_259 (by decide) ?_
  refine lv_iadd hx hb dL_law_260 ?_
  refine va_sld hx hb hX hbl hbA hW.2.2 i1 dL_law_261 ?_
  refine lv_aload_n hx hb dL_law_262 rfl (lv_at hl 0 rfl) ?_
  refine lv_iload_n hx hb dL_law_263 rfl (lv_at hl 3 rfl) ?_
  refine lv_iconst (v := (2 : Int32)) hx hb dL_law_264 (by decide) ?_
  refine lv_iadd hx hb dL_law_265 ?_
  refine va_sld hx hb hX hbl hbA hW.2.2 i2 dL_law_266 ?_
  refine lv_aload_n hx hb dL_law_267 rfl (lv_at hl 0 rfl) ?_
  refine lv_iload_n hx hb dL_law_268 rfl (lv_at hl 3 rfl) ?_
  refine lv_iconst (v := (3 : Int32)) hx hb dL_law_269 (by decide) ?_
  refine lv_iadd hx hb dL_law_270 ?_
  refine va_sld hx hb hX hbl hbA hW.2.2 i3 dL_law_271 ?_
  refine g_cV (Cn := RX8) C (ct_X8_deafens g l NF (am) (xs (Int32.toNatClampNeg (nI i + (1 : Int32)))) (xs (Int32.toNatClampNeg (nI i + (2 : Int32)))) (xs (Int32.toNatClampNeg (nI i + (3 : Int32)))) u hz) gL_law_X8_deafens rfl 3 (by decide +kernel) ⟨rfl, rfl, ⟨(Nat.le_of_ble_eq_true rfl), (Nat.le_of_ble_eq_true rfl)⟩, (Nat.le_of_ble_eq_true rfl), (Nat.le_of_ble_eq_true rfl)⟩ rfl hl (Nat.le_of_ble_eq_true rfl) dL_law_272 rfl hW hA [33] rfl rfl rfl (ch' := wL g ad am (up (up (up (up (up (up (up (up (up (up (up (up (up (up (up (up (up (up cv 4 y.2.1) 10 y.2.2.1) 11 y.2.2.2.1) 12 y.2.2.2.2.1) 13 y.2.2.2.2.2.1) 14 y.2.2.2.2.2.2.1) 15 y.2.2.2.2.2.2.2.1) 16 y.2.2.2.2.2.2.2.2.1) 17 y.2.2.2.2.2.2.2.2.2.1) 18 y.2.2.2.2.2.2.2.2.2.2.1) 19 y.2.2.2.2.2.2.2.2.2.2.2.1) 20 y.2.2.2.2.2.2.2.2.2.2.2.2.1) 21 y.2.2.2.2.2.2.2.2.2.2.2.2.2.1) 22 y.2.2.2.2.2.2.2.2.2.2.2.2.2.2.1) 23 y.2.2.2.2.2.2.2.2.2.2.2.2.2.2.2.1) 24 y.2.2.2.2.2.2.2.2.2.2.2.2.2.2.2.2.1) 25 y.2.2.2.2.2.2.2.2.2.2.2.2.2.2.2.2.2.1) 26 y.2.2.2.2.2.2.2.2.2.2.2.2.2.2.2.2.2.2) z.2) rfl 33 rfl rfl rfl (fun H locs hW => ?_)
  refine lv_icmp_eq (tgt := 645) hx hb dL_law_275 (by decide) (fun _ => ?_) (fun h => absurd hyz h)
  exact kk H locs (up (up (up (up (up (up (up (up (up (up (up (up (up (up (up (up (up (up cv 4 y.2.1) 10 y.2.2.1) 11 y.2.2.2.1) 12 y.2.2.2.2.1) 13 y.2.2.2.2.2.1) 14 y.2.2.2.2.2.2.1) 15 y.2.2.2.2.2.2.2.1) 16 y.2.2.2.2.2.2.2.2.1) 17 y.2.2.2.2.2.2.2.2.2.1) 18 y.2.2.2.2.2.2.2.2.2.2.1) 19 y.2.2.2.2.2.2.2.2.2.2.2.1) 20 y.2.2.2.2.2.2.2.2.2.2.2.2.1) 21 y.2.2.2.2.2.2.2.2.2.2.2.2.2.1) 22 y.2.2.2.2.2.2.2.2.2.2.2.2.2.2.1) 23 y.2.2.2.2.2.2.2.2.2.2.2.2.2.2.2.1) 24 y.2.2.2.2.2.2.2.2.2.2.2.2.2.2.2.2.1) 25 y.2.2.2.2.2.2.2.2.2.2.2.2.2.2.2.2.2.1) 26 y.2.2.2.2.2.2.2.2.2.2.2.2.2.2.2.2.2.2) z.2 ls hRR hW hl
