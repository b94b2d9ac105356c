def fX2_take (N : Nat) (v0 : MM) (v1 : MM) (v2 : MM) (v3 : MM) (v4 : MM) : Option (MM × MM × MM) := ((fX4_copyFrom N v1 v0 v3 v4).bind (fun y1 => some (y1.2, y1.1, (st v2 0 (fun _ => (1 : Int32))))))
set_option maxHeartbeats 4000000 in
set_option maxRecDepth 100000 in
theorem ct_X2_take (g : GT) (l : Launch) (N : Nat) (a0 : Nat → Nat) (a1 : Nat → Nat) (a2 : Nat → Nat) (a3 : Nat → Nat) (a4 : Nat → Nat) (v0 : MM) (v1 : MM) (v2 : MM) (v3 : MM) (v4 : MM) {y : MM × MM × MM} (hf : fX2_take N v0 v1 v2 v3 v4 = some y) : ct g l yX2_take wsX2_take (rmk 4 89) [.ref (a2 0), .ref (a3 0)] [kX4 g a0 (a1 0) v0, kX0 g a1 v1, kX2 g a2 (a0 0) v2, kX4 g a3 (a4 0) v3, kX0 g a4 v4] none [kX4 g a0 (a1 0) y.1, kX0 g a1 y.2.1, kX2 g a2 (a0 0) y.2.2, kX4 g a3 (a4 0) v3, kX0 g a4 v4] := by
  refine ct_of (cc := cX2_take) (maxL := 2) (ret := none) (by decide) rfl (Nat.le_of_ble_eq_true rfl) ?_
  intro p e s m args below meth c A ls C hr hk0 hA hW hl
  have hx := C.1.1
  have hb := C.1.2.1
  replace hl : lv_has ls 2 [(0, .ref (a2 0)), (1, .ref (a3 0))] := hl
  obtain ⟨Q, hQ⟩ : ∃ Q, Q = MQ below (ctQ g A none [kX4 g a0 (a1 0) y.1, kX0 g a1 y.2.1, kX2 g a2 (a0 0) y.2.2, kX4 g a3 (a4 0) v3, kX0 g a4 v4]) args s 0 0 A := ⟨_, rfl⟩
  rw [← hQ]
  obtain ⟨H, hH⟩ : ∃ H, H = s.heap := ⟨_, rfl⟩
  obtain ⟨locs, hL⟩ : ∃ locs : List Loc, locs = [] := ⟨_, rfl⟩
  replace hW : wd g A s.heap [kX4 g a0 (a1 0) v0, kX0 g a1 v1, kX2 g a2 (a0 0) v2, kX4 g a3 (a4 0) v3, kX0 g a4 v4] H locs := by rw [hH, hL]; exact hW
  suffices hG : W p l e (rmk 4 89) s m args below meth c H locs 0 0 Q (F0 m 0 ls []) by
    rw [hH, hL] at hG; exact hG
  clear hH hL
  have inX2 : ∀ w ∈ wsX20, w ∈ wsX2_take := fun _ h => List.mem_cons_of_mem _ (List.mem_append_left _ (List.mem_append_left _ (List.mem_append_right _ (h))))
  rw [fX2_take] at hf
  refine lv_aload_n hx hb dX2_take_0 rfl (lv_at hl 0 rfl) ?_
  refine g_get C hW inX2 2 rfl rfl rfl 1 (by decide) (List.mem_of_getElem? (i := 1) rfl) (v := .ref (a0 0)) rfl dX2_take_1 ?_
  refine lv_aload_n hx hb dX2_take_4 rfl (lv_at hl 1 rfl) ?_
  obtain ⟨y1, hc, hf⟩ := bd_of hf
  refine g_cVv (Cn := RX4) C (ct_X4_copyFrom g l N a1 a0 a3 a4 v1 v0 v3 v4 hc) gX2_take_X4_copyFrom rfl 1 (by decide +kernel) ⟨rfl, rfl, ⟨Nat.le_of_ble_eq_true rfl, Nat.le_of_ble_eq_true rfl⟩, Nat.le_of_ble_eq_true rfl, Nat.le_of_ble_eq_true rfl⟩ rfl hl (Nat.le_of_ble_eq_true rfl) dX2_take_5 rfl hW hA [1, 0, 3, 4] rfl rfl rfl (ch' := [kX4 g a0 (a1 0) y1.2, kX0 g a1 y1.1, kX2 g a2 (a0 0) v2, kX4 g a3 (a4 0) v3, kX0 g a4 v4]) rfl 0 rfl rfl rfl (fun H locs hW => ?_)
  refine lv_aload_n hx hb dX2_take_8 rfl (lv_at hl 0 rfl) ?_
  refine lv_iconst (v := (1 : Int32)) hx hb dX2_take_9 (by decide) ?_
  refine g_put C hW inX2 tyX2_ok nmX2 2 rfl rfl rfl 0 (by decide) (List.mem_of_getElem? (i := 2) rfl) rfl rfl rfl rfl (kX2_s0 g a2 (a0 0) v2 (1 : Int32)) (ch' := [kX4 g a0 (a1 0) y1.2, kX0 g a1 y1.1, kX2 g a2 (a0 0) (st v2 0 (fun _ => (1 : Int32))), kX4 g a3 (a4 0) v3, kX0 g a4 v4]) rfl dX2_take_10 (fun H locs hW => ?_)
  obtain rfl := Option.some.inj hf
  subst hQ
  exact g_vret C hr hk0 hW rfl rfl dX2_take_13
def fX1_remember (N : Nat) (v0 : MM) (v1 : MM) (v2 : MM) (v3 : MM) (v4 : MM) (v5 : MM) (v6 : MM) (v7 : MM) (v8 : MM) (v9 : MM) (v10 : MM) (v11 : MM) (v12 : MM) (v13 : MM) (v14 : MM) (v15 : MM) (v16 : MM) (v17 : MM) (v18 : MM) : Option (MM × MM × MM × MM × MM × MM × MM × MM × MM × MM × MM × MM × MM × MM × MM × MM × MM) := (if (((v16 1 0) + (1 : Int32)) - ((v16 1 0) + (1 : Int32)) / (8 : Int32) * (8 : Int32)) = (0 : Int32) then ((fX4_copyFrom N v1 v0 v17 v18).bind (fun y1 => some (y1.2, y1.1, v2, v3, v4, v5, v6, v7, v8, v9, v10, v11, v12, v13, v14, v15, (st (st v16 1 (fun _ => (((v16 1 0) + (1 : Int32)) - ((v16 1 0) + (1 : Int32)) / (8 : Int32) * (8 : Int32)))) 0 (fun _ => (if ((v16 0 0) + (1 : Int32)) < (8 : Int32) then ((v16 0 0) + (1 : Int32)) else (8 : Int32))))))) else (if (((v16 1 0) + (1 : Int32)) - ((v16 1 0) + (1 : Int32)) / (8 : Int32) * (8 : Int32)) = (1 : Int32) then ((fX4_copyFrom N v3 v2 v17 v18).bind (fun y2 => some (v0, v1, y2.2, y2.1, v4, v5, v6, v7, v8, v9, v10, v11, v12, v13, v14, v15, (st (st v16 1 (fun _ => (((v16 1 0) + (1 : Int32)) - ((v16 1 0) + (1 : Int32)) / (8 : Int32) * (8 : Int32)))) 0 (fun _ => (if ((v16 0 0) + (1 : Int32)) < (8 : Int32) then ((v16 0 0) + (1 : Int32)) else (8 : Int32))))))) else (if (((v16 1 0) + (1 : Int32)) - ((v16 1 0) + (1 : Int32)) / (8 : Int32) * (8 : Int32)) = (2 : Int32) then ((fX4_copyFrom N v5 v4 v17 v18).bind (fun y3 => some (v0, v1, v2, v3, y3.2, y3.1, v6, v7, v8, v9, v10, v11, v12, v13, v14, v15, (st (st v16 1 (fun _ => (((v16 1 0) + (1 : Int32)) - ((v16 1 0) + (1 : Int32)) / (8 : Int32) * (8 : Int32)))) 0 (fun _ => (if ((v16 0 0) + (1 : Int32)) < (8 : Int32) then ((v16 0 0) + (1 : Int32)) else (8 : Int32))))))) else (if (((v16 1 0) + (1 : Int32)) - ((v16 1 0) + (1 : Int32)) / (8 : Int32) * (8 : Int32)) = (3 : Int32) then ((fX4_copyFrom N v7 v6 v17 v18).bind (fun y4 => some (v0, v1, v2, v3, v4, v5, y4.2, y4.1, v8, v9, v10, v11, v12, v13, v14, v15, (st (st v16 1 (fun _ => (((v16 1 0) + (1 : Int32)) - ((v16 1 0) + (1 : Int32)) / (8 : Int32) * (8 : Int32)))) 0 (fun _ => (if ((v16 0 0) + (1 : Int32)) < (8 : Int32) then ((v16 0 0) + (1 : Int32)) else (8 : Int32))))))) else (if (((v16 1 0) + (1 : Int32)) - ((v16 1 0) + (1 : Int32)) / (8 : Int32) * (8 : Int32)) = (4 : Int32) then ((fX4_copyFrom N v9 v8 v17 v18).bind (fun y5 => some (v0, v1, v2, v3, v4, v5, v6, v7, y5.2, y5.1, v10, v11, v12, v13, v14, v15, (st (st v16 1 (fun _ => (((v16 1 0) + (1 : Int32)) - ((v16 1 0) + (1 : Int32)) / (8 : Int32) * (8 : Int32)))) 0 (fun _ => (if ((v16 0 0) + (1 : Int32)) < (8 : Int32) then ((v16 0 0) + (1 : Int32)) else (8 : Int32))))))) else (if (((v16 1 0) + (1 : Int32)) - ((v16 1 0) + (1 : Int32)) / (8 : Int32) * (8 : Int32)) = (5 : Int32) then ((fX4_copyFrom N v11 v10 v17 v18).bind (fun y6 => some (v0, v1, v2, v3, v4, v5, v6, v7, v8, v9, y6.2, y6.1, v12, v13, v14, v15, (st (st v16 1 (fun _ => (((v16 1 0) + (1 : Int32)) - ((v16 1 0) + (1 : Int32)) / (8 : Int32) * (8 : Int32)))) 0 (fun _ => (if ((v16 0 0) + (1 : Int32)) < (8 : Int32) then ((v16 0 0) + (1 : Int32)) else (8 : Int32))))))) else (if (((v16 1 0) + (1 : Int32)) - ((v16 1 0) + (1 : Int32)) / (8 : Int32) * (8 : Int32)) = (6 : Int32) then ((fX4_copyFrom N v13 v12 v17 v18).bind (fun y7 => some (v0, v1, v2, v3, v4, v5, v6, v7, v8, v9, v10, v11, y7.2, y7.1, v14, v15, (st (st v16 1 (fun _ => (((v16 1 0) + (1 : Int32)) - ((v16 1 0) + (1 : Int32)) / (8 : Int32) * (8 : Int32)))) 0 (fun _ => (if ((v16 0 0) + (1 : Int32)) < (8 : Int32) then ((v16 0 0) + (1 : Int32)) else (8 : Int32))))))) else (if (((v16 1 0) + (1 : Int32)) - ((v16 1 0) + (1 : Int32)) / (8 : Int32) * (8 : Int32)) = (7 : Int32) then ((fX4_copyFrom N v15 v14 v17 v18).bind (fun y8 => some (v0, v1, v2, v3, v4, v5, v6, v7, v8, v9, v10, v11, v12, v13, y8.2, y8.1, (st (st v16 1 (fun _ => (((v16 1 0) + (1 : Int32)) - ((v16 1 0) + (1 : Int32)) / (8 : Int32) * (8 : Int32)))) 0 (fun _ => (if ((v16 0 0) + (1 : Int32)) < (8 : Int32) then ((v16 0 0) + (1 : Int32)) else (8 : Int32))))))) else some (v0, v1, v2, v3, v4, v5, v6, v7, v8, v9, v10, v11, v12, v13, v14, v15, (st v16 1 (fun _ => (((v16 1 0) + (1 : Int32)) - ((v16 1 0) + (1 : Int32)) / (8 : Int32) * (8 : Int32)))))))))))))
set_option maxHeartbeats 4000000 in
set_option maxRecDepth 100000 in
theorem ct_X1_remember (g : GT) (l : Launch) (N : Nat) (a0 : Nat → Nat) (a1 : Nat → Nat) (a2 : Nat → Nat) (a3 : Nat → Nat) (a4 : Nat → Nat) (a5 : Nat → Nat) (a6 : Nat → Nat) (a7 : Nat → Nat) (a8 : Nat → Nat) (a9 : Nat → Nat) (a10 : Nat → Nat) (a11 : Nat → Nat) (a12 : Nat → Nat) (a13 : Nat → Nat) (a14 : Nat → Nat) (a15 : Nat → Nat) (a16 : Nat → Nat) (a17 : Nat → Nat) (a18 : Nat → Nat) (v0 : MM) (v1 : MM) (v2 : MM) (v3 : MM) (v4 : MM) (v5 : MM) (v6 : MM) (v7 : MM) (v8 : MM) (v9 : MM) (v10 : MM) (v11 : MM) (v12 : MM) (v13 : MM) (v14 : MM) (v15 : MM) (v16 : MM) (v17 : MM) (v18 : MM) {y : MM × MM × MM × MM × MM × MM × MM × MM × MM × MM × MM × MM × MM × MM × MM × MM × MM} (hf : fX1_remember N v0 v1 v2 v3 v4 v5 v6 v7 v8 v9 v10 v11 v12 v13 v14 v15 v16 v17 v18 = some y) : ct g l yX1_remember wsX1_remember (rmk 4 89) [.ref (a16 0), .ref (a17 0)] [kX4 g a0 (a1 0) v0, kX0 g a1 v1, kX4 g a2 (a3 0) v2, kX0 g a3 v3, kX4 g a4 (a5 0) v4, kX0 g a5 v5, kX4 g a6 (a7 0) v6, kX0 g a7 v7, kX4 g a8 (a9 0) v8, kX0 g a9 v9, kX4 g a10 (a11 0) v10, kX0 g a11 v11, kX4 g a12 (a13 0) v12, kX0 g a13 v13, kX4 g a14 (a15 0) v14, kX0 g a15 v15, kX1 g a16 (a0 0) (a2 0) (a4 0) (a6 0) (a8 0) (a10 0) (a12 0) (a14 0) v16, kX4 g a17 (a18 0) v17, kX0 g a18 v18] none [kX4 g a0 (a1 0) y.1, kX0 g a1 y.2.1, kX4 g a2 (a3 0) y.2.2.1, kX0 g a3 y.2.2.2.1, kX4 g a4 (a5 0) y.2.2.2.2.1, kX0 g a5 y.2.2.2.2.2.1, kX4 g a6 (a7 0) y.2.2.2.2.2.2.1, kX0 g a7 y.2.2.2.2.2.2.2.1, kX4 g a8 (a9 0) y.2.2.2.2.2.2.2.2.1, kX0 g a9 y.2.2.2.2.2.2.2.2.2.1, kX4 g a10 (a11 0) y.2.2.2.2.2.2.2.2.2.2.1, kX0 g a11 y.2.2.2.2.2.2.2.2.2.2.2.1, kX4 g a12 (a13 0) y.2.2.2.2.2.2.2.2.2.2.2.2.1, kX0 g a13 y.2.2.2.2.2.2.2.2.2.2.2.2.2.1, kX4 g a14 (a15 0) y.2.2.2.2.2.2.2.2.2.2.2.2.2.2.1, kX0 g a15 y.2.2.2.2.2.2.2.2.2.2.2.2.2.2.2.1, kX1 g a16 (a0 0) (a2 0) (a4 0) (a6 0) (a8 0) (a10 0) (a12 0) (a14 0) y.2.2.2.2.2.2.2.2.2.2.2.2.2.2.2.2, kX4 g a17 (a18 0) v17, kX0 g a18 v18] := by
  refine ct_of (cc := cX1_remember) (maxL := 3) (ret := none) (by decide) rfl (Nat.le_of_ble_eq_true rfl) ?_
  intro p e s m args below meth c A ls C hr hk0 hA hW hl
  have hx := C.1.1
  have hb := C.1.2.1
  replace hl : lv_has ls 3 [(0, .ref (a16 0)), (1, .ref (a17 0))] := hl
  obtain ⟨Q, hQ⟩ : ∃ Q, Q = MQ below (ctQ g A none [kX4 g a0 (a1 0) y.1, kX0 g a1 y.2.1, kX4 g a2 (a3 0) y.2.2.1, kX0 g a3 y.2.2.2.1, kX4 g a4 (a5 0) y.2.2.2.2.1, kX0 g a5 y.2.2.2.2.2.1, kX4 g a6 (a7 0) y.2.2.2.2.2.2.1, kX0 g a7 y.2.2.2.2.2.2.2.1, kX4 g a8 (a9 0) y.2.2.2.2.2.2.2.2.1, kX0 g a9 y.2.2.2.2.2.2.2.2.2.1, kX4 g a10 (a11 0) y.2.2.2.2.2.2.2.2.2.2.1, kX0 g a11 y.2.2.2.2.2.2.2.2.2.2.2.1, kX4 g a12 (a13 0) y.2.2.2.2.2.2.2.2.2.2.2.2.1, kX0 g a13 y.2.2.2.2.2.2.2.2.2.2.2.2.2.1, kX4 g a14 (a15 0) y.2.2.2.2.2.2.2.2.2.2.2.2.2.2.1, kX0 g a15 y.2.2.2.2.2.2.2.2.2.2.2.2.2.2.2.1, kX1 g a16 (a0 0) (a2 0) (a4 0) (a6 0) (a8 0) (a10 0) (a12 0) (a14 0) y.2.2.2.2.2.2.2.2.2.2.2.2.2.2.2.2, kX4 g a17 (a18 0) v17, kX0 g a18 v18]) args s 0 0 A := ⟨_, rfl⟩
  rw [← hQ]
  obtain ⟨H, hH⟩ : ∃ H, H = s.heap := ⟨_, rfl⟩
  obtain ⟨locs, hL⟩ : ∃ locs : List Loc, locs = [] := ⟨_, rfl⟩
  replace hW : wd g A s.heap [kX4 g a0 (a1 0) v0, kX0 g a1 v1, kX4 g a2 (a3 0) v2, kX0 g a3 v3, kX4 g a4 (a5 0) v4, kX0 g a5 v5, kX4 g a6 (a7 0) v6, kX0 g a7 v7, kX4 g a8 (a9 0) v8, kX0 g a9 v9, kX4 g a10 (a11 0) v10, kX0 g a11 v11, kX4 g a12 (a13 0) v12, kX0 g a13 v13, kX4 g a14 (a15 0) v14, kX0 g a15 v15, kX1 g a16 (a0 0) (a2 0) (a4 0) (a6 0) (a8 0) (a10 0) (a12 0) (a14 0) v16, kX4 g a17 (a18 0) v17, kX0 g a18 v18] H locs := by rw [hH, hL]; exact hW
  suffices hG : W p l e (rmk 4 89) s m args below meth c H locs 0 0 Q (F0 m 0 ls []) by
    rw [hH, hL] at hG; exact hG
  clear hH hL
  have inX1 : ∀ w ∈ wsX10, w ∈ wsX1_remember := fun _ h => List.mem_cons_of_mem _ (List.mem_append_left _ (List.mem_append_left _ (List.mem_append_right _ (h))))
  rw [fX1_remember] at hf
  refine lv_aload_n hx hb dX1_remember_0 rfl (lv_at hl 0 rfl) ?_
  refine lv_aload_n hx hb dX1_remember_1 rfl (lv_at hl 0 rfl) ?_
  refine g_get C hW inX1 16 rfl rfl rfl 1 (by decide) (List.mem_of_getElem? (i := 1) rfl) (v := .int (v16 1 0)) rfl dX1_remember_2 ?_
  refine lv_iconst (v := (1 : Int32)) hx hb dX1_remember_5 (by decide) ?_
  refine lv_iadd hx hb dX1_remember_6 ?_
  refine lv_bipush (v := (8 : Int32)) hx hb dX1_remember_7 (by decide) ?_
  refine lv_irem hx hb dX1_remember_9 (by decide) ?_
  refine g_put C hW inX1 tyX1_ok nmX1 16 rfl rfl rfl 1 (by decide) (List.mem_of_getElem? (i := 1) rfl) rfl rfl rfl rfl (kX1_s1 g a16 (a0 0) (a2 0) (a4 0) (a6 0) (a8 0) (a10 0) (a12 0) (a14 0) v16 (((v16 1 0) + (1 : Int32)) - ((v16 1 0) + (1 : Int32)) / (8 : Int32) * (8 : Int32))) (ch' := [kX4 g a0 (a1 0) v0, kX0 g a1 v1, kX4 g a2 (a3 0) v2, kX0 g a3 v3, kX4 g a4 (a5 0) v4, kX0 g a5 v5, kX4 g a6 (a7 0) v6, kX0 g a7 v7, kX4 g a8 (a9 0) v8, kX0 g a9 v9, kX4 g a10 (a11 0) v10, kX0 g a11 v11, kX4 g a12 (a13 0) v12, kX0 g a13 v13, kX4 g a14 (a15 0) v14, kX0 g a15 v15, kX1 g a16 (a0 0) (a2 0) (a4 0) (a6 0) (a8 0) (a10 0) (a12 0) (a14 0) (st v16 1 (fun _ => (((v16 1 0) + (1 : Int32)) - ((v16 1 0) + (1 : Int32)) / (8 : Int32) * (8 : Int32)))), kX4 g a17 (a18 0) v17, kX0 g a18 v18]) rfl dX1_remember_10 (fun H locs hW => ?_)
  refine lv_aload_n hx hb dX1_remember_13 rfl (lv_at hl 0 rfl) ?_
  refine lv_aload_n hx hb dX1_remember_14 rfl (lv_at hl 0 rfl) ?_
  refine g_get C hW inX1 16 rfl rfl rfl 1 (by decide) (List.mem_of_getElem? (i := 1) rfl) (v := .int (((v16 1 0) + (1 : Int32)) - ((v16 1 0) + (1 : Int32)) / (8 : Int32) * (8 : Int32))) rfl dX1_remember_15 ?_
  rcases Decidable.em ((((v16 1 0) + (1 : Int32)) - ((v16 1 0) + (1 : Int32)) / (8 : Int32) * (8 : Int32)) = (0 : Int32)) with h0 | h0
  · replace hf := (if_pos h0).symm.trans hf
    refine g_cV (Cn := RX1) C (ct_X1_rowAt_0 g l a16 (a0 0) (a2 0) (a4 0) (a6 0) (a8 0) (a10 0) (a12 0) (a14 0) (((v16 1 0) + (1 : Int32)) - ((v16 1 0) + (1 : Int32)) / (8 : Int32) * (8 : Int32)) (st v16 1 (fun _ => (((v16 1 0) + (1 : Int32)) - ((v16 1 0) + (1 : Int32)) / (8 : Int32) * (8 : Int32)))) h0) gX1_remember_X1_rowAt rfl 1 (by decide +kernel) ⟨rfl, rfl, ⟨Nat.le_of_ble_eq_true rfl, Nat.le_of_ble_eq_true rfl⟩, Nat.le_of_ble_eq_true rfl, Nat.le_of_ble_eq_true rfl⟩ rfl hl (Nat.le_of_ble_eq_true rfl) dX1_remember_18 rfl hW hA [16] rfl rfl rfl (ch' := [kX4 g a0 (a1 0) v0, kX0 g a1 v1, kX4 g a2 (a3 0) v2, kX0 g a3 v3, kX4 g a4 (a5 0) v4, kX0 g a5 v5, kX4 g a6 (a7 0) v6, kX0 g a7 v7, kX4 g a8 (a9 0) v8, kX0 g a9 v9, kX4 g a10 (a11 0) v10, kX0 g a11 v11, kX4 g a12 (a13 0) v12, kX0 g a13 v13, kX4 g a14 (a15 0) v14, kX0 g a15 v15, kX1 g a16 (a0 0) (a2 0) (a4 0) (a6 0) (a8 0) (a10 0) (a12 0) (a14 0) (st v16 1 (fun _ => (((v16 1 0) + (1 : Int32)) - ((v16 1 0) + (1 : Int32)) / (8 : Int32) * (8 : Int32)))), kX4 g a17 (a18 0) v17, kX0 g a18 v18]) rfl 16 rfl rfl rfl (fun H locs hW => ?_)
    refine lv_astore_n (lv' := [(2, .ref (a0 0)), (0, .ref (a16 0)), (1, .ref (a17 0))]) hx hb dX1_remember_21 rfl hl (by decide) rfl (fun ls hl => ?_)
    refine lv_aload_n hx hb dX1_remember_22 rfl (lv_at hl 0 rfl) ?_
    refine lv_ifnull hx hb dX1_remember_23 ?_
    refine lv_aload_n hx hb dX1_remember_26 rfl (lv_at hl 0 rfl) ?_
    refine lv_aload_n hx hb dX1_remember_27 rfl (lv_at hl 2 rfl) ?_
    obtain ⟨y1, hc, hf⟩ := bd_of hf
    refine g_cVv (Cn := RX4) C (ct_X4_copyFrom g l N a1 a0 a17 a18 v1 v0 v17 v18 hc) gX1_remember_X4_copyFrom rfl 1 (by decide +kernel) ⟨rfl, rfl, ⟨Nat.le_of_ble_eq_true rfl, Nat.le_of_ble_eq_true rfl⟩, Nat.le_of_ble_eq_true rfl, Nat.le_of_ble_eq_true rfl⟩ rfl hl (Nat.le_of_ble_eq_true rfl) dX1_remember_28 rfl hW hA [1, 0, 17, 18] rfl rfl rfl (ch' := [kX4 g a0 (a1 0) y1.2, kX0 g a1 y1.1, kX4 g a2 (a3 0) v2, kX0 g a3 v3, kX4 g a4 (a5 0) v4, kX0 g a5 v5, kX4 g a6 (a7 0) v6, kX0 g a7 v7, kX4 g a8 (a9 0) v8, kX0 g a9 v9, kX4 g a10 (a11 0) v10, kX0 g a11 v11, kX4 g a12 (a13 0) v12, kX0 g a13 v13, kX4 g a14 (a15 0) v14, kX0 g a15 v15, kX1 g a16 (a0 0) (a2 0) (a4 0) (a6 0) (a8 0) (a10 0) (a12 0) (a14 0) (st v16 1 (fun _ => (((v16 1 0) + (1 : Int32)) - ((v16 1 0) + (1 : Int32)) / (8 : Int32) * (8 : Int32)))), kX4 g a17 (a18 0) v17, kX0 g a18 v18]) rfl 0 rfl rfl rfl (fun H locs hW => ?_)
    refine lv_aload_n hx hb dX1_remember_31 rfl (lv_at hl 1 rfl) ?_
    refine lv_bipush (v := (8 : Int32)) hx hb dX1_remember_32 (by decide) ?_
    refine lv_aload_n hx hb dX1_remember_34 rfl (lv_at hl 1 rfl) ?_
    refine g_get C hW inX1 16 rfl rfl rfl 0 (by decide) (List.mem_of_getElem? (i := 2) rfl) (v := .int (v16 0 0)) rfl dX1_remember_35 ?_
    refine lv_iconst (v := (1 : Int32)) hx hb dX1_remember_38 (by decide) ?_
    refine lv_iadd hx hb dX1_remember_39 ?_
    refine g_mmin C hl (List.mem_of_getElem? (i := 3) rfl) (List.mem_of_getElem? (i := 4) rfl) (List.mem_of_getElem? (i := 5) rfl) (List.mem_of_getElem? (i := 6) rfl) ⟨Nat.le_of_ble_eq_true rfl, Nat.le_of_ble_eq_true rfl, Nat.le_of_ble_eq_true rfl, Nat.le_of_ble_eq_true rfl⟩ (Nat.le_of_ble_eq_true rfl) dX1_remember_40 ?_
    refine g_put C hW inX1 tyX1_ok nmX1 16 rfl rfl rfl 0 (by decide) (List.mem_of_getElem? (i := 2) rfl) rfl rfl rfl rfl (kX1_s0 g a16 (a0 0) (a2 0) (a4 0) (a6 0) (a8 0) (a10 0) (a12 0) (a14 0) (st v16 1 (fun _ => (((v16 1 0) + (1 : Int32)) - ((v16 1 0) + (1 : Int32)) / (8 : Int32) * (8 : Int32)))) (if ((v16 0 0) + (1 : Int32)) < (8 : Int32) then ((v16 0 0) + (1 : Int32)) else (8 : Int32))) (ch' := [kX4 g a0 (a1 0) y1.2, kX0 g a1 y1.1, kX4 g a2 (a3 0) v2, kX0 g a3 v3, kX4 g a4 (a5 0) v4, kX0 g a5 v5, kX4 g a6 (a7 0) v6, kX0 g a7 v7, kX4 g a8 (a9 0) v8, kX0 g a9 v9, kX4 g a10 (a11 0) v10, kX0 g a11 v11, kX4 g a12 (a13 0) v12, kX0 g a13 v13, kX4 g a14 (a15 0) v14, kX0 g a15 v15, kX1 g a16 (a0 0) (a2 0) (a4 0) (a6 0) (a8 0) (a10 0) (a12 0) (a14 0) (st (st v16 1 (fun _ => (((v16 1 0) + (1 : Int32)) - ((v16 1 0) + (1 : Int32)) / (8 : Int32) * (8 : Int32)))) 0 (fun _ => (if ((v16 0 0) + (1 : Int32)) < (8 : Int32) then ((v16 0 0) + (1 : Int32)) else (8 : Int32)))), kX4 g a17 (a18 0) v17, kX0 g a18 v18]) rfl dX1_remember_43 (fun H locs hW => ?_)
    obtain rfl := Option.some.inj hf
    subst hQ
    exact g_vret C hr hk0 hW rfl rfl dX1_remember_46
  replace hf := (if_neg h0).symm.trans hf
  rcases Decidable.em ((((v16 1 0) + (1 : Int32)) - ((v16 1 0) + (1 : Int32)) / (8 : Int32) * (8 : Int32)) = (1 : Int32)) with h1 | h1
  · replace hf := (if_pos h1).symm.trans hf
    refine g_cV (Cn := RX1) C (ct_X1_rowAt_1 g l a16 (a0 0) (a2 0) (a4 0) (a6 0) (a8 0) (a10 0) (a12 0) (a14 0) (((v16 1 0) + (1 : Int32)) - ((v16 1 0) + (1 : Int32)) / (8 : Int32) * (8 : Int32)) (st v16 1 (fun _ => (((v16 1 0) + (1 : Int32)) - ((v16 1 0) + (1 : Int32)) / (8 : Int32) * (8 : Int32)))) h1) gX1_remember_X1_rowAt rfl 1 (by decide +kernel) ⟨rfl, rfl, ⟨Nat.le_of_ble_eq_true rfl, Nat.le_of_ble_eq_true rfl⟩, Nat.le_of_ble_eq_true rfl, Nat.le_of_ble_eq_true rfl⟩ rfl hl (Nat.le_of_ble_eq_true rfl) dX1_remember_18 rfl hW hA [16] rfl rfl rfl (ch' := [kX4 g a0 (a1 0) v0, kX0 g a1 v1, kX4 g a2 (a3 0) v2, kX0 g a3 v3, kX4 g a4 (a5 0) v4, kX0 g a5 v5, kX4 g a6 (a7 0) v6, kX0 g a7 v7, kX4 g a8 (a9 0) v8, kX0 g a9 v9, kX4 g a10 (a11 0) v10, kX0 g a11 v11, kX4 g a12 (a13 0) v12, kX0 g a13 v13, kX4 g a14 (a15 0) v14, kX0 g a15 v15, kX1 g a16 (a0 0) (a2 0) (a4 0) (a6 0) (a8 0) (a10 0) (a12 0) (a14 0) (st v16 1 (fun _ => (((v16 1 0) + (1 : Int32)) - ((v16 1 0) + (1 : Int32)) / (8 : Int32) * (8 : Int32)))), kX4 g a17 (a18 0) v17, kX0 g a18 v18]) rfl 16 rfl rfl rfl (fun H locs hW => ?_)
    refine lv_astore_n (lv' := [(2, .ref (a2 0)), (0, .ref (a16 0)), (1, .ref (a17 0))]) hx hb dX1_remember_21 rfl hl (by decide) rfl (fun ls hl => ?_)
    refine lv_aload_n hx hb dX1_remember_22 rfl (lv_at hl 0 rfl) ?_
    refine lv_ifnull hx hb dX1_remember_23 ?_
    refine lv_aload_n hx hb dX1_remember_26 rfl (lv_at hl 0 rfl) ?_
    refine lv_aload_n hx hb dX1_remember_27 rfl (lv_at hl 2 rfl) ?_
    obtain ⟨y2, hc, hf⟩ := bd_of hf
    refine g_cVv (Cn := RX4) C (ct_X4_copyFrom g l N a3 a2 a17 a18 v3 v2 v17 v18 hc) gX1_remember_X4_copyFrom rfl 1 (by decide +kernel) ⟨rfl, rfl, ⟨Nat.le_of_ble_eq_true rfl, Nat.le_of_ble_eq_true rfl⟩, Nat.le_of_ble_eq_true rfl, Nat.le_of_ble_eq_true rfl⟩ rfl hl (Nat.le_of_ble_eq_true rfl) dX1_remember_28 rfl hW hA [3, 2, 17, 18] rfl rfl rfl (ch' := [kX4 g a0 (a1 0) v0, kX0 g a1 v1, kX4 g a2 (a3 0) y2.2, kX0 g a3 y2.1, kX4 g a4 (a5 0) v4, kX0 g a5 v5, kX4 g a6 (a7 0) v6, kX0 g a7 v7, kX4 g a8 (a9 0) v8, kX0 g a9 v9, kX4 g a10 (a11 0) v10, kX0 g a11 v11, kX4 g a12 (a13 0) v12, kX0 g a13 v13, kX4 g a14 (a15 0) v14, kX0 g a15 v15, kX1 g a16 (a0 0) (a2 0) (a4 0) (a6 0) (a8 0) (a10 0) (a12 0) (a14 0) (st v16 1 (fun _ => (((v16 1 0) + (1 : Int32)) - ((v16 1 0) + (1 : Int32)) / (8 : Int32) * (8 : Int32)))), kX4 g a17 (a18 0) v17, kX0 g a18 v18]) rfl 2 rfl rfl rfl (fun H locs hW => ?_)
    refine lv_aload_n hx hb dX1_remember_31 rfl (lv_at hl 1 rfl) ?_
    refine lv_bipush (v := (8 : Int32)) hx hb dX1_remember_32 (by decide) ?_
    refine lv_aload_n hx hb dX1_remember_34 rfl (lv_at hl 1 rfl) ?_
    refine g_get C hW inX1 16 rfl rfl rfl 0 (by decide) (List.mem_of_getElem? (i := 2) rfl) (v := .int (v16 0 0)) rfl dX1_remember_35 ?_
    refine lv_iconst (v := (1 : Int32)) hx hb dX1_remember_38 (by decide) ?_
    refine lv_iadd hx hb dX1_remember_39 ?_
    refine g_mmin C hl (List.mem_of_getElem? (i := 3) rfl) (List.mem_of_getElem? (i := 4) rfl) (List.mem_of_getElem? (i := 5) rfl) (List.mem_of_getElem? (i := 6) rfl) ⟨Nat.le_of_ble_eq_true rfl, Nat.le_of_ble_eq_true rfl, Nat.le_of_ble_eq_true rfl, Nat.le_of_ble_eq_true rfl⟩ (Nat.le_of_ble_eq_true rfl) dX1_remember_40 ?_
    refine g_put C hW inX1 tyX1_ok nmX1 16 rfl rfl rfl 0 (by decide) (List.mem_of_getElem? (i := 2) rfl) rfl rfl rfl rfl (kX1_s0 g a16 (a0 0) (a2 0) (a4 0) (a6 0) (a8 0) (a10 0) (a12 0) (a14 0) (st v16 1 (fun _ => (((v16 1 0) + (1 : Int32)) - ((v16 1 0) + (1 : Int32)) / (8 : Int32) * (8 : Int32)))) (if ((v16 0 0) + (1 : Int32)) < (8 : Int32) then ((v16 0 0) + (1 : Int32)) else (8 : Int32))) (ch' := [kX4 g a0 (a1 0) v0, kX0 g a1 v1, kX4 g a2 (a3 0) y2.2, kX0 g a3 y2.1, kX4 g a4 (a5 0) v4, kX0 g a5 v5, kX4 g a6 (a7 0) v6, kX0 g a7 v7, kX4 g a8 (a9 0) v8, kX0 g a9 v9, kX4 g a10 (a11 0) v10, kX0 g a11 v11, kX4 g a12 (a13 0) v12, kX0 g a13 v13, kX4 g a14 (a15 0) v14, kX0 g a15 v15, kX1 g a16 (a0 0) (a2 0) (a4 0) (a6 0) (a8 0) (a10 0) (a12 0) (a14 0) (st (st v16 1 (fun _ => (((v16 1 0) + (1 : Int32)) - ((v16 1 0) + (1 : Int32)) / (8 : Int32) * (8 : Int32)))) 0 (fun _ => (if ((v16 0 0) + (1 : Int32)) < (8 : Int32) then ((v16 0 0) + (1 : Int32)) else (8 : Int32)))), kX4 g a17 (a18 0) v17, kX0 g a18 v18]) rfl dX1_remember_43 (fun H locs hW => ?_)
    obtain rfl := Option.some.inj hf
    subst hQ
    exact g_vret C hr hk0 hW rfl rfl dX1_remember_46
  replace hf := (if_neg h1).symm.trans hf
  rcases Decidable.em ((((v16 1 0) + (1 : Int32)) - ((v16 1 0) + (1 : Int32)) / (8 : Int32) * (8 : Int32)) = (2 : Int32)) with h2 | h2
  · replace hf := (if_pos h2).symm.trans hf
    refine g_cV (Cn := RX1) C (ct_X1_rowAt_2 g l a16 (a0 0) (a2 0) (a4 0) (a6 0) (a8 0) (a10 0) (a12 0) (a14 0) (((v16 1 0) + (1 : Int32)) - ((v16 1 0) + (1 : Int32)) / (8 : Int32) * (8 : Int32)) (st v16 1 (fun _ => (((v16 1 0) + (1 : Int32)) - ((v16 1 0) + (1 : Int32)) / (8 : Int32) * (8 : Int32)))) h2) gX1_remember_X1_rowAt rfl 1 (by decide +kernel) ⟨rfl, rfl, ⟨Nat.le_of_ble_eq_true rfl, Nat.le_of_ble_eq_true rfl⟩, Nat.le_of_ble_eq_true rfl, Nat.le_of_ble_eq_true rfl⟩ rfl hl (Nat.le_of_ble_eq_true rfl) dX1_remember_18 rfl hW hA [16] rfl rfl rfl (ch' := [kX4 g a0 (a1 0) v0, kX0 g a1 v1, kX4 g a2 (a3 0) v2, kX0 g a3 v3, kX4 g a4 (a5 0) v4, kX0 g a5 v5, kX4 g a6 (a7 0) v6, kX0 g a7 v7, kX4 g a8 (a9 0) v8, kX0 g a9 v9, kX4 g a10 (a11 0) v10, kX0 g a11 v11, kX4 g a12 (a13 0) v12, kX0 g a13 v13, kX4 g a14 (a15 0) v14, kX0 g a15 v15, kX1 g a16 (a0 0) (a2 0) (a4 0) (a6 0) (a8 0) (a10 0) (a12 0) (a14 0) (st v16 1 (fun _ => (((v16 1 0) + (1 : Int32)) - ((v16 1 0) + (1 : Int32)) / (8 : Int32) * (8 : Int32)))), kX4 g a17 (a18 0) v17, kX0 g a18 v18]) rfl 16 rfl rfl rfl (fun H locs hW => ?_)
    refine lv_astore_n (lv' := [(2, .ref (a4 0)), (0, .ref (a16 0)), (1, .ref (a17 0))]) hx hb dX1_remember_21 rfl hl (by decide) rfl (fun ls hl => ?_)
    refine lv_aload_n hx hb dX1_remember_22 rfl (lv_at hl 0 rfl) ?_
    refine lv_ifnull hx hb dX1_remember_23 ?_
    refine lv_aload_n hx hb dX1_remember_26 rfl (lv_at hl 0 rfl) ?_
    refine lv_aload_n hx hb dX1_remember_27 rfl (lv_at hl 2 rfl) ?_
    obtain ⟨y3, hc, hf⟩ := bd_of hf
    refine g_cVv (Cn := RX4) C (ct_X4_copyFrom g l N a5 a4 a17 a18 v5 v4 v17 v18 hc) gX1_remember_X4_copyFrom rfl 1 (by decide +kernel) ⟨rfl, rfl, ⟨Nat.le_of_ble_eq_true rfl, Nat.le_of_ble_eq_true rfl⟩, Nat.le_of_ble_eq_true rfl, Nat.le_of_ble_eq_true rfl⟩ rfl hl (Nat.le_of_ble_eq_true rfl) dX1_remember_28 rfl hW hA [5, 4, 17, 18] rfl rfl rfl (ch' := [kX4 g a0 (a1 0) v0, kX0 g a1 v1, kX4 g a2 (a3 0) v2, kX0 g a3 v3, kX4 g a4 (a5 0) y3.2, kX0 g a5 y3.1, kX4 g a6 (a7 0) v6, kX0 g a7 v7, kX4 g a8 (a9 0) v8, kX0 g a9 v9, kX4 g a10 (a11 0) v10, kX0 g a11 v11, kX4 g a12 (a13 0) v12, kX0 g a13 v13, kX4 g a14 (a15 0) v14, kX0 g a15 v15, kX1 g a16 (a0 0) (a2 0) (a4 0) (a6 0) (a8 0) (a10 0) (a12 0) (a14 0) (st v16 1 (fun _ => (((v16 1 0) + (1 : Int32)) - ((v16 1 0) + (1 : Int32)) / (8 : Int32) * (8 : Int32)))), kX4 g a17 (a18 0) v17, kX0 g a18 v18]) rfl 4 rfl rfl rfl (fun H locs hW => ?_)
    refine lv_aload_n hx hb dX1_remember_31 rfl (lv_at hl 1 rfl) ?_
    refine lv_bipush (v := (8 : Int32)) hx hb dX1_remember_32 (by decide) ?_
    refine lv_aload_n hx hb dX1_remember_34 rfl (lv_at hl 1 rfl) ?_
    refine g_get C hW inX1 16 rfl rfl rfl 0 (by decide) (List.mem_of_getElem? (i := 2) rfl) (v := .int (v16 0 0)) rfl dX1_remember_35 ?_
    refine lv_iconst (v := (1 : Int32)) hx hb dX1_remember_38 (by decide) ?_
    refine lv_iadd hx hb dX1_remember_39 ?_
    refine g_mmin C hl (List.mem_of_getElem? (i := 3) rfl) (List.mem_of_getElem? (i := 4) rfl) (List.mem_of_getElem? (i := 5) rfl) (List.mem_of_getElem? (i := 6) rfl) ⟨Nat.le_of_ble_eq_true rfl, Nat.le_of_ble_eq_true rfl, Nat.le_of_ble_eq_true rfl, Nat.le_of_ble_eq_true rfl⟩ (Nat.le_of_ble_eq_true rfl) dX1_remember_40 ?_
    refine g_put C hW inX1 tyX1_ok nmX1 16 rfl rfl rfl 0 (by decide) (List.mem_of_getElem? (i := 2) rfl) rfl rfl rfl rfl (kX1_s0 g a16 (a0 0) (a2 0) (a4 0) (a6 0) (a8 0) (a10 0) (a12 0) (a14 0) (st v16 1 (fun _ => (((v16 1 0) + (1 : Int32)) - ((v16 1 0) + (1 : Int32)) / (8 : Int32) * (8 : Int32)))) (if ((v16 0 0) + (1 : Int32)) < (8 : Int32) then ((v16 0 0) + (1 : Int32)) else (8 : Int32))) (ch' := [kX4 g a0 (a1 0) v0, kX0 g a1 v1, kX4 g a2 (a3 0) v2, kX0 g a3 v3, kX4 g a4 (a5 0) y3.2, kX0 g a5 y3.1, kX4 g a6 (a7 0) v6, kX0 g a7 v7, kX4 g a8 (a9 0) v8, kX0 g a9 v9, kX4 g a10 (a11 0) v10, kX0 g a11 v11, kX4 g a12 (a13 0) v12, kX0 g a13 v13, kX4 g a14 (a15 0) v14, kX0 g a15 v15, kX1 g a16 (a0 0) (a2 0) (a4 0) (a6 0) (a8 0) (a10 0) (a12 0) (a14 0) (st (st v16 1 (fun _ => (((v16 1 0) + (1 : Int32)) - ((v16 1 0) + (1 : Int32)) / (8 : Int32) * (8 : Int32)))) 0 (fun _ => (if ((v16 0 0) + (1 : Int32)) < (8 : Int32) then ((v16 0 0) + (1 : Int32)) else (8 : Int32)))), kX4 g a17 (a18 0) v17, kX0 g a18 v18]) rfl dX1_remember_43 (fun H locs hW => ?_)
    obtain rfl := Option.some.inj hf
    subst hQ
    exact g_vret C hr hk0 hW rfl rfl dX1_remember_46
  replace hf := (if_neg h2).symm.trans hf
  rcases Decidable.em ((((v16 1 0) + (1 : Int32)) - ((v16 1 0) + (1 : Int32)) / (8 : Int32) * (8 : Int32)) = (3 : Int32)) with h3 | h3
  · replace hf := (if_pos h3).symm.trans hf
    refine g_cV (Cn := RX1) C (ct_X1_rowAt_3 g l a16 (a0 0) (a2 0) (a4 0) (a6 0) (a8 0) (a10 0) (a12 0) (a14 0) (((v16 1 0) + (1 : Int32)) - ((v16 1 0) + (1 : Int32)) / (8 : Int32) * (8 : Int32)) (st v16 1 (fun _ => (((v16 1 0) + (1 : Int32)) - ((v16 1 0) + (1 : Int32)) / (8 : Int32) * (8 : Int32)))) h3) gX1_remember_X1_rowAt rfl 1 (by decide +kernel) ⟨rfl, rfl, ⟨Nat.le_of_ble_eq_true rfl, Nat.le_of_ble_eq_true rfl⟩, Nat.le_of_ble_eq_true rfl, Nat.le_of_ble_eq_true rfl⟩ rfl hl (Nat.le_of_ble_eq_true rfl) dX1_remember_18 rfl hW hA [16] rfl rfl rfl (ch' := [kX4 g a0 (a1 0) v0, kX0 g a1 v1, kX4 g a2 (a3 0) v2, kX0 g a3 v3, kX4 g a4 (a5 0) v4, kX0 g a5 v5, kX4 g a6 (a7 0) v6, kX0 g a7 v7, kX4 g a8 (a9 0) v8, kX0 g a9 v9, kX4 g a10 (a11 0) v10, kX0 g a11 v11, kX4 g a12 (a13 0) v12, kX0 g a13 v13, kX4 g a14 (a15 0) v14, kX0 g a15 v15, kX1 g a16 (a0 0) (a2 0) (a4 0) (a6 0) (a8 0) (a10 0) (a12 0) (a14 0) (st v16 1 (fun _ => (((v16 1 0) + (1 : Int32)) - ((v16 1 0) + (1 : Int32)) / (8 : Int32) * (8 : Int32)))), kX4 g a17 (a18 0) v17, kX0 g a18 v18]) rfl 16 rfl rfl rfl (fun H locs hW => ?_)
    refine lv_astore_n (lv' := [(2, .ref (a6 0)), (0, .ref (a16 0)), (1, .ref (a17 0))]) hx hb dX1_remember_21 rfl hl (by decide) rfl (fun ls hl => ?_)
    refine lv_aload_n hx hb dX1_remember_22 rfl (lv_at hl 0 rfl) ?_
    refine lv_ifnull hx hb dX1_remember_23 ?_
    refine lv_aload_n hx hb dX1_remember_26 rfl (lv_at hl 0 rfl) ?_
    refine lv_aload_n hx hb dX1_remember_27 rfl (lv_at hl 2 rfl) ?_
    obtain ⟨y4, hc, hf⟩ := bd_of hf
    refine g_cVv (Cn := RX4) C (ct_X4_copyFrom g l N a7 a6 a17 a18 v7 v6 v17 v18 hc) gX1_remember_X4_copyFrom rfl 1 (by decide +kernel) ⟨rfl, rfl, ⟨Nat.le_of_ble_eq_true rfl, Nat.le_of_ble_eq_true rfl⟩, Nat.le_of_ble_eq_true rfl, Nat.le_of_ble_eq_true rfl⟩ rfl hl (Nat.le_of_ble_eq_true rfl) dX1_remember_28 rfl hW hA [7, 6, 17, 18] rfl rfl rfl (ch' := [kX4 g a0 (a1 0) v0, kX0 g a1 v1, kX4 g a2 (a3 0) v2, kX0 g a3 v3, kX4 g a4 (a5 0) v4, kX0 g a5 v5, kX4 g a6 (a7 0) y4.2, kX0 g a7 y4.1, kX4 g a8 (a9 0) v8, kX0 g a9 v9, kX4 g a10 (a11 0) v10, kX0 g a11 v11, kX4 g a12 (a13 0) v12, kX0 g a13 v13, kX4 g a14 (a15 0) v14, kX0 g a15 v15, kX1 g a16 (a0 0) (a2 0) (a4 0) (a6 0) (a8 0) (a10 0) (a12 0) (a14 0) (st v16 1 (fun _ => (((v16 1 0) + (1 : Int32)) - ((v16 1 0) + (1 : Int32)) / (8 : Int32) * (8 : Int32)))), kX4 g a17 (a18 0) v17, kX0 g a18 v18]) rfl 6 rfl rfl rfl (fun H locs hW => ?_)
    refine lv_aload_n hx hb dX1_remember_31 rfl (lv_at hl 1 rfl) ?_
    refine lv_bipush (v := (8 : Int32)) hx hb dX1_remember_32 (by decide) ?_
    refine lv_aload_n hx hb dX1_remember_34 rfl (lv_at hl 1 rfl) ?_
    refine g_get C hW inX1 16 rfl rfl rfl 0 (by decide) (List.mem_of_getElem? (i := 2) rfl) (v := .int (v16 0 0)) rfl dX1_remember_35 ?_
    refine lv_iconst (v := (1 : Int32)) hx hb dX1_remember_38 (by decide) ?_
    refine lv_iadd hx hb dX1_remember_39 ?_
    refine g_mmin C hl (List.mem_of_getElem? (i := 3) rfl) (List.mem_of_getElem? (i := 4) rfl) (List.mem_of_getElem? (i := 5) rfl) (List.mem_of_getElem? (i := 6) rfl) ⟨Nat.le_of_ble_eq_true rfl, Nat.le_of_ble_eq_true rfl, Nat.le_of_ble_eq_true rfl, Nat.le_of_ble_eq_true rfl⟩ (Nat.le_of_ble_eq_true rfl) dX1_remember_40 ?_
    refine g_put C hW inX1 tyX1_ok nmX1 16 rfl rfl rfl 0 (by decide) (List.mem_of_getElem? (i := 2) rfl) rfl rfl rfl rfl (kX1_s0 g a16 (a0 0) (a2 0) (a4 0) (a6 0) (a8 0) (a10 0) (a12 0) (a14 0) (st v16 1 (fun _ => (((v16 1 0) + (1 : Int32)) - ((v16 1 0) + (1 : Int32)) / (8 : Int32) * (8 : Int32)))) (if ((v16 0 0) + (1 : Int32)) < (8 : Int32) then ((v16 0 0) + (1 : Int32)) else (8 : Int32))) (ch' := [kX4 g a0 (a1 0) v0, kX0 g a1 v1, kX4 g a2 (a3 0) v2, kX0 g a3 v3, kX4 g a4 (a5 0) v4, kX0 g a5 v5, kX4 g a6 (a7 0) y4.2, kX0 g a7 y4.1, kX4 g a8 (a9 0) v8, kX0 g a9 v9, kX4 g a10 (a11 0) v10, kX0 g a11 v11, kX4 g a12 (a13 0) v12, kX0 g a13 v13, kX4 g a14 (a15 0) v14, kX0 g a15 v15, kX1 g a16 (a0 0) (a2 0) (a4 0) (a6 0) (a8 0) (a10 0) (a12 0) (a14 0) (st (st v16 1 (fun _ => (((v16 1 0) + (1 : Int32)) - ((v16 1 0) + (1 : Int32)) / (8 : Int32) * (8 : Int32)))) 0 (fun _ => (if ((v16 0 0) + (1 : Int32)) < (8 : Int32) then ((v16 0 0) + (1 : Int32)) else (8 : Int32)))), kX4 g a17 (a18 0) v17, kX0 g a18 v18]) rfl dX1_remember_43 (fun H locs hW => ?_)
    obtain rfl := Option.some.inj hf
    subst hQ
    exact g_vret C hr hk0 hW rfl rfl dX1_remember_46
  replace hf := (if_neg h3).symm.trans hf
  rcases Decidable.em ((((v16 1 0) + (1 : Int32)) - ((v16 1 0) + (1 : Int32)) / (8 : Int32) * (8 : Int32)) = (4 : Int32)) with h4 | h4
  · replace hf := (if_pos h4).symm.trans hf
    refine g_cV (Cn := RX1) C (ct_X1_rowAt_4 g l a16 (a0 0) (a2 0) (a4 0) (a6 0) (a8 0) (a10 0) (a12 0) (a14 0) (((v16 1 0) + (1 : Int32)) - ((v16 1 0) + (1 : Int32)) / (8 : Int32) * (8 : Int32)) (st v16 1 (fun _ => (((v16 1 0) + (1 : Int32)) - ((v16 1 0) + (1 : Int32)) / (8 : Int32) * (8 : Int32)))) h4) gX1_remember_X1_rowAt rfl 1 (by decide +kernel) ⟨rfl, rfl, ⟨Nat.le_of_ble_eq_true rfl, Nat.le_of_ble_eq_true rfl⟩, Nat.le_of_ble_eq_true rfl, Nat.le_of_ble_eq_true rfl⟩ rfl hl (Nat.le_of_ble_eq_true rfl) dX1_remember_18 rfl hW hA [16] rfl rfl rfl (ch' := [kX4 g a0 (a1 0) v0, kX0 g a1 v1, kX4 g a2 (a3 0) v2, kX0 g a3 v3, kX4 g a4 (a5 0) v4, kX0 g a5 v5, kX4 g a6 (a7 0) v6, kX0 g a7 v7, kX4 g a8 (a9 0) v8, kX0 g a9 v9, kX4 g a10 (a11 0) v10, kX0 g a11 v11, kX4 g a12 (a13 0) v12, kX0 g a13 v13, kX4 g a14 (a15 0) v14, kX0 g a15 v15, kX1 g a16 (a0 0) (a2 0) (a4 0) (a6 0) (a8 0) (a10 0) (a12 0) (a14 0) (st v16 1 (fun _ => (((v16 1 0) + (1 : Int32)) - ((v16 1 0) + (1 : Int32)) / (8 : Int32) * (8 : Int32)))), kX4 g a17 (a18 0) v17, kX0 g a18 v18]) rfl 16 rfl rfl rfl (fun H locs hW => ?_)
    refine lv_astore_n (lv' := [(2, .ref (a8 0)), (0, .ref (a16 0)), (1, .ref (a17 0))]) hx hb dX1_remember_21 rfl hl (by decide) rfl (fun ls hl => ?_)
    refine lv_aload_n hx hb dX1_remember_22 rfl (lv_at hl 0 rfl) ?_
    refine lv_ifnull hx hb dX1_remember_23 ?_
    refine lv_aload_n hx hb dX1_remember_26 rfl (lv_at hl 0 rfl) ?_
    refine lv_aload_n hx hb dX1_remember_27 rfl (lv_at hl 2 rfl) ?_
    obtain ⟨y5, hc, hf⟩ := bd_of hf
    refine g_cVv (Cn := RX4) C (ct_X4_copyFrom g l N a9 a8 a17 a18 v9 v8 v17 v18 hc) gX1_remember_X4_copyFrom rfl 1 (by decide +kernel) ⟨rfl, rfl, ⟨Nat.le_of_ble_eq_true rfl, Nat.le_of_ble_eq_true rfl⟩, Nat.le_of_ble_eq_true rfl, Nat.le_of_ble_eq_true rfl⟩ rfl hl (Nat.le_of_ble_eq_true rfl) dX1_remember_28 rfl hW hA [9, 8, 17, 18] rfl rfl rfl (ch' := [kX4 g a0 (a1 0) v0, kX0 g a1 v1, kX4 g a2 (a3 0) v2, kX0 g a3 v3, kX4 g a4 (a5 0) v4, kX0 g a5 v5, kX4 g a6 (a7 0) v6, kX0 g a7 v7, kX4 g a8 (a9 0) y5.2, kX0 g a9 y5.1, kX4 g a10 (a11 0) v10, kX0 g a11 v11, kX4 g a12 (a13 0) v12, kX0 g a13 v13, kX4 g a14 (a15 0) v14, kX0 g a15 v15, kX1 g a16 (a0 0) (a2 0) (a4 0) (a6 0) (a8 0) (a10 0) (a12 0) (a14 0) (st v16 1 (fun _ => (((v16 1 0) + (1 : Int32)) - ((v16 1 0) + (1 : Int32)) / (8 : Int32) * (8 : Int32)))), kX4 g a17 (a18 0) v17, kX0 g a18 v18]) rfl 8 rfl rfl rfl (fun H locs hW => ?_)
    refine lv_aload_n hx hb dX1_remember_31 rfl (lv_at hl 1 rfl) ?_
    refine lv_bipush (v := (8 : Int32)) hx hb dX1_remember_32 (by decide) ?_
    refine lv_aload_n hx hb dX1_remember_34 rfl (lv_at hl 1 rfl) ?_
    refine g_get C hW inX1 16 rfl rfl rfl 0 (by decide) (List.mem_of_getElem? (i := 2) rfl) (v := .int (v16 0 0)) rfl dX1_remember_35 ?_
    refine lv_iconst (v := (1 : Int32)) hx hb dX1_remember_38 (by decide) ?_
    refine lv_iadd hx hb dX1_remember_39 ?_
    refine g_mmin C hl (List.mem_of_getElem? (i := 3) rfl) (List.mem_of_getElem? (i := 4) rfl) (List.mem_of_getElem? (i := 5) rfl) (List.mem_of_getElem? (i := 6) rfl) ⟨Nat.le_of_ble_eq_true rfl, Nat.le_of_ble_eq_true rfl, Nat.le_of_ble_eq_true rfl, Nat.le_of_ble_eq_true rfl⟩ (Nat.le_of_ble_eq_true rfl) dX1_remember_40 ?_
    refine g_put C hW inX1 tyX1_ok nmX1 16 rfl rfl rfl 0 (by decide) (List.mem_of_getElem? (i := 2) rfl) rfl rfl rfl rfl (kX1_s0 g a16 (a0 0) (a2 0) (a4 0) (a6 0) (a8 0) (a10 0) (a12 0) (a14 0) (st v16 1 (fun _ => (((v16 1 0) + (1 : Int32)) - ((v16 1 0) + (1 : Int32)) / (8 : Int32) * (8 : Int32)))) (if ((v16 0 0) + (1 : Int32)) < (8 : Int32) then ((v16 0 0) + (1 : Int32)) else (8 : Int32))) (ch' := [kX4 g a0 (a1 0) v0, kX0 g a1 v1, kX4 g a2 (a3 0) v2, kX0 g a3 v3, kX4 g a4 (a5 0) v4, kX0 g a5 v5, kX4 g a6 (a7 0) v6, kX0 g a7 v7, kX4 g a8 (a9 0) y5.2, kX0 g a9 y5.1, kX4 g a10 (a11 0) v10, kX0 g a11 v11, kX4 g a12 (a13 0) v12, kX0 g a13 v13, kX4 g a14 (a15 0) v14, kX0 g a15 v15, kX1 g a16 (a0 0) (a2 0) (a4 0) (a6 0) (a8 0) (a10 0) (a12 0) (a14 0) (st (st v16 1 (fun _ => (((v16 1 0) + (1 : Int32)) - ((v16 1 0) + (1 : Int32)) / (8 : Int32) * (8 : Int32)))) 0 (fun _ => (if ((v16 0 0) + (1 : Int32)) < (8 : Int32) then ((v16 0 0) + (1 : Int32)) else (8 : Int32)))), kX4 g a17 (a18 0) v17, kX0 g a18 v18]) rfl dX1_remember_43 (fun H locs hW => ?_)
    obtain rfl := Option.some.inj hf
    subst hQ
    exact g_vret C hr hk0 hW rfl rfl dX1_remember_46
  replace hf := (if_neg h4).symm.trans hf
  rcases Decidable.em ((((v16 1 0) + (1 : Int32)) - ((v16 1 0) + (1 : Int32)) / (8 : Int32) * (8 : Int32)) = (5 : Int32)) with h5 | h5
  · replace hf := (if_pos h5).symm.trans hf
    refine g_cV (Cn := RX1) C (ct_X1_rowAt_5 g l a16 (a0 0) (a2 0) (a4 0) (a6 0) (a8 0) (a10 0) (a12 0) (a14 0) (((v16 1 0) + (1 : Int32)) - ((v16 1 0) + (1 : Int32)) / (8 : Int32) * (8 : Int32)) (st v16 1 (fun _ => (((v16 1 0) + (1 : Int32)) - ((v16 1 0) + (1 : Int32)) / (8 : Int32) * (8 : Int32)))) h5) gX1_remember_X1_rowAt rfl 1 (by decide +kernel) ⟨rfl, rfl, ⟨Nat.le_of_ble_eq_true rfl, Nat.le_of_ble_eq_true rfl⟩, Nat.le_of_ble_eq_true rfl, Nat.le_of_ble_eq_true rfl⟩ rfl hl (Nat.le_of_ble_eq_true rfl) dX1_remember_18 rfl hW hA [16] rfl rfl rfl (ch' := [kX4 g a0 (a1 0) v0, kX0 g a1 v1, kX4 g a2 (a3 0) v2, kX0 g a3 v3, kX4 g a4 (a5 0) v4, kX0 g a5 v5, kX4 g a6 (a7 0) v6, kX0 g a7 v7, kX4 g a8 (a9 0) v8, kX0 g a9 v9, kX4 g a10 (a11 0) v10, kX0 g a11 v11, kX4 g a12 (a13 0) v12, kX0 g a13 v13, kX4 g a14 (a15 0) v14, kX0 g a15 v15, kX1 g a16 (a0 0) (a2 0) (a4 0) (a6 0) (a8 0) (a10 0) (a12 0) (a14 0) (st v16 1 (fun _ => (((v16 1 0) + (1 : Int32)) - ((v16 1 0) + (1 : Int32)) / (8 : Int32) * (8 : Int32)))), kX4 g a17 (a18 0) v17, kX0 g a18 v18]) rfl 16 rfl rfl rfl (fun H locs hW => ?_)
    refine lv_astore_n (lv' := [(2, .ref (a10 0)), (0, .ref (a16 0)), (1, .ref (a17 0))]) hx hb dX1_remember_21 rfl hl (by decide) rfl (fun ls hl => ?_)
    refine lv_aload_n hx hb dX1_remember_22 rfl (lv_at hl 0 rfl) ?_
    refine lv_ifnull hx hb dX1_remember_23 ?_
    refine lv_aload_n hx hb dX1_remember_26 rfl (lv_at hl 0 rfl) ?_
    refine lv_aload_n hx hb dX1_remember_27 rfl (lv_at hl 2 rfl) ?_
    obtain ⟨y6, hc, hf⟩ := bd_of hf
    refine g_cVv (Cn := RX4) C (ct_X4_copyFrom g l N a11 a10 a17 a18 v11 v10 v17 v18 hc) gX1_remember_X4_copyFrom rfl 1 (by decide +kernel) ⟨rfl, rfl, ⟨Nat.le_of_ble_eq_true rfl, Nat.le_of_ble_eq_true rfl⟩, Nat.le_of_ble_eq_true rfl, Nat.le_of_ble_eq_true rfl⟩ rfl hl (Nat.le_of_ble_eq_true rfl) dX1_remember_28 rfl hW hA [11, 10, 17, 18] rfl rfl rfl (ch' := [kX4 g a0 (a1 0) v0, kX0 g a1 v1, kX4 g a2 (a3 0) v2, kX0 g a3 v3, kX4 g a4 (a5 0) v4, kX0 g a5 v5, kX4 g a6 (a7 0) v6, kX0 g a7 v7, kX4 g a8 (a9 0) v8, kX0 g a9 v9, kX4 g a10 (a11 0) y6.2, kX0 g a11 y6.1, kX4 g a12 (a13 0) v12, kX0 g a13 v13, kX4 g a14 (a15 0) v14, kX0 g a15 v15, kX1 g a16 (a0 0) (a2 0) (a4 0) (a6 0) (a8 0) (a10 0) (a12 0) (a14 0) (st v16 1 (fun _ => (((v16 1 0) + (1 : Int32)) - ((v16 1 0) + (1 : Int32)) / (8 : Int32) * (8 : Int32)))), kX4 g a17 (a18 0) v17, kX0 g a18 v18]) rfl 10 rfl rfl rfl (fun H locs hW => ?_)
    refine lv_aload_n hx hb dX1_remember_31 rfl (lv_at hl 1 rfl) ?_
    refine lv_bipush (v := (8 : Int32)) hx hb dX1_remember_32 (by decide) ?_
    refine lv_aload_n hx hb dX1_remember_34 rfl (lv_at hl 1 rfl) ?_
    refine g_get C hW inX1 16 rfl rfl rfl 0 (by decide) (List.mem_of_getElem? (i := 2) rfl) (v := .int (v16 0 0)) rfl dX1_remember_35 ?_
    refine lv_iconst (v := (1 : Int32)) hx hb dX1_remember_38 (by decide) ?_
    refine lv_iadd hx hb dX1_remember_39 ?_
    refine g_mmin C hl (List.mem_of_getElem? (i := 3) rfl) (List.mem_of_getElem? (i := 4) rfl) (List.mem_of_getElem? (i := 5) rfl) (List.mem_of_getElem? (i := 6) rfl) ⟨Nat.le_of_ble_eq_true rfl, Nat.le_of_ble_eq_true rfl, Nat.le_of_ble_eq_true rfl, Nat.le_of_ble_eq_true rfl⟩ (Nat.le_of_ble_eq_true rfl) dX1_remember_40 ?_
    refine g_put C hW inX1 tyX1_ok nmX1 16 rfl rfl rfl 0 (by decide) (List.mem_of_getElem? (i := 2) rfl) rfl rfl rfl rfl (kX1_s0 g a16 (a0 0) (a2 0) (a4 0) (a6 0) (a8 0) (a10 0) (a12 0) (a14 0) (st v16 1 (fun _ => (((v16 1 0) + (1 : Int32)) - ((v16 1 0) + (1 : Int32)) / (8 : Int32) * (8 : Int32)))) (if ((v16 0 0) + (1 : Int32)) < (8 : Int32) then ((v16 0 0) + (1 : Int32)) else (8 : Int32))) (ch' := [kX4 g a0 (a1 0) v0, kX0 g a1 v1, kX4 g a2 (a3 0) v2, kX0 g a3 v3, kX4 g a4 (a5 0) v4, kX0 g a5 v5, kX4 g a6 (a7 0) v6, kX0 g a7 v7, kX4 g a8 (a9 0) v8, kX0 g a9 v9, kX4 g a10 (a11 0) y6.2, kX0 g a11 y6.1, kX4 g a12 (a13 0) v12, kX0 g a13 v13, kX4 g a14 (a15 0) v14, kX0 g a15 v15, kX1 g a16 (a0 0) (a2 0) (a4 0) (a6 0) (a8 0) (a10 0) (a12 0) (a14 0) (st (st v16 1 (fun _ => (((v16 1 0) + (1 : Int32)) - ((v16 1 0) + (1 : Int32)) / (8 : Int32) * (8 : Int32)))) 0 (fun _ => (if ((v16 0 0) + (1 : Int32)) < (8 : Int32) then ((v16 0 0) + (1 : Int32)) else (8 : Int32)))), kX4 g a17 (a18 0) v17, kX0 g a18 v18]) rfl dX1_remember_43 (fun H locs hW => ?_)
    obtain rfl := Option.some.inj hf
    subst hQ
    exact g_vret C hr hk0 hW rfl rfl dX1_remember_46
  replace hf := (if_neg h5).symm.trans hf
  rcases Decidable.em ((((v16 1 0) + (1 : Int32)) - ((v16 1 0) + (1 : Int32)) / (8 : Int32) * (8 : Int32)) = (6 : Int32)) with h6 | h6
  · replace hf := (if_pos h6).symm.trans hf
    refine g_cV (Cn := RX1) C (ct_X1_rowAt_6 g l a16 (a0 0) (a2 0) (a4 0) (a6 0) (a8 0) (a10 0) (a12 0) (a14 0) (((v16 1 0) + (1 : Int32)) - ((v16 1 0) + (1 : Int32)) / (8 : Int32) * (8 : Int32)) (st v16 1 (fun _ => (((v16 1 0) + (1 : Int32)) - ((v16 1 0) + (1 : Int32)) / (8 : Int32) * (8 : Int32)))) h6) gX1_remember_X1_rowAt rfl 1 (by decide +kernel) ⟨rfl, rfl, ⟨Nat.le_of_ble_eq_true rfl, Nat.le_of_ble_eq_true rfl⟩, Nat.le_of_ble_eq_true rfl, Nat.le_of_ble_eq_true rfl⟩ rfl hl (Nat.le_of_ble_eq_true rfl) dX1_remember_18 rfl hW hA [16] rfl rfl rfl (ch' := [kX4 g a0 (a1 0) v0, kX0 g a1 v1, kX4 g a2 (a3 0) v2, kX0 g a3 v3, kX4 g a4 (a5 0) v4, kX0 g a5 v5, kX4 g a6 (a7 0) v6, kX0 g a7 v7, kX4 g a8 (a9 0) v8, kX0 g a9 v9, kX4 g a10 (a11 0) v10, kX0 g a11 v11, kX4 g a12 (a13 0) v12, kX0 g a13 v13, kX4 g a14 (a15 0) v14, kX0 g a15 v15, kX1 g a16 (a0 0) (a2 0) (a4 0) (a6 0) (a8 0) (a10 0) (a12 0) (a14 0) (st v16 1 (fun _ => (((v16 1 0) + (1 : Int32)) - ((v16 1 0) + (1 : Int32)) / (8 : Int32) * (8 : Int32)))), kX4 g a17 (a18 0) v17, kX0 g a18 v18]) rfl 16 rfl rfl rfl (fun H locs hW => ?_)
    refine lv_astore_n (lv' := [(2, .ref (a12 0)), (0, .ref (a16 0)), (1, .ref (a17 0))]) hx hb dX1_remember_21 rfl hl (by decide) rfl (fun ls hl => ?_)
    refine lv_aload_n hx hb dX1_remember_22 rfl (lv_at hl 0 rfl) ?_
    refine lv_ifnull hx hb dX1_remember_23 ?_
    refine lv_aload_n hx hb dX1_remember_26 rfl (lv_at hl 0 rfl) ?_
    refine lv_aload_n hx hb dX1_remember_27 rfl (lv_at hl 2 rfl) ?_
    obtain ⟨y7, hc, hf⟩ := bd_of hf
    refine g_cVv (Cn := RX4) C (ct_X4_copyFrom g l N a13 a12 a17 a18 v13 v12 v17 v18 hc) gX1_remember_X4_copyFrom rfl 1 (by decide +kernel) ⟨rfl, rfl, ⟨Nat.le_of_ble_eq_true rfl, Nat.le_of_ble_eq_true rfl⟩, Nat.le_of_ble_eq_true rfl, Nat.le_of_ble_eq_true rfl⟩ rfl hl (Nat.le_of_ble_eq_true rfl) dX1_remember_28 rfl hW hA [13, 12, 17, 18] rfl rfl rfl (ch' := [kX4 g a0 (a1 0) v0, kX0 g a1 v1, kX4 g a2 (a3 0) v2, kX0 g a3 v3, kX4 g a4 (a5 0) v4, kX0 g a5 v5, kX4 g a6 (a7 0) v6, kX0 g a7 v7, kX4 g a8 (a9 0) v8, kX0 g a9 v9, kX4 g a10 (a11 0) v10, kX0 g a11 v11, kX4 g a12 (a13 0) y7.2, kX0 g a13 y7.1, kX4 g a14 (a15 0) v14, kX0 g a15 v15, kX1 g a16 (a0 0) (a2 0) (a4 0) (a6 0) (a8 0) (a10 0) (a12 0) (a14 0) (st v16 1 (fun _ => (((v16 1 0) + (1 : Int32)) - ((v16 1 0) + (1 : Int32)) / (8 : Int32) * (8 : Int32)))), kX4 g a17 (a18 0) v17, kX0 g a18 v18]) rfl 12 rfl rfl rfl (fun H locs hW => ?_)
    refine lv_aload_n hx hb dX1_remember_31 rfl (lv_at hl 1 rfl) ?_
    refine lv_bipush (v := (8 : Int32)) hx hb dX1_remember_32 (by decide) ?_
    refine lv_aload_n hx hb dX1_remember_34 rfl (lv_at hl 1 rfl) ?_
    refine g_get C hW inX1 16 rfl rfl rfl 0 (by decide) (List.mem_of_getElem? (i := 2) rfl) (v := .int (v16 0 0)) rfl dX1_remember_35 ?_
    refine lv_iconst (v := (1 : Int32)) hx hb dX1_remember_38 (by decide) ?_
    refine lv_iadd hx hb dX1_remember_39 ?_
    refine g_mmin C hl (List.mem_of_getElem? (i := 3) rfl) (List.mem_of_getElem? (i := 4) rfl) (List.mem_of_getElem? (i := 5) rfl) (List.mem_of_getElem? (i := 6) rfl) ⟨Nat.le_of_ble_eq_true rfl, Nat.le_of_ble_eq_true rfl, Nat.le_of_ble_eq_true rfl, Nat.le_of_ble_eq_true rfl⟩ (Nat.le_of_ble_eq_true rfl) dX1_remember_40 ?_
    refine g_put C hW inX1 tyX1_ok nmX1 16 rfl rfl rfl 0 (by decide) (List.mem_of_getElem? (i := 2) rfl) rfl rfl rfl rfl (kX1_s0 g a16 (a0 0) (a2 0) (a4 0) (a6 0) (a8 0) (a10 0) (a12 0) (a14 0) (st v16 1 (fun _ => (((v16 1 0) + (1 : Int32)) - ((v16 1 0) + (1 : Int32)) / (8 : Int32) * (8 : Int32)))) (if ((v16 0 0) + (1 : Int32)) < (8 : Int32) then ((v16 0 0) + (1 : Int32)) else (8 : Int32))) (ch' := [kX4 g a0 (a1 0) v0, kX0 g a1 v1, kX4 g a2 (a3 0) v2, kX0 g a3 v3, kX4 g a4 (a5 0) v4, kX0 g a5 v5, kX4 g a6 (a7 0) v6, kX0 g a7 v7, kX4 g a8 (a9 0) v8, kX0 g a9 v9, kX4 g a10 (a11 0) v10, kX0 g a11 v11, kX4 g a12 (a13 0) y7.2, kX0 g a13 y7.1, kX4 g a14 (a15 0) v14, kX0 g a15 v15, kX1 g a16 (a0 0) (a2 0) (a4 0) (a6 0) (a8 0) (a10 0) (a12 0) (a14 0) (st (st v16 1 (fun _ => (((v16 1 0) + (1 : Int32)) - ((v16 1 0) + (1 : Int32)) / (8 : Int32) * (8 : Int32)))) 0 (fun _ => (if ((v16 0 0) + (1 : Int32)) < (8 : Int32) then ((v16 0 0) + (1 : Int32)) else (8 : Int32)))), kX4 g a17 (a18 0) v17, kX0 g a18 v18]) rfl dX1_remember_43 (fun H locs hW => ?_)
    obtain rfl := Option.some.inj hf
    subst hQ
    exact g_vret C hr hk0 hW rfl rfl dX1_remember_46
  replace hf := (if_neg h6).symm.trans hf
  rcases Decidable.em ((((v16 1 0) + (1 : Int32)) - ((v16 1 0) + (1 : Int32)) / (8 : Int32) * (8 : Int32)) = (7 : Int32)) with h7 | h7
  · replace hf := (if_pos h7).symm.trans hf
    refine g_cV (Cn := RX1) C (ct_X1_rowAt_7 g l a16 (a0 0) (a2 0) (a4 0) (a6 0) (a8 0) (a10 0) (a12 0) (a14 0) (((v16 1 0) + (1 : Int32)) - ((v16 1 0) + (1 : Int32)) / (8 : Int32) * (8 : Int32)) (st v16 1 (fun _ => (((v16 1 0) + (1 : Int32)) - ((v16 1 0) + (1 : Int32)) / (8 : Int32) * (8 : Int32)))) h7) gX1_remember_X1_rowAt rfl 1 (by decide +kernel) ⟨rfl, rfl, ⟨Nat.le_of_ble_eq_true rfl, Nat.le_of_ble_eq_true rfl⟩, Nat.le_of_ble_eq_true rfl, Nat.le_of_ble_eq_true rfl⟩ rfl hl (Nat.le_of_ble_eq_true rfl) dX1_remember_18 rfl hW hA [16] rfl rfl rfl (ch' := [kX4 g a0 (a1 0) v0, kX0 g a1 v1, kX4 g a2 (a3 0) v2, kX0 g a3 v3, kX4 g a4 (a5 0) v4, kX0 g a5 v5, kX4 g a6 (a7 0) v6, kX0 g a7 v7, kX4 g a8 (a9 0) v8, kX0 g a9 v9, kX4 g a10 (a11 0) v10, kX0 g a11 v11, kX4 g a12 (a13 0) v12, kX0 g a13 v13, kX4 g a14 (a15 0) v14, kX0 g a15 v15, kX1 g a16 (a0 0) (a2 0) (a4 0) (a6 0) (a8 0) (a10 0) (a12 0) (a14 0) (st v16 1 (fun _ => (((v16 1 0) + (1 : Int32)) - ((v16 1 0) + (1 : Int32)) / (8 : Int32) * (8 : Int32)))), kX4 g a17 (a18 0) v17, kX0 g a18 v18]) rfl 16 rfl rfl rfl (fun H locs hW => ?_)
    refine lv_astore_n (lv' := [(2, .ref (a14 0)), (0, .ref (a16 0)), (1, .ref (a17 0))]) hx hb dX1_remember_21 rfl hl (by decide) rfl (fun ls hl => ?_)
    refine lv_aload_n hx hb dX1_remember_22 rfl (lv_at hl 0 rfl) ?_
    refine lv_ifnull hx hb dX1_remember_23 ?_
    refine lv_aload_n hx hb dX1_remember_26 rfl (lv_at hl 0 rfl) ?_
    refine lv_aload_n hx hb dX1_remember_27 rfl (lv_at hl 2 rfl) ?_
    obtain ⟨y8, hc, hf⟩ := bd_of hf
    refine g_cVv (Cn := RX4) C (ct_X4_copyFrom g l N a15 a14 a17 a18 v15 v14 v17 v18 hc) gX1_remember_X4_copyFrom rfl 1 (by decide +kernel) ⟨rfl, rfl, ⟨Nat.le_of_ble_eq_true rfl, Nat.le_of_ble_eq_true rfl⟩, Nat.le_of_ble_eq_true rfl, Nat.le_of_ble_eq_true rfl⟩ rfl hl (Nat.le_of_ble_eq_true rfl) dX1_remember_28 rfl hW hA [15, 14, 17, 18] rfl rfl rfl (ch' := [kX4 g a0 (a1 0) v0, kX0 g a1 v1, kX4 g a2 (a3 0) v2, kX0 g a3 v3, kX4 g a4 (a5 0) v4, kX0 g a5 v5, kX4 g a6 (a7 0) v6, kX0 g a7 v7, kX4 g a8 (a9 0) v8, kX0 g a9 v9, kX4 g a10 (a11 0) v10, kX0 g a11 v11, kX4 g a12 (a13 0) v12, kX0 g a13 v13, kX4 g a14 (a15 0) y8.2, kX0 g a15 y8.1, kX1 g a16 (a0 0) (a2 0) (a4 0) (a6 0) (a8 0) (a10 0) (a12 0) (a14 0) (st v16 1 (fun _ => (((v16 1 0) + (1 : Int32)) - ((v16 1 0) + (1 : Int32)) / (8 : Int32) * (8 : Int32)))), kX4 g a17 (a18 0) v17, kX0 g a18 v18]) rfl 14 rfl rfl rfl (fun H locs hW => ?_)
    refine lv_aload_n hx hb dX1_remember_31 rfl (lv_at hl 1 rfl) ?_
    refine lv_bipush (v := (8 : Int32)) hx hb dX1_remember_32 (by decide) ?_
    refine lv_aload_n hx hb dX1_remember_34 rfl (lv_at hl 1 rfl) ?_
    refine g_get C hW inX1 16 rfl rfl rfl 0 (by decide) (List.mem_of_getElem? (i := 2) rfl) (v := .int (v16 0 0)) rfl dX1_remember_35 ?_
    refine lv_iconst (v := (1 : Int32)) hx hb dX1_remember_38 (by decide) ?_
    refine lv_iadd hx hb dX1_remember_39 ?_
    refine g_mmin C hl (List.mem_of_getElem? (i := 3) rfl) (List.mem_of_getElem? (i := 4) rfl) (List.mem_of_getElem? (i := 5) rfl) (List.mem_of_getElem? (i := 6) rfl) ⟨Nat.le_of_ble_eq_true rfl, Nat.le_of_ble_eq_true rfl, Nat.le_of_ble_eq_true rfl, Nat.le_of_ble_eq_true rfl⟩ (Nat.le_of_ble_eq_true rfl) dX1_remember_40 ?_
    refine g_put C hW inX1 tyX1_ok nmX1 16 rfl rfl rfl 0 (by decide) (List.mem_of_getElem? (i := 2) rfl) rfl rfl rfl rfl (kX1_s0 g a16 (a0 0) (a2 0) (a4 0) (a6 0) (a8 0) (a10 0) (a12 0) (a14 0) (st v16 1 (fun _ => (((v16 1 0) + (1 : Int32)) - ((v16 1 0) + (1 : Int32)) / (8 : Int32) * (8 : Int32)))) (if ((v16 0 0) + (1 : Int32)) < (8 : Int32) then ((v16 0 0) + (1 : Int32)) else (8 : Int32))) (ch' := [kX4 g a0 (a1 0) v0, kX0 g a1 v1, kX4 g a2 (a3 0) v2, kX0 g a3 v3, kX4 g a4 (a5 0) v4, kX0 g a5 v5, kX4 g a6 (a7 0) v6, kX0 g a7 v7, kX4 g a8 (a9 0) v8, kX0 g a9 v9, kX4 g a10 (a11 0) v10, kX0 g a11 v11, kX4 g a12 (a13 0) v12, kX0 g a13 v13, kX4 g a14 (a15 0) y8.2, kX0 g a15 y8.1, kX1 g a16 (a0 0) (a2 0) (a4 0) (a6 0) (a8 0) (a10 0) (a12 0) (a14 0) (st (st v16 1 (fun _ => (((v16 1 0) + (1 : Int32)) - ((v16 1 0) + (1 : Int32)) / (8 : Int32) * (8 : Int32)))) 0 (fun _ => (if ((v16 0 0) + (1 : Int32)) < (8 : Int32) then ((v16 0 0) + (1 : Int32)) else (8 : Int32)))), kX4 g a17 (a18 0) v17, kX0 g a18 v18]) rfl dX1_remember_43 (fun H locs hW => ?_)
    obtain rfl := Option.some.inj hf
    subst hQ
    exact g_vret C hr hk0 hW rfl rfl dX1_remember_46
  replace hf := (if_neg h7).symm.trans hf
  refine g_cV (Cn := RX1) C (ct_X1_rowAt_n g l a16 (a0 0) (a2 0) (a4 0) (a6 0) (a8 0) (a10 0) (a12 0) (a14 0) (((v16 1 0) + (1 : Int32)) - ((v16 1 0) + (1 : Int32)) / (8 : Int32) * (8 : Int32)) (st v16 1 (fun _ => (((v16 1 0) + (1 : Int32)) - ((v16 1 0) + (1 : Int32)) / (8 : Int32) * (8 : Int32)))) h0 h1 h2 h3 h4 h5 h6 h7) gX1_remember_X1_rowAt rfl 1 (by decide +kernel) ⟨rfl, rfl, ⟨Nat.le_of_ble_eq_true rfl, Nat.le_of_ble_eq_true rfl⟩, Nat.le_of_ble_eq_true rfl, Nat.le_of_ble_eq_true rfl⟩ rfl hl (Nat.le_of_ble_eq_true rfl) dX1_remember_18 rfl hW hA [16] rfl rfl rfl (ch' := [kX4 g a0 (a1 0) v0, kX0 g a1 v1, kX4 g a2 (a3 0) v2, kX0 g a3 v3, kX4 g a4 (a5 0) v4, kX0 g a5 v5, kX4 g a6 (a7 0) v6, kX0 g a7 v7, kX4 g a8 (a9 0) v8, kX0 g a9 v9, kX4 g a10 (a11 0) v10, kX0 g a11 v11, kX4 g a12 (a13 0) v12, kX0 g a13 v13, kX4 g a14 (a15 0) v14, kX0 g a15 v15, kX1 g a16 (a0 0) (a2 0) (a4 0) (a6 0) (a8 0) (a10 0) (a12 0) (a14 0) (st v16 1 (fun _ => (((v16 1 0) + (1 : Int32)) - ((v16 1 0) + (1 : Int32)) / (8 : Int32) * (8 : Int32)))), kX4 g a17 (a18 0) v17, kX0 g a18 v18]) rfl 16 rfl rfl rfl (fun H locs hW => ?_)
  refine lv_astore_nN (lv' := [(2, .null), (0, .ref (a16 0)), (1, .ref (a17 0))]) hx hb dX1_remember_21 rfl hl (by decide) rfl (fun ls hl => ?_)
  refine lv_aload_nN hx hb dX1_remember_22 rfl (lv_at hl 0 rfl) ?_
  refine lv_ifnullN hx hb dX1_remember_23 (tgt := 46) (by decide) ?_
  obtain rfl := Option.some.inj hf
  subst hQ
  exact g_vret C hr hk0 hW rfl rfl dX1_remember_46
def fX1_takeBack (N : Nat) (v0 : MM) (v1 : MM) (v2 : MM) (v3 : MM) (v4 : MM) (v5 : MM) (v6 : MM) (v7 : MM) (v8 : MM) (v9 : MM) (v10 : MM) (v11 : MM) (v12 : MM) (v13 : MM) (v14 : MM) (v15 : MM) (v16 : MM) (v17 : MM) (v18 : MM) : Option (Int32 × MM × MM × MM) := (if (v16 1 0) = (0 : Int32) then (if (v16 0 0) ≤ 0 then some ((0 : Int32), v16, v17, v18) else ((fX4_copyFrom N v18 v17 v0 v1).bind (fun y1 => some ((1 : Int32), (st (st v16 1 (fun _ => ((((v16 1 0) + (8 : Int32)) - (1 : Int32)) - (((v16 1 0) + (8 : Int32)) - (1 : Int32)) / (8 : Int32) * (8 : Int32)))) 0 (fun _ => ((v16 0 0) - (1 : Int32)))), y1.2, y1.1)))) else (if (v16 1 0) = (1 : Int32) then (if (v16 0 0) ≤ 0 then some ((0 : Int32), v16, v17, v18) else ((fX4_copyFrom N v18 v17 v2 v3).bind (fun y2 => some ((1 : Int32), (st (st v16 1 (fun _ => ((((v16 1 0) + (8 : Int32)) - (1 : Int32)) - (((v16 1 0) + (8 : Int32)) - (1 : Int32)) / (8 : Int32) * (8 : Int32)))) 0 (fun _ => ((v16 0 0) - (1 : Int32)))), y2.2, y2.1)))) else (if (v16 1 0) = (2 : Int32) then (if (v16 0 0) ≤ 0 then some ((0 : Int32), v16, v17, v18) else ((fX4_copyFrom N v18 v17 v4 v5).bind (fun y3 => some ((1 : Int32), (st (st v16 1 (fun _ => ((((v16 1 0) + (8 : Int32)) - (1 : Int32)) - (((v16 1 0) + (8 : Int32)) - (1 : Int32)) / (8 : Int32) * (8 : Int32)))) 0 (fun _ => ((v16 0 0) - (1 : Int32)))), y3.2, y3.1)))) else (if (v16 1 0) = (3 : Int32) then (if (v16 0 0) ≤ 0 then some ((0 : Int32), v16, v17, v18) else ((fX4_copyFrom N v18 v17 v6 v7).bind (fun y4 => some ((1 : Int32), (st (st v16 1 (fun _ => ((((v16 1 0) + (8 : Int32)) - (1 : Int32)) - (((v16 1 0) + (8 : Int32)) - (1 : Int32)) / (8 : Int32) * (8 : Int32)))) 0 (fun _ => ((v16 0 0) - (1 : Int32)))), y4.2, y4.1)))) else (if (v16 1 0) = (4 : Int32) then (if (v16 0 0) ≤ 0 then some ((0 : Int32), v16, v17, v18) else ((fX4_copyFrom N v18 v17 v8 v9).bind (fun y5 => some ((1 : Int32), (st (st v16 1 (fun _ => ((((v16 1 0) + (8 : Int32)) - (1 : Int32)) - (((v16 1 0) + (8 : Int32)) - (1 : Int32)) / (8 : Int32) * (8 : Int32)))) 0 (fun _ => ((v16 0 0) - (1 : Int32)))), y5.2, y5.1)))) else (if (v16 1 0) = (5 : Int32) then (if (v16 0 0) ≤ 0 then some ((0 : Int32), v16, v17, v18) else ((fX4_copyFrom N v18 v17 v10 v11).bind (fun y6 => some ((1 : Int32), (st (st v16 1 (fun _ => ((((v16 1 0) + (8 : Int32)) - (1 : Int32)) - (((v16 1 0) + (8 : Int32)) - (1 : Int32)) / (8 : Int32) * (8 : Int32)))) 0 (fun _ => ((v16 0 0) - (1 : Int32)))), y6.2, y6.1)))) else (if (v16 1 0) = (6 : Int32) then (if (v16 0 0) ≤ 0 then some ((0 : Int32), v16, v17, v18) else ((fX4_copyFrom N v18 v17 v12 v13).bind (fun y7 => some ((1 : Int32), (st (st v16 1 (fun _ => ((((v16 1 0) + (8 : Int32)) - (1 : Int32)) - (((v16 1 0) + (8 : Int32)) - (1 : Int32)) / (8 : Int32) * (8 : Int32)))) 0 (fun _ => ((v16 0 0) - (1 : Int32)))), y7.2, y7.1)))) else (if (v16 1 0) = (7 : Int32) then (if (v16 0 0) ≤ 0 then some ((0 : Int32), v16, v17, v18) else ((fX4_copyFrom N v18 v17 v14 v15).bind (fun y8 => some ((1 : Int32), (st (st v16 1 (fun _ => ((((v16 1 0) + (8 : Int32)) - (1 : Int32)) - (((v16 1 0) + (8 : Int32)) - (1 : Int32)) / (8 : Int32) * (8 : Int32)))) 0 (fun _ => ((v16 0 0) - (1 : Int32)))), y8.2, y8.1)))) else (if (v16 0 0) ≤ 0 then some ((0 : Int32), v16, v17, v18) else some ((0 : Int32), v16, v17, v18))))))))))
set_option maxHeartbeats 4000000 in
set_option maxRecDepth 100000 in
theorem ct_X1_takeBack (g : GT) (l : Launch) (N : Nat) (a0 : Nat → Nat) (a1 : Nat → Nat) (a2 : Nat → Nat) (a3 : Nat → Nat) (a4 : Nat → Nat) (a5 : Nat → Nat) (a6 : Nat → Nat) (a7 : Nat → Nat) (a8 : Nat → Nat) (a9 : Nat → Nat) (a10 : Nat → Nat) (a11 : Nat → Nat) (a12 : Nat → Nat) (a13 : Nat → Nat) (a14 : Nat → Nat) (a15 : Nat → Nat) (a16 : Nat → Nat) (a17 : Nat → Nat) (a18 : Nat → Nat) (v0 : MM) (v1 : MM) (v2 : MM) (v3 : MM) (v4 : MM) (v5 : MM) (v6 : MM) (v7 : MM) (v8 : MM) (v9 : MM) (v10 : MM) (v11 : MM) (v12 : MM) (v13 : MM) (v14 : MM) (v15 : MM) (v16 : MM) (v17 : MM) (v18 : MM) {y : Int32 × MM × MM × MM} (hf : fX1_takeBack N v0 v1 v2 v3 v4 v5 v6 v7 v8 v9 v10 v11 v12 v13 v14 v15 v16 v17 v18 = some y) : ct g l yX1_takeBack wsX1_takeBack (rmk 4 89) [.ref (a16 0), .ref (a17 0)] [kX4 g a0 (a1 0) v0, kX0 g a1 v1, kX4 g a2 (a3 0) v2, kX0 g a3 v3, kX4 g a4 (a5 0) v4, kX0 g a5 v5, kX4 g a6 (a7 0) v6, kX0 g a7 v7, kX4 g a8 (a9 0) v8, kX0 g a9 v9, kX4 g a10 (a11 0) v10, kX0 g a11 v11, kX4 g a12 (a13 0) v12, kX0 g a13 v13, kX4 g a14 (a15 0) v14, kX0 g a15 v15, kX1 g a16 (a0 0) (a2 0) (a4 0) (a6 0) (a8 0) (a10 0) (a12 0) (a14 0) v16, kX4 g a17 (a18 0) v17, kX0 g a18 v18] (some (.int y.1)) [kX4 g a0 (a1 0) v0, kX0 g a1 v1, kX4 g a2 (a3 0) v2, kX0 g a3 v3, kX4 g a4 (a5 0) v4, kX0 g a5 v5, kX4 g a6 (a7 0) v6, kX0 g a7 v7, kX4 g a8 (a9 0) v8, kX0 g a9 v9, kX4 g a10 (a11 0) v10, kX0 g a11 v11, kX4 g a12 (a13 0) v12, kX0 g a13 v13, kX4 g a14 (a15 0) v14, kX0 g a15 v15, kX1 g a16 (a0 0) (a2 0) (a4 0) (a6 0) (a8 0) (a10 0) (a12 0) (a14 0) y.2.1, kX4 g a17 (a18 0) y.2.2.1, kX0 g a18 y.2.2.2] := by
  refine ct_of (cc := cX1_takeBack) (maxL := 3) (ret := (some .boolean)) (by decide) rfl (Nat.le_of_ble_eq_true rfl) ?_
  intro p e s m args below meth c A ls C hr hk0 hA hW hl
  have hx := C.1.1
  have hb := C.1.2.1
  replace hl : lv_has ls 3 [(0, .ref (a16 0)), (1, .ref (a17 0))] := hl
  obtain ⟨Q, hQ⟩ : ∃ Q, Q = MQ below (ctQ g A (some (.int y.1)) [kX4 g a0 (a1 0) v0, kX0 g a1 v1, kX4 g a2 (a3 0) v2, kX0 g a3 v3, kX4 g a4 (a5 0) v4, kX0 g a5 v5, kX4 g a6 (a7 0) v6, kX0 g a7 v7, kX4 g a8 (a9 0) v8, kX0 g a9 v9, kX4 g a10 (a11 0) v10, kX0 g a11 v11, kX4 g a12 (a13 0) v12, kX0 g a13 v13, kX4 g a14 (a15 0) v14, kX0 g a15 v15, kX1 g a16 (a0 0) (a2 0) (a4 0) (a6 0) (a8 0) (a10 0) (a12 0) (a14 0) y.2.1, kX4 g a17 (a18 0) y.2.2.1, kX0 g a18 y.2.2.2]) args s 0 0 A := ⟨_, rfl⟩
  rw [← hQ]
  obtain ⟨H, hH⟩ : ∃ H, H = s.heap := ⟨_, rfl⟩
  obtain ⟨locs, hL⟩ : ∃ locs : List Loc, locs = [] := ⟨_, rfl⟩
  replace hW : wd g A s.heap [kX4 g a0 (a1 0) v0, kX0 g a1 v1, kX4 g a2 (a3 0) v2, kX0 g a3 v3, kX4 g a4 (a5 0) v4, kX0 g a5 v5, kX4 g a6 (a7 0) v6, kX0 g a7 v7, kX4 g a8 (a9 0) v8, kX0 g a9 v9, kX4 g a10 (a11 0) v10, kX0 g a11 v11, kX4 g a12 (a13 0) v12, kX0 g a13 v13, kX4 g a14 (a15 0) v14, kX0 g a15 v15, kX1 g a16 (a0 0) (a2 0) (a4 0) (a6 0) (a8 0) (a10 0) (a12 0) (a14 0) v16, kX4 g a17 (a18 0) v17, kX0 g a18 v18] H locs := by rw [hH, hL]; exact hW
  suffices hG : W p l e (rmk 4 89) s m args below meth c H locs 0 0 Q (F0 m 0 ls []) by
    rw [hH, hL] at hG; exact hG
  clear hH hL
  have inX1 : ∀ w ∈ wsX10, w ∈ wsX1_takeBack := fun _ h => List.mem_cons_of_mem _ (List.mem_append_left _ (List.mem_append_left _ (List.mem_append_right _ (h))))
  rw [fX1_takeBack] at hf
  refine lv_aload_n hx hb dX1_takeBack_0 rfl (lv_at hl 0 rfl) ?_
  refine lv_aload_n hx hb dX1_takeBack_1 rfl (lv_at hl 0 rfl) ?_
  refine g_get C hW inX1 16 rfl rfl rfl 1 (by decide) (List.mem_of_getElem? (i := 1) rfl) (v := .int (v16 1 0)) rfl dX1_takeBack_2 ?_
  rcases Decidable.em ((v16 1 0) = (0 : Int32)) with h0 | h0
  · replace hf := (if_pos h0).symm.trans hf
    refine g_cV (Cn := RX1) C (ct_X1_rowAt_0 g l a16 (a0 0) (a2 0) (a4 0) (a6 0) (a8 0) (a10 0) (a12 0) (a14 0) (v16 1 0) v16 h0) gX1_takeBack_X1_rowAt rfl 1 (by decide +kernel) ⟨rfl, rfl, ⟨Nat.le_of_ble_eq_true rfl, Nat.le_of_ble_eq_true rfl⟩, Nat.le_of_ble_eq_true rfl, Nat.le_of_ble_eq_true rfl⟩ rfl hl (Nat.le_of_ble_eq_true rfl) dX1_takeBack_5 rfl hW hA [16] rfl rfl rfl (ch' := [kX4 g a0 (a1 0) v0, kX0 g a1 v1, kX4 g a2 (a3 0) v2, kX0 g a3 v3, kX4 g a4 (a5 0) v4, kX0 g a5 v5, kX4 g a6 (a7 0) v6, kX0 g a7 v7, kX4 g a8 (a9 0) v8, kX0 g a9 v9, kX4 g a10 (a11 0) v10, kX0 g a11 v11, kX4 g a12 (a13 0) v12, kX0 g a13 v13, kX4 g a14 (a15 0) v14, kX0 g a15 v15, kX1 g a16 (a0 0) (a2 0) (a4 0) (a6 0) (a8 0) (a10 0) (a12 0) (a14 0) v16, kX4 g a17 (a18 0) v17, kX0 g a18 v18]) rfl 16 rfl rfl rfl (fun H locs hW => ?_)
    refine lv_astore_n (lv' := [(2, .ref (a0 0)), (0, .ref (a16 0)), (1, .ref (a17 0))]) hx hb dX1_takeBack_8 rfl hl (by decide) rfl (fun ls hl => ?_)
    refine lv_aload_n hx hb dX1_takeBack_9 rfl (lv_at hl 1 rfl) ?_
    refine g_get C hW inX1 16 rfl rfl rfl 0 (by decide) (List.mem_of_getElem? (i := 2) rfl) (v := .int (v16 0 0)) rfl dX1_takeBack_10 ?_
    refine lv_if_le (tgt := 20) hx hb dX1_takeBack_13 (by decide) (fun h => ?_) (fun h => ?_)
    · replace hf := (if_pos h).symm.trans hf
      refine lv_iconst (v := (0 : Int32)) hx hb dX1_takeBack_20 (by decide) ?_
      obtain rfl := Option.some.inj hf
      subst hQ
      exact g_zret C hr hk0 hW rfl rfl rfl dX1_takeBack_21
    · replace hf := (if_neg h).symm.trans hf
      refine lv_aload_n hx hb dX1_takeBack_16 rfl (lv_at hl 0 rfl) ?_
      refine lv_ifnonnull hx hb dX1_takeBack_17 (tgt := 22) (by decide) ?_
      refine lv_aload_n hx hb dX1_takeBack_22 rfl (lv_at hl 2 rfl) ?_
      refine lv_aload_n hx hb dX1_takeBack_23 rfl (lv_at hl 0 rfl) ?_
      obtain ⟨y1, hc, hf⟩ := bd_of hf
      refine g_cVv (Cn := RX4) C (ct_X4_copyFrom g l N a18 a17 a0 a1 v18 v17 v0 v1 hc) gX1_takeBack_X4_copyFrom rfl 1 (by decide +kernel) ⟨rfl, rfl, ⟨Nat.le_of_ble_eq_true rfl, Nat.le_of_ble_eq_true rfl⟩, Nat.le_of_ble_eq_true rfl, Nat.le_of_ble_eq_true rfl⟩ rfl hl (Nat.le_of_ble_eq_true rfl) dX1_takeBack_24 rfl hW hA [18, 17, 0, 1] rfl rfl rfl (ch' := [kX4 g a0 (a1 0) v0, kX0 g a1 v1, kX4 g a2 (a3 0) v2, kX0 g a3 v3, kX4 g a4 (a5 0) v4, kX0 g a5 v5, kX4 g a6 (a7 0) v6, kX0 g a7 v7, kX4 g a8 (a9 0) v8, kX0 g a9 v9, kX4 g a10 (a11 0) v10, kX0 g a11 v11, kX4 g a12 (a13 0) v12, kX0 g a13 v13, kX4 g a14 (a15 0) v14, kX0 g a15 v15, kX1 g a16 (a0 0) (a2 0) (a4 0) (a6 0) (a8 0) (a10 0) (a12 0) (a14 0) v16, kX4 g a17 (a18 0) y1.2, kX0 g a18 y1.1]) rfl 17 rfl rfl rfl (fun H locs hW => ?_)
      refine lv_aload_n hx hb dX1_takeBack_27 rfl (lv_at hl 1 rfl) ?_
      refine lv_aload_n hx hb dX1_takeBack_28 rfl (lv_at hl 1 rfl) ?_
      refine g_get C hW inX1 16 rfl rfl rfl 1 (by decide) (List.mem_of_getElem? (i := 1) rfl) (v := .int (v16 1 0)) rfl dX1_takeBack_29 ?_
      refine lv_bipush (v := (8 : Int32)) hx hb dX1_takeBack_32 (by decide) ?_
      refine lv_iadd hx hb dX1_takeBack_34 ?_
      refine lv_iconst (v := (1 : Int32)) hx hb dX1_takeBack_35 (by decide) ?_
      refine lv_isub hx hb dX1_takeBack_36 ?_
      refine lv_bipush (v := (8 : Int32)) hx hb dX1_takeBack_37 (by decide) ?_
      refine lv_irem hx hb dX1_takeBack_39 (by decide) ?_
      refine g_put C hW inX1 tyX1_ok nmX1 16 rfl rfl rfl 1 (by decide) (List.mem_of_getElem? (i := 1) rfl) rfl rfl rfl rfl (kX1_s1 g a16 (a0 0) (a2 0) (a4 0) (a6 0) (a8 0) (a10 0) (a12 0) (a14 0) v16 ((((v16 1 0) + (8 : Int32)) - (1 : Int32)) - (((v16 1 0) + (8 : Int32)) - (1 : Int32)) / (8 : Int32) * (8 : Int32))) (ch' := [kX4 g a0 (a1 0) v0, kX0 g a1 v1, kX4 g a2 (a3 0) v2, kX0 g a3 v3, kX4 g a4 (a5 0) v4, kX0 g a5 v5, kX4 g a6 (a7 0) v6, kX0 g a7 v7, kX4 g a8 (a9 0) v8, kX0 g a9 v9, kX4 g a10 (a11 0) v10, kX0 g a11 v11, kX4 g a12 (a13 0) v12, kX0 g a13 v13, kX4 g a14 (a15 0) v14, kX0 g a15 v15, kX1 g a16 (a0 0) (a2 0) (a4 0) (a6 0) (a8 0) (a10 0) (a12 0) (a14 0) (st v16 1 (fun _ => ((((v16 1 0) + (8 : Int32)) - (1 : Int32)) - (((v16 1 0) + (8 : Int32)) - (1 : Int32)) / (8 : Int32) * (8 : Int32)))), kX4 g a17 (a18 0) y1.2, kX0 g a18 y1.1]) rfl dX1_takeBack_40 (fun H locs hW => ?_)
      refine lv_aload_n hx hb dX1_takeBack_43 rfl (lv_at hl 1 rfl) ?_
      refine lv_dup hx hb dX1_takeBack_44 rfl ?_
      refine g_get C hW inX1 16 rfl rfl rfl 0 (by decide) (List.mem_of_getElem? (i := 2) rfl) (v := .int (v16 0 0)) rfl dX1_takeBack_45 ?_
      refine lv_iconst (v := (1 : Int32)) hx hb dX1_takeBack_48 (by decide) ?_
      refine lv_isub hx hb dX1_takeBack_49 ?_
      refine g_put C hW inX1 tyX1_ok nmX1 16 rfl rfl rfl 0 (by decide) (List.mem_of_getElem? (i := 2) rfl) rfl rfl rfl rfl (kX1_s0 g a16 (a0 0) (a2 0) (a4 0) (a6 0) (a8 0) (a10 0) (a12 0) (a14 0) (st v16 1 (fun _ => ((((v16 1 0) + (8 : Int32)) - (1 : Int32)) - (((v16 1 0) + (8 : Int32)) - (1 : Int32)) / (8 : Int32) * (8 : Int32)))) ((v16 0 0) - (1 : Int32))) (ch' := [kX4 g a0 (a1 0) v0, kX0 g a1 v1, kX4 g a2 (a3 0) v2, kX0 g a3 v3, kX4 g a4 (a5 0) v4, kX0 g a5 v5, kX4 g a6 (a7 0) v6, kX0 g a7 v7, kX4 g a8 (a9 0) v8, kX0 g a9 v9, kX4 g a10 (a11 0) v10, kX0 g a11 v11, kX4 g a12 (a13 0) v12, kX0 g a13 v13, kX4 g a14 (a15 0) v14, kX0 g a15 v15, kX1 g a16 (a0 0) (a2 0) (a4 0) (a6 0) (a8 0) (a10 0) (a12 0) (a14 0) (st (st v16 1 (fun _ => ((((v16 1 0) + (8 : Int32)) - (1 : Int32)) - (((v16 1 0) + (8 : Int32)) - (1 : Int32)) / (8 : Int32) * (8 : Int32)))) 0 (fun _ => ((v16 0 0) - (1 : Int32)))), kX4 g a17 (a18 0) y1.2, kX0 g a18 y1.1]) rfl dX1_takeBack_50 (fun H locs hW => ?_)
      refine lv_iconst (v := (1 : Int32)) hx hb dX1_takeBack_53 (by decide) ?_
      obtain rfl := Option.some.inj hf
      subst hQ
      exact g_zret C hr hk0 hW rfl rfl rfl dX1_takeBack_54
  replace hf := (if_neg h0).symm.trans hf
  rcases Decidable.em ((v16 1 0) = (1 : Int32)) with h1 | h1
  · replace hf := (if_pos h1).symm.trans hf
    refine g_cV (Cn := RX1) C (ct_X1_rowAt_1 g l a16 (a0 0) (a2 0) (a4 0) (a6 0) (a8 0) (a10 0) (a12 0) (a14 0) (v16 1 0) v16 h1) gX1_takeBack_X1_rowAt rfl 1 (by decide +kernel) ⟨rfl, rfl, ⟨Nat.le_of_ble_eq_true rfl, Nat.le_of_ble_eq_true rfl⟩, Nat.le_of_ble_eq_true rfl, Nat.le_of_ble_eq_true rfl⟩ rfl hl (Nat.le_of_ble_eq_true rfl) dX1_takeBack_5 rfl hW hA [16] rfl rfl rfl (ch' := [kX4 g a0 (a1 0) v0, kX0 g a1 v1, kX4 g a2 (a3 0) v2, kX0 g a3 v3, kX4 g a4 (a5 0) v4, kX0 g a5 v5, kX4 g a6 (a7 0) v6, kX0 g a7 v7, kX4 g a8 (a9 0) v8, kX0 g a9 v9, kX4 g a10 (a11 0) v10, kX0 g a11 v11, kX4 g a12 (a13 0) v12, kX0 g a13 v13, kX4 g a14 (a15 0) v14, kX0 g a15 v15, kX1 g a16 (a0 0) (a2 0) (a4 0) (a6 0) (a8 0) (a10 0) (a12 0) (a14 0) v16, kX4 g a17 (a18 0) v17, kX0 g a18 v18]) rfl 16 rfl rfl rfl (fun H locs hW => ?_)
    refine lv_astore_n (lv' := [(2, .ref (a2 0)), (0, .ref (a16 0)), (1, .ref (a17 0))]) hx hb dX1_takeBack_8 rfl hl (by decide) rfl (fun ls hl => ?_)
    refine lv_aload_n hx hb dX1_takeBack_9 rfl (lv_at hl 1 rfl) ?_
    refine g_get C hW inX1 16 rfl rfl rfl 0 (by decide) (List.mem_of_getElem? (i := 2) rfl) (v := .int (v16 0 0)) rfl dX1_takeBack_10 ?_
    refine lv_if_le (tgt := 20) hx hb dX1_takeBack_13 (by decide) (fun h => ?_) (fun h => ?_)
    · replace hf := (if_pos h).symm.trans hf
      refine lv_iconst (v := (0 : Int32)) hx hb dX1_takeBack_20 (by decide) ?_
      obtain rfl := Option.some.inj hf
      subst hQ
      exact g_zret C hr hk0 hW rfl rfl rfl dX1_takeBack_21
    · replace hf := (if_neg h).symm.trans hf
      refine lv_aload_n hx hb dX1_takeBack_16 rfl (lv_at hl 0 rfl) ?_
      refine lv_ifnonnull hx hb dX1_takeBack_17 (tgt := 22) (by decide) ?_
      refine lv_aload_n hx hb dX1_takeBack_22 rfl (lv_at hl 2 rfl) ?_
      refine lv_aload_n hx hb dX1_takeBack_23 rfl (lv_at hl 0 rfl) ?_
      obtain ⟨y2, hc, hf⟩ := bd_of hf
      refine g_cVv (Cn := RX4) C (ct_X4_copyFrom g l N a18 a17 a2 a3 v18 v17 v2 v3 hc) gX1_takeBack_X4_copyFrom rfl 1 (by decide +kernel) ⟨rfl, rfl, ⟨Nat.le_of_ble_eq_true rfl, Nat.le_of_ble_eq_true rfl⟩, Nat.le_of_ble_eq_true rfl, Nat.le_of_ble_eq_true rfl⟩ rfl hl (Nat.le_of_ble_eq_true rfl) dX1_takeBack_24 rfl hW hA [18, 17, 2, 3] rfl rfl rfl (ch' := [kX4 g a0 (a1 0) v0, kX0 g a1 v1, kX4 g a2 (a3 0) v2, kX0 g a3 v3, kX4 g a4 (a5 0) v4, kX0 g a5 v5, kX4 g a6 (a7 0) v6, kX0 g a7 v7, kX4 g a8 (a9 0) v8, kX0 g a9 v9, kX4 g a10 (a11 0) v10, kX0 g a11 v11, kX4 g a12 (a13 0) v12, kX0 g a13 v13, kX4 g a14 (a15 0) v14, kX0 g a15 v15, kX1 g a16 (a0 0) (a2 0) (a4 0) (a6 0) (a8 0) (a10 0) (a12 0) (a14 0) v16, kX4 g a17 (a18 0) y2.2, kX0 g a18 y2.1]) rfl 17 rfl rfl rfl (fun H locs hW => ?_)
      refine lv_aload_n hx hb dX1_takeBack_27 rfl (lv_at hl 1 rfl) ?_
      refine lv_aload_n hx hb dX1_takeBack_28 rfl (lv_at hl 1 rfl) ?_
      refine g_get C hW inX1 16 rfl rfl rfl 1 (by decide) (List.mem_of_getElem? (i := 1) rfl) (v := .int (v16 1 0)) rfl dX1_takeBack_29 ?_
      refine lv_bipush (v := (8 : Int32)) hx hb dX1_takeBack_32 (by decide) ?_
      refine lv_iadd hx hb dX1_takeBack_34 ?_
      refine lv_iconst (v := (1 : Int32)) hx hb dX1_takeBack_35 (by decide) ?_
      refine lv_isub hx hb dX1_takeBack_36 ?_
      refine lv_bipush (v := (8 : Int32)) hx hb dX1_takeBack_37 (by decide) ?_
      refine lv_irem hx hb dX1_takeBack_39 (by decide) ?_
      refine g_put C hW inX1 tyX1_ok nmX1 16 rfl rfl rfl 1 (by decide) (List.mem_of_getElem? (i := 1) rfl) rfl rfl rfl rfl (kX1_s1 g a16 (a0 0) (a2 0) (a4 0) (a6 0) (a8 0) (a10 0) (a12 0) (a14 0) v16 ((((v16 1 0) + (8 : Int32)) - (1 : Int32)) - (((v16 1 0) + (8 : Int32)) - (1 : Int32)) / (8 : Int32) * (8 : Int32))) (ch' := [kX4 g a0 (a1 0) v0, kX0 g a1 v1, kX4 g a2 (a3 0) v2, kX0 g a3 v3, kX4 g a4 (a5 0) v4, kX0 g a5 v5, kX4 g a6 (a7 0) v6, kX0 g a7 v7, kX4 g a8 (a9 0) v8, kX0 g a9 v9, kX4 g a10 (a11 0) v10, kX0 g a11 v11, kX4 g a12 (a13 0) v12, kX0 g a13 v13, kX4 g a14 (a15 0) v14, kX0 g a15 v15, kX1 g a16 (a0 0) (a2 0) (a4 0) (a6 0) (a8 0) (a10 0) (a12 0) (a14 0) (st v16 1 (fun _ => ((((v16 1 0) + (8 : Int32)) - (1 : Int32)) - (((v16 1 0) + (8 : Int32)) - (1 : Int32)) / (8 : Int32) * (8 : Int32)))), kX4 g a17 (a18 0) y2.2, kX0 g a18 y2.1]) rfl dX1_takeBack_40 (fun H locs hW => ?_)
      refine lv_aload_n hx hb dX1_takeBack_43 rfl (lv_at hl 1 rfl) ?_
      refine lv_dup hx hb dX1_takeBack_44 rfl ?_
      refine g_get C hW inX1 16 rfl rfl rfl 0 (by decide) (List.mem_of_getElem? (i := 2) rfl) (v := .int (v16 0 0)) rfl dX1_takeBack_45 ?_
      refine lv_iconst (v := (1 : Int32)) hx hb dX1_takeBack_48 (by decide) ?_
      refine lv_isub hx hb dX1_takeBack_49 ?_
      refine g_put C hW inX1 tyX1_ok nmX1 16 rfl rfl rfl 0 (by decide) (List.mem_of_getElem? (i := 2) rfl) rfl rfl rfl rfl (kX1_s0 g a16 (a0 0) (a2 0) (a4 0) (a6 0) (a8 0) (a10 0) (a12 0) (a14 0) (st v16 1 (fun _ => ((((v16 1 0) + (8 : Int32)) - (1 : Int32)) - (((v16 1 0) + (8 : Int32)) - (1 : Int32)) / (8 : Int32) * (8 : Int32)))) ((v16 0 0) - (1 : Int32))) (ch' := [kX4 g a0 (a1 0) v0, kX0 g a1 v1, kX4 g a2 (a3 0) v2, kX0 g a3 v3, kX4 g a4 (a5 0) v4, kX0 g a5 v5, kX4 g a6 (a7 0) v6, kX0 g a7 v7, kX4 g a8 (a9 0) v8, kX0 g a9 v9, kX4 g a10 (a11 0) v10, kX0 g a11 v11, kX4 g a12 (a13 0) v12, kX0 g a13 v13, kX4 g a14 (a15 0) v14, kX0 g a15 v15, kX1 g a16 (a0 0) (a2 0) (a4 0) (a6 0) (a8 0) (a10 0) (a12 0) (a14 0) (st (st v16 1 (fun _ => ((((v16 1 0) + (8 : Int32)) - (1 : Int32)) - (((v16 1 0) + (8 : Int32)) - (1 : Int32)) / (8 : Int32) * (8 : Int32)))) 0 (fun _ => ((v16 0 0) - (1 : Int32)))), kX4 g a17 (a18 0) y2.2, kX0 g a18 y2.1]) rfl dX1_takeBack_50 (fun H locs hW => ?_)
      refine lv_iconst (v := (1 : Int32)) hx hb dX1_takeBack_53 (by decide) ?_
      obtain rfl := Option.some.inj hf
      subst hQ
      exact g_zret C hr hk0 hW rfl rfl rfl dX1_takeBack_54
  replace hf := (if_neg h1).symm.trans hf
  rcases Decidable.em ((v16 1 0) = (2 : Int32)) with h2 | h2
  · replace hf := (if_pos h2).symm.trans hf
    refine g_cV (Cn := RX1) C (ct_X1_rowAt_2 g l a16 (a0 0) (a2 0) (a4 0) (a6 0) (a8 0) (a10 0) (a12 0) (a14 0) (v16 1 0) v16 h2) gX1_takeBack_X1_rowAt rfl 1 (by decide +kernel) ⟨rfl, rfl, ⟨Nat.le_of_ble_eq_true rfl, Nat.le_of_ble_eq_true rfl⟩, Nat.le_of_ble_eq_true rfl, Nat.le_of_ble_eq_true rfl⟩ rfl hl (Nat.le_of_ble_eq_true rfl) dX1_takeBack_5 rfl hW hA [16] rfl rfl rfl (ch' := [kX4 g a0 (a1 0) v0, kX0 g a1 v1, kX4 g a2 (a3 0) v2, kX0 g a3 v3, kX4 g a4 (a5 0) v4, kX0 g a5 v5, kX4 g a6 (a7 0) v6, kX0 g a7 v7, kX4 g a8 (a9 0) v8, kX0 g a9 v9, kX4 g a10 (a11 0) v10, kX0 g a11 v11, kX4 g a12 (a13 0) v12, kX0 g a13 v13, kX4 g a14 (a15 0) v14, kX0 g a15 v15, kX1 g a16 (a0 0) (a2 0) (a4 0) (a6 0) (a8 0) (a10 0) (a12 0) (a14 0) v16, kX4 g a17 (a18 0) v17, kX0 g a18 v18]) rfl 16 rfl rfl rfl (fun H locs hW => ?_)
    refine lv_astore_n (lv' := [(2, .ref (a4 0)), (0, .ref (a16 0)), (1, .ref (a17 0))]) hx hb dX1_takeBack_8 rfl hl (by decide) rfl (fun ls hl => ?_)
    refine lv_aload_n hx hb dX1_takeBack_9 rfl (lv_at hl 1 rfl) ?_
    refine g_get C hW inX1 16 rfl rfl rfl 0 (by decide) (List.mem_of_getElem? (i := 2) rfl) (v := .int (v16 0 0)) rfl dX1_takeBack_10 ?_
    refine lv_if_le (tgt := 20) hx hb dX1_takeBack_13 (by decide) (fun h => ?_) (fun h => ?_)
    · replace hf := (if_pos h).symm.trans hf
      refine lv_iconst (v := (0 : Int32)) hx hb dX1_takeBack_20 (by decide) ?_
      obtain rfl := Option.some.inj hf
      subst hQ
      exact g_zret C hr hk0 hW rfl rfl rfl dX1_takeBack_21
    · replace hf := (if_neg h).symm.trans hf
      refine lv_aload_n hx hb dX1_takeBack_16 rfl (lv_at hl 0 rfl) ?_
      refine lv_ifnonnull hx hb dX1_takeBack_17 (tgt := 22) (by decide) ?_
      refine lv_aload_n hx hb dX1_takeBack_22 rfl (lv_at hl 2 rfl) ?_
      refine lv_aload_n hx hb dX1_takeBack_23 rfl (lv_at hl 0 rfl) ?_
      obtain ⟨y3, hc, hf⟩ := bd_of hf
      refine g_cVv (Cn := RX4) C (ct_X4_copyFrom g l N a18 a17 a4 a5 v18 v17 v4 v5 hc) gX1_takeBack_X4_copyFrom rfl 1 (by decide +kernel) ⟨rfl, rfl, ⟨Nat.le_of_ble_eq_true rfl, Nat.le_of_ble_eq_true rfl⟩, Nat.le_of_ble_eq_true rfl, Nat.le_of_ble_eq_true rfl⟩ rfl hl (Nat.le_of_ble_eq_true rfl) dX1_takeBack_24 rfl hW hA [18, 17, 4, 5] rfl rfl rfl (ch' := [kX4 g a0 (a1 0) v0, kX0 g a1 v1, kX4 g a2 (a3 0) v2, kX0 g a3 v3, kX4 g a4 (a5 0) v4, kX0 g a5 v5, kX4 g a6 (a7 0) v6, kX0 g a7 v7, kX4 g a8 (a9 0) v8, kX0 g a9 v9, kX4 g a10 (a11 0) v10, kX0 g a11 v11, kX4 g a12 (a13 0) v12, kX0 g a13 v13, kX4 g a14 (a15 0) v14, kX0 g a15 v15, kX1 g a16 (a0 0) (a2 0) (a4 0) (a6 0) (a8 0) (a10 0) (a12 0) (a14 0) v16, kX4 g a17 (a18 0) y3.2, kX0 g a18 y3.1]) rfl 17 rfl rfl rfl (fun H locs hW => ?_)
      refine lv_aload_n hx hb dX1_takeBack_27 rfl (lv_at hl 1 rfl) ?_
      refine lv_aload_n hx hb dX1_takeBack_28 rfl (lv_at hl 1 rfl) ?_
      refine g_get C hW inX1 16 rfl rfl rfl 1 (by decide) (List.mem_of_getElem? (i := 1) rfl) (v := .int (v16 1 0)) rfl dX1_takeBack_29 ?_
      refine lv_bipush (v := (8 : Int32)) hx hb dX1_takeBack_32 (by decide) ?_
      refine lv_iadd hx hb dX1_takeBack_34 ?_
      refine lv_iconst (v := (1 : Int32)) hx hb dX1_takeBack_35 (by decide) ?_
      refine lv_isub hx hb dX1_takeBack_36 ?_
      refine lv_bipush (v := (8 : Int32)) hx hb dX1_takeBack_37 (by decide) ?_
      refine lv_irem hx hb dX1_takeBack_39 (by decide) ?_
      refine g_put C hW inX1 tyX1_ok nmX1 16 rfl rfl rfl 1 (by decide) (List.mem_of_getElem? (i := 1) rfl) rfl rfl rfl rfl (kX1_s1 g a16 (a0 0) (a2 0) (a4 0) (a6 0) (a8 0) (a10 0) (a12 0) (a14 0) v16 ((((v16 1 0) + (8 : Int32)) - (1 : Int32)) - (((v16 1 0) + (8 : Int32)) - (1 : Int32)) / (8 : Int32) * (8 : Int32))) (ch' := [kX4 g a0 (a1 0) v0, kX0 g a1 v1, kX4 g a2 (a3 0) v2, kX0 g a3 v3, kX4 g a4 (a5 0) v4, kX0 g a5 v5, kX4 g a6 (a7 0) v6, kX0 g a7 v7, kX4 g a8 (a9 0) v8, kX0 g a9 v9, kX4 g a10 (a11 0) v10, kX0 g a11 v11, kX4 g a12 (a13 0) v12, kX0 g a13 v13, kX4 g a14 (a15 0) v14, kX0 g a15 v15, kX1 g a16 (a0 0) (a2 0) (a4 0) (a6 0) (a8 0) (a10 0) (a12 0) (a14 0) (st v16 1 (fun _ => ((((v16 1 0) + (8 : Int32)) - (1 : Int32)) - (((v16 1 0) + (8 : Int32)) - (1 : Int32)) / (8 : Int32) * (8 : Int32)))), kX4 g a17 (a18 0) y3.2, kX0 g a18 y3.1]) rfl dX1_takeBack_40 (fun H locs hW => ?_)
      refine lv_aload_n hx hb dX1_takeBack_43 rfl (lv_at hl 1 rfl) ?_
      refine lv_dup hx hb dX1_takeBack_44 rfl ?_
      refine g_get C hW inX1 16 rfl rfl rfl 0 (by decide) (List.mem_of_getElem? (i := 2) rfl) (v := .int (v16 0 0)) rfl dX1_takeBack_45 ?_
      refine lv_iconst (v := (1 : Int32)) hx hb dX1_takeBack_48 (by decide) ?_
      refine lv_isub hx hb dX1_takeBack_49 ?_
      refine g_put C hW inX1 tyX1_ok nmX1 16 rfl rfl rfl 0 (by decide) (List.mem_of_getElem? (i := 2) rfl) rfl rfl rfl rfl (kX1_s0 g a16 (a0 0) (a2 0) (a4 0) (a6 0) (a8 0) (a10 0) (a12 0) (a14 0) (st v16 1 (fun _ => ((((v16 1 0) + (8 : Int32)) - (1 : Int32)) - (((v16 1 0) + (8 : Int32)) - (1 : Int32)) / (8 : Int32) * (8 : Int32)))) ((v16 0 0) - (1 : Int32))) (ch' := [kX4 g a0 (a1 0) v0, kX0 g a1 v1, kX4 g a2 (a3 0) v2, kX0 g a3 v3, kX4 g a4 (a5 0) v4, kX0 g a5 v5, kX4 g a6 (a7 0) v6, kX0 g a7 v7, kX4 g a8 (a9 0) v8, kX0 g a9 v9, kX4 g a10 (a11 0) v10, kX0 g a11 v11, kX4 g a12 (a13 0) v12, kX0 g a13 v13, kX4 g a14 (a15 0) v14, kX0 g a15 v15, kX1 g a16 (a0 0) (a2 0) (a4 0) (a6 0) (a8 0) (a10 0) (a12 0) (a14 0) (st (st v16 1 (fun _ => ((((v16 1 0) + (8 : Int32)) - (1 : Int32)) - (((v16 1 0) + (8 : Int32)) - (1 : Int32)) / (8 : Int32) * (8 : Int32)))) 0 (fun _ => ((v16 0 0) - (1 : Int32)))), kX4 g a17 (a18 0) y3.2, kX0 g a18 y3.1]) rfl dX1_takeBack_50 (fun H locs hW => ?_)
      refine lv_iconst (v := (1 : Int32)) hx hb dX1_takeBack_53 (by decide) ?_
      obtain rfl := Option.some.inj hf
      subst hQ
      exact g_zret C hr hk0 hW rfl rfl rfl dX1_takeBack_54
  replace hf := (if_neg h2).symm.trans hf
  rcases Decidable.em ((v16 1 0) = (3 : Int32)) with h3 | h3
  · replace hf := (if_pos h3).symm.trans hf
    refine g_cV (Cn := RX1) C (ct_X1_rowAt_3 g l a16 (a0 0) (a2 0) (a4 0) (a6 0) (a8 0) (a10 0) (a12 0) (a14 0) (v16 1 0) v16 h3) gX1_takeBack_X1_rowAt rfl 1 (by decide +kernel) ⟨rfl, rfl, ⟨Nat.le_of_ble_eq_true rfl, Nat.le_of_ble_eq_true rfl⟩, Nat.le_of_ble_eq_true rfl, Nat.le_of_ble_eq_true rfl⟩ rfl hl (Nat.le_of_ble_eq_true rfl) dX1_takeBack_5 rfl hW hA [16] rfl rfl rfl (ch' := [kX4 g a0 (a1 0) v0, kX0 g a1 v1, kX4 g a2 (a3 0) v2, kX0 g a3 v3, kX4 g a4 (a5 0) v4, kX0 g a5 v5, kX4 g a6 (a7 0) v6, kX0 g a7 v7, kX4 g a8 (a9 0) v8, kX0 g a9 v9, kX4 g a10 (a11 0) v10, kX0 g a11 v11, kX4 g a12 (a13 0) v12, kX0 g a13 v13, kX4 g a14 (a15 0) v14, kX0 g a15 v15, kX1 g a16 (a0 0) (a2 0) (a4 0) (a6 0) (a8 0) (a10 0) (a12 0) (a14 0) v16, kX4 g a17 (a18 0) v17, kX0 g a18 v18]) rfl 16 rfl rfl rfl (fun H locs hW => ?_)
    refine lv_astore_n (lv' := [(2, .ref (a6 0)), (0, .ref (a16 0)), (1, .ref (a17 0))]) hx hb dX1_takeBack_8 rfl hl (by decide) rfl (fun ls hl => ?_)
    refine lv_aload_n hx hb dX1_takeBack_9 rfl (lv_at hl 1 rfl) ?_
    refine g_get C hW inX1 16 rfl rfl rfl 0 (by decide) (List.mem_of_getElem? (i := 2) rfl) (v := .int (v16 0 0)) rfl dX1_takeBack_10 ?_
    refine lv_if_le (tgt := 20) hx hb dX1_takeBack_13 (by decide) (fun h => ?_) (fun h => ?_)
    · replace hf := (if_pos h).symm.trans hf
      refine lv_iconst (v := (0 : Int32)) hx hb dX1_takeBack_20 (by decide) ?_
      obtain rfl := Option.some.inj hf
      subst hQ
      exact g_zret C hr hk0 hW rfl rfl rfl dX1_takeBack_21
    · replace hf := (if_neg h).symm.trans hf
      refine lv_aload_n hx hb dX1_takeBack_16 rfl (lv_at hl 0 rfl) ?_
      refine lv_ifnonnull hx hb dX1_takeBack_17 (tgt := 22) (by decide) ?_
      refine lv_aload_n hx hb dX1_takeBack_22 rfl (lv_at hl 2 rfl) ?_
      refine lv_aload_n hx hb dX1_takeBack_23 rfl (lv_at hl 0 rfl) ?_
      obtain ⟨y4, hc, hf⟩ := bd_of hf
      refine g_cVv (Cn := RX4) C (ct_X4_copyFrom g l N a18 a17 a6 a7 v18 v17 v6 v7 hc) gX1_takeBack_X4_copyFrom rfl 1 (by decide +kernel) ⟨rfl, rfl, ⟨Nat.le_of_ble_eq_true rfl, Nat.le_of_ble_eq_true rfl⟩, Nat.le_of_ble_eq_true rfl, Nat.le_of_ble_eq_true rfl⟩ rfl hl (Nat.le_of_ble_eq_true rfl) dX1_takeBack_24 rfl hW hA [18, 17, 6, 7] rfl rfl rfl (ch' := [kX4 g a0 (a1 0) v0, kX0 g a1 v1, kX4 g a2 (a3 0) v2, kX0 g a3 v3, kX4 g a4 (a5 0) v4, kX0 g a5 v5, kX4 g a6 (a7 0) v6, kX0 g a7 v7, kX4 g a8 (a9 0) v8, kX0 g a9 v9, kX4 g a10 (a11 0) v10, kX0 g a11 v11, kX4 g a12 (a13 0) v12, kX0 g a13 v13, kX4 g a14 (a15 0) v14, kX0 g a15 v15, kX1 g a16 (a0 0) (a2 0) (a4 0) (a6 0) (a8 0) (a10 0) (a12 0) (a14 0) v16, kX4 g a17 (a18 0) y4.2, kX0 g a18 y4.1]) rfl 17 rfl rfl rfl (fun H locs hW => ?_)
      refine lv_aload_n hx hb dX1_takeBack_27 rfl (lv_at hl 1 rfl) ?_
      refine lv_aload_n hx hb dX1_takeBack_28 rfl (lv_at hl 1 rfl) ?_
      refine g_get C hW inX1 16 rfl rfl rfl 1 (by decide) (List.mem_of_getElem? (i := 1) rfl) (v := .int (v16 1 0)) rfl dX1_takeBack_29 ?_
      refine lv_bipush (v := (8 : Int32)) hx hb dX1_takeBack_32 (by decide) ?_
      refine lv_iadd hx hb dX1_takeBack_34 ?_
      refine lv_iconst (v := (1 : Int32)) hx hb dX1_takeBack_35 (by decide) ?_
      refine lv_isub hx hb dX1_takeBack_36 ?_
      refine lv_bipush (v := (8 : Int32)) hx hb dX1_takeBack_37 (by decide) ?_
      refine lv_irem hx hb dX1_takeBack_39 (by decide) ?_
      refine g_put C hW inX1 tyX1_ok nmX1 16 rfl rfl rfl 1 (by decide) (List.mem_of_getElem? (i := 1) rfl) rfl rfl rfl rfl (kX1_s1 g a16 (a0 0) (a2 0) (a4 0) (a6 0) (a8 0) (a10 0) (a12 0) (a14 0) v16 ((((v16 1 0) + (8 : Int32)) - (1 : Int32)) - (((v16 1 0) + (8 : Int32)) - (1 : Int32)) / (8 : Int32) * (8 : Int32))) (ch' := [kX4 g a0 (a1 0) v0, kX0 g a1 v1, kX4 g a2 (a3 0) v2, kX0 g a3 v3, kX4 g a4 (a5 0) v4, kX0 g a5 v5, kX4 g a6 (a7 0) v6, kX0 g a7 v7, kX4 g a8 (a9 0) v8, kX0 g a9 v9, kX4 g a10 (a11 0) v10, kX0 g a11 v11, kX4 g a12 (a13 0) v12, kX0 g a13 v13, kX4 g a14 (a15 0) v14, kX0 g a15 v15, kX1 g a16 (a0 0) (a2 0) (a4 0) (a6 0) (a8 0) (a10 0) (a12 0) (a14 0) (st v16 1 (fun _ => ((((v16 1 0) + (8 : Int32)) - (1 : Int32)) - (((v16 1 0) + (8 : Int32)) - (1 : Int32)) / (8 : Int32) * (8 : Int32)))), kX4 g a17 (a18 0) y4.2, kX0 g a18 y4.1]) rfl dX1_takeBack_40 (fun H locs hW => ?_)
      refine lv_aload_n hx hb dX1_takeBack_43 rfl (lv_at hl 1 rfl) ?_
      refine lv_dup hx hb dX1_takeBack_44 rfl ?_
      refine g_get C hW inX1 16 rfl rfl rfl 0 (by decide) (List.mem_of_getElem? (i := 2) rfl) (v := .int (v16 0 0)) rfl dX1_takeBack_45 ?_
      refine lv_iconst (v := (1 : Int32)) hx hb dX1_takeBack_48 (by decide) ?_
      refine lv_isub hx hb dX1_takeBack_49 ?_
      refine g_put C hW inX1 tyX1_ok nmX1 16 rfl rfl rfl 0 (by decide) (List.mem_of_getElem? (i := 2) rfl) rfl rfl rfl rfl (kX1_s0 g a16 (a0 0) (a2 0) (a4 0) (a6 0) (a8 0) (a10 0) (a12 0) (a14 0) (st v16 1 (fun _ => ((((v16 1 0) + (8 : Int32)) - (1 : Int32)) - (((v16 1 0) + (8 : Int32)) - (1 : Int32)) / (8 : Int32) * (8 : Int32)))) ((v16 0 0) - (1 : Int32))) (ch' := [kX4 g a0 (a1 0) v0, kX0 g a1 v1, kX4 g a2 (a3 0) v2, kX0 g a3 v3, kX4 g a4 (a5 0) v4, kX0 g a5 v5, kX4 g a6 (a7 0) v6, kX0 g a7 v7, kX4 g a8 (a9 0) v8, kX0 g a9 v9, kX4 g a10 (a11 0) v10, kX0 g a11 v11, kX4 g a12 (a13 0) v12, kX0 g a13 v13, kX4 g a14 (a15 0) v14, kX0 g a15 v15, kX1 g a16 (a0 0) (a2 0) (a4 0) (a6 0) (a8 0) (a10 0) (a12 0) (a14 0) (st (st v16 1 (fun _ => ((((v16 1 0) + (8 : Int32)) - (1 : Int32)) - (((v16 1 0) + (8 : Int32)) - (1 : Int32)) / (8 : Int32) * (8 : Int32)))) 0 (fun _ => ((v16 0 0) - (1 : Int32)))), kX4 g a17 (a18 0) y4.2, kX0 g a18 y4.1]) rfl dX1_takeBack_50 (fun H locs hW => ?_)
      refine lv_iconst (v := (1 : Int32)) hx hb dX1_takeBack_53 (by decide) ?_
      obtain rfl := Option.some.inj hf
      subst hQ
      exact g_zret C hr hk0 hW rfl rfl rfl dX1_takeBack_54
  replace hf := (if_neg h3).symm.trans hf
  rcases Decidable.em ((v16 1 0) = (4 : Int32)) with h4 | h4
  · replace hf := (if_pos h4).symm.trans hf
    refine g_cV (Cn := RX1) C (ct_X1_rowAt_4 g l a16 (a0 0) (a2 0) (a4 0) (a6 0) (a8 0) (a10 0) (a12 0) (a14 0) (v16 1 0) v16 h4) gX1_takeBack_X1_rowAt rfl 1 (by decide +kernel) ⟨rfl, rfl, ⟨Nat.le_of_ble_eq_true rfl, Nat.le_of_ble_eq_true rfl⟩, Nat.le_of_ble_eq_true rfl, Nat.le_of_ble_eq_true rfl⟩ rfl hl (Nat.le_of_ble_eq_true rfl) dX1_takeBack_5 rfl hW hA [16] rfl rfl rfl (ch' := [kX4 g a0 (a1 0) v0, kX0 g a1 v1, kX4 g a2 (a3 0) v2, kX0 g a3 v3, kX4 g a4 (a5 0) v4, kX0 g a5 v5, kX4 g a6 (a7 0) v6, kX0 g a7 v7, kX4 g a8 (a9 0) v8, kX0 g a9 v9, kX4 g a10 (a11 0) v10, kX0 g a11 v11, kX4 g a12 (a13 0) v12, kX0 g a13 v13, kX4 g a14 (a15 0) v14, kX0 g a15 v15, kX1 g a16 (a0 0) (a2 0) (a4 0) (a6 0) (a8 0) (a10 0) (a12 0) (a14 0) v16, kX4 g a17 (a18 0) v17, kX0 g a18 v18]) rfl 16 rfl rfl rfl (fun H locs hW => ?_)
    refine lv_astore_n (lv' := [(2, .ref (a8 0)), (0, .ref (a16 0)), (1, .ref (a17 0))]) hx hb dX1_takeBack_8 rfl hl (by decide) rfl (fun ls hl => ?_)
    refine lv_aload_n hx hb dX1_takeBack_9 rfl (lv_at hl 1 rfl) ?_
    refine g_get C hW inX1 16 rfl rfl rfl 0 (by decide) (List.mem_of_getElem? (i := 2) rfl) (v := .int (v16 0 0)) rfl dX1_takeBack_10 ?_
    refine lv_if_le (tgt := 20) hx hb dX1_takeBack_13 (by decide) (fun h => ?_) (fun h => ?_)
    · replace hf := (if_pos h).symm.trans hf
      refine lv_iconst (v := (0 : Int32)) hx hb dX1_takeBack_20 (by decide) ?_
      obtain rfl := Option.some.inj hf
      subst hQ
      exact g_zret C hr hk0 hW rfl rfl rfl dX1_takeBack_21
    · replace hf := (if_neg h).symm.trans hf
      refine lv_aload_n hx hb dX1_takeBack_16 rfl (lv_at hl 0 rfl) ?_
      refine lv_ifnonnull hx hb dX1_takeBack_17 (tgt := 22) (by decide) ?_
      refine lv_aload_n hx hb dX1_takeBack_22 rfl (lv_at hl 2 rfl) ?_
      refine lv_aload_n hx hb dX1_takeBack_23 rfl (lv_at hl 0 rfl) ?_
      obtain ⟨y5, hc, hf⟩ := bd_of hf
      refine g_cVv (Cn := RX4) C (ct_X4_copyFrom g l N a18 a17 a8 a9 v18 v17 v8 v9 hc) gX1_takeBack_X4_copyFrom rfl 1 (by decide +kernel) ⟨rfl, rfl, ⟨Nat.le_of_ble_eq_true rfl, Nat.le_of_ble_eq_true rfl⟩, Nat.le_of_ble_eq_true rfl, Nat.le_of_ble_eq_true rfl⟩ rfl hl (Nat.le_of_ble_eq_true rfl) dX1_takeBack_24 rfl hW hA [18, 17, 8, 9] rfl rfl rfl (ch' := [kX4 g a0 (a1 0) v0, kX0 g a1 v1, kX4 g a2 (a3 0) v2, kX0 g a3 v3, kX4 g a4 (a5 0) v4, kX0 g a5 v5, kX4 g a6 (a7 0) v6, kX0 g a7 v7, kX4 g a8 (a9 0) v8, kX0 g a9 v9, kX4 g a10 (a11 0) v10, kX0 g a11 v11, kX4 g a12 (a13 0) v12, kX0 g a13 v13, kX4 g a14 (a15 0) v14, kX0 g a15 v15, kX1 g a16 (a0 0) (a2 0) (a4 0) (a6 0) (a8 0) (a10 0) (a12 0) (a14 0) v16, kX4 g a17 (a18 0) y5.2, kX0 g a18 y5.1]) rfl 17 rfl rfl rfl (fun H locs hW => ?_)
      refine lv_aload_n hx hb dX1_takeBack_27 rfl (lv_at hl 1 rfl) ?_
      refine lv_aload_n hx hb dX1_takeBack_28 rfl (lv_at hl 1 rfl) ?_
      refine g_get C hW inX1 16 rfl rfl rfl 1 (by decide) (List.mem_of_getElem? (i := 1) rfl) (v := .int (v16 1 0)) rfl dX1_takeBack_29 ?_
      refine lv_bipush (v := (8 : Int32)) hx hb dX1_takeBack_32 (by decide) ?_
      refine lv_iadd hx hb dX1_takeBack_34 ?_
      refine lv_iconst (v := (1 : Int32)) hx hb dX1_takeBack_35 (by decide) ?_
      refine lv_isub hx hb dX1_takeBack_36 ?_
      refine lv_bipush (v := (8 : Int32)) hx hb dX1_takeBack_37 (by decide) ?_
      refine lv_irem hx hb dX1_takeBack_39 (by decide) ?_
      refine g_put C hW inX1 tyX1_ok nmX1 16 rfl rfl rfl 1 (by decide) (List.mem_of_getElem? (i := 1) rfl) rfl rfl rfl rfl (kX1_s1 g a16 (a0 0) (a2 0) (a4 0) (a6 0) (a8 0) (a10 0) (a12 0) (a14 0) v16 ((((v16 1 0) + (8 : Int32)) - (1 : Int32)) - (((v16 1 0) + (8 : Int32)) - (1 : Int32)) / (8 : Int32) * (8 : Int32))) (ch' := [kX4 g a0 (a1 0) v0, kX0 g a1 v1, kX4 g a2 (a3 0) v2, kX0 g a3 v3, kX4 g a4 (a5 0) v4, kX0 g a5 v5, kX4 g a6 (a7 0) v6, kX0 g a7 v7, kX4 g a8 (a9 0) v8, kX0 g a9 v9, kX4 g a10 (a11 0) v10, kX0 g a11 v11, kX4 g a12 (a13 0) v12, kX0 g a13 v13, kX4 g a14 (a15 0) v14, kX0 g a15 v15, kX1 g a16 (a0 0) (a2 0) (a4 0) (a6 0) (a8 0) (a10 0) (a12 0) (a14 0) (st v16 1 (fun _ => ((((v16 1 0) + (8 : Int32)) - (1 : Int32)) - (((v16 1 0) + (8 : Int32)) - (1 : Int32)) / (8 : Int32) * (8 : Int32)))), kX4 g a17 (a18 0) y5.2, kX0 g a18 y5.1]) rfl dX1_takeBack_40 (fun H locs hW => ?_)
      refine lv_aload_n hx hb dX1_takeBack_43 rfl (lv_at hl 1 rfl) ?_
      refine lv_dup hx hb dX1_takeBack_44 rfl ?_
      refine g_get C hW inX1 16 rfl rfl rfl 0 (by decide) (List.mem_of_getElem? (i := 2) rfl) (v := .int (v16 0 0)) rfl dX1_takeBack_45 ?_
      refine lv_iconst (v := (1 : Int32)) hx hb dX1_takeBack_48 (by decide) ?_
      refine lv_isub hx hb dX1_takeBack_49 ?_
      refine g_put C hW inX1 tyX1_ok nmX1 16 rfl rfl rfl 0 (by decide) (List.mem_of_getElem? (i := 2) rfl) rfl rfl rfl rfl (kX1_s0 g a16 (a0 0) (a2 0) (a4 0) (a6 0) (a8 0) (a10 0) (a12 0) (a14 0) (st v16 1 (fun _ => ((((v16 1 0) + (8 : Int32)) - (1 : Int32)) - (((v16 1 0) + (8 : Int32)) - (1 : Int32)) / (8 : Int32) * (8 : Int32)))) ((v16 0 0) - (1 : Int32))) (ch' := [kX4 g a0 (a1 0) v0, kX0 g a1 v1, kX4 g a2 (a3 0) v2, kX0 g a3 v3, kX4 g a4 (a5 0) v4, kX0 g a5 v5, kX4 g a6 (a7 0) v6, kX0 g a7 v7, kX4 g a8 (a9 0) v8, kX0 g a9 v9, kX4 g a10 (a11 0) v10, kX0 g a11 v11, kX4 g a12 (a13 0) v12, kX0 g a13 v13, kX4 g a14 (a15 0) v14, kX0 g a15 v15, kX1 g a16 (a0 0) (a2 0) (a4 0) (a6 0) (a8 0) (a10 0) (a12 0) (a14 0) (st (st v16 1 (fun _ => ((((v16 1 0) + (8 : Int32)) - (1 : Int32)) - (((v16 1 0) + (8 : Int32)) - (1 : Int32)) / (8 : Int32) * (8 : Int32)))) 0 (fun _ => ((v16 0 0) - (1 : Int32)))), kX4 g a17 (a18 0) y5.2, kX0 g a18 y5.1]) rfl dX1_takeBack_50 (fun H locs hW => ?_)
      refine lv_iconst (v := (1 : Int32)) hx hb dX1_takeBack_53 (by decide) ?_
      obtain rfl := Option.some.inj hf
      subst hQ
      exact g_zret C hr hk0 hW rfl rfl rfl dX1_takeBack_54
  replace hf := (if_neg h4).symm.trans hf
  rcases Decidable.em ((v16 1 0) = (5 : Int32)) with h5 | h5
  · replace hf := (if_pos h5).symm.trans hf
    refine g_cV (Cn := RX1) C (ct_X1_rowAt_5 g l a16 (a0 0) (a2 0) (a4 0) (a6 0) (a8 0) (a10 0) (a12 0) (a14 0) (v16 1 0) v16 h5) gX1_takeBack_X1_rowAt rfl 1 (by decide +kernel) ⟨rfl, rfl, ⟨Nat.le_of_ble_eq_true rfl, Nat.le_of_ble_eq_true rfl⟩, Nat.le_of_ble_eq_true rfl, Nat.le_of_ble_eq_true rfl⟩ rfl hl (Nat.le_of_ble_eq_true rfl) dX1_takeBack_5 rfl hW hA [16] rfl rfl rfl (ch' := [kX4 g a0 (a1 0) v0, kX0 g a1 v1, kX4 g a2 (a3 0) v2, kX0 g a3 v3, kX4 g a4 (a5 0) v4, kX0 g a5 v5, kX4 g a6 (a7 0) v6, kX0 g a7 v7, kX4 g a8 (a9 0) v8, kX0 g a9 v9, kX4 g a10 (a11 0) v10, kX0 g a11 v11, kX4 g a12 (a13 0) v12, kX0 g a13 v13, kX4 g a14 (a15 0) v14, kX0 g a15 v15, kX1 g a16 (a0 0) (a2 0) (a4 0) (a6 0) (a8 0) (a10 0) (a12 0) (a14 0) v16, kX4 g a17 (a18 0) v17, kX0 g a18 v18]) rfl 16 rfl rfl rfl (fun H locs hW => ?_)
    refine lv_astore_n (lv' := [(2, .ref (a10 0)), (0, .ref (a16 0)), (1, .ref (a17 0))]) hx hb dX1_takeBack_8 rfl hl (by decide) rfl (fun ls hl => ?_)
    refine lv_aload_n hx hb dX1_takeBack_9 rfl (lv_at hl 1 rfl) ?_
    refine g_get C hW inX1 16 rfl rfl rfl 0 (by decide) (List.mem_of_getElem? (i := 2) rfl) (v := .int (v16 0 0)) rfl dX1_takeBack_10 ?_
    refine lv_if_le (tgt := 20) hx hb dX1_takeBack_13 (by decide) (fun h => ?_) (fun h => ?_)
    · replace hf := (if_pos h).symm.trans hf
      refine lv_iconst (v := (0 : Int32)) hx hb dX1_takeBack_20 (by decide) ?_
      obtain rfl := Option.some.inj hf
      subst hQ
      exact g_zret C hr hk0 hW rfl rfl rfl dX1_takeBack_21
    · replace hf := (if_neg h).symm.trans hf
      refine lv_aload_n hx hb dX1_takeBack_16 rfl (lv_at hl 0 rfl) ?_
      refine lv_ifnonnull hx hb dX1_takeBack_17 (tgt := 22) (by decide) ?_
      refine lv_aload_n hx hb dX1_takeBack_22 rfl (lv_at hl 2 rfl) ?_
      refine lv_aload_n hx hb dX1_takeBack_23 rfl (lv_at hl 0 rfl) ?_
      obtain ⟨y6, hc, hf⟩ := bd_of hf
      refine g_cVv (Cn := RX4) C (ct_X4_copyFrom g l N a18 a17 a10 a11 v18 v17 v10 v11 hc) gX1_takeBack_X4_copyFrom rfl 1 (by decide +kernel) ⟨rfl, rfl, ⟨Nat.le_of_ble_eq_true rfl, Nat.le_of_ble_eq_true rfl⟩, Nat.le_of_ble_eq_true rfl, Nat.le_of_ble_eq_true rfl⟩ rfl hl (Nat.le_of_ble_eq_true rfl) dX1_takeBack_24 rfl hW hA [18, 17, 10, 11] rfl rfl rfl (ch' := [kX4 g a0 (a1 0) v0, kX0 g a1 v1, kX4 g a2 (a3 0) v2, kX0 g a3 v3, kX4 g a4 (a5 0) v4, kX0 g a5 v5, kX4 g a6 (a7 0) v6, kX0 g a7 v7, kX4 g a8 (a9 0) v8, kX0 g a9 v9, kX4 g a10 (a11 0) v10, kX0 g a11 v11, kX4 g a12 (a13 0) v12, kX0 g a13 v13, kX4 g a14 (a15 0) v14, kX0 g a15 v15, kX1 g a16 (a0 0) (a2 0) (a4 0) (a6 0) (a8 0) (a10 0) (a12 0) (a14 0) v16, kX4 g a17 (a18 0) y6.2, kX0 g a18 y6.1]) rfl 17 rfl rfl rfl (fun H locs hW => ?_)
      refine lv_aload_n hx hb dX1_takeBack_27 rfl (lv_at hl 1 rfl) ?_
      refine lv_aload_n hx hb dX1_takeBack_28 rfl (lv_at hl 1 rfl) ?_
      refine g_get C hW inX1 16 rfl rfl rfl 1 (by decide) (List.mem_of_getElem? (i := 1) rfl) (v := .int (v16 1 0)) rfl dX1_takeBack_29 ?_
      refine lv_bipush (v := (8 : Int32)) hx hb dX1_takeBack_32 (by decide) ?_
      refine lv_iadd hx hb dX1_takeBack_34 ?_
      refine lv_iconst (v := (1 : Int32)) hx hb dX1_takeBack_35 (by decide) ?_
      refine lv_isub hx hb dX1_takeBack_36 ?_
      refine lv_bipush (v := (8 : Int32)) hx hb dX1_takeBack_37 (by decide) ?_
      refine lv_irem hx hb dX1_takeBack_39 (by decide) ?_
      refine g_put C hW inX1 tyX1_ok nmX1 16 rfl rfl rfl 1 (by decide) (List.mem_of_getElem? (i := 1) rfl) rfl rfl rfl rfl (kX1_s1 g a16 (a0 0) (a2 0) (a4 0) (a6 0) (a8 0) (a10 0) (a12 0) (a14 0) v16 ((((v16 1 0) + (8 : Int32)) - (1 : Int32)) - (((v16 1 0) + (8 : Int32)) - (1 : Int32)) / (8 : Int32) * (8 : Int32))) (ch' := [kX4 g a0 (a1 0) v0, kX0 g a1 v1, kX4 g a2 (a3 0) v2, kX0 g a3 v3, kX4 g a4 (a5 0) v4, kX0 g a5 v5, kX4 g a6 (a7 0) v6, kX0 g a7 v7, kX4 g a8 (a9 0) v8, kX0 g a9 v9, kX4 g a10 (a11 0) v10, kX0 g a11 v11, kX4 g a12 (a13 0) v12, kX0 g a13 v13, kX4 g a14 (a15 0) v14, kX0 g a15 v15, kX1 g a16 (a0 0) (a2 0) (a4 0) (a6 0) (a8 0) (a10 0) (a12 0) (a14 0) (st v16 1 (fun _ => ((((v16 1 0) + (8 : Int32)) - (1 : Int32)) - (((v16 1 0) + (8 : Int32)) - (1 : Int32)) / (8 : Int32) * (8 : Int32)))), kX4 g a17 (a18 0) y6.2, kX0 g a18 y6.1]) rfl dX1_takeBack_40 (fun H locs hW => ?_)
      refine lv_aload_n hx hb dX1_takeBack_43 rfl (lv_at hl 1 rfl) ?_
      refine lv_dup hx hb dX1_takeBack_44 rfl ?_
      refine g_get C hW inX1 16 rfl rfl rfl 0 (by decide) (List.mem_of_getElem? (i := 2) rfl) (v := .int (v16 0 0)) rfl dX1_takeBack_45 ?_
      refine lv_iconst (v := (1 : Int32)) hx hb dX1_takeBack_48 (by decide) ?_
      refine lv_isub hx hb dX1_takeBack_49 ?_
      refine g_put C hW inX1 tyX1_ok nmX1 16 rfl rfl rfl 0 (by decide) (List.mem_of_getElem? (i := 2) rfl) rfl rfl rfl rfl (kX1_s0 g a16 (a0 0) (a2 0) (a4 0) (a6 0) (a8 0) (a10 0) (a12 0) (a14 0) (st v16 1 (fun _ => ((((v16 1 0) + (8 : Int32)) - (1 : Int32)) - (((v16 1 0) + (8 : Int32)) - (1 : Int32)) / (8 : Int32) * (8 : Int32)))) ((v16 0 0) - (1 : Int32))) (ch' := [kX4 g a0 (a1 0) v0, kX0 g a1 v1, kX4 g a2 (a3 0) v2, kX0 g a3 v3, kX4 g a4 (a5 0) v4, kX0 g a5 v5, kX4 g a6 (a7 0) v6, kX0 g a7 v7, kX4 g a8 (a9 0) v8, kX0 g a9 v9, kX4 g a10 (a11 0) v10, kX0 g a11 v11, kX4 g a12 (a13 0) v12, kX0 g a13 v13, kX4 g a14 (a15 0) v14, kX0 g a15 v15, kX1 g a16 (a0 0) (a2 0) (a4 0) (a6 0) (a8 0) (a10 0) (a12 0) (a14 0) (st (st v16 1 (fun _ => ((((v16 1 0) + (8 : Int32)) - (1 : Int32)) - (((v16 1 0) + (8 : Int32)) - (1 : Int32)) / (8 : Int32) * (8 : Int32)))) 0 (fun _ => ((v16 0 0) - (1 : Int32)))), kX4 g a17 (a18 0) y6.2, kX0 g a18 y6.1]) rfl dX1_takeBack_50 (fun H locs hW => ?_)
      refine lv_iconst (v := (1 : Int32)) hx hb dX1_takeBack_53 (by decide) ?_
      obtain rfl := Option.some.inj hf
      subst hQ
      exact g_zret C hr hk0 hW rfl rfl rfl dX1_takeBack_54
  replace hf := (if_neg h5).symm.trans hf
  rcases Decidable.em ((v16 1 0) = (6 : Int32)) with h6 | h6
  · replace hf := (if_pos h6).symm.trans hf
    refine g_cV (Cn := RX1) C (ct_X1_rowAt_6 g l a16 (a0 0) (a2 0) (a4 0) (a6 0) (a8 0) (a10 0) (a12 0) (a14 0) (v16 1 0) v16 h6) gX1_takeBack_X1_rowAt rfl 1 (by decide +kernel) ⟨rfl, rfl, ⟨Nat.le_of_ble_eq_true rfl, Nat.le_of_ble_eq_true rfl⟩, Nat.le_of_ble_eq_true rfl, Nat.le_of_ble_eq_true rfl⟩ rfl hl (Nat.le_of_ble_eq_true rfl) dX1_takeBack_5 rfl hW hA [16] rfl rfl rfl (ch' := [kX4 g a0 (a1 0) v0, kX0 g a1 v1, kX4 g a2 (a3 0) v2, kX0 g a3 v3, kX4 g a4 (a5 0) v4, kX0 g a5 v5, kX4 g a6 (a7 0) v6, kX0 g a7 v7, kX4 g a8 (a9 0) v8, kX0 g a9 v9, kX4 g a10 (a11 0) v10, kX0 g a11 v11, kX4 g a12 (a13 0) v12, kX0 g a13 v13, kX4 g a14 (a15 0) v14, kX0 g a15 v15, kX1 g a16 (a0 0) (a2 0) (a4 0) (a6 0) (a8 0) (a10 0) (a12 0) (a14 0) v16, kX4 g a17 (a18 0) v17, kX0 g a18 v18]) rfl 16 rfl rfl rfl (fun H locs hW => ?_)
    refine lv_astore_n (lv' := [(2, .ref (a12 0)), (0, .ref (a16 0)), (1, .ref (a17 0))]) hx hb dX1_takeBack_8 rfl hl (by decide) rfl (fun ls hl => ?_)
    refine lv_aload_n hx hb dX1_takeBack_9 rfl (lv_at hl 1 rfl) ?_
    refine g_get C hW inX1 16 rfl rfl rfl 0 (by decide) (List.mem_of_getElem? (i := 2) rfl) (v := .int (v16 0 0)) rfl dX1_takeBack_10 ?_
    refine lv_if_le (tgt := 20) hx hb dX1_takeBack_13 (by decide) (fun h => ?_) (fun h => ?_)
    · replace hf := (if_pos h).symm.trans hf
      refine lv_iconst (v := (0 : Int32)) hx hb dX1_takeBack_20 (by decide) ?_
      obtain rfl := Option.some.inj hf
      subst hQ
      exact g_zret C hr hk0 hW rfl rfl rfl dX1_takeBack_21
    · replace hf := (if_neg h).symm.trans hf
      refine lv_aload_n hx hb dX1_takeBack_16 rfl (lv_at hl 0 rfl) ?_
      refine lv_ifnonnull hx hb dX1_takeBack_17 (tgt := 22) (by decide) ?_
      refine lv_aload_n hx hb dX1_takeBack_22 rfl (lv_at hl 2 rfl) ?_
      refine lv_aload_n hx hb dX1_takeBack_23 rfl (lv_at hl 0 rfl) ?_
      obtain ⟨y7, hc, hf⟩ := bd_of hf
      refine g_cVv (Cn := RX4) C (ct_X4_copyFrom g l N a18 a17 a12 a13 v18 v17 v12 v13 hc) gX1_takeBack_X4_copyFrom rfl 1 (by decide +kernel) ⟨rfl, rfl, ⟨Nat.le_of_ble_eq_true rfl, Nat.le_of_ble_eq_true rfl⟩, Nat.le_of_ble_eq_true rfl, Nat.le_of_ble_eq_true rfl⟩ rfl hl (Nat.le_of_ble_eq_true rfl) dX1_takeBack_24 rfl hW hA [18, 17, 12, 13] rfl rfl rfl (ch' := [kX4 g a0 (a1 0) v0, kX0 g a1 v1, kX4 g a2 (a3 0) v2, kX0 g a3 v3, kX4 g a4 (a5 0) v4, kX0 g a5 v5, kX4 g a6 (a7 0) v6, kX0 g a7 v7, kX4 g a8 (a9 0) v8, kX0 g a9 v9, kX4 g a10 (a11 0) v10, kX0 g a11 v11, kX4 g a12 (a13 0) v12, kX0 g a13 v13, kX4 g a14 (a15 0) v14, kX0 g a15 v15, kX1 g a16 (a0 0) (a2 0) (a4 0) (a6 0) (a8 0) (a10 0) (a12 0) (a14 0) v16, kX4 g a17 (a18 0) y7.2, kX0 g a18 y7.1]) rfl 17 rfl rfl rfl (fun H locs hW => ?_)
      refine lv_aload_n hx hb dX1_takeBack_27 rfl (lv_at hl 1 rfl) ?_
      refine lv_aload_n hx hb dX1_takeBack_28 rfl (lv_at hl 1 rfl) ?_
      refine g_get C hW inX1 16 rfl rfl rfl 1 (by decide) (List.mem_of_getElem? (i := 1) rfl) (v := .int (v16 1 0)) rfl dX1_takeBack_29 ?_
      refine lv_bipush (v := (8 : Int32)) hx hb dX1_takeBack_32 (by decide) ?_
      refine lv_iadd hx hb dX1_takeBack_34 ?_
      refine lv_iconst (v := (1 : Int32)) hx hb dX1_takeBack_35 (by decide) ?_
      refine lv_isub hx hb dX1_takeBack_36 ?_
      refine lv_bipush (v := (8 : Int32)) hx hb dX1_takeBack_37 (by decide) ?_
      refine lv_irem hx hb dX1_takeBack_39 (by decide) ?_
      refine g_put C hW inX1 tyX1_ok nmX1 16 rfl rfl rfl 1 (by decide) (List.mem_of_getElem? (i := 1) rfl) rfl rfl rfl rfl (kX1_s1 g a16 (a0 0) (a2 0) (a4 0) (a6 0) (a8 0) (a10 0) (a12 0) (a14 0) v16 ((((v16 1 0) + (8 : Int32)) - (1 : Int32)) - (((v16 1 0) + (8 : Int32)) - (1 : Int32)) / (8 : Int32) * (8 : Int32))) (ch' := [kX4 g a0 (a1 0) v0, kX0 g a1 v1, kX4 g a2 (a3 0) v2, kX0 g a3 v3, kX4 g a4 (a5 0) v4, kX0 g a5 v5, kX4 g a6 (a7 0) v6, kX0 g a7 v7, kX4 g a8 (a9 0) v8, kX0 g a9 v9, kX4 g a10 (a11 0) v10, kX0 g a11 v11, kX4 g a12 (a13 0) v12, kX0 g a13 v13, kX4 g a14 (a15 0) v14, kX0 g a15 v15, kX1 g a16 (a0 0) (a2 0) (a4 0) (a6 0) (a8 0) (a10 0) (a12 0) (a14 0) (st v16 1 (fun _ => ((((v16 1 0) + (8 : Int32)) - (1 : Int32)) - (((v16 1 0) + (8 : Int32)) - (1 : Int32)) / (8 : Int32) * (8 : Int32)))), kX4 g a17 (a18 0) y7.2, kX0 g a18 y7.1]) rfl dX1_takeBack_40 (fun H locs hW => ?_)
      refine lv_aload_n hx hb dX1_takeBack_43 rfl (lv_at hl 1 rfl) ?_
      refine lv_dup hx hb dX1_takeBack_44 rfl ?_
      refine g_get C hW inX1 16 rfl rfl rfl 0 (by decide) (List.mem_of_getElem? (i := 2) rfl) (v := .int (v16 0 0)) rfl dX1_takeBack_45 ?_
      refine lv_iconst (v := (1 : Int32)) hx hb dX1_takeBack_48 (by decide) ?_
      refine lv_isub hx hb dX1_takeBack_49 ?_
      refine g_put C hW inX1 tyX1_ok nmX1 16 rfl rfl rfl 0 (by decide) (List.mem_of_getElem? (i := 2) rfl) rfl rfl rfl rfl (kX1_s0 g a16 (a0 0) (a2 0) (a4 0) (a6 0) (a8 0) (a10 0) (a12 0) (a14 0) (st v16 1 (fun _ => ((((v16 1 0) + (8 : Int32)) - (1 : Int32)) - (((v16 1 0) + (8 : Int32)) - (1 : Int32)) / (8 : Int32) * (8 : Int32)))) ((v16 0 0) - (1 : Int32))) (ch' := [kX4 g a0 (a1 0) v0, kX0 g a1 v1, kX4 g a2 (a3 0) v2, kX0 g a3 v3, kX4 g a4 (a5 0) v4, kX0 g a5 v5, kX4 g a6 (a7 0) v6, kX0 g a7 v7, kX4 g a8 (a9 0) v8, kX0 g a9 v9, kX4 g a10 (a11 0) v10, kX0 g a11 v11, kX4 g a12 (a13 0) v12, kX0 g a13 v13, kX4 g a14 (a15 0) v14, kX0 g a15 v15, kX1 g a16 (a0 0) (a2 0) (a4 0) (a6 0) (a8 0) (a10 0) (a12 0) (a14 0) (st (st v16 1 (fun _ => ((((v16 1 0) + (8 : Int32)) - (1 : Int32)) - (((v16 1 0) + (8 : Int32)) - (1 : Int32)) / (8 : Int32) * (8 : Int32)))) 0 (fun _ => ((v16 0 0) - (1 : Int32)))), kX4 g a17 (a18 0) y7.2, kX0 g a18 y7.1]) rfl dX1_takeBack_50 (fun H locs hW => ?_)
      refine lv_iconst (v := (1 : Int32)) hx hb dX1_takeBack_53 (by decide) ?_
      obtain rfl := Option.some.inj hf
      subst hQ
      exact g_zret C hr hk0 hW rfl rfl rfl dX1_takeBack_54
  replace hf := (if_neg h6).symm.trans hf
  rcases Decidable.em ((v16 1 0) = (7 : Int32)) with h7 | h7
  · replace hf := (if_pos h7).symm.trans hf
    refine g_cV (Cn := RX1) C (ct_X1_rowAt_7 g l a16 (a0 0) (a2 0) (a4 0) (a6 0) (a8 0) (a10 0) (a12 0) (a14 0) (v16 1 0) v16 h7) gX1_takeBack_X1_rowAt rfl 1 (by decide +kernel) ⟨rfl, rfl, ⟨Nat.le_of_ble_eq_true rfl, Nat.le_of_ble_eq_true rfl⟩, Nat.le_of_ble_eq_true rfl, Nat.le_of_ble_eq_true rfl⟩ rfl hl (Nat.le_of_ble_eq_true rfl) dX1_takeBack_5 rfl hW hA [16] rfl rfl rfl (ch' := [kX4 g a0 (a1 0) v0, kX0 g a1 v1, kX4 g a2 (a3 0) v2, kX0 g a3 v3, kX4 g a4 (a5 0) v4, kX0 g a5 v5, kX4 g a6 (a7 0) v6, kX0 g a7 v7, kX4 g a8 (a9 0) v8, kX0 g a9 v9, kX4 g a10 (a11 0) v10, kX0 g a11 v11, kX4 g a12 (a13 0) v12, kX0 g a13 v13, kX4 g a14 (a15 0) v14, kX0 g a15 v15, kX1 g a16 (a0 0) (a2 0) (a4 0) (a6 0) (a8 0) (a10 0) (a12 0) (a14 0) v16, kX4 g a17 (a18 0) v17, kX0 g a18 v18]) rfl 16 rfl rfl rfl (fun H locs hW => ?_)
    refine lv_astore_n (lv' := [(2, .ref (a14 0)), (0, .ref (a16 0)), (1, .ref (a17 0))]) hx hb dX1_takeBack_8 rfl hl (by decide) rfl (fun ls hl => ?_)
    refine lv_aload_n hx hb dX1_takeBack_9 rfl (lv_at hl 1 rfl) ?_
    refine g_get C hW inX1 16 rfl rfl rfl 0 (by decide) (List.mem_of_getElem? (i := 2) rfl) (v := .int (v16 0 0)) rfl dX1_takeBack_10 ?_
    refine lv_if_le (tgt := 20) hx hb dX1_takeBack_13 (by decide) (fun h => ?_) (fun h => ?_)
    · replace hf := (if_pos h).symm.trans hf
      refine lv_iconst (v := (0 : Int32)) hx hb dX1_takeBack_20 (by decide) ?_
      obtain rfl := Option.some.inj hf
      subst hQ
      exact g_zret C hr hk0 hW rfl rfl rfl dX1_takeBack_21
    · replace hf := (if_neg h).symm.trans hf
      refine lv_aload_n hx hb dX1_takeBack_16 rfl (lv_at hl 0 rfl) ?_
      refine lv_ifnonnull hx hb dX1_takeBack_17 (tgt := 22) (by decide) ?_
      refine lv_aload_n hx hb dX1_takeBack_22 rfl (lv_at hl 2 rfl) ?_
      refine lv_aload_n hx hb dX1_takeBack_23 rfl (lv_at hl 0 rfl) ?_
      obtain ⟨y8, hc, hf⟩ := bd_of hf
      refine g_cVv (Cn := RX4) C (ct_X4_copyFrom g l N a18 a17 a14 a15 v18 v17 v14 v15 hc) gX1_takeBack_X4_copyFrom rfl 1 (by decide +kernel) ⟨rfl, rfl, ⟨Nat.le_of_ble_eq_true rfl, Nat.le_of_ble_eq_true rfl⟩, Nat.le_of_ble_eq_true rfl, Nat.le_of_ble_eq_true rfl⟩ rfl hl (Nat.le_of_ble_eq_true rfl) dX1_takeBack_24 rfl hW hA [18, 17, 14, 15] rfl rfl rfl (ch' := [kX4 g a0 (a1 0) v0, kX0 g a1 v1, kX4 g a2 (a3 0) v2, kX0 g a3 v3, kX4 g a4 (a5 0) v4, kX0 g a5 v5, kX4 g a6 (a7 0) v6, kX0 g a7 v7, kX4 g a8 (a9 0) v8, kX0 g a9 v9, kX4 g a10 (a11 0) v10, kX0 g a11 v11, kX4 g a12 (a13 0) v12, kX0 g a13 v13, kX4 g a14 (a15 0) v14, kX0 g a15 v15, kX1 g a16 (a0 0) (a2 0) (a4 0) (a6 0) (a8 0) (a10 0) (a12 0) (a14 0) v16, kX4 g a17 (a18 0) y8.2, kX0 g a18 y8.1]) rfl 17 rfl rfl rfl (fun H locs hW => ?_)
      refine lv_aload_n hx hb dX1_takeBack_27 rfl (lv_at hl 1 rfl) ?_
      refine lv_aload_n hx hb dX1_takeBack_28 rfl (lv_at hl 1 rfl) ?_
      refine g_get C hW inX1 16 rfl rfl rfl 1 (by decide) (List.mem_of_getElem? (i := 1) rfl) (v := .int (v16 1 0)) rfl dX1_takeBack_29 ?_
      refine lv_bipush (v := (8 : Int32)) hx hb dX1_takeBack_32 (by decide) ?_
      refine lv_iadd hx hb dX1_takeBack_34 ?_
      refine lv_iconst (v := (1 : Int32)) hx hb dX1_takeBack_35 (by decide) ?_
      refine lv_isub hx hb dX1_takeBack_36 ?_
      refine lv_bipush (v := (8 : Int32)) hx hb dX1_takeBack_37 (by decide) ?_
      refine lv_irem hx hb dX1_takeBack_39 (by decide) ?_
      refine g_put C hW inX1 tyX1_ok nmX1 16 rfl rfl rfl 1 (by decide) (List.mem_of_getElem? (i := 1) rfl) rfl rfl rfl rfl (kX1_s1 g a16 (a0 0) (a2 0) (a4 0) (a6 0) (a8 0) (a10 0) (a12 0) (a14 0) v16 ((((v16 1 0) + (8 : Int32)) - (1 : Int32)) - (((v16 1 0) + (8 : Int32)) - (1 : Int32)) / (8 : Int32) * (8 : Int32))) (ch' := [kX4 g a0 (a1 0) v0, kX0 g a1 v1, kX4 g a2 (a3 0) v2, kX0 g a3 v3, kX4 g a4 (a5 0) v4, kX0 g a5 v5, kX4 g a6 (a7 0) v6, kX0 g a7 v7, kX4 g a8 (a9 0) v8, kX0 g a9 v9, kX4 g a10 (a11 0) v10, kX0 g a11 v11, kX4 g a12 (a13 0) v12, kX0 g a13 v13, kX4 g a14 (a15 0) v14, kX0 g a15 v15, kX1 g a16 (a0 0) (a2 0) (a4 0) (a6 0) (a8 0) (a10 0) (a12 0) (a14 0) (st v16 1 (fun _ => ((((v16 1 0) + (8 : Int32)) - (1 : Int32)) - (((v16 1 0) + (8 : Int32)) - (1 : Int32)) / (8 : Int32) * (8 : Int32)))), kX4 g a17 (a18 0) y8.2, kX0 g a18 y8.1]) rfl dX1_takeBack_40 (fun H locs hW => ?_)
      refine lv_aload_n hx hb dX1_takeBack_43 rfl (lv_at hl 1 rfl) ?_
      refine lv_dup hx hb dX1_takeBack_44 rfl ?_
      refine g_get C hW inX1 16 rfl rfl rfl 0 (by decide) (List.mem_of_getElem? (i := 2) rfl) (v := .int (v16 0 0)) rfl dX1_takeBack_45 ?_
      refine lv_iconst (v := (1 : Int32)) hx hb dX1_takeBack_48 (by decide) ?_
      refine lv_isub hx hb dX1_takeBack_49 ?_
      refine g_put C hW inX1 tyX1_ok nmX1 16 rfl rfl rfl 0 (by decide) (List.mem_of_getElem? (i := 2) rfl) rfl rfl rfl rfl (kX1_s0 g a16 (a0 0) (a2 0) (a4 0) (a6 0) (a8 0) (a10 0) (a12 0) (a14 0) (st v16 1 (fun _ => ((((v16 1 0) + (8 : Int32)) - (1 : Int32)) - (((v16 1 0) + (8 : Int32)) - (1 : Int32)) / (8 : Int32) * (8 : Int32)))) ((v16 0 0) - (1 : Int32))) (ch' := [kX4 g a0 (a1 0) v0, kX0 g a1 v1, kX4 g a2 (a3 0) v2, kX0 g a3 v3, kX4 g a4 (a5 0) v4, kX0 g a5 v5, kX4 g a6 (a7 0) v6, kX0 g a7 v7, kX4 g a8 (a9 0) v8, kX0 g a9 v9, kX4 g a10 (a11 0) v10, kX0 g a11 v11, kX4 g a12 (a13 0) v12, kX0 g a13 v13, kX4 g a14 (a15 0) v14, kX0 g a15 v15, kX1 g a16 (a0 0) (a2 0) (a4 0) (a6 0) (a8 0) (a10 0) (a12 0) (a14 0) (st (st v16 1 (fun _ => ((((v16 1 0) + (8 : Int32)) - (1 : Int32)) - (((v16 1 0) + (8 : Int32)) - (1 : Int32)) / (8 : Int32) * (8 : Int32)))) 0 (fun _ => ((v16 0 0) - (1 : Int32)))), kX4 g a17 (a18 0) y8.2, kX0 g a18 y8.1]) rfl dX1_takeBack_50 (fun H locs hW => ?_)
      refine lv_iconst (v := (1 : Int32)) hx hb dX1_takeBack_53 (by decide) ?_
      obtain rfl := Option.some.inj hf
      subst hQ
      exact g_zret C hr hk0 hW rfl rfl rfl dX1_takeBack_54
  replace hf := (if_neg h7).symm.trans hf
  refine g_cV (Cn := RX1) C (ct_X1_rowAt_n g l a16 (a0 0) (a2 0) (a4 0) (a6 0) (a8 0) (a10 0) (a12 0) (a14 0) (v16 1 0) v16 h0 h1 h2 h3 h4 h5 h6 h7) gX1_takeBack_X1_rowAt rfl 1 (by decide +kernel) ⟨rfl, rfl, ⟨Nat.le_of_ble_eq_true rfl, Nat.le_of_ble_eq_true rfl⟩, Nat.le_of_ble_eq_true rfl, Nat.le_of_ble_eq_true rfl⟩ rfl hl (Nat.le_of_ble_eq_true rfl) dX1_takeBack_5 rfl hW hA [16] rfl rfl rfl (ch' := [kX4 g a0 (a1 0) v0, kX0 g a1 v1, kX4 g a2 (a3 0) v2, kX0 g a3 v3, kX4 g a4 (a5 0) v4, kX0 g a5 v5, kX4 g a6 (a7 0) v6, kX0 g a7 v7, kX4 g a8 (a9 0) v8, kX0 g a9 v9, kX4 g a10 (a11 0) v10, kX0 g a11 v11, kX4 g a12 (a13 0) v12, kX0 g a13 v13, kX4 g a14 (a15 0) v14, kX0 g a15 v15, kX1 g a16 (a0 0) (a2 0) (a4 0) (a6 0) (a8 0) (a10 0) (a12 0) (a14 0) v16, kX4 g a17 (a18 0) v17, kX0 g a18 v18]) rfl 16 rfl rfl rfl (fun H locs hW => ?_)
  refine lv_astore_nN (lv' := [(2, .null), (0, .ref (a16 0)), (1, .ref (a17 0))]) hx hb dX1_takeBack_8 rfl hl (by decide) rfl (fun ls hl => ?_)
  refine lv_aload_n hx hb dX1_takeBack_9 rfl (lv_at hl 1 rfl) ?_
  refine g_get C hW inX1 16 rfl rfl rfl 0 (by decide) (List.mem_of_getElem? (i := 2) rfl) (v := .int (v16 0 0)) rfl dX1_takeBack_10 ?_
  refine lv_if_le (tgt := 20) hx hb dX1_takeBack_13 (by decide) (fun h => ?_) (fun h => ?_)
  · replace hf := (if_pos h).symm.trans hf
    refine lv_iconst (v := (0 : Int32)) hx hb dX1_takeBack_20 (by decide) ?_
    obtain rfl := Option.some.inj hf
    subst hQ
    exact g_zret C hr hk0 hW rfl rfl rfl dX1_takeBack_21
  · replace hf := (if_neg h).symm.trans hf
    refine lv_aload_nN hx hb dX1_takeBack_16 rfl (lv_at hl 0 rfl) ?_
    refine lv_ifnonnullN hx hb dX1_takeBack_17 ?_
    refine lv_iconst (v := (0 : Int32)) hx hb dX1_takeBack_20 (by decide) ?_
    obtain rfl := Option.some.inj hf
    subst hQ
    exact g_zret C hr hk0 hW rfl rfl rfl dX1_takeBack_21
