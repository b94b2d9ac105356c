def fX8_isAhead (N : Nat) (x1 : Int32) (x2 : Int32) (v0 : MM) : Option (Int32) := (if ib (((4 : Int32) * x1) + (1 : Int32)) 24 = true then (if ib (((4 : Int32) * x2) + (1 : Int32)) 24 = true then (if ((v0 7) (Int32.toNatClampNeg (((4 : Int32) * x1) + (1 : Int32)))) = ((v0 7) (Int32.toNatClampNeg (((4 : Int32) * x2) + (1 : Int32)))) then (if x2 ≤ x1 then some (0 : Int32) else some (1 : Int32)) else (if ib (((4 : Int32) * x1) + (1 : Int32)) 24 = true then (if ib (((4 : Int32) * x2) + (1 : Int32)) 24 = true then (if ((v0 7) (Int32.toNatClampNeg (((4 : Int32) * x2) + (1 : Int32)))) ≤ ((v0 7) (Int32.toNatClampNeg (((4 : Int32) * x1) + (1 : Int32)))) then some (0 : Int32) else some (1 : Int32)) else none) else none)) else none) else none)
set_option maxHeartbeats 4000000 in
set_option maxRecDepth 100000 in
theorem ct_X8_isAhead (g : GT) (l : Launch) (N : Nat) (a0 : Nat → Nat) (x1 : Int32) (x2 : Int32) (v0 : MM) {y : Int32} (hf : fX8_isAhead N x1 x2 v0 = some y) : ct g l yX8_isAhead wsX8_isAhead (rmk 0 0) [.ref (a0 0), .int x1, .int x2] [kX8 g a0 v0] (some (.int y)) [kX8 g a0 v0] := by
  refine ct_of (cc := cX8_isAhead) (maxL := 3) (ret := (some .boolean)) (by decide) rfl (Nat.le_of_ble_eq_true rfl) ?_
  intro p e s m args below meth c A ls C hr hk0 hA hW hl
  have hx := C.1.1
  have hb := C.1.2.1
  replace hl : lv_has ls 3 [(0, .ref (a0 0)), (1, .int x1), (2, .int x2)] := hl
  obtain ⟨Q, hQ⟩ : ∃ Q, Q = MQ below (ctQ g A (some (.int y)) [kX8 g a0 v0]) args s 0 0 A := ⟨_, rfl⟩
  rw [← hQ]
  obtain ⟨H, hH⟩ : ∃ H, H = s.heap := ⟨_, rfl⟩
  obtain ⟨locs, hL⟩ : ∃ locs : List Loc, locs = [] := ⟨_, rfl⟩
  replace hW : wd g A s.heap [kX8 g a0 v0] H locs := by rw [hH, hL]; exact hW
  suffices hG : W p l e (rmk 0 0) s m args below meth c H locs 0 0 Q (F0 m 0 ls []) by
    rw [hH, hL] at hG; exact hG
  clear hH hL
  have inX8 : ∀ w ∈ wsX80, w ∈ wsX8_isAhead := fun _ h => List.mem_cons_of_mem _ (List.mem_append_right _ (h))
  rw [fX8_isAhead] at hf
  refine lv_aload_n hx hb dX8_isAhead_0 rfl (lv_at hl 0 rfl) ?_
  refine g_get C hW inX8 0 rfl rfl rfl 7 (by decide) (List.mem_of_getElem? (i := 1) rfl) (v := .ref (a0 2)) rfl dX8_isAhead_1 ?_
  refine lv_iconst (v := (4 : Int32)) hx hb dX8_isAhead_4 (by decide) ?_
  refine lv_iload_n hx hb dX8_isAhead_5 rfl (lv_at hl 1 rfl) ?_
  refine lv_imul hx hb dX8_isAhead_6 ?_
  refine lv_iconst (v := (1 : Int32)) hx hb dX8_isAhead_7 (by decide) ?_
  refine lv_iadd hx hb dX8_isAhead_8 ?_
  obtain ⟨hi, hf⟩ := gd_of hf
  refine g_iald C hW 0 2 rfl (f := (v0 7)) rfl (ib_in hi) dX8_isAhead_9 ?_
  refine lv_aload_n hx hb dX8_isAhead_10 rfl (lv_at hl 0 rfl) ?_
  refine g_get C hW inX8 0 rfl rfl rfl 7 (by decide) (List.mem_of_getElem? (i := 1) rfl) (v := .ref (a0 2)) rfl dX8_isAhead_11 ?_
  refine lv_iconst (v := (4 : Int32)) hx hb dX8_isAhead_14 (by decide) ?_
  refine lv_iload_n hx hb dX8_isAhead_15 rfl (lv_at hl 2 rfl) ?_
  refine lv_imul hx hb dX8_isAhead_16 ?_
  refine lv_iconst (v := (1 : Int32)) hx hb dX8_isAhead_17 (by decide) ?_
  refine lv_iadd hx hb dX8_isAhead_18 ?_
  obtain ⟨hi, hf⟩ := gd_of hf
  refine g_iald C hW 0 2 rfl (f := (v0 7)) rfl (ib_in hi) dX8_isAhead_19 ?_
  refine lv_icmp_eq (tgt := 54) hx hb dX8_isAhead_20 (by decide) (fun h => ?_) (fun h => ?_)
  · replace hf := (if_pos h).symm.trans hf
    refine lv_iload_n hx hb dX8_isAhead_54 rfl (lv_at hl 1 rfl) ?_
    refine lv_iload_n hx hb dX8_isAhead_55 rfl (lv_at hl 2 rfl) ?_
    refine lv_icmp_ge (tgt := 63) hx hb dX8_isAhead_56 (by decide) (fun h => ?_) (fun h => ?_)
    · replace hf := (if_pos h).symm.trans hf
      refine lv_iconst (v := (0 : Int32)) hx hb dX8_isAhead_63 (by decide) ?_
      obtain rfl := Option.some.inj hf
      subst hQ
      exact g_zret C hr hk0 hW rfl rfl rfl dX8_isAhead_64
    · replace hf := (if_neg h).symm.trans hf
      refine lv_iconst (v := (1 : Int32)) hx hb dX8_isAhead_59 (by decide) ?_
      refine lv_goto (tgt := 64) hx hb dX8_isAhead_60 (by decide) ?_
      obtain rfl := Option.some.inj hf
      subst hQ
      exact g_zret C hr hk0 hW rfl rfl rfl dX8_isAhead_64
  · replace hf := (if_neg h).symm.trans hf
    refine lv_aload_n hx hb dX8_isAhead_23 rfl (lv_at hl 0 rfl) ?_
    refine g_get C hW inX8 0 rfl rfl rfl 7 (by decide) (List.mem_of_getElem? (i := 1) rfl) (v := .ref (a0 2)) rfl dX8_isAhead_24 ?_
    refine lv_iconst (v := (4 : Int32)) hx hb dX8_isAhead_27 (by decide) ?_
    refine lv_iload_n hx hb dX8_isAhead_28 rfl (lv_at hl 1 rfl) ?_
    refine lv_imul hx hb dX8_isAhead_29 ?_
    refine lv_iconst (v := (1 : Int32)) hx hb dX8_isAhead_30 (by decide) ?_
    refine lv_iadd hx hb dX8_isAhead_31 ?_
    obtain ⟨hi, hf⟩ := gd_of hf
    refine g_iald C hW 0 2 rfl (f := (v0 7)) rfl (ib_in hi) dX8_isAhead_32 ?_
    refine lv_aload_n hx hb dX8_isAhead_33 rfl (lv_at hl 0 rfl) ?_
    refine g_get C hW inX8 0 rfl rfl rfl 7 (by decide) (List.mem_of_getElem? (i := 1) rfl) (v := .ref (a0 2)) rfl dX8_isAhead_34 ?_
    refine lv_iconst (v := (4 : Int32)) hx hb dX8_isAhead_37 (by decide) ?_
    refine lv_iload_n hx hb dX8_isAhead_38 rfl (lv_at hl 2 rfl) ?_
    refine lv_imul hx hb dX8_isAhead_39 ?_
    refine lv_iconst (v := (1 : Int32)) hx hb dX8_isAhead_40 (by decide) ?_
    refine lv_iadd hx hb dX8_isAhead_41 ?_
    obtain ⟨hi, hf⟩ := gd_of hf
    refine g_iald C hW 0 2 rfl (f := (v0 7)) rfl (ib_in hi) dX8_isAhead_42 ?_
    refine lv_icmp_ge (tgt := 50) hx hb dX8_isAhead_43 (by decide) (fun h => ?_) (fun h => ?_)
    · replace hf := (if_pos h).symm.trans hf
      refine lv_iconst (v := (0 : Int32)) hx hb dX8_isAhead_50 (by decide) ?_
      refine lv_goto (tgt := 64) hx hb dX8_isAhead_51 (by decide) ?_
      obtain rfl := Option.some.inj hf
      subst hQ
      exact g_zret C hr hk0 hW rfl rfl rfl dX8_isAhead_64
    · replace hf := (if_neg h).symm.trans hf
      refine lv_iconst (v := (1 : Int32)) hx hb dX8_isAhead_46 (by decide) ?_
      refine lv_goto (tgt := 64) hx hb dX8_isAhead_47 (by decide) ?_
      obtain rfl := Option.some.inj hf
      subst hQ
      exact g_zret C hr hk0 hW rfl rfl rfl dX8_isAhead_64
def fX8_classAt_L16 (N : Nat) (k : Int32 → Int32 → Option (Int32)) (x1 : Int32) (x2 : Int32) (x3 : Int32) (v0 : MM) : Nat → Int32 → Int32 → Option (Int32)
  | 0, _, _ => none
  | n + 1, x4, x5 => (if (v0 2 0) ≤ x5 then k x4 x5 else (if ib ((4 : Int32) * x5) 24 = true then (if ((v0 7) (Int32.toNatClampNeg ((4 : Int32) * x5))) = x1 then ((fX8_isAhead N x5 x3 v0).bind (fun y1 => (if y1 = 0 then fX8_classAt_L16 N k x1 x2 x3 v0 n (x4 + (0 : Int32)) (x5 + 1) else fX8_classAt_L16 N k x1 x2 x3 v0 n (x4 + (1 : Int32)) (x5 + 1)))) else fX8_classAt_L16 N k x1 x2 x3 v0 n (x4 + (0 : Int32)) (x5 + 1)) else none))
def fX8_classAt_L2 (N : Nat) (k : Int32 → Option (Int32)) (x1 : Int32) (x2 : Int32) (v0 : MM) : Nat → Int32 → Option (Int32)
  | 0, _ => none
  | n + 1, x3 => (if (v0 2 0) ≤ x3 then k x3 else (fX8_classAt_L16 N (fun (x4_2 : Int32) (x5_2 : Int32) => (if ib ((4 : Int32) * x3) 24 = true then (if ((v0 7) (Int32.toNatClampNeg ((4 : Int32) * x3))) = x1 then (if x4_2 = x2 then some x3 else fX8_classAt_L2 N k x1 x2 v0 n (x3 + 1)) else fX8_classAt_L2 N k x1 x2 v0 n (x3 + 1)) else none)) x1 x2 x3 v0 N (0 : Int32) (0 : Int32)))
def fX8_classAt (N : Nat) (x1 : Int32) (x2 : Int32) (v0 : MM) : Option (Int32) := (fX8_classAt_L2 N (fun (x3_3 : Int32) => some (-9 : Int32)) x1 x2 v0 N (0 : Int32))
set_option maxHeartbeats 4000000 in
set_option maxRecDepth 100000 in
theorem ct_X8_classAt (g : GT) (l : Launch) (N : Nat) (a0 : Nat → Nat) (x1 : Int32) (x2 : Int32) (v0 : MM) {y : Int32} (hf : fX8_classAt N x1 x2 v0 = some y) : ct g l yX8_classAt wsX8_classAt (rmk 1 22) [.ref (a0 0), .int x1, .int x2] [kX8 g a0 v0] (some (.int y)) [kX8 g a0 v0] := by
  refine ct_of (cc := cX8_classAt) (maxL := 6) (ret := (some .int)) (by decide) rfl (Nat.le_of_ble_eq_true rfl) ?_
  intro p e s m args below meth c A ls C hr hk0 hA hW hl
  have hx := C.1.1
  have hb := C.1.2.1
  replace hl : lv_has ls 6 [(0, .ref (a0 0)), (1, .int x1), (2, .int x2)] := hl
  obtain ⟨Q, hQ⟩ : ∃ Q, Q = MQ below (ctQ g A (some (.int y)) [kX8 g a0 v0]) args s 0 0 A := ⟨_, rfl⟩
  rw [← hQ]
  obtain ⟨H, hH⟩ : ∃ H, H = s.heap := ⟨_, rfl⟩
  obtain ⟨locs, hL⟩ : ∃ locs : List Loc, locs = [] := ⟨_, rfl⟩
  replace hW : wd g A s.heap [kX8 g a0 v0] H locs := by rw [hH, hL]; exact hW
  suffices hG : W p l e (rmk 1 22) s m args below meth c H locs 0 0 Q (F0 m 0 ls []) by
    rw [hH, hL] at hG; exact hG
  clear hH hL
  have inX8 : ∀ w ∈ wsX80, w ∈ wsX8_classAt := fun _ h => List.mem_cons_of_mem _ (List.mem_append_right _ (h))
  have L16 : ∀ (x1 : Int32) (x2 : Int32) (x3 : Int32) (k : Int32 → Int32 → Option (Int32)) (hk : ∀ (x4 : Int32) (x5 : Int32) (H : Heap) (locs : List Loc) (ls : Array Slot), k x4 x5 = some y → wd g A s.heap [kX8 g a0 v0] H locs → lv_has ls 6 [(0, .ref (a0 0)), (1, .int x1), (2, .int x2), (3, .int x3), (4, .int x4), (5, .int x5)] → W p l e (rmk 1 22) s m args below meth c H locs 0 0 Q (F0 m 64 ls [])) (n : Nat) (x4 : Int32) (x5 : Int32) (H : Heap) (locs : List Loc) (ls : Array Slot), fX8_classAt_L16 N k x1 x2 x3 v0 n x4 x5 = some y → wd g A s.heap [kX8 g a0 v0] H locs → lv_has ls 6 [(0, .ref (a0 0)), (1, .int x1), (2, .int x2), (3, .int x3), (4, .int x4), (5, .int x5)] → W p l e (rmk 1 22) s m args below meth c H locs 0 0 Q (F0 m 16 ls []) := by
    intro x1 x2 x3 k hk n
    induction n with
    | zero => intro x4 x5 H locs ls hf; rw [fX8_classAt_L16] at hf; cases hf
    | succ n ih =>
      intro x4 x5 H locs ls hf hW hl
      rw [fX8_classAt_L16] at hf
      refine lv_iload hx hb dX8_classAt_16 (lv_at hl 5 rfl) ?_
      refine lv_aload_n hx hb dX8_classAt_18 rfl (lv_at hl 0 rfl) ?_
      refine g_get C hW inX8 0 rfl rfl rfl 2 (by decide) (List.mem_of_getElem? (i := 1) rfl) (v := .int (v0 2 0)) rfl dX8_classAt_19 ?_
      refine lv_icmp_ge (tgt := 64) hx hb dX8_classAt_22 (by decide) (fun h => ?_) (fun h => ?_)
      · replace hf := (if_pos h).symm.trans hf
        exact hk _ _ H locs ls hf hW (lv_sub hl [0, 1, 2, 3, 4, 5] rfl)
      · replace hf := (if_neg h).symm.trans hf
        refine lv_iload hx hb dX8_classAt_25 (lv_at hl 4 rfl) ?_
        refine lv_aload_n hx hb dX8_classAt_27 rfl (lv_at hl 0 rfl) ?_
        refine g_get C hW inX8 0 rfl rfl rfl 7 (by decide) (List.mem_of_getElem? (i := 2) rfl) (v := .ref (a0 2)) rfl dX8_classAt_28 ?_
        refine lv_iconst (v := (4 : Int32)) hx hb dX8_classAt_31 (by decide) ?_
        refine lv_iload hx hb dX8_classAt_32 (lv_at hl 5 rfl) ?_
        refine lv_imul hx hb dX8_classAt_34 ?_
        obtain ⟨hi, hf⟩ := gd_of hf
        refine g_iald C hW 0 2 rfl (f := (v0 7)) rfl (ib_in hi) dX8_classAt_35 ?_
        refine lv_iload_n hx hb dX8_classAt_36 rfl (lv_at hl 1 rfl) ?_
        refine lv_icmp_ne (tgt := 54) hx hb dX8_classAt_37 (by decide) (fun h => ?_) (fun h => ?_)
        · replace hf := (if_neg h).symm.trans hf
          refine lv_iconst (v := (0 : Int32)) hx hb dX8_classAt_54 (by decide) ?_
          refine lv_iadd hx hb dX8_classAt_55 ?_
          refine lv_istore (lv' := [(4, .int (x4 + (0 : Int32))), (0, .ref (a0 0)), (1, .int x1), (2, .int x2), (3, .int x3), (5, .int x5)]) hx hb dX8_classAt_56 hl (by decide) rfl (fun ls hl => ?_)
          refine lv_iinc (v := (x5 + 1)) (lv' := [(5, .int (x5 + 1)), (4, .int (x4 + (0 : Int32))), (0, .ref (a0 0)), (1, .int x1), (2, .int x2), (3, .int x3)]) hx hb dX8_classAt_58 hl (k := 5) rfl (by first | rfl | decide) (by decide) rfl (fun ls hl => ?_)
          refine lv_goto (tgt := 16) hx hb dX8_classAt_61 (by decide) ?_
          exact ih _ _ H locs ls hf hW (lv_sub hl [2, 3, 4, 5, 1, 0] rfl)
        · replace hf := (if_pos h).symm.trans hf
          refine lv_aload_n hx hb dX8_classAt_40 rfl (lv_at hl 0 rfl) ?_
          refine lv_iload hx hb dX8_classAt_41 (lv_at hl 5 rfl) ?_
          refine lv_iload_n hx hb dX8_classAt_43 rfl (lv_at hl 3 rfl) ?_
          obtain ⟨y1, hc, hf⟩ := bd_of hf
          refine g_cV (Cn := RX8) C (ct_X8_isAhead g l N a0 x5 x3 v0 hc) gX8_classAt_X8_isAhead rfl 2 (by decide +kernel) ⟨rfl, rfl, ⟨Nat.le_of_ble_eq_true rfl, Nat.le_of_ble_eq_true rfl⟩, Nat.le_of_ble_eq_true rfl, Nat.le_of_ble_eq_true rfl⟩ rfl hl (Nat.le_of_ble_eq_true rfl) dX8_classAt_44 rfl hW hA [0] rfl rfl rfl (ch' := [kX8 g a0 v0]) rfl 0 rfl rfl rfl (fun H locs hW => ?_)
          refine lv_if_eq (tgt := 54) hx hb dX8_classAt_47 (by decide) (fun h => ?_) (fun h => ?_)
          · replace hf := (if_pos h).symm.trans hf
            refine lv_iconst (v := (0 : Int32)) hx hb dX8_classAt_54 (by decide) ?_
            refine lv_iadd hx hb dX8_classAt_55 ?_
            refine lv_istore (lv' := [(4, .int (x4 + (0 : Int32))), (0, .ref (a0 0)), (1, .int x1), (2, .int x2), (3, .int x3), (5, .int x5)]) hx hb dX8_classAt_56 hl (by decide) rfl (fun ls hl => ?_)
            refine lv_iinc (v := (x5 + 1)) (lv' := [(5, .int (x5 + 1)), (4, .int (x4 + (0 : Int32))), (0, .ref (a0 0)), (1, .int x1), (2, .int x2), (3, .int x3)]) hx hb dX8_classAt_58 hl (k := 5) rfl (by first | rfl | decide) (by decide) rfl (fun ls hl => ?_)
            refine lv_goto (tgt := 16) hx hb dX8_classAt_61 (by decide) ?_
            exact ih _ _ H locs ls hf hW (lv_sub hl [2, 3, 4, 5, 1, 0] rfl)
          · replace hf := (if_neg h).symm.trans hf
            refine lv_iconst (v := (1 : Int32)) hx hb dX8_classAt_50 (by decide) ?_
            refine lv_goto (tgt := 55) hx hb dX8_classAt_51 (by decide) ?_
            refine lv_iadd hx hb dX8_classAt_55 ?_
            refine lv_istore (lv' := [(4, .int (x4 + (1 : Int32))), (0, .ref (a0 0)), (1, .int x1), (2, .int x2), (3, .int x3), (5, .int x5)]) hx hb dX8_classAt_56 hl (by decide) rfl (fun ls hl => ?_)
            refine lv_iinc (v := (x5 + 1)) (lv' := [(5, .int (x5 + 1)), (4, .int (x4 + (1 : Int32))), (0, .ref (a0 0)), (1, .int x1), (2, .int x2), (3, .int x3)]) hx hb dX8_classAt_58 hl (k := 5) rfl (by first | rfl | decide) (by decide) rfl (fun ls hl => ?_)
            refine lv_goto (tgt := 16) hx hb dX8_classAt_61 (by decide) ?_
            exact ih _ _ H locs ls hf hW (lv_sub hl [2, 3, 4, 5, 1, 0] rfl)
  have L2 : ∀ (x1 : Int32) (x2 : Int32) (k : Int32 → Option (Int32)) (hk : ∀ (x3 : Int32) (H : Heap) (locs : List Loc) (ls : Array Slot), k x3 = some y → wd g A s.heap [kX8 g a0 v0] H locs → lv_has ls 6 [(0, .ref (a0 0)), (1, .int x1), (2, .int x2), (3, .int x3)] → W p l e (rmk 1 22) s m args below meth c H locs 0 0 Q (F0 m 90 ls [])) (n : Nat) (x3 : Int32) (H : Heap) (locs : List Loc) (ls : Array Slot), fX8_classAt_L2 N k x1 x2 v0 n x3 = some y → wd g A s.heap [kX8 g a0 v0] H locs → lv_has ls 6 [(0, .ref (a0 0)), (1, .int x1), (2, .int x2), (3, .int x3)] → W p l e (rmk 1 22) s m args below meth c H locs 0 0 Q (F0 m 2 ls []) := by
    intro x1 x2 k hk n
    induction n with
    | zero => intro x3 H locs ls hf; rw [fX8_classAt_L2] at hf; cases hf
    | succ n ih =>
      intro x3 H locs ls hf hW hl
      rw [fX8_classAt_L2] at hf
      refine lv_iload_n hx hb dX8_classAt_2 rfl (lv_at hl 3 rfl) ?_
      refine lv_aload_n hx hb dX8_classAt_3 rfl (lv_at hl 0 rfl) ?_
      refine g_get C hW inX8 0 rfl rfl rfl 2 (by decide) (List.mem_of_getElem? (i := 1) rfl) (v := .int (v0 2 0)) rfl dX8_classAt_4 ?_
      refine lv_icmp_ge (tgt := 90) hx hb dX8_classAt_7 (by decide) (fun h => ?_) (fun h => ?_)
      · replace hf := (if_pos h).symm.trans hf
        exact hk _ H locs ls hf hW (lv_sub hl [0, 1, 2, 3] rfl)
      · replace hf := (if_neg h).symm.trans hf
        refine lv_iconst (v := (0 : Int32)) hx hb dX8_classAt_10 (by decide) ?_
        refine lv_istore (lv' := [(4, .int (0 : Int32)), (0, .ref (a0 0)), (1, .int x1), (2, .int x2), (3, .int x3)]) hx hb dX8_classAt_11 hl (by decide) rfl (fun ls hl => ?_)
        refine lv_iconst (v := (0 : Int32)) hx hb dX8_classAt_13 (by decide) ?_
        refine lv_istore (lv' := [(5, .int (0 : Int32)), (4, .int (0 : Int32)), (0, .ref (a0 0)), (1, .int x1), (2, .int x2), (3, .int x3)]) hx hb dX8_classAt_14 hl (by decide) rfl (fun ls hl => ?_)
        refine L16 x1 x2 x3 _ (fun x4_2 x5_2 H locs ls hf hW hl => ?_) N (0 : Int32) (0 : Int32) H locs ls hf hW (lv_sub hl [2, 3, 4, 5, 1, 0] rfl)
        refine lv_aload_n hx hb dX8_classAt_64 rfl (lv_at hl 0 rfl) ?_
        refine g_get C hW inX8 0 rfl rfl rfl 7 (by decide) (List.mem_of_getElem? (i := 2) rfl) (v := .ref (a0 2)) rfl dX8_classAt_65 ?_
        refine lv_iconst (v := (4 : Int32)) hx hb dX8_classAt_68 (by decide) ?_
        refine lv_iload_n hx hb dX8_classAt_69 rfl (lv_at hl 3 rfl) ?_
        refine lv_imul hx hb dX8_classAt_70 ?_
        obtain ⟨hi, hf⟩ := gd_of hf
        refine g_iald C hW 0 2 rfl (f := (v0 7)) rfl (ib_in hi) dX8_classAt_71 ?_
        refine lv_iload_n hx hb dX8_classAt_72 rfl (lv_at hl 1 rfl) ?_
        refine lv_icmp_ne (tgt := 84) hx hb dX8_classAt_73 (by decide) (fun h => ?_) (fun h => ?_)
        · replace hf := (if_neg h).symm.trans hf
          refine lv_iinc (v := (x3 + 1)) (lv' := [(3, .int (x3 + 1)), (0, .ref (a0 0)), (1, .int x1), (2, .int x2), (4, .int x4_2), (5, .int x5_2)]) hx hb dX8_classAt_84 hl (k := 3) rfl (by first | rfl | decide) (by decide) rfl (fun ls hl => ?_)
          refine lv_goto (tgt := 2) hx hb dX8_classAt_87 (by decide) ?_
          exact ih _ H locs ls hf hW (lv_sub hl [1, 2, 3, 0] rfl)
        · replace hf := (if_pos h).symm.trans hf
          refine lv_iload hx hb dX8_classAt_76 (lv_at hl 4 rfl) ?_
          refine lv_iload_n hx hb dX8_classAt_78 rfl (lv_at hl 2 rfl) ?_
          refine lv_icmp_ne (tgt := 84) hx hb dX8_classAt_79 (by decide) (fun h => ?_) (fun h => ?_)
          · replace hf := (if_neg h).symm.trans hf
            refine lv_iinc (v := (x3 + 1)) (lv' := [(3, .int (x3 + 1)), (0, .ref (a0 0)), (1, .int x1), (2, .int x2), (4, .int x4_2), (5, .int x5_2)]) hx hb dX8_classAt_84 hl (k := 3) rfl (by first | rfl | decide) (by decide) rfl (fun ls hl => ?_)
            refine lv_goto (tgt := 2) hx hb dX8_classAt_87 (by decide) ?_
            exact ih _ H locs ls hf hW (lv_sub hl [1, 2, 3, 0] rfl)
          · replace hf := (if_pos h).symm.trans hf
            refine lv_iload_n hx hb dX8_classAt_82 rfl (lv_at hl 3 rfl) ?_
            obtain rfl := Option.some.inj hf
            subst hQ
            exact g_iret C hr hk0 hW rfl rfl dX8_classAt_83
  rw [fX8_classAt] at hf
  refine lv_iconst (v := (0 : Int32)) hx hb dX8_classAt_0 (by decide) ?_
  refine lv_istore_n (lv' := [(3, .int (0 : Int32)), (0, .ref (a0 0)), (1, .int x1), (2, .int x2)]) hx hb dX8_classAt_1 rfl hl (by decide) rfl (fun ls hl => ?_)
  refine L2 x1 x2 _ (fun x3_3 H locs ls hf hW hl => ?_) N (0 : Int32) H locs ls hf hW (lv_sub hl [1, 2, 3, 0] rfl)
  refine lv_bipush (v := (-9 : Int32)) hx hb dX8_classAt_90 (by decide) ?_
  obtain rfl := Option.some.inj hf
  subst hQ
  exact g_iret C hr hk0 hW rfl rfl dX8_classAt_92
def fX8_fills_L6 (N : Nat) (k : Int32 → Int32 → MM → Option (Int32 × MM)) (x1 : Int32) (x2 : Int32) (x3 : Int32) (x4 : Int32) : Nat → Int32 → Int32 → MM → Option (Int32 × MM)
  | 0, _, _, _ => none
  | n + 1, x5, x6, v0 => (if (v0 2 0) ≤ x6 then k x5 x6 v0 else ((fX8_classAt N x2 x6 v0).bind (fun y1 => (if y1 = (-9 : Int32) then fX8_fills_L6 N k x1 x2 x3 x4 n x5 (x6 + 1) v0 else ((fX8_ofClass N y1 (0 : Int32)).bind (fun y2 => (if ib y2 667 = true then ((fX8_less N ((v0 16) (Int32.toNatClampNeg y2)) x5).bind (fun y3 => (if x4 = 0 then ((fX8_ofClass N y1 (0 : Int32)).bind (fun y4 => (if ib y4 667 = true then (if ib y4 667 = true then ((fX8_ofClass N y1 (1 : Int32)).bind (fun y5 => (if ib y5 667 = true then (if x4 = 0 then (if ib y5 667 = true then ((fX8_ofBlock N x1 ((4 : Int32) + y1)).bind (fun y6 => (if ib y6 667 = true then (if ib y6 667 = true then fX8_fills_L6 N k x1 x2 x3 x4 n (x5 - y3) (x6 + 1) (st (st (st v0 16 (upd (v0 16) (Int32.toNatClampNeg y4) (((v0 16) (Int32.toNatClampNeg y4)) - y3))) 16 (upd (upd (v0 16) (Int32.toNatClampNeg y4) (((v0 16) (Int32.toNatClampNeg y4)) - y3)) (Int32.toNatClampNeg y5) (((upd (v0 16) (Int32.toNatClampNeg y4) (((v0 16) (Int32.toNatClampNeg y4)) - y3)) (Int32.toNatClampNeg y5)) - (0 : Int32)))) 16 (upd (upd (upd (v0 16) (Int32.toNatClampNeg y4) (((v0 16) (Int32.toNatClampNeg y4)) - y3)) (Int32.toNatClampNeg y5) (((upd (v0 16) (Int32.toNatClampNeg y4) (((v0 16) (Int32.toNatClampNeg y4)) - y3)) (Int32.toNatClampNeg y5)) - (0 : Int32))) (Int32.toNatClampNeg y6) (((upd (upd (v0 16) (Int32.toNatClampNeg y4) (((v0 16) (Int32.toNatClampNeg y4)) - y3)) (Int32.toNatClampNeg y5) (((upd (v0 16) (Int32.toNatClampNeg y4) (((v0 16) (Int32.toNatClampNeg y4)) - y3)) (Int32.toNatClampNeg y5)) - (0 : Int32))) (Int32.toNatClampNeg y6)) + y3))) else none) else none))) else none) else (if ib y5 667 = true then ((fX8_ofBlock N x1 ((4 : Int32) + y1)).bind (fun y7 => (if ib y7 667 = true then (if ib y7 667 = true then fX8_fills_L6 N k x1 x2 x3 x4 n (x5 - y3) (x6 + 1) (st (st (st v0 16 (upd (v0 16) (Int32.toNatClampNeg y4) (((v0 16) (Int32.toNatClampNeg y4)) - y3))) 16 (upd (upd (v0 16) (Int32.toNatClampNeg y4) (((v0 16) (Int32.toNatClampNeg y4)) - y3)) (Int32.toNatClampNeg y5) (((upd (v0 16) (Int32.toNatClampNeg y4) (((v0 16) (Int32.toNatClampNeg y4)) - y3)) (Int32.toNatClampNeg y5)) - y3))) 16 (upd (upd (upd (v0 16) (Int32.toNatClampNeg y4) (((v0 16) (Int32.toNatClampNeg y4)) - y3)) (Int32.toNatClampNeg y5) (((upd (v0 16) (Int32.toNatClampNeg y4) (((v0 16) (Int32.toNatClampNeg y4)) - y3)) (Int32.toNatClampNeg y5)) - y3)) (Int32.toNatClampNeg y7) (((upd (upd (v0 16) (Int32.toNatClampNeg y4) (((v0 16) (Int32.toNatClampNeg y4)) - y3)) (Int32.toNatClampNeg y5) (((upd (v0 16) (Int32.toNatClampNeg y4) (((v0 16) (Int32.toNatClampNeg y4)) - y3)) (Int32.toNatClampNeg y5)) - y3)) (Int32.toNatClampNeg y7)) + y3))) else none) else none))) else none)) else none))) else none) else none))) else ((fX8_ofClass N y1 (1 : Int32)).bind (fun y8 => (if ib y8 667 = true then ((fX8_less N y3 ((v0 16) (Int32.toNatClampNeg y8))).bind (fun y9 => ((fX8_ofClass N y1 (0 : Int32)).bind (fun y10 => (if ib y10 667 = true then (if ib y10 667 = true then ((fX8_ofClass N y1 (1 : Int32)).bind (fun y11 => (if ib y11 667 = true then (if x4 = 0 then (if ib y11 667 = true then ((fX8_ofBlock N x1 ((4 : Int32) + y1)).bind (fun y12 => (if ib y12 667 = true then (if ib y12 667 = true then fX8_fills_L6 N k x1 x2 x3 x4 n (x5 - y9) (x6 + 1) (st (st (st v0 16 (upd (v0 16) (Int32.toNatClampNeg y10) (((v0 16) (Int32.toNatClampNeg y10)) - y9))) 16 (upd (upd (v0 16) (Int32.toNatClampNeg y10) (((v0 16) (Int32.toNatClampNeg y10)) - y9)) (Int32.toNatClampNeg y11) (((upd (v0 16) (Int32.toNatClampNeg y10) (((v0 16) (Int32.toNatClampNeg y10)) - y9)) (Int32.toNatClampNeg y11)) - (0 : Int32)))) 16 (upd (upd (upd (v0 16) (Int32.toNatClampNeg y10) (((v0 16) (Int32.toNatClampNeg y10)) - y9)) (Int32.toNatClampNeg y11) (((upd (v0 16) (Int32.toNatClampNeg y10) (((v0 16) (Int32.toNatClampNeg y10)) - y9)) (Int32.toNatClampNeg y11)) - (0 : Int32))) (Int32.toNatClampNeg y12) (((upd (upd (v0 16) (Int32.toNatClampNeg y10) (((v0 16) (Int32.toNatClampNeg y10)) - y9)) (Int32.toNatClampNeg y11) (((upd (v0 16) (Int32.toNatClampNeg y10) (((v0 16) (Int32.toNatClampNeg y10)) - y9)) (Int32.toNatClampNeg y11)) - (0 : Int32))) (Int32.toNatClampNeg y12)) + y9))) else none) else none))) else none) else (if ib y11 667 = true then ((fX8_ofBlock N x1 ((4 : Int32) + y1)).bind (fun y13 => (if ib y13 667 = true then (if ib y13 667 = true then fX8_fills_L6 N k x1 x2 x3 x4 n (x5 - y9) (x6 + 1) (st (st (st v0 16 (upd (v0 16) (Int32.toNatClampNeg y10) (((v0 16) (Int32.toNatClampNeg y10)) - y9))) 16 (upd (upd (v0 16) (Int32.toNatClampNeg y10) (((v0 16) (Int32.toNatClampNeg y10)) - y9)) (Int32.toNatClampNeg y11) (((upd (v0 16) (Int32.toNatClampNeg y10) (((v0 16) (Int32.toNatClampNeg y10)) - y9)) (Int32.toNatClampNeg y11)) - y9))) 16 (upd (upd (upd (v0 16) (Int32.toNatClampNeg y10) (((v0 16) (Int32.toNatClampNeg y10)) - y9)) (Int32.toNatClampNeg y11) (((upd (v0 16) (Int32.toNatClampNeg y10) (((v0 16) (Int32.toNatClampNeg y10)) - y9)) (Int32.toNatClampNeg y11)) - y9)) (Int32.toNatClampNeg y13) (((upd (upd (v0 16) (Int32.toNatClampNeg y10) (((v0 16) (Int32.toNatClampNeg y10)) - y9)) (Int32.toNatClampNeg y11) (((upd (v0 16) (Int32.toNatClampNeg y10) (((v0 16) (Int32.toNatClampNeg y10)) - y9)) (Int32.toNatClampNeg y11)) - y9)) (Int32.toNatClampNeg y13)) + y9))) else none) else none))) else none)) else none))) else none) else none))))) else none)))))) else none)))))))
def fX8_fills (N : Nat) (x1 : Int32) (x2 : Int32) (x3 : Int32) (x4 : Int32) (v0 : MM) : Option (Int32 × MM) := (fX8_fills_L6 N (fun (x5_14 : Int32) (x6_14 : Int32) (v0_14 : MM) => some ((x3 - x5_14), v0_14)) x1 x2 x3 x4 N x3 (0 : Int32) v0)
set_option maxHeartbeats 4000000 in
set_option maxRecDepth 100000 in
theorem ct_X8_fills (g : GT) (l : Launch) (N : Nat) (a0 : Nat → Nat) (x1 : Int32) (x2 : Int32) (x3 : Int32) (x4 : Int32) (v0 : MM) {y : Int32 × MM} (hf : fX8_fills N x1 x2 x3 x4 v0 = some y) : ct g l yX8_fills wsX8_fills (rmk 2 47) [.ref (a0 0), .int x1, .int x2, .int x3, .int x4] [kX8 g a0 v0] (some (.int y.1)) [kX8 g a0 y.2] := by
  refine ct_of (cc := cX8_fills) (maxL := 9) (ret := (some .int)) (by decide) rfl (Nat.le_of_ble_eq_true rfl) ?_
  intro p e s m args below meth c A ls C hr hk0 hA hW hl
  have hx := C.1.1
  have hb := C.1.2.1
  replace hl : lv_has ls 9 [(0, .ref (a0 0)), (1, .int x1), (2, .int x2), (3, .int x3), (4, .int x4)] := hl
  obtain ⟨Q, hQ⟩ : ∃ Q, Q = MQ below (ctQ g A (some (.int y.1)) [kX8 g a0 y.2]) args s 0 0 A := ⟨_, rfl⟩
  rw [← hQ]
  obtain ⟨H, hH⟩ : ∃ H, H = s.heap := ⟨_, rfl⟩
  obtain ⟨locs, hL⟩ : ∃ locs : List Loc, locs = [] := ⟨_, rfl⟩
  replace hW : wd g A s.heap [kX8 g a0 v0] H locs := by rw [hH, hL]; exact hW
  suffices hG : W p l e (rmk 2 47) s m args below meth c H locs 0 0 Q (F0 m 0 ls []) by
    rw [hH, hL] at hG; exact hG
  clear hH hL
  have inX8 : ∀ w ∈ wsX80, w ∈ wsX8_fills := fun _ h => List.mem_cons_of_mem _ (List.mem_append_right _ (h))
  have L6 : ∀ (x1 : Int32) (x2 : Int32) (x3 : Int32) (x4 : Int32) (k : Int32 → Int32 → MM → Option (Int32 × MM)) (hk : ∀ (x5 : Int32) (x6 : Int32) (v0 : MM) (H : Heap) (locs : List Loc) (ls : Array Slot), k x5 x6 v0 = some y → wd g A s.heap [kX8 g a0 v0] H locs → lv_has ls 9 [(0, .ref (a0 0)), (1, .int x1), (2, .int x2), (3, .int x3), (4, .int x4), (5, .int x5), (6, .int x6)] → W p l e (rmk 2 47) s m args below meth c H locs 0 0 Q (F0 m 149 ls [])) (n : Nat) (x5 : Int32) (x6 : Int32) (v0 : MM) (H : Heap) (locs : List Loc) (ls : Array Slot), fX8_fills_L6 N k x1 x2 x3 x4 n x5 x6 v0 = some y → wd g A s.heap [kX8 g a0 v0] H locs → lv_has ls 9 [(0, .ref (a0 0)), (1, .int x1), (2, .int x2), (3, .int x3), (4, .int x4), (5, .int x5), (6, .int x6)] → W p l e (rmk 2 47) s m args below meth c H locs 0 0 Q (F0 m 6 ls []) := by
    intro x1 x2 x3 x4 k hk n
    induction n with
    | zero => intro x5 x6 v0 H locs ls hf; rw [fX8_fills_L6] at hf; cases hf
    | succ n ih =>
      intro x5 x6 v0 H locs ls hf hW hl
      rw [fX8_fills_L6] at hf
      refine lv_iload hx hb dX8_fills_6 (lv_at hl 6 rfl) ?_
      refine lv_aload_n hx hb dX8_fills_8 rfl (lv_at hl 0 rfl) ?_
      refine g_get C hW inX8 0 rfl rfl rfl 2 (by decide) (List.mem_of_getElem? (i := 1) rfl) (v := .int (v0 2 0)) rfl dX8_fills_9 ?_
      refine lv_icmp_ge (tgt := 149) hx hb dX8_fills_12 (by decide) (fun h => ?_) (fun h => ?_)
      · replace hf := (if_pos h).symm.trans hf
        exact hk _ _ _ H locs ls hf hW (lv_sub hl [0, 1, 2, 3, 4, 5, 6] rfl)
      · replace hf := (if_neg h).symm.trans hf
        refine lv_aload_n hx hb dX8_fills_15 rfl (lv_at hl 0 rfl) ?_
        refine lv_iload_n hx hb dX8_fills_16 rfl (lv_at hl 2 rfl) ?_
        refine lv_iload hx hb dX8_fills_17 (lv_at hl 6 rfl) ?_
        obtain ⟨y1, hc, hf⟩ := bd_of hf
        refine g_cV (Cn := RX8) C (ct_X8_classAt g l N a0 x2 x6 v0 hc) gX8_fills_X8_classAt rfl 2 (by decide +kernel) ⟨rfl, rfl, ⟨Nat.le_of_ble_eq_true rfl, Nat.le_of_ble_eq_true rfl⟩, Nat.le_of_ble_eq_true rfl, Nat.le_of_ble_eq_true rfl⟩ rfl hl (Nat.le_of_ble_eq_true rfl) dX8_fills_19 rfl hW hA [0] rfl rfl rfl (ch' := [kX8 g a0 v0]) rfl 0 rfl rfl rfl (fun H locs hW => ?_)
        refine lv_istore (lv' := [(7, .int y1), (0, .ref (a0 0)), (1, .int x1), (2, .int x2), (3, .int x3), (4, .int x4), (5, .int x5), (6, .int x6)]) hx hb dX8_fills_22 hl (by decide) rfl (fun ls hl => ?_)
        refine lv_iload hx hb dX8_fills_24 (lv_at hl 0 rfl) ?_
        refine lv_bipush (v := (-9 : Int32)) hx hb dX8_fills_26 (by decide) ?_
        refine lv_icmp_eq (tgt := 143) hx hb dX8_fills_28 (by decide) (fun h => ?_) (fun h => ?_)
        · replace hf := (if_pos h).symm.trans hf
          refine lv_iinc (v := (x6 + 1)) (lv' := [(6, .int (x6 + 1)), (7, .int y1), (0, .ref (a0 0)), (1, .int x1), (2, .int x2), (3, .int x3), (4, .int x4), (5, .int x5)]) hx hb dX8_fills_143 hl (k := 7) rfl (by first | rfl | decide) (by decide) rfl (fun ls hl => ?_)
          refine lv_goto (tgt := 6) hx hb dX8_fills_146 (by decide) ?_
          exact ih _ _ _ H locs ls hf hW (lv_sub hl [2, 3, 4, 5, 6, 7, 0] rfl)
        · replace hf := (if_neg h).symm.trans hf
          refine lv_aload_n hx hb dX8_fills_31 rfl (lv_at hl 1 rfl) ?_
          refine g_get C hW inX8 0 rfl rfl rfl 16 (by decide) (List.mem_of_getElem? (i := 2) rfl) (v := .ref (a0 5)) rfl dX8_fills_32 ?_
          refine lv_iload hx hb dX8_fills_35 (lv_at hl 0 rfl) ?_
          refine lv_iconst (v := (0 : Int32)) hx hb dX8_fills_37 (by decide) ?_
          obtain ⟨y2, hc, hf⟩ := bd_of hf
          refine g_cS C (ct_X8_ofClass g l N y1 (0 : Int32) hc) gX8_fills_X8_ofClass rfl 2 (by decide +kernel) ⟨rfl, rfl, ⟨Nat.le_of_ble_eq_true rfl, Nat.le_of_ble_eq_true rfl⟩, Nat.le_of_ble_eq_true rfl, Nat.le_of_ble_eq_true rfl⟩ rfl hl (Nat.le_of_ble_eq_true rfl) dX8_fills_38 rfl hW hA [] rfl rfl rfl (ch' := [kX8 g a0 v0]) rfl (fun H locs hW => ?_)
          obtain ⟨hi, hf⟩ := gd_of hf
          refine g_iald C hW 0 5 rfl (f := (v0 16)) rfl (ib_in hi) dX8_fills_41 ?_
          refine lv_iload hx hb dX8_fills_42 (lv_at hl 6 rfl) ?_
          obtain ⟨y3, hc, hf⟩ := bd_of hf
          refine g_cS C (ct_X8_less g l N ((v0 16) (Int32.toNatClampNeg y2)) x5 hc) gX8_fills_X8_less rfl 2 (by decide +kernel) ⟨rfl, rfl, ⟨Nat.le_of_ble_eq_true rfl, Nat.le_of_ble_eq_true rfl⟩, Nat.le_of_ble_eq_true rfl, Nat.le_of_ble_eq_true rfl⟩ rfl hl (Nat.le_of_ble_eq_true rfl) dX8_fills_44 rfl hW hA [] rfl rfl rfl (ch' := [kX8 g a0 v0]) rfl (fun H locs hW => ?_)
          refine lv_istore (lv' := [(8, .int y3), (7, .int y1), (0, .ref (a0 0)), (1, .int x1), (2, .int x2), (3, .int x3), (4, .int x4), (5, .int x5), (6, .int x6)]) hx hb dX8_fills_47 hl (by decide) rfl (fun ls hl => ?_)
          refine lv_iload hx hb dX8_fills_49 (lv_at hl 6 rfl) ?_
          refine lv_if_eq (tgt := 73) hx hb dX8_fills_51 (by decide) (fun h => ?_) (fun h => ?_)
          · replace hf := (if_pos h).symm.trans hf
            refine lv_iload hx hb dX8_fills_73 (lv_at hl 0 rfl) ?_
            refine lv_istore (lv' := [(8, .int y3), (7, .int y1), (0, .ref (a0 0)), (1, .int x1), (2, .int x2), (3, .int x3), (4, .int x4), (5, .int x5), (6, .int x6)]) hx hb dX8_fills_75 hl (by decide) rfl (fun ls hl => ?_)
            refine lv_aload_n hx hb dX8_fills_77 rfl (lv_at hl 2 rfl) ?_
            refine g_get C hW inX8 0 rfl rfl rfl 16 (by decide) (List.mem_of_getElem? (i := 2) rfl) (v := .ref (a0 5)) rfl dX8_fills_78 ?_
            refine lv_iload hx hb dX8_fills_81 (lv_at hl 1 rfl) ?_
            refine lv_iconst (v := (0 : Int32)) hx hb dX8_fills_83 (by decide) ?_
            obtain ⟨y4, hc, hf⟩ := bd_of hf
            refine g_cS C (ct_X8_ofClass g l N y1 (0 : Int32) hc) gX8_fills_X8_ofClass rfl 2 (by decide +kernel) ⟨rfl, rfl, ⟨Nat.le_of_ble_eq_true rfl, Nat.le_of_ble_eq_true rfl⟩, Nat.le_of_ble_eq_true rfl, Nat.le_of_ble_eq_true rfl⟩ rfl hl (Nat.le_of_ble_eq_true rfl) dX8_fills_84 rfl hW hA [] rfl rfl rfl (ch' := [kX8 g a0 v0]) rfl (fun H locs hW => ?_)
            refine lv_dup2_11 hx hb dX8_fills_87 rfl rfl ?_
            obtain ⟨hi, hf⟩ := gd_of hf
            refine g_iald C hW 0 5 rfl (f := (v0 16)) rfl (ib_in hi) dX8_fills_88 ?_
            refine lv_iload hx hb dX8_fills_89 (lv_at hl 0 rfl) ?_
            refine lv_isub hx hb dX8_fills_91 ?_
            obtain ⟨hi, hf⟩ := gd_of hf
            refine g_iast C hW 0 5 rfl (f := (v0 16)) rfl (ib_in hi) (kX8_w16 g a0 v0 (upd (v0 16) (Int32.toNatClampNeg y4) (((v0 16) (Int32.toNatClampNeg y4)) - y3))) (ch' := [kX8 g a0 (st v0 16 (upd (v0 16) (Int32.toNatClampNeg y4) (((v0 16) (Int32.toNatClampNeg y4)) - y3)))]) rfl dX8_fills_92 (fun H locs hW => ?_)
            refine lv_aload_n hx hb dX8_fills_93 rfl (lv_at hl 2 rfl) ?_
            refine g_get C hW inX8 0 rfl rfl rfl 16 (by decide) (List.mem_of_getElem? (i := 2) rfl) (v := .ref (a0 5)) rfl dX8_fills_94 ?_
            refine lv_iload hx hb dX8_fills_97 (lv_at hl 1 rfl) ?_
            refine lv_iconst (v := (1 : Int32)) hx hb dX8_fills_99 (by decide) ?_
            obtain ⟨y5, hc, hf⟩ := bd_of hf
            refine g_cS C (ct_X8_ofClass g l N y1 (1 : Int32) hc) gX8_fills_X8_ofClass rfl 2 (by decide +kernel) ⟨rfl, rfl, ⟨Nat.le_of_ble_eq_true rfl, Nat.le_of_ble_eq_true rfl⟩, Nat.le_of_ble_eq_true rfl, Nat.le_of_ble_eq_true rfl⟩ rfl hl (Nat.le_of_ble_eq_true rfl) dX8_fills_100 rfl hW hA [] rfl rfl rfl (ch' := [kX8 g a0 (st v0 16 (upd (v0 16) (Int32.toNatClampNeg y4) (((v0 16) (Int32.toNatClampNeg y4)) - y3)))]) rfl (fun H locs hW => ?_)
            refine lv_dup2_11 hx hb dX8_fills_103 rfl rfl ?_
            obtain ⟨hi, hf⟩ := gd_of hf
            refine g_iald C hW 0 5 rfl (f := (upd (v0 16) (Int32.toNatClampNeg y4) (((v0 16) (Int32.toNatClampNeg y4)) - y3))) rfl (ib_in hi) dX8_fills_104 ?_
            refine lv_iload hx hb dX8_fills_105 (lv_at hl 6 rfl) ?_
            refine lv_if_eq (tgt := 115) hx hb dX8_fills_107 (by decide) (fun h => ?_) (fun h => ?_)
            · replace hf := (if_pos h).symm.trans hf
              refine lv_iconst (v := (0 : Int32)) hx hb dX8_fills_115 (by decide) ?_
              refine lv_isub hx hb dX8_fills_116 ?_
              obtain ⟨hi, hf⟩ := gd_of hf
              refine g_iast C hW 0 5 rfl (f := (upd (v0 16) (Int32.toNatClampNeg y4) (((v0 16) (Int32.toNatClampNeg y4)) - y3))) rfl (ib_in hi) (kX8_w16 g a0 (st v0 16 (upd (v0 16) (Int32.toNatClampNeg y4) (((v0 16) (Int32.toNatClampNeg y4)) - y3))) (upd (upd (v0 16) (Int32.toNatClampNeg y4) (((v0 16) (Int32.toNatClampNeg y4)) - y3)) (Int32.toNatClampNeg y5) (((upd (v0 16) (Int32.toNatClampNeg y4) (((v0 16) (Int32.toNatClampNeg y4)) - y3)) (Int32.toNatClampNeg y5)) - (0 : Int32)))) (ch' := [kX8 g a0 (st (st v0 16 (upd (v0 16) (Int32.toNatClampNeg y4) (((v0 16) (Int32.toNatClampNeg y4)) - y3))) 16 (upd (upd (v0 16) (Int32.toNatClampNeg y4) (((v0 16) (Int32.toNatClampNeg y4)) - y3)) (Int32.toNatClampNeg y5) (((upd (v0 16) (Int32.toNatClampNeg y4) (((v0 16) (Int32.toNatClampNeg y4)) - y3)) (Int32.toNatClampNeg y5)) - (0 : Int32))))]) rfl dX8_fills_117 (fun H locs hW => ?_)
              refine lv_aload_n hx hb dX8_fills_118 rfl (lv_at hl 2 rfl) ?_
              refine g_get C hW inX8 0 rfl rfl rfl 16 (by decide) (List.mem_of_getElem? (i := 2) rfl) (v := .ref (a0 5)) rfl dX8_fills_119 ?_
              refine lv_iload_n hx hb dX8_fills_122 rfl (lv_at hl 3 rfl) ?_
              refine lv_iconst (v := (4 : Int32)) hx hb dX8_fills_123 (by decide) ?_
              refine lv_iload hx hb dX8_fills_124 (lv_at hl 1 rfl) ?_
              refine lv_iadd hx hb dX8_fills_126 ?_
              obtain ⟨y6, hc, hf⟩ := bd_of hf
              refine g_cS C (ct_X8_ofBlock g l N x1 ((4 : Int32) + y1) hc) gX8_fills_X8_ofBlock rfl 2 (by decide +kernel) ⟨rfl, rfl, ⟨Nat.le_of_ble_eq_true rfl, Nat.le_of_ble_eq_true rfl⟩, Nat.le_of_ble_eq_true rfl, Nat.le_of_ble_eq_true rfl⟩ rfl hl (Nat.le_of_ble_eq_true rfl) dX8_fills_127 rfl hW hA [] rfl rfl rfl (ch' := [kX8 g a0 (st (st v0 16 (upd (v0 16) (Int32.toNatClampNeg y4) (((v0 16) (Int32.toNatClampNeg y4)) - y3))) 16 (upd (upd (v0 16) (Int32.toNatClampNeg y4) (((v0 16) (Int32.toNatClampNeg y4)) - y3)) (Int32.toNatClampNeg y5) (((upd (v0 16) (Int32.toNatClampNeg y4) (((v0 16) (Int32.toNatClampNeg y4)) - y3)) (Int32.toNatClampNeg y5)) - (0 : Int32))))]) rfl (fun H locs hW => ?_)
              refine lv_dup2_11 hx hb dX8_fills_130 rfl rfl ?_
              obtain ⟨hi, hf⟩ := gd_of hf
              refine g_iald C hW 0 5 rfl (f := (upd (upd (v0 16) (Int32.toNatClampNeg y4) (((v0 16) (Int32.toNatClampNeg y4)) - y3)) (Int32.toNatClampNeg y5) (((upd (v0 16) (Int32.toNatClampNeg y4) (((v0 16) (Int32.toNatClampNeg y4)) - y3)) (Int32.toNatClampNeg y5)) - (0 : Int32)))) rfl (ib_in hi) dX8_fills_131 ?_
              refine lv_iload hx hb dX8_fills_132 (lv_at hl 0 rfl) ?_
              refine lv_iadd hx hb dX8_fills_134 ?_
              obtain ⟨hi, hf⟩ := gd_of hf
              refine g_iast C hW 0 5 rfl (f := (upd (upd (v0 16) (Int32.toNatClampNeg y4) (((v0 16) (Int32.toNatClampNeg y4)) - y3)) (Int32.toNatClampNeg y5) (((upd (v0 16) (Int32.toNatClampNeg y4) (((v0 16) (Int32.toNatClampNeg y4)) - y3)) (Int32.toNatClampNeg y5)) - (0 : Int32)))) rfl (ib_in hi) (kX8_w16 g a0 (st (st v0 16 (upd (v0 16) (Int32.toNatClampNeg y4) (((v0 16) (Int32.toNatClampNeg y4)) - y3))) 16 (upd (upd (v0 16) (Int32.toNatClampNeg y4) (((v0 16) (Int32.toNatClampNeg y4)) - y3)) (Int32.toNatClampNeg y5) (((upd (v0 16) (Int32.toNatClampNeg y4) (((v0 16) (Int32.toNatClampNeg y4)) - y3)) (Int32.toNatClampNeg y5)) - (0 : Int32)))) (upd (upd (upd (v0 16) (Int32.toNatClampNeg y4) (((v0 16) (Int32.toNatClampNeg y4)) - y3)) (Int32.toNatClampNeg y5) (((upd (v0 16) (Int32.toNatClampNeg y4) (((v0 16) (Int32.toNatClampNeg y4)) - y3)) (Int32.toNatClampNeg y5)) - (0 : Int32))) (Int32.toNatClampNeg y6) (((upd (upd (v0 16) (Int32.toNatClampNeg y4) (((v0 16) (Int32.toNatClampNeg y4)) - y3)) (Int32.toNatClampNeg y5) (((upd (v0 16) (Int32.toNatClampNeg y4) (((v0 16) (Int32.toNatClampNeg y4)) - y3)) (Int32.toNatClampNeg y5)) - (0 : Int32))) (Int32.toNatClampNeg y6)) + y3))) (ch' := [kX8 g a0 (st (st (st v0 16 (upd (v0 16) (Int32.toNatClampNeg y4) (((v0 16) (Int32.toNatClampNeg y4)) - y3))) 16 (upd (upd (v0 16) (Int32.toNatClampNeg y4) (((v0 16) (Int32.toNatClampNeg y4)) - y3)) (Int32.toNatClampNeg y5) (((upd (v0 16) (Int32.toNatClampNeg y4) (((v0 16) (Int32.toNatClampNeg y4)) - y3)) (Int32.toNatClampNeg y5)) - (0 : Int32)))) 16 (upd (upd (upd (v0 16) (Int32.toNatClampNeg y4) (((v0 16) (Int32.toNatClampNeg y4)) - y3)) (Int32.toNatClampNeg y5) (((upd (v0 16) (Int32.toNatClampNeg y4) (((v0 16) (Int32.toNatClampNeg y4)) - y3)) (Int32.toNatClampNeg y5)) - (0 : Int32))) (Int32.toNatClampNeg y6) (((upd (upd (v0 16) (Int32.toNatClampNeg y4) (((v0 16) (Int32.toNatClampNeg y4)) - y3)) (Int32.toNatClampNeg y5) (((upd (v0 16) (Int32.toNatClampNeg y4) (((v0 16) (Int32.toNatClampNeg y4)) - y3)) (Int32.toNatClampNeg y5)) - (0 : Int32))) (Int32.toNatClampNeg y6)) + y3)))]) rfl dX8_fills_135 (fun H locs hW => ?_)
              refine lv_iload hx hb dX8_fills_136 (lv_at hl 7 rfl) ?_
              refine lv_iload hx hb dX8_fills_138 (lv_at hl 0 rfl) ?_
              refine lv_isub hx hb dX8_fills_140 ?_
              refine lv_istore (lv' := [(5, .int (x5 - y3)), (8, .int y3), (7, .int y1), (0, .ref (a0 0)), (1, .int x1), (2, .int x2), (3, .int x3), (4, .int x4), (6, .int x6)]) hx hb dX8_fills_141 hl (by decide) rfl (fun ls hl => ?_)
              refine lv_iinc (v := (x6 + 1)) (lv' := [(6, .int (x6 + 1)), (5, .int (x5 - y3)), (8, .int y3), (7, .int y1), (0, .ref (a0 0)), (1, .int x1), (2, .int x2), (3, .int x3), (4, .int x4)]) hx hb dX8_fills_143 hl (k := 8) rfl (by first | rfl | decide) (by decide) rfl (fun ls hl => ?_)
              refine lv_goto (tgt := 6) hx hb dX8_fills_146 (by decide) ?_
              exact ih _ _ _ H locs ls hf hW (lv_sub hl [4, 5, 6, 7, 8, 1, 0] rfl)
            · replace hf := (if_neg h).symm.trans hf
              refine lv_iload hx hb dX8_fills_110 (lv_at hl 0 rfl) ?_
              refine lv_goto (tgt := 116) hx hb dX8_fills_112 (by decide) ?_
              refine lv_isub hx hb dX8_fills_116 ?_
              obtain ⟨hi, hf⟩ := gd_of hf
              refine g_iast C hW 0 5 rfl (f := (upd (v0 16) (Int32.toNatClampNeg y4) (((v0 16) (Int32.toNatClampNeg y4)) - y3))) rfl (ib_in hi) (kX8_w16 g a0 (st v0 16 (upd (v0 16) (Int32.toNatClampNeg y4) (((v0 16) (Int32.toNatClampNeg y4)) - y3))) (upd (upd (v0 16) (Int32.toNatClampNeg y4) (((v0 16) (Int32.toNatClampNeg y4)) - y3)) (Int32.toNatClampNeg y5) (((upd (v0 16) (Int32.toNatClampNeg y4) (((v0 16) (Int32.toNatClampNeg y4)) - y3)) (Int32.toNatClampNeg y5)) - y3))) (ch' := [kX8 g a0 (st (st v0 16 (upd (v0 16) (Int32.toNatClampNeg y4) (((v0 16) (Int32.toNatClampNeg y4)) - y3))) 16 (upd (upd (v0 16) (Int32.toNatClampNeg y4) (((v0 16) (Int32.toNatClampNeg y4)) - y3)) (Int32.toNatClampNeg y5) (((upd (v0 16) (Int32.toNatClampNeg y4) (((v0 16) (Int32.toNatClampNeg y4)) - y3)) (Int32.toNatClampNeg y5)) - y3)))]) rfl dX8_fills_117 (fun H locs hW => ?_)
              refine lv_aload_n hx hb dX8_fills_118 rfl (lv_at hl 2 rfl) ?_
              refine g_get C hW inX8 0 rfl rfl rfl 16 (by decide) (List.mem_of_getElem? (i := 2) rfl) (v := .ref (a0 5)) rfl dX8_fills_119 ?_
              refine lv_iload_n hx hb dX8_fills_122 rfl (lv_at hl 3 rfl) ?_
              refine lv_iconst (v := (4 : Int32)) hx hb dX8_fills_123 (by decide) ?_
              refine lv_iload hx hb dX8_fills_124 (lv_at hl 1 rfl) ?_
              refine lv_iadd hx hb dX8_fills_126 ?_
              obtain ⟨y7, hc, hf⟩ := bd_of hf
              refine g_cS C (ct_X8_ofBlock g l N x1 ((4 : Int32) + y1) hc) gX8_fills_X8_ofBlock rfl 2 (by decide +kernel) ⟨rfl, rfl, ⟨Nat.le_of_ble_eq_true rfl, Nat.le_of_ble_eq_true rfl⟩, Nat.le_of_ble_eq_true rfl, Nat.le_of_ble_eq_true rfl⟩ rfl hl (Nat.le_of_ble_eq_true rfl) dX8_fills_127 rfl hW hA [] rfl rfl rfl (ch' := [kX8 g a0 (st (st v0 16 (upd (v0 16) (Int32.toNatClampNeg y4) (((v0 16) (Int32.toNatClampNeg y4)) - y3))) 16 (upd (upd (v0 16) (Int32.toNatClampNeg y4) (((v0 16) (Int32.toNatClampNeg y4)) - y3)) (Int32.toNatClampNeg y5) (((upd (v0 16) (Int32.toNatClampNeg y4) (((v0 16) (Int32.toNatClampNeg y4)) - y3)) (Int32.toNatClampNeg y5)) - y3)))]) rfl (fun H locs hW => ?_)
              refine lv_dup2_11 hx hb dX8_fills_130 rfl rfl ?_
              obtain ⟨hi, hf⟩ := gd_of hf
              refine g_iald C hW 0 5 rfl (f := (upd (upd (v0 16) (Int32.toNatClampNeg y4) (((v0 16) (Int32.toNatClampNeg y4)) - y3)) (Int32.toNatClampNeg y5) (((upd (v0 16) (Int32.toNatClampNeg y4) (((v0 16) (Int32.toNatClampNeg y4)) - y3)) (Int32.toNatClampNeg y5)) - y3))) rfl (ib_in hi) dX8_fills_131 ?_
              refine lv_iload hx hb dX8_fills_132 (lv_at hl 0 rfl) ?_
              refine lv_iadd hx hb dX8_fills_134 ?_
              obtain ⟨hi, hf⟩ := gd_of hf
              refine g_iast C hW 0 5 rfl (f := (upd (upd (v0 16) (Int32.toNatClampNeg y4) (((v0 16) (Int32.toNatClampNeg y4)) - y3)) (Int32.toNatClampNeg y5) (((upd (v0 16) (Int32.toNatClampNeg y4) (((v0 16) (Int32.toNatClampNeg y4)) - y3)) (Int32.toNatClampNeg y5)) - y3))) rfl (ib_in hi) (kX8_w16 g a0 (st (st v0 16 (upd (v0 16) (Int32.toNatClampNeg y4) (((v0 16) (Int32.toNatClampNeg y4)) - y3))) 16 (upd (upd (v0 16) (Int32.toNatClampNeg y4) (((v0 16) (Int32.toNatClampNeg y4)) - y3)) (Int32.toNatClampNeg y5) (((upd (v0 16) (Int32.toNatClampNeg y4) (((v0 16) (Int32.toNatClampNeg y4)) - y3)) (Int32.toNatClampNeg y5)) - y3))) (upd (upd (upd (v0 16) (Int32.toNatClampNeg y4) (((v0 16) (Int32.toNatClampNeg y4)) - y3)) (Int32.toNatClampNeg y5) (((upd (v0 16) (Int32.toNatClampNeg y4) (((v0 16) (Int32.toNatClampNeg y4)) - y3)) (Int32.toNatClampNeg y5)) - y3)) (Int32.toNatClampNeg y7) (((upd (upd (v0 16) (Int32.toNatClampNeg y4) (((v0 16) (Int32.toNatClampNeg y4)) - y3)) (Int32.toNatClampNeg y5) (((upd (v0 16) (Int32.toNatClampNeg y4) (((v0 16) (Int32.toNatClampNeg y4)) - y3)) (Int32.toNatClampNeg y5)) - y3)) (Int32.toNatClampNeg y7)) + y3))) (ch' := [kX8 g a0 (st (st (st v0 16 (upd (v0 16) (Int32.toNatClampNeg y4) (((v0 16) (Int32.toNatClampNeg y4)) - y3))) 16 (upd (upd (v0 16) (Int32.toNatClampNeg y4) (((v0 16) (Int32.toNatClampNeg y4)) - y3)) (Int32.toNatClampNeg y5) (((upd (v0 16) (Int32.toNatClampNeg y4) (((v0 16) (Int32.toNatClampNeg y4)) - y3)) (Int32.toNatClampNeg y5)) - y3))) 16 (upd (upd (upd (v0 16) (Int32.toNatClampNeg y4) (((v0 16) (Int32.toNatClampNeg y4)) - y3)) (Int32.toNatClampNeg y5) (((upd (v0 16) (Int32.toNatClampNeg y4) (((v0 16) (Int32.toNatClampNeg y4)) - y3)) (Int32.toNatClampNeg y5)) - y3)) (Int32.toNatClampNeg y7) (((upd (upd (v0 16) (Int32.toNatClampNeg y4) (((v0 16) (Int32.toNatClampNeg y4)) - y3)) (Int32.toNatClampNeg y5) (((upd (v0 16) (Int32.toNatClampNeg y4) (((v0 16) (Int32.toNatClampNeg y4)) - y3)) (Int32.toNatClampNeg y5)) - y3)) (Int32.toNatClampNeg y7)) + y3)))]) rfl dX8_fills_135 (fun H locs hW => ?_)
              refine lv_iload hx hb dX8_fills_136 (lv_at hl 7 rfl) ?_
              refine lv_iload hx hb dX8_fills_138 (lv_at hl 0 rfl) ?_
              refine lv_isub hx hb dX8_fills_140 ?_
              refine lv_istore (lv' := [(5, .int (x5 - y3)), (8, .int y3), (7, .int y1), (0, .ref (a0 0)), (1, .int x1), (2, .int x2), (3, .int x3), (4, .int x4), (6, .int x6)]) hx hb dX8_fills_141 hl (by decide) rfl (fun ls hl => ?_)
              refine lv_iinc (v := (x6 + 1)) (lv' := [(6, .int (x6 + 1)), (5, .int (x5 - y3)), (8, .int y3), (7, .int y1), (0, .ref (a0 0)), (1, .int x1), (2, .int x2), (3, .int x3), (4, .int x4)]) hx hb dX8_fills_143 hl (k := 8) rfl (by first | rfl | decide) (by decide) rfl (fun ls hl => ?_)
              refine lv_goto (tgt := 6) hx hb dX8_fills_146 (by decide) ?_
              exact ih _ _ _ H locs ls hf hW (lv_sub hl [4, 5, 6, 7, 8, 1, 0] rfl)
          · replace hf := (if_neg h).symm.trans hf
            refine lv_iload hx hb dX8_fills_54 (lv_at hl 0 rfl) ?_
            refine lv_aload_n hx hb dX8_fills_56 rfl (lv_at hl 2 rfl) ?_
            refine g_get C hW inX8 0 rfl rfl rfl 16 (by decide) (List.mem_of_getElem? (i := 2) rfl) (v := .ref (a0 5)) rfl dX8_fills_57 ?_
            refine lv_iload hx hb dX8_fills_60 (lv_at hl 1 rfl) ?_
            refine lv_iconst (v := (1 : Int32)) hx hb dX8_fills_62 (by decide) ?_
            obtain ⟨y8, hc, hf⟩ := bd_of hf
            refine g_cS C (ct_X8_ofClass g l N y1 (1 : Int32) hc) gX8_fills_X8_ofClass rfl 2 (by decide +kernel) ⟨rfl, rfl, ⟨Nat.le_of_ble_eq_true rfl, Nat.le_of_ble_eq_true rfl⟩, Nat.le_of_ble_eq_true rfl, Nat.le_of_ble_eq_true rfl⟩ rfl hl (Nat.le_of_ble_eq_true rfl) dX8_fills_63 rfl hW hA [] rfl rfl rfl (ch' := [kX8 g a0 v0]) rfl (fun H locs hW => ?_)
            obtain ⟨hi, hf⟩ := gd_of hf
            refine g_iald C hW 0 5 rfl (f := (v0 16)) rfl (ib_in hi) dX8_fills_66 ?_
            obtain ⟨y9, hc, hf⟩ := bd_of hf
            refine g_cS C (ct_X8_less g l N y3 ((v0 16) (Int32.toNatClampNeg y8)) hc) gX8_fills_X8_less rfl 2 (by decide +kernel) ⟨rfl, rfl, ⟨Nat.le_of_ble_eq_true rfl, Nat.le_of_ble_eq_true rfl⟩, Nat.le_of_ble_eq_true rfl, Nat.le_of_ble_eq_true rfl⟩ rfl hl (Nat.le_of_ble_eq_true rfl) dX8_fills_67 rfl hW hA [] rfl rfl rfl (ch' := [kX8 g a0 v0]) rfl (fun H locs hW => ?_)
            refine lv_goto (tgt := 75) hx hb dX8_fills_70 (by decide) ?_
            refine lv_istore (lv' := [(8, .int y9), (7, .int y1), (0, .ref (a0 0)), (1, .int x1), (2, .int x2), (3, .int x3), (4, .int x4), (5, .int x5), (6, .int x6)]) hx hb dX8_fills_75 hl (by decide) rfl (fun ls hl => ?_)
            refine lv_aload_n hx hb dX8_fills_77 rfl (lv_at hl 2 rfl) ?_
            refine g_get C hW inX8 0 rfl rfl rfl 16 (by decide) (List.mem_of_getElem? (i := 2) rfl) (v := .ref (a0 5)) rfl dX8_fills_78 ?_
            refine lv_iload hx hb dX8_fills_81 (lv_at hl 1 rfl) ?_
            refine lv_iconst (v := (0 : Int32)) hx hb dX8_fills_83 (by decide) ?_
            obtain ⟨y10, hc, hf⟩ := bd_of hf
            refine g_cS C (ct_X8_ofClass g l N y1 (0 : Int32) hc) gX8_fills_X8_ofClass rfl 2 (by decide +kernel) ⟨rfl, rfl, ⟨Nat.le_of_ble_eq_true rfl, Nat.le_of_ble_eq_true rfl⟩, Nat.le_of_ble_eq_true rfl, Nat.le_of_ble_eq_true rfl⟩ rfl hl (Nat.le_of_ble_eq_true rfl) dX8_fills_84 rfl hW hA [] rfl rfl rfl (ch' := [kX8 g a0 v0]) rfl (fun H locs hW => ?_)
            refine lv_dup2_11 hx hb dX8_fills_87 rfl rfl ?_
            obtain ⟨hi, hf⟩ := gd_of hf
            refine g_iald C hW 0 5 rfl (f := (v0 16)) rfl (ib_in hi) dX8_fills_88 ?_
            refine lv_iload hx hb dX8_fills_89 (lv_at hl 0 rfl) ?_
            refine lv_isub hx hb dX8_fills_91 ?_
            obtain ⟨hi, hf⟩ := gd_of hf
            refine g_iast C hW 0 5 rfl (f := (v0 16)) rfl (ib_in hi) (kX8_w16 g a0 v0 (upd (v0 16) (Int32.toNatClampNeg y10) (((v0 16) (Int32.toNatClampNeg y10)) - y9))) (ch' := [kX8 g a0 (st v0 16 (upd (v0 16) (Int32.toNatClampNeg y10) (((v0 16) (Int32.toNatClampNeg y10)) - y9)))]) rfl dX8_fills_92 (fun H locs hW => ?_)
            refine lv_aload_n hx hb dX8_fills_93 rfl (lv_at hl 2 rfl) ?_
            refine g_get C hW inX8 0 rfl rfl rfl 16 (by decide) (List.mem_of_getElem? (i := 2) rfl) (v := .ref (a0 5)) rfl dX8_fills_94 ?_
            refine lv_iload hx hb dX8_fills_97 (lv_at hl 1 rfl) ?_
            refine lv_iconst (v := (1 : Int32)) hx hb dX8_fills_99 (by decide) ?_
            obtain ⟨y11, hc, hf⟩ := bd_of hf
            refine g_cS C (ct_X8_ofClass g l N y1 (1 : Int32) hc) gX8_fills_X8_ofClass rfl 2 (by decide +kernel) ⟨rfl, rfl, ⟨Nat.le_of_ble_eq_true rfl, Nat.le_of_ble_eq_true rfl⟩, Nat.le_of_ble_eq_true rfl, Nat.le_of_ble_eq_true rfl⟩ rfl hl (Nat.le_of_ble_eq_true rfl) dX8_fills_100 rfl hW hA [] rfl rfl rfl (ch' := [kX8 g a0 (st v0 16 (upd (v0 16) (Int32.toNatClampNeg y10) (((v0 16) (Int32.toNatClampNeg y10)) - y9)))]) rfl (fun H locs hW => ?_)
            refine lv_dup2_11 hx hb dX8_fills_103 rfl rfl ?_
            obtain ⟨hi, hf⟩ := gd_of hf
            refine g_iald C hW 0 5 rfl (f := (upd (v0 16) (Int32.toNatClampNeg y10) (((v0 16) (Int32.toNatClampNeg y10)) - y9))) rfl (ib_in hi) dX8_fills_104 ?_
            refine lv_iload hx hb dX8_fills_105 (lv_at hl 6 rfl) ?_
            refine lv_if_eq (tgt := 115) hx hb dX8_fills_107 (by decide) (fun h => ?_) (fun h => ?_)
            · replace hf := (if_pos h).symm.trans hf
              refine lv_iconst (v := (0 : Int32)) hx hb dX8_fills_115 (by decide) ?_
              refine lv_isub hx hb dX8_fills_116 ?_
              obtain ⟨hi, hf⟩ := gd_of hf
              refine g_iast C hW 0 5 rfl (f := (upd (v0 16) (Int32.toNatClampNeg y10) (((v0 16) (Int32.toNatClampNeg y10)) - y9))) rfl (ib_in hi) (kX8_w16 g a0 (st v0 16 (upd (v0 16) (Int32.toNatClampNeg y10) (((v0 16) (Int32.toNatClampNeg y10)) - y9))) (upd (upd (v0 16) (Int32.toNatClampNeg y10) (((v0 16) (Int32.toNatClampNeg y10)) - y9)) (Int32.toNatClampNeg y11) (((upd (v0 16) (Int32.toNatClampNeg y10) (((v0 16) (Int32.toNatClampNeg y10)) - y9)) (Int32.toNatClampNeg y11)) - (0 : Int32)))) (ch' := [kX8 g a0 (st (st v0 16 (upd (v0 16) (Int32.toNatClampNeg y10) (((v0 16) (Int32.toNatClampNeg y10)) - y9))) 16 (upd (upd (v0 16) (Int32.toNatClampNeg y10) (((v0 16) (Int32.toNatClampNeg y10)) - y9)) (Int32.toNatClampNeg y11) (((upd (v0 16) (Int32.toNatClampNeg y10) (((v0 16) (Int32.toNatClampNeg y10)) - y9)) (Int32.toNatClampNeg y11)) - (0 : Int32))))]) rfl dX8_fills_117 (fun H locs hW => ?_)
              refine lv_aload_n hx hb dX8_fills_118 rfl (lv_at hl 2 rfl) ?_
              refine g_get C hW inX8 0 rfl rfl rfl 16 (by decide) (List.mem_of_getElem? (i := 2) rfl) (v := .ref (a0 5)) rfl dX8_fills_119 ?_
              refine lv_iload_n hx hb dX8_fills_122 rfl (lv_at hl 3 rfl) ?_
              refine lv_iconst (v := (4 : Int32)) hx hb dX8_fills_123 (by decide) ?_
              refine lv_iload hx hb dX8_fills_124 (lv_at hl 1 rfl) ?_
              refine lv_iadd hx hb dX8_fills_126 ?_
              obtain ⟨y12, hc, hf⟩ := bd_of hf
              refine g_cS C (ct_X8_ofBlock g l N x1 ((4 : Int32) + y1) hc) gX8_fills_X8_ofBlock rfl 2 (by decide +kernel) ⟨rfl, rfl, ⟨Nat.le_of_ble_eq_true rfl, Nat.le_of_ble_eq_true rfl⟩, Nat.le_of_ble_eq_true rfl, Nat.le_of_ble_eq_true rfl⟩ rfl hl (Nat.le_of_ble_eq_true rfl) dX8_fills_127 rfl hW hA [] rfl rfl rfl (ch' := [kX8 g a0 (st (st v0 16 (upd (v0 16) (Int32.toNatClampNeg y10) (((v0 16) (Int32.toNatClampNeg y10)) - y9))) 16 (upd (upd (v0 16) (Int32.toNatClampNeg y10) (((v0 16) (Int32.toNatClampNeg y10)) - y9)) (Int32.toNatClampNeg y11) (((upd (v0 16) (Int32.toNatClampNeg y10) (((v0 16) (Int32.toNatClampNeg y10)) - y9)) (Int32.toNatClampNeg y11)) - (0 : Int32))))]) rfl (fun H locs hW => ?_)
              refine lv_dup2_11 hx hb dX8_fills_130 rfl rfl ?_
              obtain ⟨hi, hf⟩ := gd_of hf
              refine g_iald C hW 0 5 rfl (f := (upd (upd (v0 16) (Int32.toNatClampNeg y10) (((v0 16) (Int32.toNatClampNeg y10)) - y9)) (Int32.toNatClampNeg y11) (((upd (v0 16) (Int32.toNatClampNeg y10) (((v0 16) (Int32.toNatClampNeg y10)) - y9)) (Int32.toNatClampNeg y11)) - (0 : Int32)))) rfl (ib_in hi) dX8_fills_131 ?_
              refine lv_iload hx hb dX8_fills_132 (lv_at hl 0 rfl) ?_
              refine lv_iadd hx hb dX8_fills_134 ?_
              obtain ⟨hi, hf⟩ := gd_of hf
              refine g_iast C hW 0 5 rfl (f := (upd (upd (v0 16) (Int32.toNatClampNeg y10) (((v0 16) (Int32.toNatClampNeg y10)) - y9)) (Int32.toNatClampNeg y11) (((upd (v0 16) (Int32.toNatClampNeg y10) (((v0 16) (Int32.toNatClampNeg y10)) - y9)) (Int32.toNatClampNeg y11)) - (0 : Int32)))) rfl (ib_in hi) (kX8_w16 g a0 (st (st v0 16 (upd (v0 16) (Int32.toNatClampNeg y10) (((v0 16) (Int32.toNatClampNeg y10)) - y9))) 16 (upd (upd (v0 16) (Int32.toNatClampNeg y10) (((v0 16) (Int32.toNatClampNeg y10)) - y9)) (Int32.toNatClampNeg y11) (((upd (v0 16) (Int32.toNatClampNeg y10) (((v0 16) (Int32.toNatClampNeg y10)) - y9)) (Int32.toNatClampNeg y11)) - (0 : Int32)))) (upd (upd (upd (v0 16) (Int32.toNatClampNeg y10) (((v0 16) (Int32.toNatClampNeg y10)) - y9)) (Int32.toNatClampNeg y11) (((upd (v0 16) (Int32.toNatClampNeg y10) (((v0 16) (Int32.toNatClampNeg y10)) - y9)) (Int32.toNatClampNeg y11)) - (0 : Int32))) (Int32.toNatClampNeg y12) (((upd (upd (v0 16) (Int32.toNatClampNeg y10) (((v0 16) (Int32.toNatClampNeg y10)) - y9)) (Int32.toNatClampNeg y11) (((upd (v0 16) (Int32.toNatClampNeg y10) (((v0 16) (Int32.toNatClampNeg y10)) - y9)) (Int32.toNatClampNeg y11)) - (0 : Int32))) (Int32.toNatClampNeg y12)) + y9))) (ch' := [kX8 g a0 (st (st (st v0 16 (upd (v0 16) (Int32.toNatClampNeg y10) (((v0 16) (Int32.toNatClampNeg y10)) - y9))) 16 (upd (upd (v0 16) (Int32.toNatClampNeg y10) (((v0 16) (Int32.toNatClampNeg y10)) - y9)) (Int32.toNatClampNeg y11) (((upd (v0 16) (Int32.toNatClampNeg y10) (((v0 16) (Int32.toNatClampNeg y10)) - y9)) (Int32.toNatClampNeg y11)) - (0 : Int32)))) 16 (upd (upd (upd (v0 16) (Int32.toNatClampNeg y10) (((v0 16) (Int32.toNatClampNeg y10)) - y9)) (Int32.toNatClampNeg y11) (((upd (v0 16) (Int32.toNatClampNeg y10) (((v0 16) (Int32.toNatClampNeg y10)) - y9)) (Int32.toNatClampNeg y11)) - (0 : Int32))) (Int32.toNatClampNeg y12) (((upd (upd (v0 16) (Int32.toNatClampNeg y10) (((v0 16) (Int32.toNatClampNeg y10)) - y9)) (Int32.toNatClampNeg y11) (((upd (v0 16) (Int32.toNatClampNeg y10) (((v0 16) (Int32.toNatClampNeg y10)) - y9)) (Int32.toNatClampNeg y11)) - (0 : Int32))) (Int32.toNatClampNeg y12)) + y9)))]) rfl dX8_fills_135 (fun H locs hW => ?_)
              refine lv_iload hx hb dX8_fills_136 (lv_at hl 7 rfl) ?_
              refine lv_iload hx hb dX8_fills_138 (lv_at hl 0 rfl) ?_
              refine lv_isub hx hb dX8_fills_140 ?_
              refine lv_istore (lv' := [(5, .int (x5 - y9)), (8, .int y9), (7, .int y1), (0, .ref (a0 0)), (1, .int x1), (2, .int x2), (3, .int x3), (4, .int x4), (6, .int x6)]) hx hb dX8_fills_141 hl (by decide) rfl (fun ls hl => ?_)
              refine lv_iinc (v := (x6 + 1)) (lv' := [(6, .int (x6 + 1)), (5, .int (x5 - y9)), (8, .int y9), (7, .int y1), (0, .ref (a0 0)), (1, .int x1), (2, .int x2), (3, .int x3), (4, .int x4)]) hx hb dX8_fills_143 hl (k := 8) rfl (by first | rfl | decide) (by decide) rfl (fun ls hl => ?_)
              refine lv_goto (tgt := 6) hx hb dX8_fills_146 (by decide) ?_
              exact ih _ _ _ H locs ls hf hW (lv_sub hl [4, 5, 6, 7, 8, 1, 0] rfl)
            · replace hf := (if_neg h).symm.trans hf
              refine lv_iload hx hb dX8_fills_110 (lv_at hl 0 rfl) ?_
              refine lv_goto (tgt := 116) hx hb dX8_fills_112 (by decide) ?_
              refine lv_isub hx hb dX8_fills_116 ?_
              obtain ⟨hi, hf⟩ := gd_of hf
              refine g_iast C hW 0 5 rfl (f := (upd (v0 16) (Int32.toNatClampNeg y10) (((v0 16) (Int32.toNatClampNeg y10)) - y9))) rfl (ib_in hi) (kX8_w16 g a0 (st v0 16 (upd (v0 16) (Int32.toNatClampNeg y10) (((v0 16) (Int32.toNatClampNeg y10)) - y9))) (upd (upd (v0 16) (Int32.toNatClampNeg y10) (((v0 16) (Int32.toNatClampNeg y10)) - y9)) (Int32.toNatClampNeg y11) (((upd (v0 16) (Int32.toNatClampNeg y10) (((v0 16) (Int32.toNatClampNeg y10)) - y9)) (Int32.toNatClampNeg y11)) - y9))) (ch' := [kX8 g a0 (st (st v0 16 (upd (v0 16) (Int32.toNatClampNeg y10) (((v0 16) (Int32.toNatClampNeg y10)) - y9))) 16 (upd (upd (v0 16) (Int32.toNatClampNeg y10) (((v0 16) (Int32.toNatClampNeg y10)) - y9)) (Int32.toNatClampNeg y11) (((upd (v0 16) (Int32.toNatClampNeg y10) (((v0 16) (Int32.toNatClampNeg y10)) - y9)) (Int32.toNatClampNeg y11)) - y9)))]) rfl dX8_fills_117 (fun H locs hW => ?_)
              refine lv_aload_n hx hb dX8_fills_118 rfl (lv_at hl 2 rfl) ?_
              refine g_get C hW inX8 0 rfl rfl rfl 16 (by decide) (List.mem_of_getElem? (i := 2) rfl) (v := .ref (a0 5)) rfl dX8_fills_119 ?_
              refine lv_iload_n hx hb dX8_fills_122 rfl (lv_at hl 3 rfl) ?_
              refine lv_iconst (v := (4 : Int32)) hx hb dX8_fills_123 (by decide) ?_
              refine lv_iload hx hb dX8_fills_124 (lv_at hl 1 rfl) ?_
              refine lv_iadd hx hb dX8_fills_126 ?_
              obtain ⟨y13, hc, hf⟩ := bd_of hf
              refine g_cS C (ct_X8_ofBlock g l N x1 ((4 : Int32) + y1) hc) gX8_fills_X8_ofBlock rfl 2 (by decide +kernel) ⟨rfl, rfl, ⟨Nat.le_of_ble_eq_true rfl, Nat.le_of_ble_eq_true rfl⟩, Nat.le_of_ble_eq_true rfl, Nat.le_of_ble_eq_true rfl⟩ rfl hl (Nat.le_of_ble_eq_true rfl) dX8_fills_127 rfl hW hA [] rfl rfl rfl (ch' := [kX8 g a0 (st (st v0 16 (upd (v0 16) (Int32.toNatClampNeg y10) (((v0 16) (Int32.toNatClampNeg y10)) - y9))) 16 (upd (upd (v0 16) (Int32.toNatClampNeg y10) (((v0 16) (Int32.toNatClampNeg y10)) - y9)) (Int32.toNatClampNeg y11) (((upd (v0 16) (Int32.toNatClampNeg y10) (((v0 16) (Int32.toNatClampNeg y10)) - y9)) (Int32.toNatClampNeg y11)) - y9)))]) rfl (fun H locs hW => ?_)
              refine lv_dup2_11 hx hb dX8_fills_130 rfl rfl ?_
              obtain ⟨hi, hf⟩ := gd_of hf
              refine g_iald C hW 0 5 rfl (f := (upd (upd (v0 16) (Int32.toNatClampNeg y10) (((v0 16) (Int32.toNatClampNeg y10)) - y9)) (Int32.toNatClampNeg y11) (((upd (v0 16) (Int32.toNatClampNeg y10) (((v0 16) (Int32.toNatClampNeg y10)) - y9)) (Int32.toNatClampNeg y11)) - y9))) rfl (ib_in hi) dX8_fills_131 ?_
              refine lv_iload hx hb dX8_fills_132 (lv_at hl 0 rfl) ?_
              refine lv_iadd hx hb dX8_fills_134 ?_
              obtain ⟨hi, hf⟩ := gd_of hf
              refine g_iast C hW 0 5 rfl (f := (upd (upd (v0 16) (Int32.toNatClampNeg y10) (((v0 16) (Int32.toNatClampNeg y10)) - y9)) (Int32.toNatClampNeg y11) (((upd (v0 16) (Int32.toNatClampNeg y10) (((v0 16) (Int32.toNatClampNeg y10)) - y9)) (Int32.toNatClampNeg y11)) - y9))) rfl (ib_in hi) (kX8_w16 g a0 (st (st v0 16 (upd (v0 16) (Int32.toNatClampNeg y10) (((v0 16) (Int32.toNatClampNeg y10)) - y9))) 16 (upd (upd (v0 16) (Int32.toNatClampNeg y10) (((v0 16) (Int32.toNatClampNeg y10)) - y9)) (Int32.toNatClampNeg y11) (((upd (v0 16) (Int32.toNatClampNeg y10) (((v0 16) (Int32.toNatClampNeg y10)) - y9)) (Int32.toNatClampNeg y11)) - y9))) (upd (upd (upd (v0 16) (Int32.toNatClampNeg y10) (((v0 16) (Int32.toNatClampNeg y10)) - y9)) (Int32.toNatClampNeg y11) (((upd (v0 16) (Int32.toNatClampNeg y10) (((v0 16) (Int32.toNatClampNeg y10)) - y9)) (Int32.toNatClampNeg y11)) - y9)) (Int32.toNatClampNeg y13) (((upd (upd (v0 16) (Int32.toNatClampNeg y10) (((v0 16) (Int32.toNatClampNeg y10)) - y9)) (Int32.toNatClampNeg y11) (((upd (v0 16) (Int32.toNatClampNeg y10) (((v0 16) (Int32.toNatClampNeg y10)) - y9)) (Int32.toNatClampNeg y11)) - y9)) (Int32.toNatClampNeg y13)) + y9))) (ch' := [kX8 g a0 (st (st (st v0 16 (upd (v0 16) (Int32.toNatClampNeg y10) (((v0 16) (Int32.toNatClampNeg y10)) - y9))) 16 (upd (upd (v0 16) (Int32.toNatClampNeg y10) (((v0 16) (Int32.toNatClampNeg y10)) - y9)) (Int32.toNatClampNeg y11) (((upd (v0 16) (Int32.toNatClampNeg y10) (((v0 16) (Int32.toNatClampNeg y10)) - y9)) (Int32.toNatClampNeg y11)) - y9))) 16 (upd (upd (upd (v0 16) (Int32.toNatClampNeg y10) (((v0 16) (Int32.toNatClampNeg y10)) - y9)) (Int32.toNatClampNeg y11) (((upd (v0 16) (Int32.toNatClampNeg y10) (((v0 16) (Int32.toNatClampNeg y10)) - y9)) (Int32.toNatClampNeg y11)) - y9)) (Int32.toNatClampNeg y13) (((upd (upd (v0 16) (Int32.toNatClampNeg y10) (((v0 16) (Int32.toNatClampNeg y10)) - y9)) (Int32.toNatClampNeg y11) (((upd (v0 16) (Int32.toNatClampNeg y10) (((v0 16) (Int32.toNatClampNeg y10)) - y9)) (Int32.toNatClampNeg y11)) - y9)) (Int32.toNatClampNeg y13)) + y9)))]) rfl dX8_fills_135 (fun H locs hW => ?_)
              refine lv_iload hx hb dX8_fills_136 (lv_at hl 7 rfl) ?_
              refine lv_iload hx hb dX8_fills_138 (lv_at hl 0 rfl) ?_
              refine lv_isub hx hb dX8_fills_140 ?_
              refine lv_istore (lv' := [(5, .int (x5 - y9)), (8, .int y9), (7, .int y1), (0, .ref (a0 0)), (1, .int x1), (2, .int x2), (3, .int x3), (4, .int x4), (6, .int x6)]) hx hb dX8_fills_141 hl (by decide) rfl (fun ls hl => ?_)
              refine lv_iinc (v := (x6 + 1)) (lv' := [(6, .int (x6 + 1)), (5, .int (x5 - y9)), (8, .int y9), (7, .int y1), (0, .ref (a0 0)), (1, .int x1), (2, .int x2), (3, .int x3), (4, .int x4)]) hx hb dX8_fills_143 hl (k := 8) rfl (by first | rfl | decide) (by decide) rfl (fun ls hl => ?_)
              refine lv_goto (tgt := 6) hx hb dX8_fills_146 (by decide) ?_
              exact ih _ _ _ H locs ls hf hW (lv_sub hl [4, 5, 6, 7, 8, 1, 0] rfl)
  rw [fX8_fills] at hf
  refine lv_iload_n hx hb dX8_fills_0 rfl (lv_at hl 3 rfl) ?_
  refine lv_istore (lv' := [(5, .int x3), (0, .ref (a0 0)), (1, .int x1), (2, .int x2), (3, .int x3), (4, .int x4)]) hx hb dX8_fills_1 hl (by decide) rfl (fun ls hl => ?_)
  refine lv_iconst (v := (0 : Int32)) hx hb dX8_fills_3 (by decide) ?_
  refine lv_istore (lv' := [(6, .int (0 : Int32)), (5, .int x3), (0, .ref (a0 0)), (1, .int x1), (2, .int x2), (3, .int x3), (4, .int x4)]) hx hb dX8_fills_4 hl (by decide) rfl (fun ls hl => ?_)
  refine L6 x1 x2 x3 x4 _ (fun x5_14 x6_14 v0_14 H locs ls hf hW hl => ?_) N x3 (0 : Int32) v0 H locs ls hf hW (lv_sub hl [2, 3, 4, 5, 6, 1, 0] rfl)
  refine lv_iload_n hx hb dX8_fills_149 rfl (lv_at hl 3 rfl) ?_
  refine lv_iload hx hb dX8_fills_150 (lv_at hl 5 rfl) ?_
  refine lv_isub hx hb dX8_fills_152 ?_
  obtain rfl := Option.some.inj hf
  subst hQ
  exact g_iret C hr hk0 hW rfl rfl dX8_fills_153
def fX8_packs_L10 (N : Nat) (k : Int32 → MM → Option (MM)) (x1 : Int32) (x2 : Int32) (x3 : Int32) : Nat → Int32 → MM → Option (MM)
  | 0, _, _ => none
  | n + 1, x4, v0 => (if (10 : Int32) ≤ x4 then k x4 v0 else ((fX8_ofBlock N x3 x4).bind (fun y1 => (if ib y1 667 = true then fX8_packs_L10 N k x1 x2 x3 n (x4 + 1) (st v0 16 (upd (v0 16) (Int32.toNatClampNeg y1) (0 : Int32))) else none))))
def fX8_packs (N : Nat) (x1 : Int32) (x2 : Int32) (v0 : MM) : Option (MM) := (if ib (3 : Int32) 667 = true then (fX8_packs_L10 N (fun (x4_2 : Int32) (v0_2 : MM) => ((fX8_ofBlock N ((v0 16) (Int32.toNatClampNeg (3 : Int32))) (0 : Int32)).bind (fun y3 => (if ib y3 667 = true then ((fX8_ofTerminal N x1 (0 : Int32)).bind (fun y4 => (if ib y4 667 = true then (if ((upd (v0_2 16) (Int32.toNatClampNeg y3) x1) (Int32.toNatClampNeg y4)) = (1 : Int32) then (if x2 ≤ (1 : Int32) then ((fX8_fills N ((v0 16) (Int32.toNatClampNeg (3 : Int32))) x1 x2 (1 : Int32) (st v0_2 16 (upd (v0_2 16) (Int32.toNatClampNeg y3) x1))).bind (fun y23 => ((fX8_fills N ((v0 16) (Int32.toNatClampNeg (3 : Int32))) x1 (x2 - y23.1) (0 : Int32) y23.2).bind (fun y24 => (if ((x2 - y23.1) - y24.1) ≤ (1 : Int32) then ((fX8_ofBlock N ((v0 16) (Int32.toNatClampNeg (3 : Int32))) (3 : Int32)).bind (fun y25 => (if ib y25 667 = true then ((fX8_ofTerminal N x1 (0 : Int32)).bind (fun y26 => ((fX8_ofTerminal N x1 (0 : Int32)).bind (fun y27 => (if ib y27 667 = true then (if ib y26 667 = true then ((fX8_inBlock N ((v0 16) (Int32.toNatClampNeg (3 : Int32))) (st (st y24.2 16 (upd (y24.2 16) (Int32.toNatClampNeg y25) (-9 : Int32))) 16 (upd (upd (y24.2 16) (Int32.toNatClampNeg y25) (-9 : Int32)) (Int32.toNatClampNeg y26) ((upd (y24.2 16) (Int32.toNatClampNeg y25) (-9 : Int32)) (Int32.toNatClampNeg y27))))).bind (fun y28 => (if y28 ≤ 0 then ((fX8_ofBlock N ((v0 16) (Int32.toNatClampNeg (3 : Int32))) (0 : Int32)).bind (fun y29 => (if ib y29 667 = true then ((fX8_ofBlock N ((v0 16) (Int32.toNatClampNeg (3 : Int32))) (3 : Int32)).bind (fun y30 => (if ib y30 667 = true then some (st (st (st (st y24.2 16 (upd (y24.2 16) (Int32.toNatClampNeg y25) (-9 : Int32))) 16 (upd (upd (y24.2 16) (Int32.toNatClampNeg y25) (-9 : Int32)) (Int32.toNatClampNeg y26) ((upd (y24.2 16) (Int32.toNatClampNeg y25) (-9 : Int32)) (Int32.toNatClampNeg y27)))) 16 (upd (upd (upd (y24.2 16) (Int32.toNatClampNeg y25) (-9 : Int32)) (Int32.toNatClampNeg y26) ((upd (y24.2 16) (Int32.toNatClampNeg y25) (-9 : Int32)) (Int32.toNatClampNeg y27))) (Int32.toNatClampNeg y29) (0 : Int32))) 16 (upd (upd (upd (upd (y24.2 16) (Int32.toNatClampNeg y25) (-9 : Int32)) (Int32.toNatClampNeg y26) ((upd (y24.2 16) (Int32.toNatClampNeg y25) (-9 : Int32)) (Int32.toNatClampNeg y27))) (Int32.toNatClampNeg y29) (0 : Int32)) (Int32.toNatClampNeg y30) (0 : Int32))) else none))) else none))) else (if ib (3 : Int32) 667 = true then (if ib (3 : Int32) 667 = true then ((fX8_sends N ((v0 16) (Int32.toNatClampNeg (3 : Int32))) (st (st (st y24.2 16 (upd (y24.2 16) (Int32.toNatClampNeg y25) (-9 : Int32))) 16 (upd (upd (y24.2 16) (Int32.toNatClampNeg y25) (-9 : Int32)) (Int32.toNatClampNeg y26) ((upd (y24.2 16) (Int32.toNatClampNeg y25) (-9 : Int32)) (Int32.toNatClampNeg y27)))) 16 (upd (upd (upd (y24.2 16) (Int32.toNatClampNeg y25) (-9 : Int32)) (Int32.toNatClampNeg y26) ((upd (y24.2 16) (Int32.toNatClampNeg y25) (-9 : Int32)) (Int32.toNatClampNeg y27))) (Int32.toNatClampNeg (3 : Int32)) (((upd (upd (y24.2 16) (Int32.toNatClampNeg y25) (-9 : Int32)) (Int32.toNatClampNeg y26) ((upd (y24.2 16) (Int32.toNatClampNeg y25) (-9 : Int32)) (Int32.toNatClampNeg y27))) (Int32.toNatClampNeg (3 : Int32))) + (1 : Int32))))).bind (fun y31 => ((fX8_clearsGone N y31).bind (fun y32 => some y32)))) else none) else none)))) else none) else none))))) else none))) else ((fX8_ofBlock N ((v0 16) (Int32.toNatClampNeg (3 : Int32))) (3 : Int32)).bind (fun y33 => ((fX8_waitsOf N x1 y24.2).bind (fun y34 => (if ib y33 667 = true then ((fX8_ofTerminal N x1 (0 : Int32)).bind (fun y35 => (if ib y35 667 = true then ((fX8_inBlock N ((v0 16) (Int32.toNatClampNeg (3 : Int32))) (st (st y24.2 16 (upd (y24.2 16) (Int32.toNatClampNeg y33) y34)) 16 (upd (upd (y24.2 16) (Int32.toNatClampNeg y33) y34) (Int32.toNatClampNeg y35) (0 : Int32)))).bind (fun y36 => (if y36 ≤ 0 then ((fX8_ofBlock N ((v0 16) (Int32.toNatClampNeg (3 : Int32))) (0 : Int32)).bind (fun y37 => (if ib y37 667 = true then ((fX8_ofBlock N ((v0 16) (Int32.toNatClampNeg (3 : Int32))) (3 : Int32)).bind (fun y38 => (if ib y38 667 = true then some (st (st (st (st y24.2 16 (upd (y24.2 16) (Int32.toNatClampNeg y33) y34)) 16 (upd (upd (y24.2 16) (Int32.toNatClampNeg y33) y34) (Int32.toNatClampNeg y35) (0 : Int32))) 16 (upd (upd (upd (y24.2 16) (Int32.toNatClampNeg y33) y34) (Int32.toNatClampNeg y35) (0 : Int32)) (Int32.toNatClampNeg y37) (0 : Int32))) 16 (upd (upd (upd (upd (y24.2 16) (Int32.toNatClampNeg y33) y34) (Int32.toNatClampNeg y35) (0 : Int32)) (Int32.toNatClampNeg y37) (0 : Int32)) (Int32.toNatClampNeg y38) (0 : Int32))) else none))) else none))) else (if ib (3 : Int32) 667 = true then (if ib (3 : Int32) 667 = true then ((fX8_sends N ((v0 16) (Int32.toNatClampNeg (3 : Int32))) (st (st (st y24.2 16 (upd (y24.2 16) (Int32.toNatClampNeg y33) y34)) 16 (upd (upd (y24.2 16) (Int32.toNatClampNeg y33) y34) (Int32.toNatClampNeg y35) (0 : Int32))) 16 (upd (upd (upd (y24.2 16) (Int32.toNatClampNeg y33) y34) (Int32.toNatClampNeg y35) (0 : Int32)) (Int32.toNatClampNeg (3 : Int32)) (((upd (upd (y24.2 16) (Int32.toNatClampNeg y33) y34) (Int32.toNatClampNeg y35) (0 : Int32)) (Int32.toNatClampNeg (3 : Int32))) + (1 : Int32))))).bind (fun y39 => ((fX8_clearsGone N y39).bind (fun y40 => some y40)))) else none) else none)))) else none))) else none)))))))))) else ((fX8_fills N ((v0 16) (Int32.toNatClampNeg (3 : Int32))) x1 (x2 - (2 : Int32)) (1 : Int32) (st v0_2 16 (upd (v0_2 16) (Int32.toNatClampNeg y3) x1))).bind (fun y41 => ((fX8_fills N ((v0 16) (Int32.toNatClampNeg (3 : Int32))) x1 ((x2 - (2 : Int32)) - y41.1) (0 : Int32) y41.2).bind (fun y42 => ((fX8_ofBlock N ((v0 16) (Int32.toNatClampNeg (3 : Int32))) (3 : Int32)).bind (fun y43 => ((fX8_waitsOf N x1 y42.2).bind (fun y44 => (if ib y43 667 = true then ((fX8_ofTerminal N x1 (0 : Int32)).bind (fun y45 => (if ib y45 667 = true then ((fX8_inBlock N ((v0 16) (Int32.toNatClampNeg (3 : Int32))) (st (st y42.2 16 (upd (y42.2 16) (Int32.toNatClampNeg y43) y44)) 16 (upd (upd (y42.2 16) (Int32.toNatClampNeg y43) y44) (Int32.toNatClampNeg y45) (0 : Int32)))).bind (fun y46 => (if y46 ≤ 0 then ((fX8_ofBlock N ((v0 16) (Int32.toNatClampNeg (3 : Int32))) (0 : Int32)).bind (fun y47 => (if ib y47 667 = true then ((fX8_ofBlock N ((v0 16) (Int32.toNatClampNeg (3 : Int32))) (3 : Int32)).bind (fun y48 => (if ib y48 667 = true then some (st (st (st (st y42.2 16 (upd (y42.2 16) (Int32.toNatClampNeg y43) y44)) 16 (upd (upd (y42.2 16) (Int32.toNatClampNeg y43) y44) (Int32.toNatClampNeg y45) (0 : Int32))) 16 (upd (upd (upd (y42.2 16) (Int32.toNatClampNeg y43) y44) (Int32.toNatClampNeg y45) (0 : Int32)) (Int32.toNatClampNeg y47) (0 : Int32))) 16 (upd (upd (upd (upd (y42.2 16) (Int32.toNatClampNeg y43) y44) (Int32.toNatClampNeg y45) (0 : Int32)) (Int32.toNatClampNeg y47) (0 : Int32)) (Int32.toNatClampNeg y48) (0 : Int32))) else none))) else none))) else (if ib (3 : Int32) 667 = true then (if ib (3 : Int32) 667 = true then ((fX8_sends N ((v0 16) (Int32.toNatClampNeg (3 : Int32))) (st (st (st y42.2 16 (upd (y42.2 16) (Int32.toNatClampNeg y43) y44)) 16 (upd (upd (y42.2 16) (Int32.toNatClampNeg y43) y44) (Int32.toNatClampNeg y45) (0 : Int32))) 16 (upd (upd (upd (y42.2 16) (Int32.toNatClampNeg y43) y44) (Int32.toNatClampNeg y45) (0 : Int32)) (Int32.toNatClampNeg (3 : Int32)) (((upd (upd (y42.2 16) (Int32.toNatClampNeg y43) y44) (Int32.toNatClampNeg y45) (0 : Int32)) (Int32.toNatClampNeg (3 : Int32))) + (1 : Int32))))).bind (fun y49 => ((fX8_clearsGone N y49).bind (fun y50 => some y50)))) else none) else none)))) else none))) else none)))))))))) else ((fX8_fills N ((v0 16) (Int32.toNatClampNeg (3 : Int32))) x1 x2 (1 : Int32) (st v0_2 16 (upd (v0_2 16) (Int32.toNatClampNeg y3) x1))).bind (fun y5 => ((fX8_fills N ((v0 16) (Int32.toNatClampNeg (3 : Int32))) x1 (x2 - y5.1) (0 : Int32) y5.2).bind (fun y6 => (if ((x2 - y5.1) - y6.1) ≤ (1 : Int32) then ((fX8_ofBlock N ((v0 16) (Int32.toNatClampNeg (3 : Int32))) (3 : Int32)).bind (fun y7 => (if ib y7 667 = true then ((fX8_ofTerminal N x1 (0 : Int32)).bind (fun y8 => ((fX8_ofTerminal N x1 (0 : Int32)).bind (fun y9 => (if ib y9 667 = true then (if ib y8 667 = true then ((fX8_inBlock N ((v0 16) (Int32.toNatClampNeg (3 : Int32))) (st (st y6.2 16 (upd (y6.2 16) (Int32.toNatClampNeg y7) (-9 : Int32))) 16 (upd (upd (y6.2 16) (Int32.toNatClampNeg y7) (-9 : Int32)) (Int32.toNatClampNeg y8) ((upd (y6.2 16) (Int32.toNatClampNeg y7) (-9 : Int32)) (Int32.toNatClampNeg y9))))).bind (fun y10 => (if y10 ≤ 0 then ((fX8_ofBlock N ((v0 16) (Int32.toNatClampNeg (3 : Int32))) (0 : Int32)).bind (fun y11 => (if ib y11 667 = true then ((fX8_ofBlock N ((v0 16) (Int32.toNatClampNeg (3 : Int32))) (3 : Int32)).bind (fun y12 => (if ib y12 667 = true then some (st (st (st (st y6.2 16 (upd (y6.2 16) (Int32.toNatClampNeg y7) (-9 : Int32))) 16 (upd (upd (y6.2 16) (Int32.toNatClampNeg y7) (-9 : Int32)) (Int32.toNatClampNeg y8) ((upd (y6.2 16) (Int32.toNatClampNeg y7) (-9 : Int32)) (Int32.toNatClampNeg y9)))) 16 (upd (upd (upd (y6.2 16) (Int32.toNatClampNeg y7) (-9 : Int32)) (Int32.toNatClampNeg y8) ((upd (y6.2 16) (Int32.toNatClampNeg y7) (-9 : Int32)) (Int32.toNatClampNeg y9))) (Int32.toNatClampNeg y11) (0 : Int32))) 16 (upd (upd (upd (upd (y6.2 16) (Int32.toNatClampNeg y7) (-9 : Int32)) (Int32.toNatClampNeg y8) ((upd (y6.2 16) (Int32.toNatClampNeg y7) (-9 : Int32)) (Int32.toNatClampNeg y9))) (Int32.toNatClampNeg y11) (0 : Int32)) (Int32.toNatClampNeg y12) (0 : Int32))) else none))) else none))) else (if ib (3 : Int32) 667 = true then (if ib (3 : Int32) 667 = true then ((fX8_sends N ((v0 16) (Int32.toNatClampNeg (3 : Int32))) (st (st (st y6.2 16 (upd (y6.2 16) (Int32.toNatClampNeg y7) (-9 : Int32))) 16 (upd (upd (y6.2 16) (Int32.toNatClampNeg y7) (-9 : Int32)) (Int32.toNatClampNeg y8) ((upd (y6.2 16) (Int32.toNatClampNeg y7) (-9 : Int32)) (Int32.toNatClampNeg y9)))) 16 (upd (upd (upd (y6.2 16) (Int32.toNatClampNeg y7) (-9 : Int32)) (Int32.toNatClampNeg y8) ((upd (y6.2 16) (Int32.toNatClampNeg y7) (-9 : Int32)) (Int32.toNatClampNeg y9))) (Int32.toNatClampNeg (3 : Int32)) (((upd (upd (y6.2 16) (Int32.toNatClampNeg y7) (-9 : Int32)) (Int32.toNatClampNeg y8) ((upd (y6.2 16) (Int32.toNatClampNeg y7) (-9 : Int32)) (Int32.toNatClampNeg y9))) (Int32.toNatClampNeg (3 : Int32))) + (1 : Int32))))).bind (fun y13 => ((fX8_clearsGone N y13).bind (fun y14 => some y14)))) else none) else none)))) else none) else none))))) else none))) else ((fX8_ofBlock N ((v0 16) (Int32.toNatClampNeg (3 : Int32))) (3 : Int32)).bind (fun y15 => ((fX8_waitsOf N x1 y6.2).bind (fun y16 => (if ib y15 667 = true then ((fX8_ofTerminal N x1 (0 : Int32)).bind (fun y17 => (if ib y17 667 = true then ((fX8_inBlock N ((v0 16) (Int32.toNatClampNeg (3 : Int32))) (st (st y6.2 16 (upd (y6.2 16) (Int32.toNatClampNeg y15) y16)) 16 (upd (upd (y6.2 16) (Int32.toNatClampNeg y15) y16) (Int32.toNatClampNeg y17) (0 : Int32)))).bind (fun y18 => (if y18 ≤ 0 then ((fX8_ofBlock N ((v0 16) (Int32.toNatClampNeg (3 : Int32))) (0 : Int32)).bind (fun y19 => (if ib y19 667 = true then ((fX8_ofBlock N ((v0 16) (Int32.toNatClampNeg (3 : Int32))) (3 : Int32)).bind (fun y20 => (if ib y20 667 = true then some (st (st (st (st y6.2 16 (upd (y6.2 16) (Int32.toNatClampNeg y15) y16)) 16 (upd (upd (y6.2 16) (Int32.toNatClampNeg y15) y16) (Int32.toNatClampNeg y17) (0 : Int32))) 16 (upd (upd (upd (y6.2 16) (Int32.toNatClampNeg y15) y16) (Int32.toNatClampNeg y17) (0 : Int32)) (Int32.toNatClampNeg y19) (0 : Int32))) 16 (upd (upd (upd (upd (y6.2 16) (Int32.toNatClampNeg y15) y16) (Int32.toNatClampNeg y17) (0 : Int32)) (Int32.toNatClampNeg y19) (0 : Int32)) (Int32.toNatClampNeg y20) (0 : Int32))) else none))) else none))) else (if ib (3 : Int32) 667 = true then (if ib (3 : Int32) 667 = true then ((fX8_sends N ((v0 16) (Int32.toNatClampNeg (3 : Int32))) (st (st (st y6.2 16 (upd (y6.2 16) (Int32.toNatClampNeg y15) y16)) 16 (upd (upd (y6.2 16) (Int32.toNatClampNeg y15) y16) (Int32.toNatClampNeg y17) (0 : Int32))) 16 (upd (upd (upd (y6.2 16) (Int32.toNatClampNeg y15) y16) (Int32.toNatClampNeg y17) (0 : Int32)) (Int32.toNatClampNeg (3 : Int32)) (((upd (upd (y6.2 16) (Int32.toNatClampNeg y15) y16) (Int32.toNatClampNeg y17) (0 : Int32)) (Int32.toNatClampNeg (3 : Int32))) + (1 : Int32))))).bind (fun y21 => ((fX8_clearsGone N y21).bind (fun y22 => some y22)))) else none) else none)))) else none))) else none))))))))))) else none))) else none)))) x1 x2 ((v0 16) (Int32.toNatClampNeg (3 : Int32))) N (0 : Int32) v0) else none)
set_option maxHeartbeats 4000000 in
set_option maxRecDepth 100000 in
theorem ct_X8_packs (g : GT) (l : Launch) (N : Nat) (a0 : Nat → Nat) (x1 : Int32) (x2 : Int32) (v0 : MM) {y : MM} (hf : fX8_packs N x1 x2 v0 = some y) : ct g l yX8_packs wsX8_packs (rmk 3 75) [.ref (a0 0), .int x1, .int x2] [kX8 g a0 v0] none [kX8 g a0 y] := by
  refine ct_of (cc := cX8_packs) (maxL := 6) (ret := none) (by decide) rfl (Nat.le_of_ble_eq_true rfl) ?_
  intro p e s m args below meth c A ls C hr hk0 hA hW hl
  have hx := C.1.1
  have hb := C.1.2.1
  replace hl : lv_has ls 6 [(0, .ref (a0 0)), (1, .int x1), (2, .int x2)] := hl
  obtain ⟨Q, hQ⟩ : ∃ Q, Q = MQ below (ctQ g A none [kX8 g a0 y]) args s 0 0 A := ⟨_, rfl⟩
  rw [← hQ]
  obtain ⟨H, hH⟩ : ∃ H, H = s.heap := ⟨_, rfl⟩
  obtain ⟨locs, hL⟩ : ∃ locs : List Loc, locs = [] := ⟨_, rfl⟩
  replace hW : wd g A s.heap [kX8 g a0 v0] H locs := by rw [hH, hL]; exact hW
  suffices hG : W p l e (rmk 3 75) s m args below meth c H locs 0 0 Q (F0 m 0 ls []) by
    rw [hH, hL] at hG; exact hG
  clear hH hL
  have inX8 : ∀ w ∈ wsX80, w ∈ wsX8_packs := fun _ h => List.mem_cons_of_mem _ (List.mem_append_right _ (h))
  have L10 : ∀ (x1 : Int32) (x2 : Int32) (x3 : Int32) (k : Int32 → MM → Option (MM)) (hk : ∀ (x4 : Int32) (v0 : MM) (H : Heap) (locs : List Loc) (ls : Array Slot), k x4 v0 = some y → wd g A s.heap [kX8 g a0 v0] H locs → lv_has ls 6 [(0, .ref (a0 0)), (1, .int x1), (2, .int x2), (3, .int x3), (4, .int x4)] → W p l e (rmk 3 75) s m args below meth c H locs 0 0 Q (F0 m 35 ls [])) (n : Nat) (x4 : Int32) (v0 : MM) (H : Heap) (locs : List Loc) (ls : Array Slot), fX8_packs_L10 N k x1 x2 x3 n x4 v0 = some y → wd g A s.heap [kX8 g a0 v0] H locs → lv_has ls 6 [(0, .ref (a0 0)), (1, .int x1), (2, .int x2), (3, .int x3), (4, .int x4)] → W p l e (rmk 3 75) s m args below meth c H locs 0 0 Q (F0 m 10 ls []) := by
    intro x1 x2 x3 k hk n
    induction n with
    | zero => intro x4 v0 H locs ls hf; rw [fX8_packs_L10] at hf; cases hf
    | succ n ih =>
      intro x4 v0 H locs ls hf hW hl
      rw [fX8_packs_L10] at hf
      refine lv_iload hx hb dX8_packs_10 (lv_at hl 4 rfl) ?_
      refine lv_bipush (v := (10 : Int32)) hx hb dX8_packs_12 (by decide) ?_
      refine lv_icmp_ge (tgt := 35) hx hb dX8_packs_14 (by decide) (fun h => ?_) (fun h => ?_)
      · replace hf := (if_pos h).symm.trans hf
        exact hk _ _ H locs ls hf hW (lv_sub hl [0, 1, 2, 3, 4] rfl)
      · replace hf := (if_neg h).symm.trans hf
        refine lv_aload_n hx hb dX8_packs_17 rfl (lv_at hl 0 rfl) ?_
        refine g_get C hW inX8 0 rfl rfl rfl 16 (by decide) (List.mem_of_getElem? (i := 1) rfl) (v := .ref (a0 5)) rfl dX8_packs_18 ?_
        refine lv_iload_n hx hb dX8_packs_21 rfl (lv_at hl 3 rfl) ?_
        refine lv_iload hx hb dX8_packs_22 (lv_at hl 4 rfl) ?_
        obtain ⟨y1, hc, hf⟩ := bd_of hf
        refine g_cS C (ct_X8_ofBlock g l N x3 x4 hc) gX8_packs_X8_ofBlock rfl 2 (by decide +kernel) ⟨rfl, rfl, ⟨Nat.le_of_ble_eq_true rfl, Nat.le_of_ble_eq_true rfl⟩, Nat.le_of_ble_eq_true rfl, Nat.le_of_ble_eq_true rfl⟩ rfl hl (Nat.le_of_ble_eq_true rfl) dX8_packs_24 rfl hW hA [] rfl rfl rfl (ch' := [kX8 g a0 v0]) rfl (fun H locs hW => ?_)
        refine lv_iconst (v := (0 : Int32)) hx hb dX8_packs_27 (by decide) ?_
        obtain ⟨hi, hf⟩ := gd_of hf
        refine g_iast C hW 0 5 rfl (f := (v0 16)) rfl (ib_in hi) (kX8_w16 g a0 v0 (upd (v0 16) (Int32.toNatClampNeg y1) (0 : Int32))) (ch' := [kX8 g a0 (st v0 16 (upd (v0 16) (Int32.toNatClampNeg y1) (0 : Int32)))]) rfl dX8_packs_28 (fun H locs hW => ?_)
        refine lv_iinc (v := (x4 + 1)) (lv' := [(4, .int (x4 + 1)), (0, .ref (a0 0)), (1, .int x1), (2, .int x2), (3, .int x3)]) hx hb dX8_packs_29 hl (k := 4) rfl (by first | rfl | decide) (by decide) rfl (fun ls hl => ?_)
        refine lv_goto (tgt := 10) hx hb dX8_packs_32 (by decide) ?_
        exact ih _ _ H locs ls hf hW (lv_sub hl [1, 2, 3, 4, 0] rfl)
  rw [fX8_packs] at hf
  refine lv_aload_n hx hb dX8_packs_0 rfl (lv_at hl 0 rfl) ?_
  refine g_get C hW inX8 0 rfl rfl rfl 16 (by decide) (List.mem_of_getElem? (i := 1) rfl) (v := .ref (a0 5)) rfl dX8_packs_1 ?_
  refine lv_iconst (v := (3 : Int32)) hx hb dX8_packs_4 (by decide) ?_
  obtain ⟨hi, hf⟩ := gd_of hf
  refine g_iald C hW 0 5 rfl (f := (v0 16)) rfl (ib_in hi) dX8_packs_5 ?_
  refine lv_istore_n (lv' := [(3, .int ((v0 16) (Int32.toNatClampNeg (3 : Int32)))), (0, .ref (a0 0)), (1, .int x1), (2, .int x2)]) hx hb dX8_packs_6 rfl hl (by decide) rfl (fun ls hl => ?_)
  refine lv_iconst (v := (0 : Int32)) hx hb dX8_packs_7 (by decide) ?_
  refine lv_istore (lv' := [(4, .int (0 : Int32)), (3, .int ((v0 16) (Int32.toNatClampNeg (3 : Int32)))), (0, .ref (a0 0)), (1, .int x1), (2, .int x2)]) hx hb dX8_packs_8 hl (by decide) rfl (fun ls hl => ?_)
  refine L10 x1 x2 ((v0 16) (Int32.toNatClampNeg (3 : Int32))) _ (fun x4_2 v0_2 H locs ls hf hW hl => ?_) N (0 : Int32) v0 H locs ls hf hW (lv_sub hl [2, 3, 4, 1, 0] rfl)
  refine lv_aload_n hx hb dX8_packs_35 rfl (lv_at hl 0 rfl) ?_
  refine g_get C hW inX8 0 rfl rfl rfl 16 (by decide) (List.mem_of_getElem? (i := 1) rfl) (v := .ref (a0 5)) rfl dX8_packs_36 ?_
  refine lv_iload_n hx hb dX8_packs_39 rfl (lv_at hl 3 rfl) ?_
  refine lv_iconst (v := (0 : Int32)) hx hb dX8_packs_40 (by decide) ?_
  obtain ⟨y3, hc, hf⟩ := bd_of hf
  refine g_cS C (ct_X8_ofBlock g l N ((v0 16) (Int32.toNatClampNeg (3 : Int32))) (0 : Int32) hc) gX8_packs_X8_ofBlock rfl 2 (by decide +kernel) ⟨rfl, rfl, ⟨Nat.le_of_ble_eq_true rfl, Nat.le_of_ble_eq_true rfl⟩, Nat.le_of_ble_eq_true rfl, Nat.le_of_ble_eq_true rfl⟩ rfl hl (Nat.le_of_ble_eq_true rfl) dX8_packs_41 rfl hW hA [] rfl rfl rfl (ch' := [kX8 g a0 v0_2]) rfl (fun H locs hW => ?_)
  refine lv_iload_n hx hb dX8_packs_44 rfl (lv_at hl 1 rfl) ?_
  obtain ⟨hi, hf⟩ := gd_of hf
  refine g_iast C hW 0 5 rfl (f := (v0_2 16)) rfl (ib_in hi) (kX8_w16 g a0 v0_2 (upd (v0_2 16) (Int32.toNatClampNeg y3) x1)) (ch' := [kX8 g a0 (st v0_2 16 (upd (v0_2 16) (Int32.toNatClampNeg y3) x1))]) rfl dX8_packs_45 (fun H locs hW => ?_)
  refine lv_aload_n hx hb dX8_packs_46 rfl (lv_at hl 0 rfl) ?_
  refine g_get C hW inX8 0 rfl rfl rfl 16 (by decide) (List.mem_of_getElem? (i := 1) rfl) (v := .ref (a0 5)) rfl dX8_packs_47 ?_
  refine lv_iload_n hx hb dX8_packs_50 rfl (lv_at hl 1 rfl) ?_
  refine lv_iconst (v := (0 : Int32)) hx hb dX8_packs_51 (by decide) ?_
  obtain ⟨y4, hc, hf⟩ := bd_of hf
  refine g_cS C (ct_X8_ofTerminal g l N x1 (0 : Int32) hc) gX8_packs_X8_ofTerminal rfl 2 (by decide +kernel) ⟨rfl, rfl, ⟨Nat.le_of_ble_eq_true rfl, Nat.le_of_ble_eq_true rfl⟩, Nat.le_of_ble_eq_true rfl, Nat.le_of_ble_eq_true rfl⟩ rfl hl (Nat.le_of_ble_eq_true rfl) dX8_packs_52 rfl hW hA [] rfl rfl rfl (ch' := [kX8 g a0 (st v0_2 16 (upd (v0_2 16) (Int32.toNatClampNeg y3) x1))]) rfl (fun H locs hW => ?_)
  obtain ⟨hi, hf⟩ := gd_of hf
  refine g_iald C hW 0 5 rfl (f := (upd (v0_2 16) (Int32.toNatClampNeg y3) x1)) rfl (ib_in hi) dX8_packs_55 ?_
  refine lv_iconst (v := (1 : Int32)) hx hb dX8_packs_56 (by decide) ?_
  refine lv_icmp_ne (tgt := 69) hx hb dX8_packs_57 (by decide) (fun h => ?_) (fun h => ?_)
  · replace hf := (if_neg h).symm.trans hf
    refine lv_iconst (v := (0 : Int32)) hx hb dX8_packs_69 (by decide) ?_
    refine lv_istore (lv' := [(4, .int (0 : Int32)), (0, .ref (a0 0)), (1, .int x1), (2, .int x2), (3, .int ((v0 16) (Int32.toNatClampNeg (3 : Int32))))]) hx hb dX8_packs_70 hl (by decide) rfl (fun ls hl => ?_)
    refine lv_iload hx hb dX8_packs_72 (lv_at hl 0 rfl) ?_
    refine lv_if_eq (tgt := 83) hx hb dX8_packs_74 (by decide) (fun _ => ?_) (fun h => absurd h (by decide))
    refine lv_iload_n hx hb dX8_packs_83 rfl (lv_at hl 3 rfl) ?_
    refine lv_istore (lv' := [(5, .int x2), (4, .int (0 : Int32)), (0, .ref (a0 0)), (1, .int x1), (2, .int x2), (3, .int ((v0 16) (Int32.toNatClampNeg (3 : Int32))))]) hx hb dX8_packs_84 hl (by decide) rfl (fun ls hl => ?_)
    refine lv_iload hx hb dX8_packs_86 (lv_at hl 0 rfl) ?_
    refine lv_aload_n hx hb dX8_packs_88 rfl (lv_at hl 2 rfl) ?_
    refine lv_iload_n hx hb dX8_packs_89 rfl (lv_at hl 5 rfl) ?_
    refine lv_iload_n hx hb dX8_packs_90 rfl (lv_at hl 3 rfl) ?_
    refine lv_iload hx hb dX8_packs_91 (lv_at hl 0 rfl) ?_
    refine lv_iconst (v := (1 : Int32)) hx hb dX8_packs_93 (by decide) ?_
    obtain ⟨y5, hc, hf⟩ := bd_of hf
    refine g_cV (Cn := RX8) C (ct_X8_fills g l N a0 ((v0 16) (Int32.toNatClampNeg (3 : Int32))) x1 x2 (1 : Int32) (st v0_2 16 (upd (v0_2 16) (Int32.toNatClampNeg y3) x1)) hc) gX8_packs_X8_fills rfl 4 (by decide +kernel) ⟨rfl, rfl, ⟨Nat.le_of_ble_eq_true rfl, Nat.le_of_ble_eq_true rfl⟩, Nat.le_of_ble_eq_true rfl, Nat.le_of_ble_eq_true rfl⟩ rfl hl (Nat.le_of_ble_eq_true rfl) dX8_packs_94 rfl hW hA [0] rfl rfl rfl (ch' := [kX8 g a0 y5.2]) rfl 0 rfl rfl rfl (fun H locs hW => ?_)
    refine lv_isub hx hb dX8_packs_97 ?_
    refine lv_istore (lv' := [(5, .int (x2 - y5.1)), (4, .int (0 : Int32)), (0, .ref (a0 0)), (1, .int x1), (2, .int x2), (3, .int ((v0 16) (Int32.toNatClampNeg (3 : Int32))))]) hx hb dX8_packs_98 hl (by decide) rfl (fun ls hl => ?_)
    refine lv_iload hx hb dX8_packs_100 (lv_at hl 0 rfl) ?_
    refine lv_aload_n hx hb dX8_packs_102 rfl (lv_at hl 2 rfl) ?_
    refine lv_iload_n hx hb dX8_packs_103 rfl (lv_at hl 5 rfl) ?_
    refine lv_iload_n hx hb dX8_packs_104 rfl (lv_at hl 3 rfl) ?_
    refine lv_iload hx hb dX8_packs_105 (lv_at hl 0 rfl) ?_
    refine lv_iconst (v := (0 : Int32)) hx hb dX8_packs_107 (by decide) ?_
    obtain ⟨y6, hc, hf⟩ := bd_of hf
    refine g_cV (Cn := RX8) C (ct_X8_fills g l N a0 ((v0 16) (Int32.toNatClampNeg (3 : Int32))) x1 (x2 - y5.1) (0 : Int32) y5.2 hc) gX8_packs_X8_fills rfl 4 (by decide +kernel) ⟨rfl, rfl, ⟨Nat.le_of_ble_eq_true rfl, Nat.le_of_ble_eq_true rfl⟩, Nat.le_of_ble_eq_true rfl, Nat.le_of_ble_eq_true rfl⟩ rfl hl (Nat.le_of_ble_eq_true rfl) dX8_packs_108 rfl hW hA [0] rfl rfl rfl (ch' := [kX8 g a0 y6.2]) rfl 0 rfl rfl rfl (fun H locs hW => ?_)
    refine lv_isub hx hb dX8_packs_111 ?_
    refine lv_istore (lv' := [(5, .int ((x2 - y5.1) - y6.1)), (4, .int (0 : Int32)), (0, .ref (a0 0)), (1, .int x1), (2, .int x2), (3, .int ((v0 16) (Int32.toNatClampNeg (3 : Int32))))]) hx hb dX8_packs_112 hl (by decide) rfl (fun ls hl => ?_)
    refine lv_iload hx hb dX8_packs_114 (lv_at hl 1 rfl) ?_
    refine lv_if_ne (tgt := 125) hx hb dX8_packs_116 (by decide) (fun h => absurd h (by decide)) (fun _ => ?_)
    refine lv_iload hx hb dX8_packs_119 (lv_at hl 0 rfl) ?_
    refine lv_iconst (v := (1 : Int32)) hx hb dX8_packs_121 (by decide) ?_
    refine lv_icmp_le (tgt := 129) hx hb dX8_packs_122 (by decide) (fun h => ?_) (fun h => ?_)
    · replace hf := (if_pos h).symm.trans hf
      refine lv_iconst (v := (0 : Int32)) hx hb dX8_packs_129 (by decide) ?_
      refine lv_istore (lv' := [(4, .int (0 : Int32)), (5, .int ((x2 - y5.1) - y6.1)), (0, .ref (a0 0)), (1, .int x1), (2, .int x2), (3, .int ((v0 16) (Int32.toNatClampNeg (3 : Int32))))]) hx hb dX8_packs_130 hl (by decide) rfl (fun ls hl => ?_)
      refine lv_aload_n hx hb dX8_packs_132 rfl (lv_at hl 2 rfl) ?_
      refine g_get C hW inX8 0 rfl rfl rfl 16 (by decide) (List.mem_of_getElem? (i := 1) rfl) (v := .ref (a0 5)) rfl dX8_packs_133 ?_
      refine lv_iload_n hx hb dX8_packs_136 rfl (lv_at hl 5 rfl) ?_
      refine lv_iconst (v := (3 : Int32)) hx hb dX8_packs_137 (by decide) ?_
      obtain ⟨y7, hc, hf⟩ := bd_of hf
      refine g_cS C (ct_X8_ofBlock g l N ((v0 16) (Int32.toNatClampNeg (3 : Int32))) (3 : Int32) hc) gX8_packs_X8_ofBlock rfl 2 (by decide +kernel) ⟨rfl, rfl, ⟨Nat.le_of_ble_eq_true rfl, Nat.le_of_ble_eq_true rfl⟩, Nat.le_of_ble_eq_true rfl, Nat.le_of_ble_eq_true rfl⟩ rfl hl (Nat.le_of_ble_eq_true rfl) dX8_packs_138 rfl hW hA [] rfl rfl rfl (ch' := [kX8 g a0 y6.2]) rfl (fun H locs hW => ?_)
      refine lv_iload hx hb dX8_packs_141 (lv_at hl 0 rfl) ?_
      refine lv_if_eq (tgt := 154) hx hb dX8_packs_143 (by decide) (fun _ => ?_) (fun h => absurd h (by decide))
      refine lv_bipush (v := (-9 : Int32)) hx hb dX8_packs_154 (by decide) ?_
      obtain ⟨hi, hf⟩ := gd_of hf
      refine g_iast C hW 0 5 rfl (f := (y6.2 16)) rfl (ib_in hi) (kX8_w16 g a0 y6.2 (upd (y6.2 16) (Int32.toNatClampNeg y7) (-9 : Int32))) (ch' := [kX8 g a0 (st y6.2 16 (upd (y6.2 16) (Int32.toNatClampNeg y7) (-9 : Int32)))]) rfl dX8_packs_156 (fun H locs hW => ?_)
      refine lv_aload_n hx hb dX8_packs_157 rfl (lv_at hl 2 rfl) ?_
      refine g_get C hW inX8 0 rfl rfl rfl 16 (by decide) (List.mem_of_getElem? (i := 1) rfl) (v := .ref (a0 5)) rfl dX8_packs_158 ?_
      refine lv_iload_n hx hb dX8_packs_161 rfl (lv_at hl 3 rfl) ?_
      refine lv_iconst (v := (0 : Int32)) hx hb dX8_packs_162 (by decide) ?_
      obtain ⟨y8, hc, hf⟩ := bd_of hf
      refine g_cS C (ct_X8_ofTerminal g l N x1 (0 : Int32) hc) gX8_packs_X8_ofTerminal rfl 2 (by decide +kernel) ⟨rfl, rfl, ⟨Nat.le_of_ble_eq_true rfl, Nat.le_of_ble_eq_true rfl⟩, Nat.le_of_ble_eq_true rfl, Nat.le_of_ble_eq_true rfl⟩ rfl hl (Nat.le_of_ble_eq_true rfl) dX8_packs_163 rfl hW hA [] rfl rfl rfl (ch' := [kX8 g a0 (st y6.2 16 (upd (y6.2 16) (Int32.toNatClampNeg y7) (-9 : Int32)))]) rfl (fun H locs hW => ?_)
      refine lv_iload hx hb dX8_packs_166 (lv_at hl 0 rfl) ?_
      refine lv_if_eq (tgt := 175) hx hb dX8_packs_168 (by decide) (fun _ => ?_) (fun h => absurd h (by decide))
      refine lv_aload_n hx hb dX8_packs_175 rfl (lv_at hl 2 rfl) ?_
      refine g_get C hW inX8 0 rfl rfl rfl 16 (by decide) (List.mem_of_getElem? (i := 1) rfl) (v := .ref (a0 5)) rfl dX8_packs_176 ?_
      refine lv_iload_n hx hb dX8_packs_179 rfl (lv_at hl 3 rfl) ?_
      refine lv_iconst (v := (0 : Int32)) hx hb dX8_packs_180 (by decide) ?_
      obtain ⟨y9, hc, hf⟩ := bd_of hf
      refine g_cS C (ct_X8_ofTerminal g l N x1 (0 : Int32) hc) gX8_packs_X8_ofTerminal rfl 2 (by decide +kernel) ⟨rfl, rfl, ⟨Nat.le_of_ble_eq_true rfl, Nat.le_of_ble_eq_true rfl⟩, Nat.le_of_ble_eq_true rfl, Nat.le_of_ble_eq_true rfl⟩ rfl hl (Nat.le_of_ble_eq_true rfl) dX8_packs_181 rfl hW hA [] rfl rfl rfl (ch' := [kX8 g a0 (st y6.2 16 (upd (y6.2 16) (Int32.toNatClampNeg y7) (-9 : Int32)))]) rfl (fun H locs hW => ?_)
      obtain ⟨hi, hf⟩ := gd_of hf
      refine g_iald C hW 0 5 rfl (f := (upd (y6.2 16) (Int32.toNatClampNeg y7) (-9 : Int32))) rfl (ib_in hi) dX8_packs_184 ?_
      obtain ⟨hi, hf⟩ := gd_of hf
      refine g_iast C hW 0 5 rfl (f := (upd (y6.2 16) (Int32.toNatClampNeg y7) (-9 : Int32))) rfl (ib_in hi) (kX8_w16 g a0 (st y6.2 16 (upd (y6.2 16) (Int32.toNatClampNeg y7) (-9 : Int32))) (upd (upd (y6.2 16) (Int32.toNatClampNeg y7) (-9 : Int32)) (Int32.toNatClampNeg y8) ((upd (y6.2 16) (Int32.toNatClampNeg y7) (-9 : Int32)) (Int32.toNatClampNeg y9)))) (ch' := [kX8 g a0 (st (st y6.2 16 (upd (y6.2 16) (Int32.toNatClampNeg y7) (-9 : Int32))) 16 (upd (upd (y6.2 16) (Int32.toNatClampNeg y7) (-9 : Int32)) (Int32.toNatClampNeg y8) ((upd (y6.2 16) (Int32.toNatClampNeg y7) (-9 : Int32)) (Int32.toNatClampNeg y9))))]) rfl dX8_packs_185 (fun H locs hW => ?_)
      refine lv_aload_n hx hb dX8_packs_186 rfl (lv_at hl 2 rfl) ?_
      refine lv_iload_n hx hb dX8_packs_187 rfl (lv_at hl 5 rfl) ?_
      obtain ⟨y10, hc, hf⟩ := bd_of hf
      refine g_cV (Cn := RX8) C (ct_X8_inBlock g l N a0 ((v0 16) (Int32.toNatClampNeg (3 : Int32))) (st (st y6.2 16 (upd (y6.2 16) (Int32.toNatClampNeg y7) (-9 : Int32))) 16 (upd (upd (y6.2 16) (Int32.toNatClampNeg y7) (-9 : Int32)) (Int32.toNatClampNeg y8) ((upd (y6.2 16) (Int32.toNatClampNeg y7) (-9 : Int32)) (Int32.toNatClampNeg y9)))) hc) gX8_packs_X8_inBlock rfl 1 (by decide +kernel) ⟨rfl, rfl, ⟨Nat.le_of_ble_eq_true rfl, Nat.le_of_ble_eq_true rfl⟩, Nat.le_of_ble_eq_true rfl, Nat.le_of_ble_eq_true rfl⟩ rfl hl (Nat.le_of_ble_eq_true rfl) dX8_packs_188 rfl hW hA [0] rfl rfl rfl (ch' := [kX8 g a0 (st (st y6.2 16 (upd (y6.2 16) (Int32.toNatClampNeg y7) (-9 : Int32))) 16 (upd (upd (y6.2 16) (Int32.toNatClampNeg y7) (-9 : Int32)) (Int32.toNatClampNeg y8) ((upd (y6.2 16) (Int32.toNatClampNeg y7) (-9 : Int32)) (Int32.toNatClampNeg y9))))]) rfl 0 rfl rfl rfl (fun H locs hW => ?_)
      refine lv_if_le (tgt := 216) hx hb dX8_packs_191 (by decide) (fun h => ?_) (fun h => ?_)
      · replace hf := (if_pos h).symm.trans hf
        refine lv_aload_n hx hb dX8_packs_216 rfl (lv_at hl 2 rfl) ?_
        refine g_get C hW inX8 0 rfl rfl rfl 16 (by decide) (List.mem_of_getElem? (i := 1) rfl) (v := .ref (a0 5)) rfl dX8_packs_217 ?_
        refine lv_iload_n hx hb dX8_packs_220 rfl (lv_at hl 5 rfl) ?_
        refine lv_iconst (v := (0 : Int32)) hx hb dX8_packs_221 (by decide) ?_
        obtain ⟨y11, hc, hf⟩ := bd_of hf
        refine g_cS C (ct_X8_ofBlock g l N ((v0 16) (Int32.toNatClampNeg (3 : Int32))) (0 : Int32) hc) gX8_packs_X8_ofBlock rfl 2 (by decide +kernel) ⟨rfl, rfl, ⟨Nat.le_of_ble_eq_true rfl, Nat.le_of_ble_eq_true rfl⟩, Nat.le_of_ble_eq_true rfl, Nat.le_of_ble_eq_true rfl⟩ rfl hl (Nat.le_of_ble_eq_true rfl) dX8_packs_222 rfl hW hA [] rfl rfl rfl (ch' := [kX8 g a0 (st (st y6.2 16 (upd (y6.2 16) (Int32.toNatClampNeg y7) (-9 : Int32))) 16 (upd (upd (y6.2 16) (Int32.toNatClampNeg y7) (-9 : Int32)) (Int32.toNatClampNeg y8) ((upd (y6.2 16) (Int32.toNatClampNeg y7) (-9 : Int32)) (Int32.toNatClampNeg y9))))]) rfl (fun H locs hW => ?_)
        refine lv_iconst (v := (0 : Int32)) hx hb dX8_packs_225 (by decide) ?_
        obtain ⟨hi, hf⟩ := gd_of hf
        refine g_iast C hW 0 5 rfl (f := (upd (upd (y6.2 16) (Int32.toNatClampNeg y7) (-9 : Int32)) (Int32.toNatClampNeg y8) ((upd (y6.2 16) (Int32.toNatClampNeg y7) (-9 : Int32)) (Int32.toNatClampNeg y9)))) rfl (ib_in hi) (kX8_w16 g a0 (st (st y6.2 16 (upd (y6.2 16) (Int32.toNatClampNeg y7) (-9 : Int32))) 16 (upd (upd (y6.2 16) (Int32.toNatClampNeg y7) (-9 : Int32)) (Int32.toNatClampNeg y8) ((upd (y6.2 16) (Int32.toNatClampNeg y7) (-9 : Int32)) (Int32.toNatClampNeg y9)))) (upd (upd (upd (y6.2 16) (Int32.toNatClampNeg y7) (-9 : Int32)) (Int32.toNatClampNeg y8) ((upd (y6.2 16) (Int32.toNatClampNeg y7) (-9 : Int32)) (Int32.toNatClampNeg y9))) (Int32.toNatClampNeg y11) (0 : Int32))) (ch' := [kX8 g a0 (st (st (st y6.2 16 (upd (y6.2 16) (Int32.toNatClampNeg y7) (-9 : Int32))) 16 (upd (upd (y6.2 16) (Int32.toNatClampNeg y7) (-9 : Int32)) (Int32.toNatClampNeg y8) ((upd (y6.2 16) (Int32.toNatClampNeg y7) (-9 : Int32)) (Int32.toNatClampNeg y9)))) 16 (upd (upd (upd (y6.2 16) (Int32.toNatClampNeg y7) (-9 : Int32)) (Int32.toNatClampNeg y8) ((upd (y6.2 16) (Int32.toNatClampNeg y7) (-9 : Int32)) (Int32.toNatClampNeg y9))) (Int32.toNatClampNeg y11) (0 : Int32)))]) rfl dX8_packs_226 (fun H locs hW => ?_)
        refine lv_aload_n hx hb dX8_packs_227 rfl (lv_at hl 2 rfl) ?_
        refine g_get C hW inX8 0 rfl rfl rfl 16 (by decide) (List.mem_of_getElem? (i := 1) rfl) (v := .ref (a0 5)) rfl dX8_packs_228 ?_
        refine lv_iload_n hx hb dX8_packs_231 rfl (lv_at hl 5 rfl) ?_
        refine lv_iconst (v := (3 : Int32)) hx hb dX8_packs_232 (by decide) ?_
        obtain ⟨y12, hc, hf⟩ := bd_of hf
        refine g_cS C (ct_X8_ofBlock g l N ((v0 16) (Int32.toNatClampNeg (3 : Int32))) (3 : Int32) hc) gX8_packs_X8_ofBlock rfl 2 (by decide +kernel) ⟨rfl, rfl, ⟨Nat.le_of_ble_eq_true rfl, Nat.le_of_ble_eq_true rfl⟩, Nat.le_of_ble_eq_true rfl, Nat.le_of_ble_eq_true rfl⟩ rfl hl (Nat.le_of_ble_eq_true rfl) dX8_packs_233 rfl hW hA [] rfl rfl rfl (ch' := [kX8 g a0 (st (st (st y6.2 16 (upd (y6.2 16) (Int32.toNatClampNeg y7) (-9 : Int32))) 16 (upd (upd (y6.2 16) (Int32.toNatClampNeg y7) (-9 : Int32)) (Int32.toNatClampNeg y8) ((upd (y6.2 16) (Int32.toNatClampNeg y7) (-9 : Int32)) (Int32.toNatClampNeg y9)))) 16 (upd (upd (upd (y6.2 16) (Int32.toNatClampNeg y7) (-9 : Int32)) (Int32.toNatClampNeg y8) ((upd (y6.2 16) (Int32.toNatClampNeg y7) (-9 : Int32)) (Int32.toNatClampNeg y9))) (Int32.toNatClampNeg y11) (0 : Int32)))]) rfl (fun H locs hW => ?_)
        refine lv_iconst (v := (0 : Int32)) hx hb dX8_packs_236 (by decide) ?_
        obtain ⟨hi, hf⟩ := gd_of hf
        refine g_iast C hW 0 5 rfl (f := (upd (upd (upd (y6.2 16) (Int32.toNatClampNeg y7) (-9 : Int32)) (Int32.toNatClampNeg y8) ((upd (y6.2 16) (Int32.toNatClampNeg y7) (-9 : Int32)) (Int32.toNatClampNeg y9))) (Int32.toNatClampNeg y11) (0 : Int32))) rfl (ib_in hi) (kX8_w16 g a0 (st (st (st y6.2 16 (upd (y6.2 16) (Int32.toNatClampNeg y7) (-9 : Int32))) 16 (upd (upd (y6.2 16) (Int32.toNatClampNeg y7) (-9 : Int32)) (Int32.toNatClampNeg y8) ((upd (y6.2 16) (Int32.toNatClampNeg y7) (-9 : Int32)) (Int32.toNatClampNeg y9)))) 16 (upd (upd (upd (y6.2 16) (Int32.toNatClampNeg y7) (-9 : Int32)) (Int32.toNatClampNeg y8) ((upd (y6.2 16) (Int32.toNatClampNeg y7) (-9 : Int32)) (Int32.toNatClampNeg y9))) (Int32.toNatClampNeg y11) (0 : Int32))) (upd (upd (upd (upd (y6.2 16) (Int32.toNatClampNeg y7) (-9 : Int32)) (Int32.toNatClampNeg y8) ((upd (y6.2 16) (Int32.toNatClampNeg y7) (-9 : Int32)) (Int32.toNatClampNeg y9))) (Int32.toNatClampNeg y11) (0 : Int32)) (Int32.toNatClampNeg y12) (0 : Int32))) (ch' := [kX8 g a0 (st (st (st (st y6.2 16 (upd (y6.2 16) (Int32.toNatClampNeg y7) (-9 : Int32))) 16 (upd (upd (y6.2 16) (Int32.toNatClampNeg y7) (-9 : Int32)) (Int32.toNatClampNeg y8) ((upd (y6.2 16) (Int32.toNatClampNeg y7) (-9 : Int32)) (Int32.toNatClampNeg y9)))) 16 (upd (upd (upd (y6.2 16) (Int32.toNatClampNeg y7) (-9 : Int32)) (Int32.toNatClampNeg y8) ((upd (y6.2 16) (Int32.toNatClampNeg y7) (-9 : Int32)) (Int32.toNatClampNeg y9))) (Int32.toNatClampNeg y11) (0 : Int32))) 16 (upd (upd (upd (upd (y6.2 16) (Int32.toNatClampNeg y7) (-9 : Int32)) (Int32.toNatClampNeg y8) ((upd (y6.2 16) (Int32.toNatClampNeg y7) (-9 : Int32)) (Int32.toNatClampNeg y9))) (Int32.toNatClampNeg y11) (0 : Int32)) (Int32.toNatClampNeg y12) (0 : Int32)))]) rfl dX8_packs_237 (fun H locs hW => ?_)
        obtain rfl := Option.some.inj hf
        subst hQ
        exact g_vret C hr hk0 hW rfl rfl dX8_packs_238
      · replace hf := (if_neg h).symm.trans hf
        refine lv_aload_n hx hb dX8_packs_194 rfl (lv_at hl 2 rfl) ?_
        refine g_get C hW inX8 0 rfl rfl rfl 16 (by decide) (List.mem_of_getElem? (i := 1) rfl) (v := .ref (a0 5)) rfl dX8_packs_195 ?_
        refine lv_iconst (v := (3 : Int32)) hx hb dX8_packs_198 (by decide) ?_
        refine lv_dup2_11 hx hb dX8_packs_199 rfl rfl ?_
        obtain ⟨hi, hf⟩ := gd_of hf
        refine g_iald C hW 0 5 rfl (f := (upd (upd (y6.2 16) (Int32.toNatClampNeg y7) (-9 : Int32)) (Int32.toNatClampNeg y8) ((upd (y6.2 16) (Int32.toNatClampNeg y7) (-9 : Int32)) (Int32.toNatClampNeg y9)))) rfl (ib_in hi) dX8_packs_200 ?_
        refine lv_iconst (v := (1 : Int32)) hx hb dX8_packs_201 (by decide) ?_
        refine lv_iadd hx hb dX8_packs_202 ?_
        obtain ⟨hi, hf⟩ := gd_of hf
        refine g_iast C hW 0 5 rfl (f := (upd (upd (y6.2 16) (Int32.toNatClampNeg y7) (-9 : Int32)) (Int32.toNatClampNeg y8) ((upd (y6.2 16) (Int32.toNatClampNeg y7) (-9 : Int32)) (Int32.toNatClampNeg y9)))) rfl (ib_in hi) (kX8_w16 g a0 (st (st y6.2 16 (upd (y6.2 16) (Int32.toNatClampNeg y7) (-9 : Int32))) 16 (upd (upd (y6.2 16) (Int32.toNatClampNeg y7) (-9 : Int32)) (Int32.toNatClampNeg y8) ((upd (y6.2 16) (Int32.toNatClampNeg y7) (-9 : Int32)) (Int32.toNatClampNeg y9)))) (upd (upd (upd (y6.2 16) (Int32.toNatClampNeg y7) (-9 : Int32)) (Int32.toNatClampNeg y8) ((upd (y6.2 16) (Int32.toNatClampNeg y7) (-9 : Int32)) (Int32.toNatClampNeg y9))) (Int32.toNatClampNeg (3 : Int32)) (((upd (upd (y6.2 16) (Int32.toNatClampNeg y7) (-9 : Int32)) (Int32.toNatClampNeg y8) ((upd (y6.2 16) (Int32.toNatClampNeg y7) (-9 : Int32)) (Int32.toNatClampNeg y9))) (Int32.toNatClampNeg (3 : Int32))) + (1 : Int32)))) (ch' := [kX8 g a0 (st (st (st y6.2 16 (upd (y6.2 16) (Int32.toNatClampNeg y7) (-9 : Int32))) 16 (upd (upd (y6.2 16) (Int32.toNatClampNeg y7) (-9 : Int32)) (Int32.toNatClampNeg y8) ((upd (y6.2 16) (Int32.toNatClampNeg y7) (-9 : Int32)) (Int32.toNatClampNeg y9)))) 16 (upd (upd (upd (y6.2 16) (Int32.toNatClampNeg y7) (-9 : Int32)) (Int32.toNatClampNeg y8) ((upd (y6.2 16) (Int32.toNatClampNeg y7) (-9 : Int32)) (Int32.toNatClampNeg y9))) (Int32.toNatClampNeg (3 : Int32)) (((upd (upd (y6.2 16) (Int32.toNatClampNeg y7) (-9 : Int32)) (Int32.toNatClampNeg y8) ((upd (y6.2 16) (Int32.toNatClampNeg y7) (-9 : Int32)) (Int32.toNatClampNeg y9))) (Int32.toNatClampNeg (3 : Int32))) + (1 : Int32))))]) rfl dX8_packs_203 (fun H locs hW => ?_)
        refine lv_aload_n hx hb dX8_packs_204 rfl (lv_at hl 2 rfl) ?_
        refine lv_iload_n hx hb dX8_packs_205 rfl (lv_at hl 5 rfl) ?_
        obtain ⟨y13, hc, hf⟩ := bd_of hf
        refine g_cVv (Cn := RX8) C (ct_X8_sends g l N a0 ((v0 16) (Int32.toNatClampNeg (3 : Int32))) (st (st (st y6.2 16 (upd (y6.2 16) (Int32.toNatClampNeg y7) (-9 : Int32))) 16 (upd (upd (y6.2 16) (Int32.toNatClampNeg y7) (-9 : Int32)) (Int32.toNatClampNeg y8) ((upd (y6.2 16) (Int32.toNatClampNeg y7) (-9 : Int32)) (Int32.toNatClampNeg y9)))) 16 (upd (upd (upd (y6.2 16) (Int32.toNatClampNeg y7) (-9 : Int32)) (Int32.toNatClampNeg y8) ((upd (y6.2 16) (Int32.toNatClampNeg y7) (-9 : Int32)) (Int32.toNatClampNeg y9))) (Int32.toNatClampNeg (3 : Int32)) (((upd (upd (y6.2 16) (Int32.toNatClampNeg y7) (-9 : Int32)) (Int32.toNatClampNeg y8) ((upd (y6.2 16) (Int32.toNatClampNeg y7) (-9 : Int32)) (Int32.toNatClampNeg y9))) (Int32.toNatClampNeg (3 : Int32))) + (1 : Int32)))) hc) gX8_packs_X8_sends rfl 1 (by decide +kernel) ⟨rfl, rfl, ⟨Nat.le_of_ble_eq_true rfl, Nat.le_of_ble_eq_true rfl⟩, Nat.le_of_ble_eq_true rfl, Nat.le_of_ble_eq_true rfl⟩ rfl hl (Nat.le_of_ble_eq_true rfl) dX8_packs_206 rfl hW hA [0] rfl rfl rfl (ch' := [kX8 g a0 y13]) rfl 0 rfl rfl rfl (fun H locs hW => ?_)
        refine lv_aload_n hx hb dX8_packs_209 rfl (lv_at hl 2 rfl) ?_
        obtain ⟨y14, hc, hf⟩ := bd_of hf
        refine g_cVv (Cn := RX8) C (ct_X8_clearsGone g l N a0 y13 hc) gX8_packs_X8_clearsGone rfl 0 (by decide +kernel) ⟨rfl, rfl, ⟨Nat.le_of_ble_eq_true rfl, Nat.le_of_ble_eq_true rfl⟩, Nat.le_of_ble_eq_true rfl, Nat.le_of_ble_eq_true rfl⟩ rfl hl (Nat.le_of_ble_eq_true rfl) dX8_packs_210 rfl hW hA [0] rfl rfl rfl (ch' := [kX8 g a0 y14]) rfl 0 rfl rfl rfl (fun H locs hW => ?_)
        refine lv_goto (tgt := 238) hx hb dX8_packs_213 (by decide) ?_
        obtain rfl := Option.some.inj hf
        subst hQ
        exact g_vret C hr hk0 hW rfl rfl dX8_packs_238
    · replace hf := (if_neg h).symm.trans hf
      refine lv_iconst (v := (1 : Int32)) hx hb dX8_packs_125 (by decide) ?_
      refine lv_goto (tgt := 130) hx hb dX8_packs_126 (by decide) ?_
      refine lv_istore (lv' := [(4, .int (1 : Int32)), (5, .int ((x2 - y5.1) - y6.1)), (0, .ref (a0 0)), (1, .int x1), (2, .int x2), (3, .int ((v0 16) (Int32.toNatClampNeg (3 : Int32))))]) hx hb dX8_packs_130 hl (by decide) rfl (fun ls hl => ?_)
      refine lv_aload_n hx hb dX8_packs_132 rfl (lv_at hl 2 rfl) ?_
      refine g_get C hW inX8 0 rfl rfl rfl 16 (by decide) (List.mem_of_getElem? (i := 1) rfl) (v := .ref (a0 5)) rfl dX8_packs_133 ?_
      refine lv_iload_n hx hb dX8_packs_136 rfl (lv_at hl 5 rfl) ?_
      refine lv_iconst (v := (3 : Int32)) hx hb dX8_packs_137 (by decide) ?_
      obtain ⟨y15, hc, hf⟩ := bd_of hf
      refine g_cS C (ct_X8_ofBlock g l N ((v0 16) (Int32.toNatClampNeg (3 : Int32))) (3 : Int32) hc) gX8_packs_X8_ofBlock rfl 2 (by decide +kernel) ⟨rfl, rfl, ⟨Nat.le_of_ble_eq_true rfl, Nat.le_of_ble_eq_true rfl⟩, Nat.le_of_ble_eq_true rfl, Nat.le_of_ble_eq_true rfl⟩ rfl hl (Nat.le_of_ble_eq_true rfl) dX8_packs_138 rfl hW hA [] rfl rfl rfl (ch' := [kX8 g a0 y6.2]) rfl (fun H locs hW => ?_)
      refine lv_iload hx hb dX8_packs_141 (lv_at hl 0 rfl) ?_
      refine lv_if_eq (tgt := 154) hx hb dX8_packs_143 (by decide) (fun h => absurd h (by decide)) (fun _ => ?_)
      refine lv_aload_n hx hb dX8_packs_146 rfl (lv_at hl 2 rfl) ?_
      refine lv_iload_n hx hb dX8_packs_147 rfl (lv_at hl 3 rfl) ?_
      obtain ⟨y16, hc, hf⟩ := bd_of hf
      refine g_cV (Cn := RX8) C (ct_X8_waitsOf g l N a0 x1 y6.2 hc) gX8_packs_X8_waitsOf rfl 1 (by decide +kernel) ⟨rfl, rfl, ⟨Nat.le_of_ble_eq_true rfl, Nat.le_of_ble_eq_true rfl⟩, Nat.le_of_ble_eq_true rfl, Nat.le_of_ble_eq_true rfl⟩ rfl hl (Nat.le_of_ble_eq_true rfl) dX8_packs_148 rfl hW hA [0] rfl rfl rfl (ch' := [kX8 g a0 y6.2]) rfl 0 rfl rfl rfl (fun H locs hW => ?_)
      refine lv_goto (tgt := 156) hx hb dX8_packs_151 (by decide) ?_
      obtain ⟨hi, hf⟩ := gd_of hf
      refine g_iast C hW 0 5 rfl (f := (y6.2 16)) rfl (ib_in hi) (kX8_w16 g a0 y6.2 (upd (y6.2 16) (Int32.toNatClampNeg y15) y16)) (ch' := [kX8 g a0 (st y6.2 16 (upd (y6.2 16) (Int32.toNatClampNeg y15) y16))]) rfl dX8_packs_156 (fun H locs hW => ?_)
      refine lv_aload_n hx hb dX8_packs_157 rfl (lv_at hl 2 rfl) ?_
      refine g_get C hW inX8 0 rfl rfl rfl 16 (by decide) (List.mem_of_getElem? (i := 1) rfl) (v := .ref (a0 5)) rfl dX8_packs_158 ?_
      refine lv_iload_n hx hb dX8_packs_161 rfl (lv_at hl 3 rfl) ?_
      refine lv_iconst (v := (0 : Int32)) hx hb dX8_packs_162 (by decide) ?_
      obtain ⟨y17, hc, hf⟩ := bd_of hf
      refine g_cS C (ct_X8_ofTerminal g l N x1 (0 : Int32) hc) gX8_packs_X8_ofTerminal rfl 2 (by decide +kernel) ⟨rfl, rfl, ⟨Nat.le_of_ble_eq_true rfl, Nat.le_of_ble_eq_true rfl⟩, Nat.le_of_ble_eq_true rfl, Nat.le_of_ble_eq_true rfl⟩ rfl hl (Nat.le_of_ble_eq_true rfl) dX8_packs_163 rfl hW hA [] rfl rfl rfl (ch' := [kX8 g a0 (st y6.2 16 (upd (y6.2 16) (Int32.toNatClampNeg y15) y16))]) rfl (fun H locs hW => ?_)
      refine lv_iload hx hb dX8_packs_166 (lv_at hl 0 rfl) ?_
      refine lv_if_eq (tgt := 175) hx hb dX8_packs_168 (by decide) (fun h => absurd h (by decide)) (fun _ => ?_)
      refine lv_iconst (v := (0 : Int32)) hx hb dX8_packs_171 (by decide) ?_
      refine lv_goto (tgt := 185) hx hb dX8_packs_172 (by decide) ?_
      obtain ⟨hi, hf⟩ := gd_of hf
      refine g_iast C hW 0 5 rfl (f := (upd (y6.2 16) (Int32.toNatClampNeg y15) y16)) rfl (ib_in hi) (kX8_w16 g a0 (st y6.2 16 (upd (y6.2 16) (Int32.toNatClampNeg y15) y16)) (upd (upd (y6.2 16) (Int32.toNatClampNeg y15) y16) (Int32.toNatClampNeg y17) (0 : Int32))) (ch' := [kX8 g a0 (st (st y6.2 16 (upd (y6.2 16) (Int32.toNatClampNeg y15) y16)) 16 (upd (upd (y6.2 16) (Int32.toNatClampNeg y15) y16) (Int32.toNatClampNeg y17) (0 : Int32)))]) rfl dX8_packs_185 (fun H locs hW => ?_)
      refine lv_aload_n hx hb dX8_packs_186 rfl (lv_at hl 2 rfl) ?_
      refine lv_iload_n hx hb dX8_packs_187 rfl (lv_at hl 5 rfl) ?_
      obtain ⟨y18, hc, hf⟩ := bd_of hf
      refine g_cV (Cn := RX8) C (ct_X8_inBlock g l N a0 ((v0 16) (Int32.toNatClampNeg (3 : Int32))) (st (st y6.2 16 (upd (y6.2 16) (Int32.toNatClampNeg y15) y16)) 16 (upd (upd (y6.2 16) (Int32.toNatClampNeg y15) y16) (Int32.toNatClampNeg y17) (0 : Int32))) hc) gX8_packs_X8_inBlock rfl 1 (by decide +kernel) ⟨rfl, rfl, ⟨Nat.le_of_ble_eq_true rfl, Nat.le_of_ble_eq_true rfl⟩, Nat.le_of_ble_eq_true rfl, Nat.le_of_ble_eq_true rfl⟩ rfl hl (Nat.le_of_ble_eq_true rfl) dX8_packs_188 rfl hW hA [0] rfl rfl rfl (ch' := [kX8 g a0 (st (st y6.2 16 (upd (y6.2 16) (Int32.toNatClampNeg y15) y16)) 16 (upd (upd (y6.2 16) (Int32.toNatClampNeg y15) y16) (Int32.toNatClampNeg y17) (0 : Int32)))]) rfl 0 rfl rfl rfl (fun H locs hW => ?_)
      refine lv_if_le (tgt := 216) hx hb dX8_packs_191 (by decide) (fun h => ?_) (fun h => ?_)
      · replace hf := (if_pos h).symm.trans hf
        refine lv_aload_n hx hb dX8_packs_216 rfl (lv_at hl 2 rfl) ?_
        refine g_get C hW inX8 0 rfl rfl rfl 16 (by decide) (List.mem_of_getElem? (i := 1) rfl) (v := .ref (a0 5)) rfl dX8_packs_217 ?_
        refine lv_iload_n hx hb dX8_packs_220 rfl (lv_at hl 5 rfl) ?_
        refine lv_iconst (v := (0 : Int32)) hx hb dX8_packs_221 (by decide) ?_
        obtain ⟨y19, hc, hf⟩ := bd_of hf
        refine g_cS C (ct_X8_ofBlock g l N ((v0 16) (Int32.toNatClampNeg (3 : Int32))) (0 : Int32) hc) gX8_packs_X8_ofBlock rfl 2 (by decide +kernel) ⟨rfl, rfl, ⟨Nat.le_of_ble_eq_true rfl, Nat.le_of_ble_eq_true rfl⟩, Nat.le_of_ble_eq_true rfl, Nat.le_of_ble_eq_true rfl⟩ rfl hl (Nat.le_of_ble_eq_true rfl) dX8_packs_222 rfl hW hA [] rfl rfl rfl (ch' := [kX8 g a0 (st (st y6.2 16 (upd (y6.2 16) (Int32.toNatClampNeg y15) y16)) 16 (upd (upd (y6.2 16) (Int32.toNatClampNeg y15) y16) (Int32.toNatClampNeg y17) (0 : Int32)))]) rfl (fun H locs hW => ?_)
        refine lv_iconst (v := (0 : Int32)) hx hb dX8_packs_225 (by decide) ?_
        obtain ⟨hi, hf⟩ := gd_of hf
        refine g_iast C hW 0 5 rfl (f := (upd (upd (y6.2 16) (Int32.toNatClampNeg y15) y16) (Int32.toNatClampNeg y17) (0 : Int32))) rfl (ib_in hi) (kX8_w16 g a0 (st (st y6.2 16 (upd (y6.2 16) (Int32.toNatClampNeg y15) y16)) 16 (upd (upd (y6.2 16) (Int32.toNatClampNeg y15) y16) (Int32.toNatClampNeg y17) (0 : Int32))) (upd (upd (upd (y6.2 16) (Int32.toNatClampNeg y15) y16) (Int32.toNatClampNeg y17) (0 : Int32)) (Int32.toNatClampNeg y19) (0 : Int32))) (ch' := [kX8 g a0 (st (st (st y6.2 16 (upd (y6.2 16) (Int32.toNatClampNeg y15) y16)) 16 (upd (upd (y6.2 16) (Int32.toNatClampNeg y15) y16) (Int32.toNatClampNeg y17) (0 : Int32))) 16 (upd (upd (upd (y6.2 16) (Int32.toNatClampNeg y15) y16) (Int32.toNatClampNeg y17) (0 : Int32)) (Int32.toNatClampNeg y19) (0 : Int32)))]) rfl dX8_packs_226 (fun H locs hW => ?_)
        refine lv_aload_n hx hb dX8_packs_227 rfl (lv_at hl 2 rfl) ?_
        refine g_get C hW inX8 0 rfl rfl rfl 16 (by decide) (List.mem_of_getElem? (i := 1) rfl) (v := .ref (a0 5)) rfl dX8_packs_228 ?_
        refine lv_iload_n hx hb dX8_packs_231 rfl (lv_at hl 5 rfl) ?_
        refine lv_iconst (v := (3 : Int32)) hx hb dX8_packs_232 (by decide) ?_
        obtain ⟨y20, hc, hf⟩ := bd_of hf
        refine g_cS C (ct_X8_ofBlock g l N ((v0 16) (Int32.toNatClampNeg (3 : Int32))) (3 : Int32) hc) gX8_packs_X8_ofBlock rfl 2 (by decide +kernel) ⟨rfl, rfl, ⟨Nat.le_of_ble_eq_true rfl, Nat.le_of_ble_eq_true rfl⟩, Nat.le_of_ble_eq_true rfl, Nat.le_of_ble_eq_true rfl⟩ rfl hl (Nat.le_of_ble_eq_true rfl) dX8_packs_233 rfl hW hA [] rfl rfl rfl (ch' := [kX8 g a0 (st (st (st y6.2 16 (upd (y6.2 16) (Int32.toNatClampNeg y15) y16)) 16 (upd (upd (y6.2 16) (Int32.toNatClampNeg y15) y16) (Int32.toNatClampNeg y17) (0 : Int32))) 16 (upd (upd (upd (y6.2 16) (Int32.toNatClampNeg y15) y16) (Int32.toNatClampNeg y17) (0 : Int32)) (Int32.toNatClampNeg y19) (0 : Int32)))]) rfl (fun H locs hW => ?_)
        refine lv_iconst (v := (0 : Int32)) hx hb dX8_packs_236 (by decide) ?_
        obtain ⟨hi, hf⟩ := gd_of hf
        refine g_iast C hW 0 5 rfl (f := (upd (upd (upd (y6.2 16) (Int32.toNatClampNeg y15) y16) (Int32.toNatClampNeg y17) (0 : Int32)) (Int32.toNatClampNeg y19) (0 : Int32))) rfl (ib_in hi) (kX8_w16 g a0 (st (st (st y6.2 16 (upd (y6.2 16) (Int32.toNatClampNeg y15) y16)) 16 (upd (upd (y6.2 16) (Int32.toNatClampNeg y15) y16) (Int32.toNatClampNeg y17) (0 : Int32))) 16 (upd (upd (upd (y6.2 16) (Int32.toNatClampNeg y15) y16) (Int32.toNatClampNeg y17) (0 : Int32)) (Int32.toNatClampNeg y19) (0 : Int32))) (upd (upd (upd (upd (y6.2 16) (Int32.toNatClampNeg y15) y16) (Int32.toNatClampNeg y17) (0 : Int32)) (Int32.toNatClampNeg y19) (0 : Int32)) (Int32.toNatClampNeg y20) (0 : Int32))) (ch' := [kX8 g a0 (st (st (st (st y6.2 16 (upd (y6.2 16) (Int32.toNatClampNeg y15) y16)) 16 (upd (upd (y6.2 16) (Int32.toNatClampNeg y15) y16) (Int32.toNatClampNeg y17) (0 : Int32))) 16 (upd (upd (upd (y6.2 16) (Int32.toNatClampNeg y15) y16) (Int32.toNatClampNeg y17) (0 : Int32)) (Int32.toNatClampNeg y19) (0 : Int32))) 16 (upd (upd (upd (upd (y6.2 16) (Int32.toNatClampNeg y15) y16) (Int32.toNatClampNeg y17) (0 : Int32)) (Int32.toNatClampNeg y19) (0 : Int32)) (Int32.toNatClampNeg y20) (0 : Int32)))]) rfl dX8_packs_237 (fun H locs hW => ?_)
        obtain rfl := Option.some.inj hf
        subst hQ
        exact g_vret C hr hk0 hW rfl rfl dX8_packs_238
      · replace hf := (if_neg h).symm.trans hf
        refine lv_aload_n hx hb dX8_packs_194 rfl (lv_at hl 2 rfl) ?_
        refine g_get C hW inX8 0 rfl rfl rfl 16 (by decide) (List.mem_of_getElem? (i := 1) rfl) (v := .ref (a0 5)) rfl dX8_packs_195 ?_
        refine lv_iconst (v := (3 : Int32)) hx hb dX8_packs_198 (by decide) ?_
        refine lv_dup2_11 hx hb dX8_packs_199 rfl rfl ?_
        obtain ⟨hi, hf⟩ := gd_of hf
        refine g_iald C hW 0 5 rfl (f := (upd (upd (y6.2 16) (Int32.toNatClampNeg y15) y16) (Int32.toNatClampNeg y17) (0 : Int32))) rfl (ib_in hi) dX8_packs_200 ?_
        refine lv_iconst (v := (1 : Int32)) hx hb dX8_packs_201 (by decide) ?_
        refine lv_iadd hx hb dX8_packs_202 ?_
        obtain ⟨hi, hf⟩ := gd_of hf
        refine g_iast C hW 0 5 rfl (f := (upd (upd (y6.2 16) (Int32.toNatClampNeg y15) y16) (Int32.toNatClampNeg y17) (0 : Int32))) rfl (ib_in hi) (kX8_w16 g a0 (st (st y6.2 16 (upd (y6.2 16) (Int32.toNatClampNeg y15) y16)) 16 (upd (upd (y6.2 16) (Int32.toNatClampNeg y15) y16) (Int32.toNatClampNeg y17) (0 : Int32))) (upd (upd (upd (y6.2 16) (Int32.toNatClampNeg y15) y16) (Int32.toNatClampNeg y17) (0 : Int32)) (Int32.toNatClampNeg (3 : Int32)) (((upd (upd (y6.2 16) (Int32.toNatClampNeg y15) y16) (Int32.toNatClampNeg y17) (0 : Int32)) (Int32.toNatClampNeg (3 : Int32))) + (1 : Int32)))) (ch' := [kX8 g a0 (st (st (st y6.2 16 (upd (y6.2 16) (Int32.toNatClampNeg y15) y16)) 16 (upd (upd (y6.2 16) (Int32.toNatClampNeg y15) y16) (Int32.toNatClampNeg y17) (0 : Int32))) 16 (upd (upd (upd (y6.2 16) (Int32.toNatClampNeg y15) y16) (Int32.toNatClampNeg y17) (0 : Int32)) (Int32.toNatClampNeg (3 : Int32)) (((upd (upd (y6.2 16) (Int32.toNatClampNeg y15) y16) (Int32.toNatClampNeg y17) (0 : Int32)) (Int32.toNatClampNeg (3 : Int32))) + (1 : Int32))))]) rfl dX8_packs_203 (fun H locs hW => ?_)
        refine lv_aload_n hx hb dX8_packs_204 rfl (lv_at hl 2 rfl) ?_
        refine lv_iload_n hx hb dX8_packs_205 rfl (lv_at hl 5 rfl) ?_
        obtain ⟨y21, hc, hf⟩ := bd_of hf
        refine g_cVv (Cn := RX8) C (ct_X8_sends g l N a0 ((v0 16) (Int32.toNatClampNeg (3 : Int32))) (st (st (st y6.2 16 (upd (y6.2 16) (Int32.toNatClampNeg y15) y16)) 16 (upd (upd (y6.2 16) (Int32.toNatClampNeg y15) y16) (Int32.toNatClampNeg y17) (0 : Int32))) 16 (upd (upd (upd (y6.2 16) (Int32.toNatClampNeg y15) y16) (Int32.toNatClampNeg y17) (0 : Int32)) (Int32.toNatClampNeg (3 : Int32)) (((upd (upd (y6.2 16) (Int32.toNatClampNeg y15) y16) (Int32.toNatClampNeg y17) (0 : Int32)) (Int32.toNatClampNeg (3 : Int32))) + (1 : Int32)))) hc) gX8_packs_X8_sends rfl 1 (by decide +kernel) ⟨rfl, rfl, ⟨Nat.le_of_ble_eq_true rfl, Nat.le_of_ble_eq_true rfl⟩, Nat.le_of_ble_eq_true rfl, Nat.le_of_ble_eq_true rfl⟩ rfl hl (Nat.le_of_ble_eq_true rfl) dX8_packs_206 rfl hW hA [0] rfl rfl rfl (ch' := [kX8 g a0 y21]) rfl 0 rfl rfl rfl (fun H locs hW => ?_)
        refine lv_aload_n hx hb dX8_packs_209 rfl (lv_at hl 2 rfl) ?_
        obtain ⟨y22, hc, hf⟩ := bd_of hf
        refine g_cVv (Cn := RX8) C (ct_X8_clearsGone g l N a0 y21 hc) gX8_packs_X8_clearsGone rfl 0 (by decide +kernel) ⟨rfl, rfl, ⟨Nat.le_of_ble_eq_true rfl, Nat.le_of_ble_eq_true rfl⟩, Nat.le_of_ble_eq_true rfl, Nat.le_of_ble_eq_true rfl⟩ rfl hl (Nat.le_of_ble_eq_true rfl) dX8_packs_210 rfl hW hA [0] rfl rfl rfl (ch' := [kX8 g a0 y22]) rfl 0 rfl rfl rfl (fun H locs hW => ?_)
        refine lv_goto (tgt := 238) hx hb dX8_packs_213 (by decide) ?_
        obtain rfl := Option.some.inj hf
        subst hQ
        exact g_vret C hr hk0 hW rfl rfl dX8_packs_238
  · replace hf := (if_pos h).symm.trans hf
    refine lv_iload_n hx hb dX8_packs_60 rfl (lv_at hl 2 rfl) ?_
    refine lv_iconst (v := (1 : Int32)) hx hb dX8_packs_61 (by decide) ?_
    refine lv_icmp_le (tgt := 69) hx hb dX8_packs_62 (by decide) (fun h => ?_) (fun h => ?_)
    · replace hf := (if_pos h).symm.trans hf
      refine lv_iconst (v := (0 : Int32)) hx hb dX8_packs_69 (by decide) ?_
      refine lv_istore (lv' := [(4, .int (0 : Int32)), (0, .ref (a0 0)), (1, .int x1), (2, .int x2), (3, .int ((v0 16) (Int32.toNatClampNeg (3 : Int32))))]) hx hb dX8_packs_70 hl (by decide) rfl (fun ls hl => ?_)
      refine lv_iload hx hb dX8_packs_72 (lv_at hl 0 rfl) ?_
      refine lv_if_eq (tgt := 83) hx hb dX8_packs_74 (by decide) (fun _ => ?_) (fun h => absurd h (by decide))
      refine lv_iload_n hx hb dX8_packs_83 rfl (lv_at hl 3 rfl) ?_
      refine lv_istore (lv' := [(5, .int x2), (4, .int (0 : Int32)), (0, .ref (a0 0)), (1, .int x1), (2, .int x2), (3, .int ((v0 16) (Int32.toNatClampNeg (3 : Int32))))]) hx hb dX8_packs_84 hl (by decide) rfl (fun ls hl => ?_)
      refine lv_iload hx hb dX8_packs_86 (lv_at hl 0 rfl) ?_
      refine lv_aload_n hx hb dX8_packs_88 rfl (lv_at hl 2 rfl) ?_
      refine lv_iload_n hx hb dX8_packs_89 rfl (lv_at hl 5 rfl) ?_
      refine lv_iload_n hx hb dX8_packs_90 rfl (lv_at hl 3 rfl) ?_
      refine lv_iload hx hb dX8_packs_91 (lv_at hl 0 rfl) ?_
      refine lv_iconst (v := (1 : Int32)) hx hb dX8_packs_93 (by decide) ?_
      obtain ⟨y23, hc, hf⟩ := bd_of hf
      refine g_cV (Cn := RX8) C (ct_X8_fills g l N a0 ((v0 16) (Int32.toNatClampNeg (3 : Int32))) x1 x2 (1 : Int32) (st v0_2 16 (upd (v0_2 16) (Int32.toNatClampNeg y3) x1)) hc) gX8_packs_X8_fills rfl 4 (by decide +kernel) ⟨rfl, rfl, ⟨Nat.le_of_ble_eq_true rfl, Nat.le_of_ble_eq_true rfl⟩, Nat.le_of_ble_eq_true rfl, Nat.le_of_ble_eq_true rfl⟩ rfl hl (Nat.le_of_ble_eq_true rfl) dX8_packs_94 rfl hW hA [0] rfl rfl rfl (ch' := [kX8 g a0 y23.2]) rfl 0 rfl rfl rfl (fun H locs hW => ?_)
      refine lv_isub hx hb dX8_packs_97 ?_
      refine lv_istore (lv' := [(5, .int (x2 - y23.1)), (4, .int (0 : Int32)), (0, .ref (a0 0)), (1, .int x1), (2, .int x2), (3, .int ((v0 16) (Int32.toNatClampNeg (3 : Int32))))]) hx hb dX8_packs_98 hl (by decide) rfl (fun ls hl => ?_)
      refine lv_iload hx hb dX8_packs_100 (lv_at hl 0 rfl) ?_
      refine lv_aload_n hx hb dX8_packs_102 rfl (lv_at hl 2 rfl) ?_
      refine lv_iload_n hx hb dX8_packs_103 rfl (lv_at hl 5 rfl) ?_
      refine lv_iload_n hx hb dX8_packs_104 rfl (lv_at hl 3 rfl) ?_
      refine lv_iload hx hb dX8_packs_105 (lv_at hl 0 rfl) ?_
      refine lv_iconst (v := (0 : Int32)) hx hb dX8_packs_107 (by decide) ?_
      obtain ⟨y24, hc, hf⟩ := bd_of hf
      refine g_cV (Cn := RX8) C (ct_X8_fills g l N a0 ((v0 16) (Int32.toNatClampNeg (3 : Int32))) x1 (x2 - y23.1) (0 : Int32) y23.2 hc) gX8_packs_X8_fills rfl 4 (by decide +kernel) ⟨rfl, rfl, ⟨Nat.le_of_ble_eq_true rfl, Nat.le_of_ble_eq_true rfl⟩, Nat.le_of_ble_eq_true rfl, Nat.le_of_ble_eq_true rfl⟩ rfl hl (Nat.le_of_ble_eq_true rfl) dX8_packs_108 rfl hW hA [0] rfl rfl rfl (ch' := [kX8 g a0 y24.2]) rfl 0 rfl rfl rfl (fun H locs hW => ?_)
      refine lv_isub hx hb dX8_packs_111 ?_
      refine lv_istore (lv' := [(5, .int ((x2 - y23.1) - y24.1)), (4, .int (0 : Int32)), (0, .ref (a0 0)), (1, .int x1), (2, .int x2), (3, .int ((v0 16) (Int32.toNatClampNeg (3 : Int32))))]) hx hb dX8_packs_112 hl (by decide) rfl (fun ls hl => ?_)
      refine lv_iload hx hb dX8_packs_114 (lv_at hl 1 rfl) ?_
      refine lv_if_ne (tgt := 125) hx hb dX8_packs_116 (by decide) (fun h => absurd h (by decide)) (fun _ => ?_)
      refine lv_iload hx hb dX8_packs_119 (lv_at hl 0 rfl) ?_
      refine lv_iconst (v := (1 : Int32)) hx hb dX8_packs_121 (by decide) ?_
      refine lv_icmp_le (tgt := 129) hx hb dX8_packs_122 (by decide) (fun h => ?_) (fun h => ?_)
      · replace hf := (if_pos h).symm.trans hf
        refine lv_iconst (v := (0 : Int32)) hx hb dX8_packs_129 (by decide) ?_
        refine lv_istore (lv' := [(4, .int (0 : Int32)), (5, .int ((x2 - y23.1) - y24.1)), (0, .ref (a0 0)), (1, .int x1), (2, .int x2), (3, .int ((v0 16) (Int32.toNatClampNeg (3 : Int32))))]) hx hb dX8_packs_130 hl (by decide) rfl (fun ls hl => ?_)
        refine lv_aload_n hx hb dX8_packs_132 rfl (lv_at hl 2 rfl) ?_
        refine g_get C hW inX8 0 rfl rfl rfl 16 (by decide) (List.mem_of_getElem? (i := 1) rfl) (v := .ref (a0 5)) rfl dX8_packs_133 ?_
        refine lv_iload_n hx hb dX8_packs_136 rfl (lv_at hl 5 rfl) ?_
        refine lv_iconst (v := (3 : Int32)) hx hb dX8_packs_137 (by decide) ?_
        obtain ⟨y25, hc, hf⟩ := bd_of hf
        refine g_cS C (ct_X8_ofBlock g l N ((v0 16) (Int32.toNatClampNeg (3 : Int32))) (3 : Int32) hc) gX8_packs_X8_ofBlock rfl 2 (by decide +kernel) ⟨rfl, rfl, ⟨Nat.le_of_ble_eq_true rfl, Nat.le_of_ble_eq_true rfl⟩, Nat.le_of_ble_eq_true rfl, Nat.le_of_ble_eq_true rfl⟩ rfl hl (Nat.le_of_ble_eq_true rfl) dX8_packs_138 rfl hW hA [] rfl rfl rfl (ch' := [kX8 g a0 y24.2]) rfl (fun H locs hW => ?_)
        refine lv_iload hx hb dX8_packs_141 (lv_at hl 0 rfl) ?_
        refine lv_if_eq (tgt := 154) hx hb dX8_packs_143 (by decide) (fun _ => ?_) (fun h => absurd h (by decide))
        refine lv_bipush (v := (-9 : Int32)) hx hb dX8_packs_154 (by decide) ?_
        obtain ⟨hi, hf⟩ := gd_of hf
        refine g_iast C hW 0 5 rfl (f := (y24.2 16)) rfl (ib_in hi) (kX8_w16 g a0 y24.2 (upd (y24.2 16) (Int32.toNatClampNeg y25) (-9 : Int32))) (ch' := [kX8 g a0 (st y24.2 16 (upd (y24.2 16) (Int32.toNatClampNeg y25) (-9 : Int32)))]) rfl dX8_packs_156 (fun H locs hW => ?_)
        refine lv_aload_n hx hb dX8_packs_157 rfl (lv_at hl 2 rfl) ?_
        refine g_get C hW inX8 0 rfl rfl rfl 16 (by decide) (List.mem_of_getElem? (i := 1) rfl) (v := .ref (a0 5)) rfl dX8_packs_158 ?_
        refine lv_iload_n hx hb dX8_packs_161 rfl (lv_at hl 3 rfl) ?_
        refine lv_iconst (v := (0 : Int32)) hx hb dX8_packs_162 (by decide) ?_
        obtain ⟨y26, hc, hf⟩ := bd_of hf
        refine g_cS C (ct_X8_ofTerminal g l N x1 (0 : Int32) hc) gX8_packs_X8_ofTerminal rfl 2 (by decide +kernel) ⟨rfl, rfl, ⟨Nat.le_of_ble_eq_true rfl, Nat.le_of_ble_eq_true rfl⟩, Nat.le_of_ble_eq_true rfl, Nat.le_of_ble_eq_true rfl⟩ rfl hl (Nat.le_of_ble_eq_true rfl) dX8_packs_163 rfl hW hA [] rfl rfl rfl (ch' := [kX8 g a0 (st y24.2 16 (upd (y24.2 16) (Int32.toNatClampNeg y25) (-9 : Int32)))]) rfl (fun H locs hW => ?_)
        refine lv_iload hx hb dX8_packs_166 (lv_at hl 0 rfl) ?_
        refine lv_if_eq (tgt := 175) hx hb dX8_packs_168 (by decide) (fun _ => ?_) (fun h => absurd h (by decide))
        refine lv_aload_n hx hb dX8_packs_175 rfl (lv_at hl 2 rfl) ?_
        refine g_get C hW inX8 0 rfl rfl rfl 16 (by decide) (List.mem_of_getElem? (i := 1) rfl) (v := .ref (a0 5)) rfl dX8_packs_176 ?_
        refine lv_iload_n hx hb dX8_packs_179 rfl (lv_at hl 3 rfl) ?_
        refine lv_iconst (v := (0 : Int32)) hx hb dX8_packs_180 (by decide) ?_
        obtain ⟨y27, hc, hf⟩ := bd_of hf
        refine g_cS C (ct_X8_ofTerminal g l N x1 (0 : Int32) hc) gX8_packs_X8_ofTerminal rfl 2 (by decide +kernel) ⟨rfl, rfl, ⟨Nat.le_of_ble_eq_true rfl, Nat.le_of_ble_eq_true rfl⟩, Nat.le_of_ble_eq_true rfl, Nat.le_of_ble_eq_true rfl⟩ rfl hl (Nat.le_of_ble_eq_true rfl) dX8_packs_181 rfl hW hA [] rfl rfl rfl (ch' := [kX8 g a0 (st y24.2 16 (upd (y24.2 16) (Int32.toNatClampNeg y25) (-9 : Int32)))]) rfl (fun H locs hW => ?_)
        obtain ⟨hi, hf⟩ := gd_of hf
        refine g_iald C hW 0 5 rfl (f := (upd (y24.2 16) (Int32.toNatClampNeg y25) (-9 : Int32))) rfl (ib_in hi) dX8_packs_184 ?_
        obtain ⟨hi, hf⟩ := gd_of hf
        refine g_iast C hW 0 5 rfl (f := (upd (y24.2 16) (Int32.toNatClampNeg y25) (-9 : Int32))) rfl (ib_in hi) (kX8_w16 g a0 (st y24.2 16 (upd (y24.2 16) (Int32.toNatClampNeg y25) (-9 : Int32))) (upd (upd (y24.2 16) (Int32.toNatClampNeg y25) (-9 : Int32)) (Int32.toNatClampNeg y26) ((upd (y24.2 16) (Int32.toNatClampNeg y25) (-9 : Int32)) (Int32.toNatClampNeg y27)))) (ch' := [kX8 g a0 (st (st y24.2 16 (upd (y24.2 16) (Int32.toNatClampNeg y25) (-9 : Int32))) 16 (upd (upd (y24.2 16) (Int32.toNatClampNeg y25) (-9 : Int32)) (Int32.toNatClampNeg y26) ((upd (y24.2 16) (Int32.toNatClampNeg y25) (-9 : Int32)) (Int32.toNatClampNeg y27))))]) rfl dX8_packs_185 (fun H locs hW => ?_)
        refine lv_aload_n hx hb dX8_packs_186 rfl (lv_at hl 2 rfl) ?_
        refine lv_iload_n hx hb dX8_packs_187 rfl (lv_at hl 5 rfl) ?_
        obtain ⟨y28, hc, hf⟩ := bd_of hf
        refine g_cV (Cn := RX8) C (ct_X8_inBlock g l N a0 ((v0 16) (Int32.toNatClampNeg (3 : Int32))) (st (st y24.2 16 (upd (y24.2 16) (Int32.toNatClampNeg y25) (-9 : Int32))) 16 (upd (upd (y24.2 16) (Int32.toNatClampNeg y25) (-9 : Int32)) (Int32.toNatClampNeg y26) ((upd (y24.2 16) (Int32.toNatClampNeg y25) (-9 : Int32)) (Int32.toNatClampNeg y27)))) hc) gX8_packs_X8_inBlock rfl 1 (by decide +kernel) ⟨rfl, rfl, ⟨Nat.le_of_ble_eq_true rfl, Nat.le_of_ble_eq_true rfl⟩, Nat.le_of_ble_eq_true rfl, Nat.le_of_ble_eq_true rfl⟩ rfl hl (Nat.le_of_ble_eq_true rfl) dX8_packs_188 rfl hW hA [0] rfl rfl rfl (ch' := [kX8 g a0 (st (st y24.2 16 (upd (y24.2 16) (Int32.toNatClampNeg y25) (-9 : Int32))) 16 (upd (upd (y24.2 16) (Int32.toNatClampNeg y25) (-9 : Int32)) (Int32.toNatClampNeg y26) ((upd (y24.2 16) (Int32.toNatClampNeg y25) (-9 : Int32)) (Int32.toNatClampNeg y27))))]) rfl 0 rfl rfl rfl (fun H locs hW => ?_)
        refine lv_if_le (tgt := 216) hx hb dX8_packs_191 (by decide) (fun h => ?_) (fun h => ?_)
        · replace hf := (if_pos h).symm.trans hf
          refine lv_aload_n hx hb dX8_packs_216 rfl (lv_at hl 2 rfl) ?_
          refine g_get C hW inX8 0 rfl rfl rfl 16 (by decide) (List.mem_of_getElem? (i := 1) rfl) (v := .ref (a0 5)) rfl dX8_packs_217 ?_
          refine lv_iload_n hx hb dX8_packs_220 rfl (lv_at hl 5 rfl) ?_
          refine lv_iconst (v := (0 : Int32)) hx hb dX8_packs_221 (by decide) ?_
          obtain ⟨y29, hc, hf⟩ := bd_of hf
          refine g_cS C (ct_X8_ofBlock g l N ((v0 16) (Int32.toNatClampNeg (3 : Int32))) (0 : Int32) hc) gX8_packs_X8_ofBlock rfl 2 (by decide +kernel) ⟨rfl, rfl, ⟨Nat.le_of_ble_eq_true rfl, Nat.le_of_ble_eq_true rfl⟩, Nat.le_of_ble_eq_true rfl, Nat.le_of_ble_eq_true rfl⟩ rfl hl (Nat.le_of_ble_eq_true rfl) dX8_packs_222 rfl hW hA [] rfl rfl rfl (ch' := [kX8 g a0 (st (st y24.2 16 (upd (y24.2 16) (Int32.toNatClampNeg y25) (-9 : Int32))) 16 (upd (upd (y24.2 16) (Int32.toNatClampNeg y25) (-9 : Int32)) (Int32.toNatClampNeg y26) ((upd (y24.2 16) (Int32.toNatClampNeg y25) (-9 : Int32)) (Int32.toNatClampNeg y27))))]) rfl (fun H locs hW => ?_)
          refine lv_iconst (v := (0 : Int32)) hx hb dX8_packs_225 (by decide) ?_
          obtain ⟨hi, hf⟩ := gd_of hf
          refine g_iast C hW 0 5 rfl (f := (upd (upd (y24.2 16) (Int32.toNatClampNeg y25) (-9 : Int32)) (Int32.toNatClampNeg y26) ((upd (y24.2 16) (Int32.toNatClampNeg y25) (-9 : Int32)) (Int32.toNatClampNeg y27)))) rfl (ib_in hi) (kX8_w16 g a0 (st (st y24.2 16 (upd (y24.2 16) (Int32.toNatClampNeg y25) (-9 : Int32))) 16 (upd (upd (y24.2 16) (Int32.toNatClampNeg y25) (-9 : Int32)) (Int32.toNatClampNeg y26) ((upd (y24.2 16) (Int32.toNatClampNeg y25) (-9 : Int32)) (Int32.toNatClampNeg y27)))) (upd (upd (upd (y24.2 16) (Int32.toNatClampNeg y25) (-9 : Int32)) (Int32.toNatClampNeg y26) ((upd (y24.2 16) (Int32.toNatClampNeg y25) (-9 : Int32)) (Int32.toNatClampNeg y27))) (Int32.toNatClampNeg y29) (0 : Int32))) (ch' := [kX8 g a0 (st (st (st y24.2 16 (upd (y24.2 16) (Int32.toNatClampNeg y25) (-9 : Int32))) 16 (upd (upd (y24.2 16) (Int32.toNatClampNeg y25) (-9 : Int32)) (Int32.toNatClampNeg y26) ((upd (y24.2 16) (Int32.toNatClampNeg y25) (-9 : Int32)) (Int32.toNatClampNeg y27)))) 16 (upd (upd (upd (y24.2 16) (Int32.toNatClampNeg y25) (-9 : Int32)) (Int32.toNatClampNeg y26) ((upd (y24.2 16) (Int32.toNatClampNeg y25) (-9 : Int32)) (Int32.toNatClampNeg y27))) (Int32.toNatClampNeg y29) (0 : Int32)))]) rfl dX8_packs_226 (fun H locs hW => ?_)
          refine lv_aload_n hx hb dX8_packs_227 rfl (lv_at hl 2 rfl) ?_
          refine g_get C hW inX8 0 rfl rfl rfl 16 (by decide) (List.mem_of_getElem? (i := 1) rfl) (v := .ref (a0 5)) rfl dX8_packs_228 ?_
          refine lv_iload_n hx hb dX8_packs_231 rfl (lv_at hl 5 rfl) ?_
          refine lv_iconst (v := (3 : Int32)) hx hb dX8_packs_232 (by decide) ?_
          obtain ⟨y30, hc, hf⟩ := bd_of hf
          refine g_cS C (ct_X8_ofBlock g l N ((v0 16) (Int32.toNatClampNeg (3 : Int32))) (3 : Int32) hc) gX8_packs_X8_ofBlock rfl 2 (by decide +kernel) ⟨rfl, rfl, ⟨Nat.le_of_ble_eq_true rfl, Nat.le_of_ble_eq_true rfl⟩, Nat.le_of_ble_eq_true rfl, Nat.le_of_ble_eq_true rfl⟩ rfl hl (Nat.le_of_ble_eq_true rfl) dX8_packs_233 rfl hW hA [] rfl rfl rfl (ch' := [kX8 g a0 (st (st (st y24.2 16 (upd (y24.2 16) (Int32.toNatClampNeg y25) (-9 : Int32))) 16 (upd (upd (y24.2 16) (Int32.toNatClampNeg y25) (-9 : Int32)) (Int32.toNatClampNeg y26) ((upd (y24.2 16) (Int32.toNatClampNeg y25) (-9 : Int32)) (Int32.toNatClampNeg y27)))) 16 (upd (upd (upd (y24.2 16) (Int32.toNatClampNeg y25) (-9 : Int32)) (Int32.toNatClampNeg y26) ((upd (y24.2 16) (Int32.toNatClampNeg y25) (-9 : Int32)) (Int32.toNatClampNeg y27))) (Int32.toNatClampNeg y29) (0 : Int32)))]) rfl (fun H locs hW => ?_)
          refine lv_iconst (v := (0 : Int32)) hx hb dX8_packs_236 (by decide) ?_
          obtain ⟨hi, hf⟩ := gd_of hf
          refine g_iast C hW 0 5 rfl (f := (upd (upd (upd (y24.2 16) (Int32.toNatClampNeg y25) (-9 : Int32)) (Int32.toNatClampNeg y26) ((upd (y24.2 16) (Int32.toNatClampNeg y25) (-9 : Int32)) (Int32.toNatClampNeg y27))) (Int32.toNatClampNeg y29) (0 : Int32))) rfl (ib_in hi) (kX8_w16 g a0 (st (st (st y24.2 16 (upd (y24.2 16) (Int32.toNatClampNeg y25) (-9 : Int32))) 16 (upd (upd (y24.2 16) (Int32.toNatClampNeg y25) (-9 : Int32)) (Int32.toNatClampNeg y26) ((upd (y24.2 16) (Int32.toNatClampNeg y25) (-9 : Int32)) (Int32.toNatClampNeg y27)))) 16 (upd (upd (upd (y24.2 16) (Int32.toNatClampNeg y25) (-9 : Int32)) (Int32.toNatClampNeg y26) ((upd (y24.2 16) (Int32.toNatClampNeg y25) (-9 : Int32)) (Int32.toNatClampNeg y27))) (Int32.toNatClampNeg y29) (0 : Int32))) (upd (upd (upd (upd (y24.2 16) (Int32.toNatClampNeg y25) (-9 : Int32)) (Int32.toNatClampNeg y26) ((upd (y24.2 16) (Int32.toNatClampNeg y25) (-9 : Int32)) (Int32.toNatClampNeg y27))) (Int32.toNatClampNeg y29) (0 : Int32)) (Int32.toNatClampNeg y30) (0 : Int32))) (ch' := [kX8 g a0 (st (st (st (st y24.2 16 (upd (y24.2 16) (Int32.toNatClampNeg y25) (-9 : Int32))) 16 (upd (upd (y24.2 16) (Int32.toNatClampNeg y25) (-9 : Int32)) (Int32.toNatClampNeg y26) ((upd (y24.2 16) (Int32.toNatClampNeg y25) (-9 : Int32)) (Int32.toNatClampNeg y27)))) 16 (upd (upd (upd (y24.2 16) (Int32.toNatClampNeg y25) (-9 : Int32)) (Int32.toNatClampNeg y26) ((upd (y24.2 16) (Int32.toNatClampNeg y25) (-9 : Int32)) (Int32.toNatClampNeg y27))) (Int32.toNatClampNeg y29) (0 : Int32))) 16 (upd (upd (upd (upd (y24.2 16) (Int32.toNatClampNeg y25) (-9 : Int32)) (Int32.toNatClampNeg y26) ((upd (y24.2 16) (Int32.toNatClampNeg y25) (-9 : Int32)) (Int32.toNatClampNeg y27))) (Int32.toNatClampNeg y29) (0 : Int32)) (Int32.toNatClampNeg y30) (0 : Int32)))]) rfl dX8_packs_237 (fun H locs hW => ?_)
          obtain rfl := Option.some.inj hf
          subst hQ
          exact g_vret C hr hk0 hW rfl rfl dX8_packs_238
        · replace hf := (if_neg h).symm.trans hf
          refine lv_aload_n hx hb dX8_packs_194 rfl (lv_at hl 2 rfl) ?_
          refine g_get C hW inX8 0 rfl rfl rfl 16 (by decide) (List.mem_of_getElem? (i := 1) rfl) (v := .ref (a0 5)) rfl dX8_packs_195 ?_
          refine lv_iconst (v := (3 : Int32)) hx hb dX8_packs_198 (by decide) ?_
          refine lv_dup2_11 hx hb dX8_packs_199 rfl rfl ?_
          obtain ⟨hi, hf⟩ := gd_of hf
          refine g_iald C hW 0 5 rfl (f := (upd (upd (y24.2 16) (Int32.toNatClampNeg y25) (-9 : Int32)) (Int32.toNatClampNeg y26) ((upd (y24.2 16) (Int32.toNatClampNeg y25) (-9 : Int32)) (Int32.toNatClampNeg y27)))) rfl (ib_in hi) dX8_packs_200 ?_
          refine lv_iconst (v := (1 : Int32)) hx hb dX8_packs_201 (by decide) ?_
          refine lv_iadd hx hb dX8_packs_202 ?_
          obtain ⟨hi, hf⟩ := gd_of hf
          refine g_iast C hW 0 5 rfl (f := (upd (upd (y24.2 16) (Int32.toNatClampNeg y25) (-9 : Int32)) (Int32.toNatClampNeg y26) ((upd (y24.2 16) (Int32.toNatClampNeg y25) (-9 : Int32)) (Int32.toNatClampNeg y27)))) rfl (ib_in hi) (kX8_w16 g a0 (st (st y24.2 16 (upd (y24.2 16) (Int32.toNatClampNeg y25) (-9 : Int32))) 16 (upd (upd (y24.2 16) (Int32.toNatClampNeg y25) (-9 : Int32)) (Int32.toNatClampNeg y26) ((upd (y24.2 16) (Int32.toNatClampNeg y25) (-9 : Int32)) (Int32.toNatClampNeg y27)))) (upd (upd (upd (y24.2 16) (Int32.toNatClampNeg y25) (-9 : Int32)) (Int32.toNatClampNeg y26) ((upd (y24.2 16) (Int32.toNatClampNeg y25) (-9 : Int32)) (Int32.toNatClampNeg y27))) (Int32.toNatClampNeg (3 : Int32)) (((upd (upd (y24.2 16) (Int32.toNatClampNeg y25) (-9 : Int32)) (Int32.toNatClampNeg y26) ((upd (y24.2 16) (Int32.toNatClampNeg y25) (-9 : Int32)) (Int32.toNatClampNeg y27))) (Int32.toNatClampNeg (3 : Int32))) + (1 : Int32)))) (ch' := [kX8 g a0 (st (st (st y24.2 16 (upd (y24.2 16) (Int32.toNatClampNeg y25) (-9 : Int32))) 16 (upd (upd (y24.2 16) (Int32.toNatClampNeg y25) (-9 : Int32)) (Int32.toNatClampNeg y26) ((upd (y24.2 16) (Int32.toNatClampNeg y25) (-9 : Int32)) (Int32.toNatClampNeg y27)))) 16 (upd (upd (upd (y24.2 16) (Int32.toNatClampNeg y25) (-9 : Int32)) (Int32.toNatClampNeg y26) ((upd (y24.2 16) (Int32.toNatClampNeg y25) (-9 : Int32)) (Int32.toNatClampNeg y27))) (Int32.toNatClampNeg (3 : Int32)) (((upd (upd (y24.2 16) (Int32.toNatClampNeg y25) (-9 : Int32)) (Int32.toNatClampNeg y26) ((upd (y24.2 16) (Int32.toNatClampNeg y25) (-9 : Int32)) (Int32.toNatClampNeg y27))) (Int32.toNatClampNeg (3 : Int32))) + (1 : Int32))))]) rfl dX8_packs_203 (fun H locs hW => ?_)
          refine lv_aload_n hx hb dX8_packs_204 rfl (lv_at hl 2 rfl) ?_
          refine lv_iload_n hx hb dX8_packs_205 rfl (lv_at hl 5 rfl) ?_
          obtain ⟨y31, hc, hf⟩ := bd_of hf
          refine g_cVv (Cn := RX8) C (ct_X8_sends g l N a0 ((v0 16) (Int32.toNatClampNeg (3 : Int32))) (st (st (st y24.2 16 (upd (y24.2 16) (Int32.toNatClampNeg y25) (-9 : Int32))) 16 (upd (upd (y24.2 16) (Int32.toNatClampNeg y25) (-9 : Int32)) (Int32.toNatClampNeg y26) ((upd (y24.2 16) (Int32.toNatClampNeg y25) (-9 : Int32)) (Int32.toNatClampNeg y27)))) 16 (upd (upd (upd (y24.2 16) (Int32.toNatClampNeg y25) (-9 : Int32)) (Int32.toNatClampNeg y26) ((upd (y24.2 16) (Int32.toNatClampNeg y25) (-9 : Int32)) (Int32.toNatClampNeg y27))) (Int32.toNatClampNeg (3 : Int32)) (((upd (upd (y24.2 16) (Int32.toNatClampNeg y25) (-9 : Int32)) (Int32.toNatClampNeg y26) ((upd (y24.2 16) (Int32.toNatClampNeg y25) (-9 : Int32)) (Int32.toNatClampNeg y27))) (Int32.toNatClampNeg (3 : Int32))) + (1 : Int32)))) hc) gX8_packs_X8_sends rfl 1 (by decide +kernel) ⟨rfl, rfl, ⟨Nat.le_of_ble_eq_true rfl, Nat.le_of_ble_eq_true rfl⟩, Nat.le_of_ble_eq_true rfl, Nat.le_of_ble_eq_true rfl⟩ rfl hl (Nat.le_of_ble_eq_true rfl) dX8_packs_206 rfl hW hA [0] rfl rfl rfl (ch' := [kX8 g a0 y31]) rfl 0 rfl rfl rfl (fun H locs hW => ?_)
          refine lv_aload_n hx hb dX8_packs_209 rfl (lv_at hl 2 rfl) ?_
          obtain ⟨y32, hc, hf⟩ := bd_of hf
          refine g_cVv (Cn := RX8) C (ct_X8_clearsGone g l N a0 y31 hc) gX8_packs_X8_clearsGone rfl 0 (by decide +kernel) ⟨rfl, rfl, ⟨Nat.le_of_ble_eq_true rfl, Nat.le_of_ble_eq_true rfl⟩, Nat.le_of_ble_eq_true rfl, Nat.le_of_ble_eq_true rfl⟩ rfl hl (Nat.le_of_ble_eq_true rfl) dX8_packs_210 rfl hW hA [0] rfl rfl rfl (ch' := [kX8 g a0 y32]) rfl 0 rfl rfl rfl (fun H locs hW => ?_)
          refine lv_goto (tgt := 238) hx hb dX8_packs_213 (by decide) ?_
          obtain rfl := Option.some.inj hf
          subst hQ
          exact g_vret C hr hk0 hW rfl rfl dX8_packs_238
      · replace hf := (if_neg h).symm.trans hf
        refine lv_iconst (v := (1 : Int32)) hx hb dX8_packs_125 (by decide) ?_
        refine lv_goto (tgt := 130) hx hb dX8_packs_126 (by decide) ?_
        refine lv_istore (lv' := [(4, .int (1 : Int32)), (5, .int ((x2 - y23.1) - y24.1)), (0, .ref (a0 0)), (1, .int x1), (2, .int x2), (3, .int ((v0 16) (Int32.toNatClampNeg (3 : Int32))))]) hx hb dX8_packs_130 hl (by decide) rfl (fun ls hl => ?_)
        refine lv_aload_n hx hb dX8_packs_132 rfl (lv_at hl 2 rfl) ?_
        refine g_get C hW inX8 0 rfl rfl rfl 16 (by decide) (List.mem_of_getElem? (i := 1) rfl) (v := .ref (a0 5)) rfl dX8_packs_133 ?_
        refine lv_iload_n hx hb dX8_packs_136 rfl (lv_at hl 5 rfl) ?_
        refine lv_iconst (v := (3 : Int32)) hx hb dX8_packs_137 (by decide) ?_
        obtain ⟨y33, hc, hf⟩ := bd_of hf
        refine g_cS C (ct_X8_ofBlock g l N ((v0 16) (Int32.toNatClampNeg (3 : Int32))) (3 : Int32) hc) gX8_packs_X8_ofBlock rfl 2 (by decide +kernel) ⟨rfl, rfl, ⟨Nat.le_of_ble_eq_true rfl, Nat.le_of_ble_eq_true rfl⟩, Nat.le_of_ble_eq_true rfl, Nat.le_of_ble_eq_true rfl⟩ rfl hl (Nat.le_of_ble_eq_true rfl) dX8_packs_138 rfl hW hA [] rfl rfl rfl (ch' := [kX8 g a0 y24.2]) rfl (fun H locs hW => ?_)
        refine lv_iload hx hb dX8_packs_141 (lv_at hl 0 rfl) ?_
        refine lv_if_eq (tgt := 154) hx hb dX8_packs_143 (by decide) (fun h => absurd h (by decide)) (fun _ => ?_)
        refine lv_aload_n hx hb dX8_packs_146 rfl (lv_at hl 2 rfl) ?_
        refine lv_iload_n hx hb dX8_packs_147 rfl (lv_at hl 3 rfl) ?_
        obtain ⟨y34, hc, hf⟩ := bd_of hf
        refine g_cV (Cn := RX8) C (ct_X8_waitsOf g l N a0 x1 y24.2 hc) gX8_packs_X8_waitsOf rfl 1 (by decide +kernel) ⟨rfl, rfl, ⟨Nat.le_of_ble_eq_true rfl, Nat.le_of_ble_eq_true rfl⟩, Nat.le_of_ble_eq_true rfl, Nat.le_of_ble_eq_true rfl⟩ rfl hl (Nat.le_of_ble_eq_true rfl) dX8_packs_148 rfl hW hA [0] rfl rfl rfl (ch' := [kX8 g a0 y24.2]) rfl 0 rfl rfl rfl (fun H locs hW => ?_)
        refine lv_goto (tgt := 156) hx hb dX8_packs_151 (by decide) ?_
        obtain ⟨hi, hf⟩ := gd_of hf
        refine g_iast C hW 0 5 rfl (f := (y24.2 16)) rfl (ib_in hi) (kX8_w16 g a0 y24.2 (upd (y24.2 16) (Int32.toNatClampNeg y33) y34)) (ch' := [kX8 g a0 (st y24.2 16 (upd (y24.2 16) (Int32.toNatClampNeg y33) y34))]) rfl dX8_packs_156 (fun H locs hW => ?_)
        refine lv_aload_n hx hb dX8_packs_157 rfl (lv_at hl 2 rfl) ?_
        refine g_get C hW inX8 0 rfl rfl rfl 16 (by decide) (List.mem_of_getElem? (i := 1) rfl) (v := .ref (a0 5)) rfl dX8_packs_158 ?_
        refine lv_iload_n hx hb dX8_packs_161 rfl (lv_at hl 3 rfl) ?_
        refine lv_iconst (v := (0 : Int32)) hx hb dX8_packs_162 (by decide) ?_
        obtain ⟨y35, hc, hf⟩ := bd_of hf
        refine g_cS C (ct_X8_ofTerminal g l N x1 (0 : Int32) hc) gX8_packs_X8_ofTerminal rfl 2 (by decide +kernel) ⟨rfl, rfl, ⟨Nat.le_of_ble_eq_true rfl, Nat.le_of_ble_eq_true rfl⟩, Nat.le_of_ble_eq_true rfl, Nat.le_of_ble_eq_true rfl⟩ rfl hl (Nat.le_of_ble_eq_true rfl) dX8_packs_163 rfl hW hA [] rfl rfl rfl (ch' := [kX8 g a0 (st y24.2 16 (upd (y24.2 16) (Int32.toNatClampNeg y33) y34))]) rfl (fun H locs hW => ?_)
        refine lv_iload hx hb dX8_packs_166 (lv_at hl 0 rfl) ?_
        refine lv_if_eq (tgt := 175) hx hb dX8_packs_168 (by decide) (fun h => absurd h (by decide)) (fun _ => ?_)
        refine lv_iconst (v := (0 : Int32)) hx hb dX8_packs_171 (by decide) ?_
        refine lv_goto (tgt := 185) hx hb dX8_packs_172 (by decide) ?_
        obtain ⟨hi, hf⟩ := gd_of hf
        refine g_iast C hW 0 5 rfl (f := (upd (y24.2 16) (Int32.toNatClampNeg y33) y34)) rfl (ib_in hi) (kX8_w16 g a0 (st y24.2 16 (upd (y24.2 16) (Int32.toNatClampNeg y33) y34)) (upd (upd (y24.2 16) (Int32.toNatClampNeg y33) y34) (Int32.toNatClampNeg y35) (0 : Int32))) (ch' := [kX8 g a0 (st (st y24.2 16 (upd (y24.2 16) (Int32.toNatClampNeg y33) y34)) 16 (upd (upd (y24.2 16) (Int32.toNatClampNeg y33) y34) (Int32.toNatClampNeg y35) (0 : Int32)))]) rfl dX8_packs_185 (fun H locs hW => ?_)
        refine lv_aload_n hx hb dX8_packs_186 rfl (lv_at hl 2 rfl) ?_
        refine lv_iload_n hx hb dX8_packs_187 rfl (lv_at hl 5 rfl) ?_
        obtain ⟨y36, hc, hf⟩ := bd_of hf
        refine g_cV (Cn := RX8) C (ct_X8_inBlock g l N a0 ((v0 16) (Int32.toNatClampNeg (3 : Int32))) (st (st y24.2 16 (upd (y24.2 16) (Int32.toNatClampNeg y33) y34)) 16 (upd (upd (y24.2 16) (Int32.toNatClampNeg y33) y34) (Int32.toNatClampNeg y35) (0 : Int32))) hc) gX8_packs_X8_inBlock rfl 1 (by decide +kernel) ⟨rfl, rfl, ⟨Nat.le_of_ble_eq_true rfl, Nat.le_of_ble_eq_true rfl⟩, Nat.le_of_ble_eq_true rfl, Nat.le_of_ble_eq_true rfl⟩ rfl hl (Nat.le_of_ble_eq_true rfl) dX8_packs_188 rfl hW hA [0] rfl rfl rfl (ch' := [kX8 g a0 (st (st y24.2 16 (upd (y24.2 16) (Int32.toNatClampNeg y33) y34)) 16 (upd (upd (y24.2 16) (Int32.toNatClampNeg y33) y34) (Int32.toNatClampNeg y35) (0 : Int32)))]) rfl 0 rfl rfl rfl (fun H locs hW => ?_)
        refine lv_if_le (tgt := 216) hx hb dX8_packs_191 (by decide) (fun h => ?_) (fun h => ?_)
        · replace hf := (if_pos h).symm.trans hf
          refine lv_aload_n hx hb dX8_packs_216 rfl (lv_at hl 2 rfl) ?_
          refine g_get C hW inX8 0 rfl rfl rfl 16 (by decide) (List.mem_of_getElem? (i := 1) rfl) (v := .ref (a0 5)) rfl dX8_packs_217 ?_
          refine lv_iload_n hx hb dX8_packs_220 rfl (lv_at hl 5 rfl) ?_
          refine lv_iconst (v := (0 : Int32)) hx hb dX8_packs_221 (by decide) ?_
          obtain ⟨y37, hc, hf⟩ := bd_of hf
          refine g_cS C (ct_X8_ofBlock g l N ((v0 16) (Int32.toNatClampNeg (3 : Int32))) (0 : Int32) hc) gX8_packs_X8_ofBlock rfl 2 (by decide +kernel) ⟨rfl, rfl, ⟨Nat.le_of_ble_eq_true rfl, Nat.le_of_ble_eq_true rfl⟩, Nat.le_of_ble_eq_true rfl, Nat.le_of_ble_eq_true rfl⟩ rfl hl (Nat.le_of_ble_eq_true rfl) dX8_packs_222 rfl hW hA [] rfl rfl rfl (ch' := [kX8 g a0 (st (st y24.2 16 (upd (y24.2 16) (Int32.toNatClampNeg y33) y34)) 16 (upd (upd (y24.2 16) (Int32.toNatClampNeg y33) y34) (Int32.toNatClampNeg y35) (0 : Int32)))]) rfl (fun H locs hW => ?_)
          refine lv_iconst (v := (0 : Int32)) hx hb dX8_packs_225 (by decide) ?_
          obtain ⟨hi, hf⟩ := gd_of hf
          refine g_iast C hW 0 5 rfl (f := (upd (upd (y24.2 16) (Int32.toNatClampNeg y33) y34) (Int32.toNatClampNeg y35) (0 : Int32))) rfl (ib_in hi) (kX8_w16 g a0 (st (st y24.2 16 (upd (y24.2 16) (Int32.toNatClampNeg y33) y34)) 16 (upd (upd (y24.2 16) (Int32.toNatClampNeg y33) y34) (Int32.toNatClampNeg y35) (0 : Int32))) (upd (upd (upd (y24.2 16) (Int32.toNatClampNeg y33) y34) (Int32.toNatClampNeg y35) (0 : Int32)) (Int32.toNatClampNeg y37) (0 : Int32))) (ch' := [kX8 g a0 (st (st (st y24.2 16 (upd (y24.2 16) (Int32.toNatClampNeg y33) y34)) 16 (upd (upd (y24.2 16) (Int32.toNatClampNeg y33) y34) (Int32.toNatClampNeg y35) (0 : Int32))) 16 (upd (upd (upd (y24.2 16) (Int32.toNatClampNeg y33) y34) (Int32.toNatClampNeg y35) (0 : Int32)) (Int32.toNatClampNeg y37) (0 : Int32)))]) rfl dX8_packs_226 (fun H locs hW => ?_)
          refine lv_aload_n hx hb dX8_packs_227 rfl (lv_at hl 2 rfl) ?_
          refine g_get C hW inX8 0 rfl rfl rfl 16 (by decide) (List.mem_of_getElem? (i := 1) rfl) (v := .ref (a0 5)) rfl dX8_packs_228 ?_
          refine lv_iload_n hx hb dX8_packs_231 rfl (lv_at hl 5 rfl) ?_
          refine lv_iconst (v := (3 : Int32)) hx hb dX8_packs_232 (by decide) ?_
          obtain ⟨y38, hc, hf⟩ := bd_of hf
          refine g_cS C (ct_X8_ofBlock g l N ((v0 16) (Int32.toNatClampNeg (3 : Int32))) (3 : Int32) hc) gX8_packs_X8_ofBlock rfl 2 (by decide +kernel) ⟨rfl, rfl, ⟨Nat.le_of_ble_eq_true rfl, Nat.le_of_ble_eq_true rfl⟩, Nat.le_of_ble_eq_true rfl, Nat.le_of_ble_eq_true rfl⟩ rfl hl (Nat.le_of_ble_eq_true rfl) dX8_packs_233 rfl hW hA [] rfl rfl rfl (ch' := [kX8 g a0 (st (st (st y24.2 16 (upd (y24.2 16) (Int32.toNatClampNeg y33) y34)) 16 (upd (upd (y24.2 16) (Int32.toNatClampNeg y33) y34) (Int32.toNatClampNeg y35) (0 : Int32))) 16 (upd (upd (upd (y24.2 16) (Int32.toNatClampNeg y33) y34) (Int32.toNatClampNeg y35) (0 : Int32)) (Int32.toNatClampNeg y37) (0 : Int32)))]) rfl (fun H locs hW => ?_)
          refine lv_iconst (v := (0 : Int32)) hx hb dX8_packs_236 (by decide) ?_
          obtain ⟨hi, hf⟩ := gd_of hf
          refine g_iast C hW 0 5 rfl (f := (upd (upd (upd (y24.2 16) (Int32.toNatClampNeg y33) y34) (Int32.toNatClampNeg y35) (0 : Int32)) (Int32.toNatClampNeg y37) (0 : Int32))) rfl (ib_in hi) (kX8_w16 g a0 (st (st (st y24.2 16 (upd (y24.2 16) (Int32.toNatClampNeg y33) y34)) 16 (upd (upd (y24.2 16) (Int32.toNatClampNeg y33) y34) (Int32.toNatClampNeg y35) (0 : Int32))) 16 (upd (upd (upd (y24.2 16) (Int32.toNatClampNeg y33) y34) (Int32.toNatClampNeg y35) (0 : Int32)) (Int32.toNatClampNeg y37) (0 : Int32))) (upd (upd (upd (upd (y24.2 16) (Int32.toNatClampNeg y33) y34) (Int32.toNatClampNeg y35) (0 : Int32)) (Int32.toNatClampNeg y37) (0 : Int32)) (Int32.toNatClampNeg y38) (0 : Int32))) (ch' := [kX8 g a0 (st (st (st (st y24.2 16 (upd (y24.2 16) (Int32.toNatClampNeg y33) y34)) 16 (upd (upd (y24.2 16) (Int32.toNatClampNeg y33) y34) (Int32.toNatClampNeg y35) (0 : Int32))) 16 (upd (upd (upd (y24.2 16) (Int32.toNatClampNeg y33) y34) (Int32.toNatClampNeg y35) (0 : Int32)) (Int32.toNatClampNeg y37) (0 : Int32))) 16 (upd (upd (upd (upd (y24.2 16) (Int32.toNatClampNeg y33) y34) (Int32.toNatClampNeg y35) (0 : Int32)) (Int32.toNatClampNeg y37) (0 : Int32)) (Int32.toNatClampNeg y38) (0 : Int32)))]) rfl dX8_packs_237 (fun H locs hW => ?_)
          obtain rfl := Option.some.inj hf
          subst hQ
          exact g_vret C hr hk0 hW rfl rfl dX8_packs_238
        · replace hf := (if_neg h).symm.trans hf
          refine lv_aload_n hx hb dX8_packs_194 rfl (lv_at hl 2 rfl) ?_
          refine g_get C hW inX8 0 rfl rfl rfl 16 (by decide) (List.mem_of_getElem? (i := 1) rfl) (v := .ref (a0 5)) rfl dX8_packs_195 ?_
          refine lv_iconst (v := (3 : Int32)) hx hb dX8_packs_198 (by decide) ?_
          refine lv_dup2_11 hx hb dX8_packs_199 rfl rfl ?_
          obtain ⟨hi, hf⟩ := gd_of hf
          refine g_iald C hW 0 5 rfl (f := (upd (upd (y24.2 16) (Int32.toNatClampNeg y33) y34) (Int32.toNatClampNeg y35) (0 : Int32))) rfl (ib_in hi) dX8_packs_200 ?_
          refine lv_iconst (v := (1 : Int32)) hx hb dX8_packs_201 (by decide) ?_
          refine lv_iadd hx hb dX8_packs_202 ?_
          obtain ⟨hi, hf⟩ := gd_of hf
          refine g_iast C hW 0 5 rfl (f := (upd (upd (y24.2 16) (Int32.toNatClampNeg y33) y34) (Int32.toNatClampNeg y35) (0 : Int32))) rfl (ib_in hi) (kX8_w16 g a0 (st (st y24.2 16 (upd (y24.2 16) (Int32.toNatClampNeg y33) y34)) 16 (upd (upd (y24.2 16) (Int32.toNatClampNeg y33) y34) (Int32.toNatClampNeg y35) (0 : Int32))) (upd (upd (upd (y24.2 16) (Int32.toNatClampNeg y33) y34) (Int32.toNatClampNeg y35) (0 : Int32)) (Int32.toNatClampNeg (3 : Int32)) (((upd (upd (y24.2 16) (Int32.toNatClampNeg y33) y34) (Int32.toNatClampNeg y35) (0 : Int32)) (Int32.toNatClampNeg (3 : Int32))) + (1 : Int32)))) (ch' := [kX8 g a0 (st (st (st y24.2 16 (upd (y24.2 16) (Int32.toNatClampNeg y33) y34)) 16 (upd (upd (y24.2 16) (Int32.toNatClampNeg y33) y34) (Int32.toNatClampNeg y35) (0 : Int32))) 16 (upd (upd (upd (y24.2 16) (Int32.toNatClampNeg y33) y34) (Int32.toNatClampNeg y35) (0 : Int32)) (Int32.toNatClampNeg (3 : Int32)) (((upd (upd (y24.2 16) (Int32.toNatClampNeg y33) y34) (Int32.toNatClampNeg y35) (0 : Int32)) (Int32.toNatClampNeg (3 : Int32))) + (1 : Int32))))]) rfl dX8_packs_203 (fun H locs hW => ?_)
          refine lv_aload_n hx hb dX8_packs_204 rfl (lv_at hl 2 rfl) ?_
          refine lv_iload_n hx hb dX8_packs_205 rfl (lv_at hl 5 rfl) ?_
          obtain ⟨y39, hc, hf⟩ := bd_of hf
          refine g_cVv (Cn := RX8) C (ct_X8_sends g l N a0 ((v0 16) (Int32.toNatClampNeg (3 : Int32))) (st (st (st y24.2 16 (upd (y24.2 16) (Int32.toNatClampNeg y33) y34)) 16 (upd (upd (y24.2 16) (Int32.toNatClampNeg y33) y34) (Int32.toNatClampNeg y35) (0 : Int32))) 16 (upd (upd (upd (y24.2 16) (Int32.toNatClampNeg y33) y34) (Int32.toNatClampNeg y35) (0 : Int32)) (Int32.toNatClampNeg (3 : Int32)) (((upd (upd (y24.2 16) (Int32.toNatClampNeg y33) y34) (Int32.toNatClampNeg y35) (0 : Int32)) (Int32.toNatClampNeg (3 : Int32))) + (1 : Int32)))) hc) gX8_packs_X8_sends rfl 1 (by decide +kernel) ⟨rfl, rfl, ⟨Nat.le_of_ble_eq_true rfl, Nat.le_of_ble_eq_true rfl⟩, Nat.le_of_ble_eq_true rfl, Nat.le_of_ble_eq_true rfl⟩ rfl hl (Nat.le_of_ble_eq_true rfl) dX8_packs_206 rfl hW hA [0] rfl rfl rfl (ch' := [kX8 g a0 y39]) rfl 0 rfl rfl rfl (fun H locs hW => ?_)
          refine lv_aload_n hx hb dX8_packs_209 rfl (lv_at hl 2 rfl) ?_
          obtain ⟨y40, hc, hf⟩ := bd_of hf
          refine g_cVv (Cn := RX8) C (ct_X8_clearsGone g l N a0 y39 hc) gX8_packs_X8_clearsGone rfl 0 (by decide +kernel) ⟨rfl, rfl, ⟨Nat.le_of_ble_eq_true rfl, Nat.le_of_ble_eq_true rfl⟩, Nat.le_of_ble_eq_true rfl, Nat.le_of_ble_eq_true rfl⟩ rfl hl (Nat.le_of_ble_eq_true rfl) dX8_packs_210 rfl hW hA [0] rfl rfl rfl (ch' := [kX8 g a0 y40]) rfl 0 rfl rfl rfl (fun H locs hW => ?_)
          refine lv_goto (tgt := 238) hx hb dX8_packs_213 (by decide) ?_
          obtain rfl := Option.some.inj hf
          subst hQ
          exact g_vret C hr hk0 hW rfl rfl dX8_packs_238
    · replace hf := (if_neg h).symm.trans hf
      refine lv_iconst (v := (1 : Int32)) hx hb dX8_packs_65 (by decide) ?_
      refine lv_goto (tgt := 70) hx hb dX8_packs_66 (by decide) ?_
      refine lv_istore (lv' := [(4, .int (1 : Int32)), (0, .ref (a0 0)), (1, .int x1), (2, .int x2), (3, .int ((v0 16) (Int32.toNatClampNeg (3 : Int32))))]) hx hb dX8_packs_70 hl (by decide) rfl (fun ls hl => ?_)
      refine lv_iload hx hb dX8_packs_72 (lv_at hl 0 rfl) ?_
      refine lv_if_eq (tgt := 83) hx hb dX8_packs_74 (by decide) (fun h => absurd h (by decide)) (fun _ => ?_)
      refine lv_iload_n hx hb dX8_packs_77 rfl (lv_at hl 3 rfl) ?_
      refine lv_iconst (v := (2 : Int32)) hx hb dX8_packs_78 (by decide) ?_
      refine lv_isub hx hb dX8_packs_79 ?_
      refine lv_goto (tgt := 84) hx hb dX8_packs_80 (by decide) ?_
      refine lv_istore (lv' := [(5, .int (x2 - (2 : Int32))), (4, .int (1 : Int32)), (0, .ref (a0 0)), (1, .int x1), (2, .int x2), (3, .int ((v0 16) (Int32.toNatClampNeg (3 : Int32))))]) hx hb dX8_packs_84 hl (by decide) rfl (fun ls hl => ?_)
      refine lv_iload hx hb dX8_packs_86 (lv_at hl 0 rfl) ?_
      refine lv_aload_n hx hb dX8_packs_88 rfl (lv_at hl 2 rfl) ?_
      refine lv_iload_n hx hb dX8_packs_89 rfl (lv_at hl 5 rfl) ?_
      refine lv_iload_n hx hb dX8_packs_90 rfl (lv_at hl 3 rfl) ?_
      refine lv_iload hx hb dX8_packs_91 (lv_at hl 0 rfl) ?_
      refine lv_iconst (v := (1 : Int32)) hx hb dX8_packs_93 (by decide) ?_
      obtain ⟨y41, hc, hf⟩ := bd_of hf
      refine g_cV (Cn := RX8) C (ct_X8_fills g l N a0 ((v0 16) (Int32.toNatClampNeg (3 : Int32))) x1 (x2 - (2 : Int32)) (1 : Int32) (st v0_2 16 (upd (v0_2 16) (Int32.toNatClampNeg y3) x1)) hc) gX8_packs_X8_fills rfl 4 (by decide +kernel) ⟨rfl, rfl, ⟨Nat.le_of_ble_eq_true rfl, Nat.le_of_ble_eq_true rfl⟩, Nat.le_of_ble_eq_true rfl, Nat.le_of_ble_eq_true rfl⟩ rfl hl (Nat.le_of_ble_eq_true rfl) dX8_packs_94 rfl hW hA [0] rfl rfl rfl (ch' := [kX8 g a0 y41.2]) rfl 0 rfl rfl rfl (fun H locs hW => ?_)
      refine lv_isub hx hb dX8_packs_97 ?_
      refine lv_istore (lv' := [(5, .int ((x2 - (2 : Int32)) - y41.1)), (4, .int (1 : Int32)), (0, .ref (a0 0)), (1, .int x1), (2, .int x2), (3, .int ((v0 16) (Int32.toNatClampNeg (3 : Int32))))]) hx hb dX8_packs_98 hl (by decide) rfl (fun ls hl => ?_)
      refine lv_iload hx hb dX8_packs_100 (lv_at hl 0 rfl) ?_
      refine lv_aload_n hx hb dX8_packs_102 rfl (lv_at hl 2 rfl) ?_
      refine lv_iload_n hx hb dX8_packs_103 rfl (lv_at hl 5 rfl) ?_
      refine lv_iload_n hx hb dX8_packs_104 rfl (lv_at hl 3 rfl) ?_
      refine lv_iload hx hb dX8_packs_105 (lv_at hl 0 rfl) ?_
      refine lv_iconst (v := (0 : Int32)) hx hb dX8_packs_107 (by decide) ?_
      obtain ⟨y42, hc, hf⟩ := bd_of hf
      refine g_cV (Cn := RX8) C (ct_X8_fills g l N a0 ((v0 16) (Int32.toNatClampNeg (3 : Int32))) x1 ((x2 - (2 : Int32)) - y41.1) (0 : Int32) y41.2 hc) gX8_packs_X8_fills rfl 4 (by decide +kernel) ⟨rfl, rfl, ⟨Nat.le_of_ble_eq_true rfl, Nat.le_of_ble_eq_true rfl⟩, Nat.le_of_ble_eq_true rfl, Nat.le_of_ble_eq_true rfl⟩ rfl hl (Nat.le_of_ble_eq_true rfl) dX8_packs_108 rfl hW hA [0] rfl rfl rfl (ch' := [kX8 g a0 y42.2]) rfl 0 rfl rfl rfl (fun H locs hW => ?_)
      refine lv_isub hx hb dX8_packs_111 ?_
      refine lv_istore (lv' := [(5, .int (((x2 - (2 : Int32)) - y41.1) - y42.1)), (4, .int (1 : Int32)), (0, .ref (a0 0)), (1, .int x1), (2, .int x2), (3, .int ((v0 16) (Int32.toNatClampNeg (3 : Int32))))]) hx hb dX8_packs_112 hl (by decide) rfl (fun ls hl => ?_)
      refine lv_iload hx hb dX8_packs_114 (lv_at hl 1 rfl) ?_
      refine lv_if_ne (tgt := 125) hx hb dX8_packs_116 (by decide) (fun _ => ?_) (fun h => absurd h (by decide))
      refine lv_iconst (v := (1 : Int32)) hx hb dX8_packs_125 (by decide) ?_
      refine lv_goto (tgt := 130) hx hb dX8_packs_126 (by decide) ?_
      refine lv_istore (lv' := [(4, .int (1 : Int32)), (5, .int (((x2 - (2 : Int32)) - y41.1) - y42.1)), (0, .ref (a0 0)), (1, .int x1), (2, .int x2), (3, .int ((v0 16) (Int32.toNatClampNeg (3 : Int32))))]) hx hb dX8_packs_130 hl (by decide) rfl (fun ls hl => ?_)
      refine lv_aload_n hx hb dX8_packs_132 rfl (lv_at hl 2 rfl) ?_
      refine g_get C hW inX8 0 rfl rfl rfl 16 (by decide) (List.mem_of_getElem? (i := 1) rfl) (v := .ref (a0 5)) rfl dX8_packs_133 ?_
      refine lv_iload_n hx hb dX8_packs_136 rfl (lv_at hl 5 rfl) ?_
      refine lv_iconst (v := (3 : Int32)) hx hb dX8_packs_137 (by decide) ?_
      obtain ⟨y43, hc, hf⟩ := bd_of hf
      refine g_cS C (ct_X8_ofBlock g l N ((v0 16) (Int32.toNatClampNeg (3 : Int32))) (3 : Int32) hc) gX8_packs_X8_ofBlock rfl 2 (by decide +kernel) ⟨rfl, rfl, ⟨Nat.le_of_ble_eq_true rfl, Nat.le_of_ble_eq_true rfl⟩, Nat.le_of_ble_eq_true rfl, Nat.le_of_ble_eq_true rfl⟩ rfl hl (Nat.le_of_ble_eq_true rfl) dX8_packs_138 rfl hW hA [] rfl rfl rfl (ch' := [kX8 g a0 y42.2]) rfl (fun H locs hW => ?_)
      refine lv_iload hx hb dX8_packs_141 (lv_at hl 0 rfl) ?_
      refine lv_if_eq (tgt := 154) hx hb dX8_packs_143 (by decide) (fun h => absurd h (by decide)) (fun _ => ?_)
      refine lv_aload_n hx hb dX8_packs_146 rfl (lv_at hl 2 rfl) ?_
      refine lv_iload_n hx hb dX8_packs_147 rfl (lv_at hl 3 rfl) ?_
      obtain ⟨y44, hc, hf⟩ := bd_of hf
      refine g_cV (Cn := RX8) C (ct_X8_waitsOf g l N a0 x1 y42.2 hc) gX8_packs_X8_waitsOf rfl 1 (by decide +kernel) ⟨rfl, rfl, ⟨Nat.le_of_ble_eq_true rfl, Nat.le_of_ble_eq_true rfl⟩, Nat.le_of_ble_eq_true rfl, Nat.le_of_ble_eq_true rfl⟩ rfl hl (Nat.le_of_ble_eq_true rfl) dX8_packs_148 rfl hW hA [0] rfl rfl rfl (ch' := [kX8 g a0 y42.2]) rfl 0 rfl rfl rfl (fun H locs hW => ?_)
      refine lv_goto (tgt := 156) hx hb dX8_packs_151 (by decide) ?_
      obtain ⟨hi, hf⟩ := gd_of hf
      refine g_iast C hW 0 5 rfl (f := (y42.2 16)) rfl (ib_in hi) (kX8_w16 g a0 y42.2 (upd (y42.2 16) (Int32.toNatClampNeg y43) y44)) (ch' := [kX8 g a0 (st y42.2 16 (upd (y42.2 16) (Int32.toNatClampNeg y43) y44))]) rfl dX8_packs_156 (fun H locs hW => ?_)
      refine lv_aload_n hx hb dX8_packs_157 rfl (lv_at hl 2 rfl) ?_
      refine g_get C hW inX8 0 rfl rfl rfl 16 (by decide) (List.mem_of_getElem? (i := 1) rfl) (v := .ref (a0 5)) rfl dX8_packs_158 ?_
      refine lv_iload_n hx hb dX8_packs_161 rfl (lv_at hl 3 rfl) ?_
      refine lv_iconst (v := (0 : Int32)) hx hb dX8_packs_162 (by decide) ?_
      obtain ⟨y45, hc, hf⟩ := bd_of hf
      refine g_cS C (ct_X8_ofTerminal g l N x1 (0 : Int32) hc) gX8_packs_X8_ofTerminal rfl 2 (by decide +kernel) ⟨rfl, rfl, ⟨Nat.le_of_ble_eq_true rfl, Nat.le_of_ble_eq_true rfl⟩, Nat.le_of_ble_eq_true rfl, Nat.le_of_ble_eq_true rfl⟩ rfl hl (Nat.le_of_ble_eq_true rfl) dX8_packs_163 rfl hW hA [] rfl rfl rfl (ch' := [kX8 g a0 (st y42.2 16 (upd (y42.2 16) (Int32.toNatClampNeg y43) y44))]) rfl (fun H locs hW => ?_)
      refine lv_iload hx hb dX8_packs_166 (lv_at hl 0 rfl) ?_
      refine lv_if_eq (tgt := 175) hx hb dX8_packs_168 (by decide) (fun h => absurd h (by decide)) (fun _ => ?_)
      refine lv_iconst (v := (0 : Int32)) hx hb dX8_packs_171 (by decide) ?_
      refine lv_goto (tgt := 185) hx hb dX8_packs_172 (by decide) ?_
      obtain ⟨hi, hf⟩ := gd_of hf
      refine g_iast C hW 0 5 rfl (f := (upd (y42.2 16) (Int32.toNatClampNeg y43) y44)) rfl (ib_in hi) (kX8_w16 g a0 (st y42.2 16 (upd (y42.2 16) (Int32.toNatClampNeg y43) y44)) (upd (upd (y42.2 16) (Int32.toNatClampNeg y43) y44) (Int32.toNatClampNeg y45) (0 : Int32))) (ch' := [kX8 g a0 (st (st y42.2 16 (upd (y42.2 16) (Int32.toNatClampNeg y43) y44)) 16 (upd (upd (y42.2 16) (Int32.toNatClampNeg y43) y44) (Int32.toNatClampNeg y45) (0 : Int32)))]) rfl dX8_packs_185 (fun H locs hW => ?_)
      refine lv_aload_n hx hb dX8_packs_186 rfl (lv_at hl 2 rfl) ?_
      refine lv_iload_n hx hb dX8_packs_187 rfl (lv_at hl 5 rfl) ?_
      obtain ⟨y46, hc, hf⟩ := bd_of hf
      refine g_cV (Cn := RX8) C (ct_X8_inBlock g l N a0 ((v0 16) (Int32.toNatClampNeg (3 : Int32))) (st (st y42.2 16 (upd (y42.2 16) (Int32.toNatClampNeg y43) y44)) 16 (upd (upd (y42.2 16) (Int32.toNatClampNeg y43) y44) (Int32.toNatClampNeg y45) (0 : Int32))) hc) gX8_packs_X8_inBlock rfl 1 (by decide +kernel) ⟨rfl, rfl, ⟨Nat.le_of_ble_eq_true rfl, Nat.le_of_ble_eq_true rfl⟩, Nat.le_of_ble_eq_true rfl, Nat.le_of_ble_eq_true rfl⟩ rfl hl (Nat.le_of_ble_eq_true rfl) dX8_packs_188 rfl hW hA [0] rfl rfl rfl (ch' := [kX8 g a0 (st (st y42.2 16 (upd (y42.2 16) (Int32.toNatClampNeg y43) y44)) 16 (upd (upd (y42.2 16) (Int32.toNatClampNeg y43) y44) (Int32.toNatClampNeg y45) (0 : Int32)))]) rfl 0 rfl rfl rfl (fun H locs hW => ?_)
      refine lv_if_le (tgt := 216) hx hb dX8_packs_191 (by decide) (fun h => ?_) (fun h => ?_)
      · replace hf := (if_pos h).symm.trans hf
        refine lv_aload_n hx hb dX8_packs_216 rfl (lv_at hl 2 rfl) ?_
        refine g_get C hW inX8 0 rfl rfl rfl 16 (by decide) (List.mem_of_getElem? (i := 1) rfl) (v := .ref (a0 5)) rfl dX8_packs_217 ?_
        refine lv_iload_n hx hb dX8_packs_220 rfl (lv_at hl 5 rfl) ?_
        refine lv_iconst (v := (0 : Int32)) hx hb dX8_packs_221 (by decide) ?_
        obtain ⟨y47, hc, hf⟩ := bd_of hf
        refine g_cS C (ct_X8_ofBlock g l N ((v0 16) (Int32.toNatClampNeg (3 : Int32))) (0 : Int32) hc) gX8_packs_X8_ofBlock rfl 2 (by decide +kernel) ⟨rfl, rfl, ⟨Nat.le_of_ble_eq_true rfl, Nat.le_of_ble_eq_true rfl⟩, Nat.le_of_ble_eq_true rfl, Nat.le_of_ble_eq_true rfl⟩ rfl hl (Nat.le_of_ble_eq_true rfl) dX8_packs_222 rfl hW hA [] rfl rfl rfl (ch' := [kX8 g a0 (st (st y42.2 16 (upd (y42.2 16) (Int32.toNatClampNeg y43) y44)) 16 (upd (upd (y42.2 16) (Int32.toNatClampNeg y43) y44) (Int32.toNatClampNeg y45) (0 : Int32)))]) rfl (fun H locs hW => ?_)
        refine lv_iconst (v := (0 : Int32)) hx hb dX8_packs_225 (by decide) ?_
        obtain ⟨hi, hf⟩ := gd_of hf
        refine g_iast C hW 0 5 rfl (f := (upd (upd (y42.2 16) (Int32.toNatClampNeg y43) y44) (Int32.toNatClampNeg y45) (0 : Int32))) rfl (ib_in hi) (kX8_w16 g a0 (st (st y42.2 16 (upd (y42.2 16) (Int32.toNatClampNeg y43) y44)) 16 (upd (upd (y42.2 16) (Int32.toNatClampNeg y43) y44) (Int32.toNatClampNeg y45) (0 : Int32))) (upd (upd (upd (y42.2 16) (Int32.toNatClampNeg y43) y44) (Int32.toNatClampNeg y45) (0 : Int32)) (Int32.toNatClampNeg y47) (0 : Int32))) (ch' := [kX8 g a0 (st (st (st y42.2 16 (upd (y42.2 16) (Int32.toNatClampNeg y43) y44)) 16 (upd (upd (y42.2 16) (Int32.toNatClampNeg y43) y44) (Int32.toNatClampNeg y45) (0 : Int32))) 16 (upd (upd (upd (y42.2 16) (Int32.toNatClampNeg y43) y44) (Int32.toNatClampNeg y45) (0 : Int32)) (Int32.toNatClampNeg y47) (0 : Int32)))]) rfl dX8_packs_226 (fun H locs hW => ?_)
        refine lv_aload_n hx hb dX8_packs_227 rfl (lv_at hl 2 rfl) ?_
        refine g_get C hW inX8 0 rfl rfl rfl 16 (by decide) (List.mem_of_getElem? (i := 1) rfl) (v := .ref (a0 5)) rfl dX8_packs_228 ?_
        refine lv_iload_n hx hb dX8_packs_231 rfl (lv_at hl 5 rfl) ?_
        refine lv_iconst (v := (3 : Int32)) hx hb dX8_packs_232 (by decide) ?_
        obtain ⟨y48, hc, hf⟩ := bd_of hf
        refine g_cS C (ct_X8_ofBlock g l N ((v0 16) (Int32.toNatClampNeg (3 : Int32))) (3 : Int32) hc) gX8_packs_X8_ofBlock rfl 2 (by decide +kernel) ⟨rfl, rfl, ⟨Nat.le_of_ble_eq_true rfl, Nat.le_of_ble_eq_true rfl⟩, Nat.le_of_ble_eq_true rfl, Nat.le_of_ble_eq_true rfl⟩ rfl hl (Nat.le_of_ble_eq_true rfl) dX8_packs_233 rfl hW hA [] rfl rfl rfl (ch' := [kX8 g a0 (st (st (st y42.2 16 (upd (y42.2 16) (Int32.toNatClampNeg y43) y44)) 16 (upd (upd (y42.2 16) (Int32.toNatClampNeg y43) y44) (Int32.toNatClampNeg y45) (0 : Int32))) 16 (upd (upd (upd (y42.2 16) (Int32.toNatClampNeg y43) y44) (Int32.toNatClampNeg y45) (0 : Int32)) (Int32.toNatClampNeg y47) (0 : Int32)))]) rfl (fun H locs hW => ?_)
        refine lv_iconst (v := (0 : Int32)) hx hb dX8_packs_236 (by decide) ?_
        obtain ⟨hi, hf⟩ := gd_of hf
        refine g_iast C hW 0 5 rfl (f := (upd (upd (upd (y42.2 16) (Int32.toNatClampNeg y43) y44) (Int32.toNatClampNeg y45) (0 : Int32)) (Int32.toNatClampNeg y47) (0 : Int32))) rfl (ib_in hi) (kX8_w16 g a0 (st (st (st y42.2 16 (upd (y42.2 16) (Int32.toNatClampNeg y43) y44)) 16 (upd (upd (y42.2 16) (Int32.toNatClampNeg y43) y44) (Int32.toNatClampNeg y45) (0 : Int32))) 16 (upd (upd (upd (y42.2 16) (Int32.toNatClampNeg y43) y44) (Int32.toNatClampNeg y45) (0 : Int32)) (Int32.toNatClampNeg y47) (0 : Int32))) (upd (upd (upd (upd (y42.2 16) (Int32.toNatClampNeg y43) y44) (Int32.toNatClampNeg y45) (0 : Int32)) (Int32.toNatClampNeg y47) (0 : Int32)) (Int32.toNatClampNeg y48) (0 : Int32))) (ch' := [kX8 g a0 (st (st (st (st y42.2 16 (upd (y42.2 16) (Int32.toNatClampNeg y43) y44)) 16 (upd (upd (y42.2 16) (Int32.toNatClampNeg y43) y44) (Int32.toNatClampNeg y45) (0 : Int32))) 16 (upd (upd (upd (y42.2 16) (Int32.toNatClampNeg y43) y44) (Int32.toNatClampNeg y45) (0 : Int32)) (Int32.toNatClampNeg y47) (0 : Int32))) 16 (upd (upd (upd (upd (y42.2 16) (Int32.toNatClampNeg y43) y44) (Int32.toNatClampNeg y45) (0 : Int32)) (Int32.toNatClampNeg y47) (0 : Int32)) (Int32.toNatClampNeg y48) (0 : Int32)))]) rfl dX8_packs_237 (fun H locs hW => ?_)
        obtain rfl := Option.some.inj hf
        subst hQ
        exact g_vret C hr hk0 hW rfl rfl dX8_packs_238
      · replace hf := (if_neg h).symm.trans hf
        refine lv_aload_n hx hb dX8_packs_194 rfl (lv_at hl 2 rfl) ?_
        refine g_get C hW inX8 0 rfl rfl rfl 16 (by decide) (List.mem_of_getElem? (i := 1) rfl) (v := .ref (a0 5)) rfl dX8_packs_195 ?_
        refine lv_iconst (v := (3 : Int32)) hx hb dX8_packs_198 (by decide) ?_
        refine lv_dup2_11 hx hb dX8_packs_199 rfl rfl ?_
        obtain ⟨hi, hf⟩ := gd_of hf
        refine g_iald C hW 0 5 rfl (f := (upd (upd (y42.2 16) (Int32.toNatClampNeg y43) y44) (Int32.toNatClampNeg y45) (0 : Int32))) rfl (ib_in hi) dX8_packs_200 ?_
        refine lv_iconst (v := (1 : Int32)) hx hb dX8_packs_201 (by decide) ?_
        refine lv_iadd hx hb dX8_packs_202 ?_
        obtain ⟨hi, hf⟩ := gd_of hf
        refine g_iast C hW 0 5 rfl (f := (upd (upd (y42.2 16) (Int32.toNatClampNeg y43) y44) (Int32.toNatClampNeg y45) (0 : Int32))) rfl (ib_in hi) (kX8_w16 g a0 (st (st y42.2 16 (upd (y42.2 16) (Int32.toNatClampNeg y43) y44)) 16 (upd (upd (y42.2 16) (Int32.toNatClampNeg y43) y44) (Int32.toNatClampNeg y45) (0 : Int32))) (upd (upd (upd (y42.2 16) (Int32.toNatClampNeg y43) y44) (Int32.toNatClampNeg y45) (0 : Int32)) (Int32.toNatClampNeg (3 : Int32)) (((upd (upd (y42.2 16) (Int32.toNatClampNeg y43) y44) (Int32.toNatClampNeg y45) (0 : Int32)) (Int32.toNatClampNeg (3 : Int32))) + (1 : Int32)))) (ch' := [kX8 g a0 (st (st (st y42.2 16 (upd (y42.2 16) (Int32.toNatClampNeg y43) y44)) 16 (upd (upd (y42.2 16) (Int32.toNatClampNeg y43) y44) (Int32.toNatClampNeg y45) (0 : Int32))) 16 (upd (upd (upd (y42.2 16) (Int32.toNatClampNeg y43) y44) (Int32.toNatClampNeg y45) (0 : Int32)) (Int32.toNatClampNeg (3 : Int32)) (((upd (upd (y42.2 16) (Int32.toNatClampNeg y43) y44) (Int32.toNatClampNeg y45) (0 : Int32)) (Int32.toNatClampNeg (3 : Int32))) + (1 : Int32))))]) rfl dX8_packs_203 (fun H locs hW => ?_)
        refine lv_aload_n hx hb dX8_packs_204 rfl (lv_at hl 2 rfl) ?_
        refine lv_iload_n hx hb dX8_packs_205 rfl (lv_at hl 5 rfl) ?_
        obtain ⟨y49, hc, hf⟩ := bd_of hf
        refine g_cVv (Cn := RX8) C (ct_X8_sends g l N a0 ((v0 16) (Int32.toNatClampNeg (3 : Int32))) (st (st (st y42.2 16 (upd (y42.2 16) (Int32.toNatClampNeg y43) y44)) 16 (upd (upd (y42.2 16) (Int32.toNatClampNeg y43) y44) (Int32.toNatClampNeg y45) (0 : Int32))) 16 (upd (upd (upd (y42.2 16) (Int32.toNatClampNeg y43) y44) (Int32.toNatClampNeg y45) (0 : Int32)) (Int32.toNatClampNeg (3 : Int32)) (((upd (upd (y42.2 16) (Int32.toNatClampNeg y43) y44) (Int32.toNatClampNeg y45) (0 : Int32)) (Int32.toNatClampNeg (3 : Int32))) + (1 : Int32)))) hc) gX8_packs_X8_sends rfl 1 (by decide +kernel) ⟨rfl, rfl, ⟨Nat.le_of_ble_eq_true rfl, Nat.le_of_ble_eq_true rfl⟩, Nat.le_of_ble_eq_true rfl, Nat.le_of_ble_eq_true rfl⟩ rfl hl (Nat.le_of_ble_eq_true rfl) dX8_packs_206 rfl hW hA [0] rfl rfl rfl (ch' := [kX8 g a0 y49]) rfl 0 rfl rfl rfl (fun H locs hW => ?_)
        refine lv_aload_n hx hb dX8_packs_209 rfl (lv_at hl 2 rfl) ?_
        obtain ⟨y50, hc, hf⟩ := bd_of hf
        refine g_cVv (Cn := RX8) C (ct_X8_clearsGone g l N a0 y49 hc) gX8_packs_X8_clearsGone rfl 0 (by decide +kernel) ⟨rfl, rfl, ⟨Nat.le_of_ble_eq_true rfl, Nat.le_of_ble_eq_true rfl⟩, Nat.le_of_ble_eq_true rfl, Nat.le_of_ble_eq_true rfl⟩ rfl hl (Nat.le_of_ble_eq_true rfl) dX8_packs_210 rfl hW hA [0] rfl rfl rfl (ch' := [kX8 g a0 y50]) rfl 0 rfl rfl rfl (fun H locs hW => ?_)
        refine lv_goto (tgt := 238) hx hb dX8_packs_213 (by decide) ?_
        obtain rfl := Option.some.inj hf
        subst hQ
        exact g_vret C hr hk0 hW rfl rfl dX8_packs_238
def fX8_asks (N : Nat) (x1 : Int32) (v0 : MM) : Option (MM) := (if ib (0 : Int32) 667 = true then ((fX8_ofTerminal N x1 (0 : Int32)).bind (fun y1 => (if ib y1 667 = true then (if ((v0 16) (Int32.toNatClampNeg y1)) = (1 : Int32) then (if ib x1 3 = true then (if ¬ ((v0 6) (Int32.toNatClampNeg x1)) = 0 then (if ib x1 3 = true then (if ¬ ((v0 6) (Int32.toNatClampNeg x1)) = 0 then (if (((v0 16) (Int32.toNatClampNeg (0 : Int32))) - ((v0 16) (Int32.toNatClampNeg (0 : Int32))) / ((v0 6) (Int32.toNatClampNeg x1)) * ((v0 6) (Int32.toNatClampNeg x1))) = (x1 - x1 / ((v0 6) (Int32.toNatClampNeg x1)) * ((v0 6) (Int32.toNatClampNeg x1))) then ((fX8_ofTerminal N x1 (1 : Int32)).bind (fun y2 => (if ib y2 667 = true then (if ((v0 16) (Int32.toNatClampNeg (0 : Int32))) < ((v0 16) (Int32.toNatClampNeg y2)) then some v0 else ((fX8_ofTerminal N x1 (2 : Int32)).bind (fun y3 => (if ib y3 667 = true then ((fX8_ofTerminal N x1 (4 : Int32)).bind (fun y4 => (if ib y4 667 = true then (if ib y4 667 = true then ((fX8_ofTerminal N x1 (1 : Int32)).bind (fun y5 => (if ib y5 667 = true then some (st (st (st v0 16 (upd (v0 16) (Int32.toNatClampNeg y3) (1 : Int32))) 16 (upd (upd (v0 16) (Int32.toNatClampNeg y3) (1 : Int32)) (Int32.toNatClampNeg y4) (((upd (v0 16) (Int32.toNatClampNeg y3) (1 : Int32)) (Int32.toNatClampNeg y4)) + (1 : Int32)))) 16 (upd (upd (upd (v0 16) (Int32.toNatClampNeg y3) (1 : Int32)) (Int32.toNatClampNeg y4) (((upd (v0 16) (Int32.toNatClampNeg y3) (1 : Int32)) (Int32.toNatClampNeg y4)) + (1 : Int32))) (Int32.toNatClampNeg y5) ((((v0 16) (Int32.toNatClampNeg (0 : Int32))) + (v0 3 0)) + (1 : Int32)))) else none))) else none) else none))) else none)))) else none))) else some v0) else none) else none) else none) else none) else some v0) else none))) else none)
set_option maxHeartbeats 4000000 in
set_option maxRecDepth 100000 in
theorem ct_X8_asks (g : GT) (l : Launch) (N : Nat) (a0 : Nat → Nat) (x1 : Int32) (v0 : MM) {y : MM} (hf : fX8_asks N x1 v0 = some y) : ct g l yX8_asks wsX8_asks (rmk 1 21) [.ref (a0 0), .int x1] [kX8 g a0 v0] none [kX8 g a0 y] := by
  refine ct_of (cc := cX8_asks) (maxL := 3) (ret := none) (by decide) rfl (Nat.le_of_ble_eq_true rfl) ?_
  intro p e s m args below meth c A ls C hr hk0 hA hW hl
  have hx := C.1.1
  have hb := C.1.2.1
  replace hl : lv_has ls 3 [(0, .ref (a0 0)), (1, .int x1)] := hl
  obtain ⟨Q, hQ⟩ : ∃ Q, Q = MQ below (ctQ g A none [kX8 g a0 y]) args s 0 0 A := ⟨_, rfl⟩
  rw [← hQ]
  obtain ⟨H, hH⟩ : ∃ H, H = s.heap := ⟨_, rfl⟩
  obtain ⟨locs, hL⟩ : ∃ locs : List Loc, locs = [] := ⟨_, rfl⟩
  replace hW : wd g A s.heap [kX8 g a0 v0] H locs := by rw [hH, hL]; exact hW
  suffices hG : W p l e (rmk 1 21) s m args below meth c H locs 0 0 Q (F0 m 0 ls []) by
    rw [hH, hL] at hG; exact hG
  clear hH hL
  have inX8 : ∀ w ∈ wsX80, w ∈ wsX8_asks := fun _ h => List.mem_cons_of_mem _ (List.mem_append_right _ (h))
  rw [fX8_asks] at hf
  refine lv_aload_n hx hb dX8_asks_0 rfl (lv_at hl 0 rfl) ?_
  refine g_get C hW inX8 0 rfl rfl rfl 16 (by decide) (List.mem_of_getElem? (i := 1) rfl) (v := .ref (a0 5)) rfl dX8_asks_1 ?_
  refine lv_iconst (v := (0 : Int32)) hx hb dX8_asks_4 (by decide) ?_
  obtain ⟨hi, hf⟩ := gd_of hf
  refine g_iald C hW 0 5 rfl (f := (v0 16)) rfl (ib_in hi) dX8_asks_5 ?_
  refine lv_istore_n (lv' := [(2, .int ((v0 16) (Int32.toNatClampNeg (0 : Int32)))), (0, .ref (a0 0)), (1, .int x1)]) hx hb dX8_asks_6 rfl hl (by decide) rfl (fun ls hl => ?_)
  refine lv_aload_n hx hb dX8_asks_7 rfl (lv_at hl 1 rfl) ?_
  refine g_get C hW inX8 0 rfl rfl rfl 16 (by decide) (List.mem_of_getElem? (i := 1) rfl) (v := .ref (a0 5)) rfl dX8_asks_8 ?_
  refine lv_iload_n hx hb dX8_asks_11 rfl (lv_at hl 2 rfl) ?_
  refine lv_iconst (v := (0 : Int32)) hx hb dX8_asks_12 (by decide) ?_
  obtain ⟨y1, hc, hf⟩ := bd_of hf
  refine g_cS C (ct_X8_ofTerminal g l N x1 (0 : Int32) hc) gX8_asks_X8_ofTerminal rfl 2 (by decide +kernel) ⟨rfl, rfl, ⟨Nat.le_of_ble_eq_true rfl, Nat.le_of_ble_eq_true rfl⟩, Nat.le_of_ble_eq_true rfl, Nat.le_of_ble_eq_true rfl⟩ rfl hl (Nat.le_of_ble_eq_true rfl) dX8_asks_13 rfl hW hA [] rfl rfl rfl (ch' := [kX8 g a0 v0]) rfl (fun H locs hW => ?_)
  obtain ⟨hi, hf⟩ := gd_of hf
  refine g_iald C hW 0 5 rfl (f := (v0 16)) rfl (ib_in hi) dX8_asks_16 ?_
  refine lv_iconst (v := (1 : Int32)) hx hb dX8_asks_17 (by decide) ?_
  refine lv_icmp_ne (tgt := 97) hx hb dX8_asks_18 (by decide) (fun h => ?_) (fun h => ?_)
  · replace hf := (if_neg h).symm.trans hf
    obtain rfl := Option.some.inj hf
    subst hQ
    exact g_vret C hr hk0 hW rfl rfl dX8_asks_97
  · replace hf := (if_pos h).symm.trans hf
    refine lv_iload_n hx hb dX8_asks_21 rfl (lv_at hl 0 rfl) ?_
    refine lv_aload_n hx hb dX8_asks_22 rfl (lv_at hl 1 rfl) ?_
    refine g_get C hW inX8 0 rfl rfl rfl 6 (by decide) (List.mem_of_getElem? (i := 2) rfl) (v := .ref (a0 1)) rfl dX8_asks_23 ?_
    refine lv_iload_n hx hb dX8_asks_26 rfl (lv_at hl 2 rfl) ?_
    obtain ⟨hi, hf⟩ := gd_of hf
    refine g_iald C hW 0 1 rfl (f := (v0 6)) rfl (ib_in hi) dX8_asks_27 ?_
    obtain ⟨hi, hf⟩ := gd_of hf
    refine lv_irem hx hb dX8_asks_28 hi ?_
    refine lv_iload_n hx hb dX8_asks_29 rfl (lv_at hl 2 rfl) ?_
    refine lv_aload_n hx hb dX8_asks_30 rfl (lv_at hl 1 rfl) ?_
    refine g_get C hW inX8 0 rfl rfl rfl 6 (by decide) (List.mem_of_getElem? (i := 2) rfl) (v := .ref (a0 1)) rfl dX8_asks_31 ?_
    refine lv_iload_n hx hb dX8_asks_34 rfl (lv_at hl 2 rfl) ?_
    obtain ⟨hi, hf⟩ := gd_of hf
    refine g_iald C hW 0 1 rfl (f := (v0 6)) rfl (ib_in hi) dX8_asks_35 ?_
    obtain ⟨hi, hf⟩ := gd_of hf
    refine lv_irem hx hb dX8_asks_36 hi ?_
    refine lv_icmp_ne (tgt := 97) hx hb dX8_asks_37 (by decide) (fun h => ?_) (fun h => ?_)
    · replace hf := (if_neg h).symm.trans hf
      obtain rfl := Option.some.inj hf
      subst hQ
      exact g_vret C hr hk0 hW rfl rfl dX8_asks_97
    · replace hf := (if_pos h).symm.trans hf
      refine lv_iload_n hx hb dX8_asks_40 rfl (lv_at hl 0 rfl) ?_
      refine lv_aload_n hx hb dX8_asks_41 rfl (lv_at hl 1 rfl) ?_
      refine g_get C hW inX8 0 rfl rfl rfl 16 (by decide) (List.mem_of_getElem? (i := 1) rfl) (v := .ref (a0 5)) rfl dX8_asks_42 ?_
      refine lv_iload_n hx hb dX8_asks_45 rfl (lv_at hl 2 rfl) ?_
      refine lv_iconst (v := (1 : Int32)) hx hb dX8_asks_46 (by decide) ?_
      obtain ⟨y2, hc, hf⟩ := bd_of hf
      refine g_cS C (ct_X8_ofTerminal g l N x1 (1 : Int32) hc) gX8_asks_X8_ofTerminal rfl 2 (by decide +kernel) ⟨rfl, rfl, ⟨Nat.le_of_ble_eq_true rfl, Nat.le_of_ble_eq_true rfl⟩, Nat.le_of_ble_eq_true rfl, Nat.le_of_ble_eq_true rfl⟩ rfl hl (Nat.le_of_ble_eq_true rfl) dX8_asks_47 rfl hW hA [] rfl rfl rfl (ch' := [kX8 g a0 v0]) rfl (fun H locs hW => ?_)
      obtain ⟨hi, hf⟩ := gd_of hf
      refine g_iald C hW 0 5 rfl (f := (v0 16)) rfl (ib_in hi) dX8_asks_50 ?_
      refine lv_icmp_lt (tgt := 97) hx hb dX8_asks_51 (by decide) (fun h => ?_) (fun h => ?_)
      · replace hf := (if_pos h).symm.trans hf
        obtain rfl := Option.some.inj hf
        subst hQ
        exact g_vret C hr hk0 hW rfl rfl dX8_asks_97
      · replace hf := (if_neg h).symm.trans hf
        refine lv_aload_n hx hb dX8_asks_54 rfl (lv_at hl 1 rfl) ?_
        refine g_get C hW inX8 0 rfl rfl rfl 16 (by decide) (List.mem_of_getElem? (i := 1) rfl) (v := .ref (a0 5)) rfl dX8_asks_55 ?_
        refine lv_iload_n hx hb dX8_asks_58 rfl (lv_at hl 2 rfl) ?_
        refine lv_iconst (v := (2 : Int32)) hx hb dX8_asks_59 (by decide) ?_
        obtain ⟨y3, hc, hf⟩ := bd_of hf
        refine g_cS C (ct_X8_ofTerminal g l N x1 (2 : Int32) hc) gX8_asks_X8_ofTerminal rfl 2 (by decide +kernel) ⟨rfl, rfl, ⟨Nat.le_of_ble_eq_true rfl, Nat.le_of_ble_eq_true rfl⟩, Nat.le_of_ble_eq_true rfl, Nat.le_of_ble_eq_true rfl⟩ rfl hl (Nat.le_of_ble_eq_true rfl) dX8_asks_60 rfl hW hA [] rfl rfl rfl (ch' := [kX8 g a0 v0]) rfl (fun H locs hW => ?_)
        refine lv_iconst (v := (1 : Int32)) hx hb dX8_asks_63 (by decide) ?_
        obtain ⟨hi, hf⟩ := gd_of hf
        refine g_iast C hW 0 5 rfl (f := (v0 16)) rfl (ib_in hi) (kX8_w16 g a0 v0 (upd (v0 16) (Int32.toNatClampNeg y3) (1 : Int32))) (ch' := [kX8 g a0 (st v0 16 (upd (v0 16) (Int32.toNatClampNeg y3) (1 : Int32)))]) rfl dX8_asks_64 (fun H locs hW => ?_)
        refine lv_aload_n hx hb dX8_asks_65 rfl (lv_at hl 1 rfl) ?_
        refine g_get C hW inX8 0 rfl rfl rfl 16 (by decide) (List.mem_of_getElem? (i := 1) rfl) (v := .ref (a0 5)) rfl dX8_asks_66 ?_
        refine lv_iload_n hx hb dX8_asks_69 rfl (lv_at hl 2 rfl) ?_
        refine lv_iconst (v := (4 : Int32)) hx hb dX8_asks_70 (by decide) ?_
        obtain ⟨y4, hc, hf⟩ := bd_of hf
        refine g_cS C (ct_X8_ofTerminal g l N x1 (4 : Int32) hc) gX8_asks_X8_ofTerminal rfl 2 (by decide +kernel) ⟨rfl, rfl, ⟨Nat.le_of_ble_eq_true rfl, Nat.le_of_ble_eq_true rfl⟩, Nat.le_of_ble_eq_true rfl, Nat.le_of_ble_eq_true rfl⟩ rfl hl (Nat.le_of_ble_eq_true rfl) dX8_asks_71 rfl hW hA [] rfl rfl rfl (ch' := [kX8 g a0 (st v0 16 (upd (v0 16) (Int32.toNatClampNeg y3) (1 : Int32)))]) rfl (fun H locs hW => ?_)
        refine lv_dup2_11 hx hb dX8_asks_74 rfl rfl ?_
        obtain ⟨hi, hf⟩ := gd_of hf
        refine g_iald C hW 0 5 rfl (f := (upd (v0 16) (Int32.toNatClampNeg y3) (1 : Int32))) rfl (ib_in hi) dX8_asks_75 ?_
        refine lv_iconst (v := (1 : Int32)) hx hb dX8_asks_76 (by decide) ?_
        refine lv_iadd hx hb dX8_asks_77 ?_
        obtain ⟨hi, hf⟩ := gd_of hf
        refine g_iast C hW 0 5 rfl (f := (upd (v0 16) (Int32.toNatClampNeg y3) (1 : Int32))) rfl (ib_in hi) (kX8_w16 g a0 (st v0 16 (upd (v0 16) (Int32.toNatClampNeg y3) (1 : Int32))) (upd (upd (v0 16) (Int32.toNatClampNeg y3) (1 : Int32)) (Int32.toNatClampNeg y4) (((upd (v0 16) (Int32.toNatClampNeg y3) (1 : Int32)) (Int32.toNatClampNeg y4)) + (1 : Int32)))) (ch' := [kX8 g a0 (st (st v0 16 (upd (v0 16) (Int32.toNatClampNeg y3) (1 : Int32))) 16 (upd (upd (v0 16) (Int32.toNatClampNeg y3) (1 : Int32)) (Int32.toNatClampNeg y4) (((upd (v0 16) (Int32.toNatClampNeg y3) (1 : Int32)) (Int32.toNatClampNeg y4)) + (1 : Int32))))]) rfl dX8_asks_78 (fun H locs hW => ?_)
        refine lv_aload_n hx hb dX8_asks_79 rfl (lv_at hl 1 rfl) ?_
        refine g_get C hW inX8 0 rfl rfl rfl 16 (by decide) (List.mem_of_getElem? (i := 1) rfl) (v := .ref (a0 5)) rfl dX8_asks_80 ?_
        refine lv_iload_n hx hb dX8_asks_83 rfl (lv_at hl 2 rfl) ?_
        refine lv_iconst (v := (1 : Int32)) hx hb dX8_asks_84 (by decide) ?_
        obtain ⟨y5, hc, hf⟩ := bd_of hf
        refine g_cS C (ct_X8_ofTerminal g l N x1 (1 : Int32) hc) gX8_asks_X8_ofTerminal rfl 2 (by decide +kernel) ⟨rfl, rfl, ⟨Nat.le_of_ble_eq_true rfl, Nat.le_of_ble_eq_true rfl⟩, Nat.le_of_ble_eq_true rfl, Nat.le_of_ble_eq_true rfl⟩ rfl hl (Nat.le_of_ble_eq_true rfl) dX8_asks_85 rfl hW hA [] rfl rfl rfl (ch' := [kX8 g a0 (st (st v0 16 (upd (v0 16) (Int32.toNatClampNeg y3) (1 : Int32))) 16 (upd (upd (v0 16) (Int32.toNatClampNeg y3) (1 : Int32)) (Int32.toNatClampNeg y4) (((upd (v0 16) (Int32.toNatClampNeg y3) (1 : Int32)) (Int32.toNatClampNeg y4)) + (1 : Int32))))]) rfl (fun H locs hW => ?_)
        refine lv_iload_n hx hb dX8_asks_88 rfl (lv_at hl 0 rfl) ?_
        refine lv_aload_n hx hb dX8_asks_89 rfl (lv_at hl 1 rfl) ?_
        refine g_get C hW inX8 0 rfl rfl rfl 3 (by decide) (List.mem_of_getElem? (i := 3) rfl) (v := .int (v0 3 0)) rfl dX8_asks_90 ?_
        refine lv_iadd hx hb dX8_asks_93 ?_
        refine lv_iconst (v := (1 : Int32)) hx hb dX8_asks_94 (by decide) ?_
        refine lv_iadd hx hb dX8_asks_95 ?_
        obtain ⟨hi, hf⟩ := gd_of hf
        refine g_iast C hW 0 5 rfl (f := (upd (upd (v0 16) (Int32.toNatClampNeg y3) (1 : Int32)) (Int32.toNatClampNeg y4) (((upd (v0 16) (Int32.toNatClampNeg y3) (1 : Int32)) (Int32.toNatClampNeg y4)) + (1 : Int32)))) rfl (ib_in hi) (kX8_w16 g a0 (st (st v0 16 (upd (v0 16) (Int32.toNatClampNeg y3) (1 : Int32))) 16 (upd (upd (v0 16) (Int32.toNatClampNeg y3) (1 : Int32)) (Int32.toNatClampNeg y4) (((upd (v0 16) (Int32.toNatClampNeg y3) (1 : Int32)) (Int32.toNatClampNeg y4)) + (1 : Int32)))) (upd (upd (upd (v0 16) (Int32.toNatClampNeg y3) (1 : Int32)) (Int32.toNatClampNeg y4) (((upd (v0 16) (Int32.toNatClampNeg y3) (1 : Int32)) (Int32.toNatClampNeg y4)) + (1 : Int32))) (Int32.toNatClampNeg y5) ((((v0 16) (Int32.toNatClampNeg (0 : Int32))) + (v0 3 0)) + (1 : Int32)))) (ch' := [kX8 g a0 (st (st (st v0 16 (upd (v0 16) (Int32.toNatClampNeg y3) (1 : Int32))) 16 (upd (upd (v0 16) (Int32.toNatClampNeg y3) (1 : Int32)) (Int32.toNatClampNeg y4) (((upd (v0 16) (Int32.toNatClampNeg y3) (1 : Int32)) (Int32.toNatClampNeg y4)) + (1 : Int32)))) 16 (upd (upd (upd (v0 16) (Int32.toNatClampNeg y3) (1 : Int32)) (Int32.toNatClampNeg y4) (((upd (v0 16) (Int32.toNatClampNeg y3) (1 : Int32)) (Int32.toNatClampNeg y4)) + (1 : Int32))) (Int32.toNatClampNeg y5) ((((v0 16) (Int32.toNatClampNeg (0 : Int32))) + (v0 3 0)) + (1 : Int32))))]) rfl dX8_asks_96 (fun H locs hW => ?_)
        obtain rfl := Option.some.inj hf
        subst hQ
        exact g_vret C hr hk0 hW rfl rfl dX8_asks_97
def fX8_sendsAgain_L19 (N : Nat) (k : Int32 → Int32 → MM → Option (Int32 × MM)) (x2 : Int32) : Nat → Int32 → Int32 → MM → Option (Int32 × MM)
  | 0, _, _, _ => none
  | n + 1, x1, x3, v0 => (if ib (3 : Int32) 667 = true then (if ((v0 16) (Int32.toNatClampNeg (3 : Int32))) ≤ x3 then k x1 x3 v0 else ((fX8_ofBlock N x3 (0 : Int32)).bind (fun y1 => (if ib y1 667 = true then (if ((v0 16) (Int32.toNatClampNeg y1)) = x2 then ((fX8_ofBlock N x3 (1 : Int32)).bind (fun y2 => (if ib y2 667 = true then (if ib (0 : Int32) 667 = true then (if ((v0 16) (Int32.toNatClampNeg y2)) = ((v0 16) (Int32.toNatClampNeg (0 : Int32))) then ((fX8_inBlock N x3 v0).bind (fun y3 => ((fX8_less N x1 y3).bind (fun y4 => ((fX8_sends N x3 v0).bind (fun y5 => fX8_sendsAgain_L19 N k x2 n (x1 - y4) (x3 + 1) y5)))))) else fX8_sendsAgain_L19 N k x2 n x1 (x3 + 1) v0) else none) else none))) else fX8_sendsAgain_L19 N k x2 n x1 (x3 + 1) v0) else none)))) else none)
def fX8_sendsAgain_L9 (N : Nat) (k : Int32 → Int32 → MM → Option (Int32 × MM)) : Nat → Int32 → Int32 → MM → Option (Int32 × MM)
  | 0, _, _, _ => none
  | n + 1, x1, x2, v0 => (if (v0 1 0) ≤ x2 then k x1 x2 v0 else (fX8_sendsAgain_L19 N (fun (x1_6 : Int32) (x3_6 : Int32) (v0_6 : MM) => fX8_sendsAgain_L9 N k n x1_6 (x2 + 1) v0_6) x2 N x1 (0 : Int32) v0))
def fX8_sendsAgain (N : Nat) (v0 : MM) : Option (Int32 × MM) := (if ib (1 : Int32) 667 = true then (fX8_sendsAgain_L9 N (fun (x1_7 : Int32) (x2_7 : Int32) (v0_7 : MM) => ((fX8_clearsGone N v0_7).bind (fun y8 => some (x1_7, y8)))) N ((v0 16) (Int32.toNatClampNeg (1 : Int32))) (0 : Int32) v0) else none)
set_option maxHeartbeats 4000000 in
set_option maxRecDepth 100000 in
theorem ct_X8_sendsAgain (g : GT) (l : Launch) (N : Nat) (a0 : Nat → Nat) (v0 : MM) {y : Int32 × MM} (hf : fX8_sendsAgain N v0 = some y) : ct g l yX8_sendsAgain wsX8_sendsAgain (rmk 3 68) [.ref (a0 0)] [kX8 g a0 v0] (some (.int y.1)) [kX8 g a0 y.2] := by
  refine ct_of (cc := cX8_sendsAgain) (maxL := 4) (ret := (some .int)) (by decide) rfl (Nat.le_of_ble_eq_true rfl) ?_
  intro p e s m args below meth c A ls C hr hk0 hA hW hl
  have hx := C.1.1
  have hb := C.1.2.1
  replace hl : lv_has ls 4 [(0, .ref (a0 0))] := hl
  obtain ⟨Q, hQ⟩ : ∃ Q, Q = MQ below (ctQ g A (some (.int y.1)) [kX8 g a0 y.2]) args s 0 0 A := ⟨_, rfl⟩
  rw [← hQ]
  obtain ⟨H, hH⟩ : ∃ H, H = s.heap := ⟨_, rfl⟩
  obtain ⟨locs, hL⟩ : ∃ locs : List Loc, locs = [] := ⟨_, rfl⟩
  replace hW : wd g A s.heap [kX8 g a0 v0] H locs := by rw [hH, hL]; exact hW
  suffices hG : W p l e (rmk 3 68) s m args below meth c H locs 0 0 Q (F0 m 0 ls []) by
    rw [hH, hL] at hG; exact hG
  clear hH hL
  have inX8 : ∀ w ∈ wsX80, w ∈ wsX8_sendsAgain := fun _ h => List.mem_cons_of_mem _ (List.mem_append_right _ (h))
  have L19 : ∀ (x2 : Int32) (k : Int32 → Int32 → MM → Option (Int32 × MM)) (hk : ∀ (x1 : Int32) (x3 : Int32) (v0 : MM) (H : Heap) (locs : List Loc) (ls : Array Slot), k x1 x3 v0 = some y → wd g A s.heap [kX8 g a0 v0] H locs → lv_has ls 4 [(0, .ref (a0 0)), (1, .int x1), (2, .int x2), (3, .int x3)] → W p l e (rmk 3 68) s m args below meth c H locs 0 0 Q (F0 m 85 ls [])) (n : Nat) (x1 : Int32) (x3 : Int32) (v0 : MM) (H : Heap) (locs : List Loc) (ls : Array Slot), fX8_sendsAgain_L19 N k x2 n x1 x3 v0 = some y → wd g A s.heap [kX8 g a0 v0] H locs → lv_has ls 4 [(0, .ref (a0 0)), (1, .int x1), (2, .int x2), (3, .int x3)] → W p l e (rmk 3 68) s m args below meth c H locs 0 0 Q (F0 m 19 ls []) := by
    intro x2 k hk n
    induction n with
    | zero => intro x1 x3 v0 H locs ls hf; rw [fX8_sendsAgain_L19] at hf; cases hf
    | succ n ih =>
      intro x1 x3 v0 H locs ls hf hW hl
      rw [fX8_sendsAgain_L19] at hf
      refine lv_iload_n hx hb dX8_sendsAgain_19 rfl (lv_at hl 3 rfl) ?_
      refine lv_aload_n hx hb dX8_sendsAgain_20 rfl (lv_at hl 0 rfl) ?_
      refine g_get C hW inX8 0 rfl rfl rfl 16 (by decide) (List.mem_of_getElem? (i := 1) rfl) (v := .ref (a0 5)) rfl dX8_sendsAgain_21 ?_
      refine lv_iconst (v := (3 : Int32)) hx hb dX8_sendsAgain_24 (by decide) ?_
      obtain ⟨hi, hf⟩ := gd_of hf
      refine g_iald C hW 0 5 rfl (f := (v0 16)) rfl (ib_in hi) dX8_sendsAgain_25 ?_
      refine lv_icmp_ge (tgt := 85) hx hb dX8_sendsAgain_26 (by decide) (fun h => ?_) (fun h => ?_)
      · replace hf := (if_pos h).symm.trans hf
        exact hk _ _ _ H locs ls hf hW (lv_sub hl [0, 1, 2, 3] rfl)
      · replace hf := (if_neg h).symm.trans hf
        refine lv_aload_n hx hb dX8_sendsAgain_29 rfl (lv_at hl 0 rfl) ?_
        refine g_get C hW inX8 0 rfl rfl rfl 16 (by decide) (List.mem_of_getElem? (i := 1) rfl) (v := .ref (a0 5)) rfl dX8_sendsAgain_30 ?_
        refine lv_iload_n hx hb dX8_sendsAgain_33 rfl (lv_at hl 3 rfl) ?_
        refine lv_iconst (v := (0 : Int32)) hx hb dX8_sendsAgain_34 (by decide) ?_
        obtain ⟨y1, hc, hf⟩ := bd_of hf
        refine g_cS C (ct_X8_ofBlock g l N x3 (0 : Int32) hc) gX8_sendsAgain_X8_ofBlock rfl 2 (by decide +kernel) ⟨rfl, rfl, ⟨Nat.le_of_ble_eq_true rfl, Nat.le_of_ble_eq_true rfl⟩, Nat.le_of_ble_eq_true rfl, Nat.le_of_ble_eq_true rfl⟩ rfl hl (Nat.le_of_ble_eq_true rfl) dX8_sendsAgain_35 rfl hW hA [] rfl rfl rfl (ch' := [kX8 g a0 v0]) rfl (fun H locs hW => ?_)
        obtain ⟨hi, hf⟩ := gd_of hf
        refine g_iald C hW 0 5 rfl (f := (v0 16)) rfl (ib_in hi) dX8_sendsAgain_38 ?_
        refine lv_iload_n hx hb dX8_sendsAgain_39 rfl (lv_at hl 2 rfl) ?_
        refine lv_icmp_ne (tgt := 79) hx hb dX8_sendsAgain_40 (by decide) (fun h => ?_) (fun h => ?_)
        · replace hf := (if_neg h).symm.trans hf
          refine lv_iinc (v := (x3 + 1)) (lv' := [(3, .int (x3 + 1)), (0, .ref (a0 0)), (1, .int x1), (2, .int x2)]) hx hb dX8_sendsAgain_79 hl (k := 3) rfl (by first | rfl | decide) (by decide) rfl (fun ls hl => ?_)
          refine lv_goto (tgt := 19) hx hb dX8_sendsAgain_82 (by decide) ?_
          exact ih _ _ _ H locs ls hf hW (lv_sub hl [1, 2, 3, 0] rfl)
        · replace hf := (if_pos h).symm.trans hf
          refine lv_aload_n hx hb dX8_sendsAgain_43 rfl (lv_at hl 0 rfl) ?_
          refine g_get C hW inX8 0 rfl rfl rfl 16 (by decide) (List.mem_of_getElem? (i := 1) rfl) (v := .ref (a0 5)) rfl dX8_sendsAgain_44 ?_
          refine lv_iload_n hx hb dX8_sendsAgain_47 rfl (lv_at hl 3 rfl) ?_
          refine lv_iconst (v := (1 : Int32)) hx hb dX8_sendsAgain_48 (by decide) ?_
          obtain ⟨y2, hc, hf⟩ := bd_of hf
          refine g_cS C (ct_X8_ofBlock g l N x3 (1 : Int32) hc) gX8_sendsAgain_X8_ofBlock rfl 2 (by decide +kernel) ⟨rfl, rfl, ⟨Nat.le_of_ble_eq_true rfl, Nat.le_of_ble_eq_true rfl⟩, Nat.le_of_ble_eq_true rfl, Nat.le_of_ble_eq_true rfl⟩ rfl hl (Nat.le_of_ble_eq_true rfl) dX8_sendsAgain_49 rfl hW hA [] rfl rfl rfl (ch' := [kX8 g a0 v0]) rfl (fun H locs hW => ?_)
          obtain ⟨hi, hf⟩ := gd_of hf
          refine g_iald C hW 0 5 rfl (f := (v0 16)) rfl (ib_in hi) dX8_sendsAgain_52 ?_
          refine lv_aload_n hx hb dX8_sendsAgain_53 rfl (lv_at hl 0 rfl) ?_
          refine g_get C hW inX8 0 rfl rfl rfl 16 (by decide) (List.mem_of_getElem? (i := 1) rfl) (v := .ref (a0 5)) rfl dX8_sendsAgain_54 ?_
          refine lv_iconst (v := (0 : Int32)) hx hb dX8_sendsAgain_57 (by decide) ?_
          obtain ⟨hi, hf⟩ := gd_of hf
          refine g_iald C hW 0 5 rfl (f := (v0 16)) rfl (ib_in hi) dX8_sendsAgain_58 ?_
          refine lv_icmp_ne (tgt := 79) hx hb dX8_sendsAgain_59 (by decide) (fun h => ?_) (fun h => ?_)
          · replace hf := (if_neg h).symm.trans hf
            refine lv_iinc (v := (x3 + 1)) (lv' := [(3, .int (x3 + 1)), (0, .ref (a0 0)), (1, .int x1), (2, .int x2)]) hx hb dX8_sendsAgain_79 hl (k := 3) rfl (by first | rfl | decide) (by decide) rfl (fun ls hl => ?_)
            refine lv_goto (tgt := 19) hx hb dX8_sendsAgain_82 (by decide) ?_
            exact ih _ _ _ H locs ls hf hW (lv_sub hl [1, 2, 3, 0] rfl)
          · replace hf := (if_pos h).symm.trans hf
            refine lv_iload_n hx hb dX8_sendsAgain_62 rfl (lv_at hl 1 rfl) ?_
            refine lv_iload_n hx hb dX8_sendsAgain_63 rfl (lv_at hl 1 rfl) ?_
            refine lv_aload_n hx hb dX8_sendsAgain_64 rfl (lv_at hl 0 rfl) ?_
            refine lv_iload_n hx hb dX8_sendsAgain_65 rfl (lv_at hl 3 rfl) ?_
            obtain ⟨y3, hc, hf⟩ := bd_of hf
            refine g_cV (Cn := RX8) C (ct_X8_inBlock g l N a0 x3 v0 hc) gX8_sendsAgain_X8_inBlock rfl 1 (by decide +kernel) ⟨rfl, rfl, ⟨Nat.le_of_ble_eq_true rfl, Nat.le_of_ble_eq_true rfl⟩, Nat.le_of_ble_eq_true rfl, Nat.le_of_ble_eq_true rfl⟩ rfl hl (Nat.le_of_ble_eq_true rfl) dX8_sendsAgain_66 rfl hW hA [0] rfl rfl rfl (ch' := [kX8 g a0 v0]) rfl 0 rfl rfl rfl (fun H locs hW => ?_)
            obtain ⟨y4, hc, hf⟩ := bd_of hf
            refine g_cS C (ct_X8_less g l N x1 y3 hc) gX8_sendsAgain_X8_less rfl 2 (by decide +kernel) ⟨rfl, rfl, ⟨Nat.le_of_ble_eq_true rfl, Nat.le_of_ble_eq_true rfl⟩, Nat.le_of_ble_eq_true rfl, Nat.le_of_ble_eq_true rfl⟩ rfl hl (Nat.le_of_ble_eq_true rfl) dX8_sendsAgain_69 rfl hW hA [] rfl rfl rfl (ch' := [kX8 g a0 v0]) rfl (fun H locs hW => ?_)
            refine lv_isub hx hb dX8_sendsAgain_72 ?_
            refine lv_istore_n (lv' := [(1, .int (x1 - y4)), (0, .ref (a0 0)), (2, .int x2), (3, .int x3)]) hx hb dX8_sendsAgain_73 rfl hl (by decide) rfl (fun ls hl => ?_)
            refine lv_aload_n hx hb dX8_sendsAgain_74 rfl (lv_at hl 1 rfl) ?_
            refine lv_iload_n hx hb dX8_sendsAgain_75 rfl (lv_at hl 3 rfl) ?_
            obtain ⟨y5, hc, hf⟩ := bd_of hf
            refine g_cVv (Cn := RX8) C (ct_X8_sends g l N a0 x3 v0 hc) gX8_sendsAgain_X8_sends rfl 1 (by decide +kernel) ⟨rfl, rfl, ⟨Nat.le_of_ble_eq_true rfl, Nat.le_of_ble_eq_true rfl⟩, Nat.le_of_ble_eq_true rfl, Nat.le_of_ble_eq_true rfl⟩ rfl hl (Nat.le_of_ble_eq_true rfl) dX8_sendsAgain_76 rfl hW hA [0] rfl rfl rfl (ch' := [kX8 g a0 y5]) rfl 0 rfl rfl rfl (fun H locs hW => ?_)
            refine lv_iinc (v := (x3 + 1)) (lv' := [(3, .int (x3 + 1)), (1, .int (x1 - y4)), (0, .ref (a0 0)), (2, .int x2)]) hx hb dX8_sendsAgain_79 hl (k := 3) rfl (by first | rfl | decide) (by decide) rfl (fun ls hl => ?_)
            refine lv_goto (tgt := 19) hx hb dX8_sendsAgain_82 (by decide) ?_
            exact ih _ _ _ H locs ls hf hW (lv_sub hl [2, 1, 3, 0] rfl)
  have L9 : ∀ (k : Int32 → Int32 → MM → Option (Int32 × MM)) (hk : ∀ (x1 : Int32) (x2 : Int32) (v0 : MM) (H : Heap) (locs : List Loc) (ls : Array Slot), k x1 x2 v0 = some y → wd g A s.heap [kX8 g a0 v0] H locs → lv_has ls 4 [(0, .ref (a0 0)), (1, .int x1), (2, .int x2)] → W p l e (rmk 3 68) s m args below meth c H locs 0 0 Q (F0 m 91 ls [])) (n : Nat) (x1 : Int32) (x2 : Int32) (v0 : MM) (H : Heap) (locs : List Loc) (ls : Array Slot), fX8_sendsAgain_L9 N k n x1 x2 v0 = some y → wd g A s.heap [kX8 g a0 v0] H locs → lv_has ls 4 [(0, .ref (a0 0)), (1, .int x1), (2, .int x2)] → W p l e (rmk 3 68) s m args below meth c H locs 0 0 Q (F0 m 9 ls []) := by
    intro k hk n
    induction n with
    | zero => intro x1 x2 v0 H locs ls hf; rw [fX8_sendsAgain_L9] at hf; cases hf
    | succ n ih =>
      intro x1 x2 v0 H locs ls hf hW hl
      rw [fX8_sendsAgain_L9] at hf
      refine lv_iload_n hx hb dX8_sendsAgain_9 rfl (lv_at hl 2 rfl) ?_
      refine lv_aload_n hx hb dX8_sendsAgain_10 rfl (lv_at hl 0 rfl) ?_
      refine g_get C hW inX8 0 rfl rfl rfl 1 (by decide) (List.mem_of_getElem? (i := 2) rfl) (v := .int (v0 1 0)) rfl dX8_sendsAgain_11 ?_
      refine lv_icmp_ge (tgt := 91) hx hb dX8_sendsAgain_14 (by decide) (fun h => ?_) (fun h => ?_)
      · replace hf := (if_pos h).symm.trans hf
        exact hk _ _ _ H locs ls hf hW (lv_sub hl [0, 1, 2] rfl)
      · replace hf := (if_neg h).symm.trans hf
        refine lv_iconst (v := (0 : Int32)) hx hb dX8_sendsAgain_17 (by decide) ?_
        refine lv_istore_n (lv' := [(3, .int (0 : Int32)), (0, .ref (a0 0)), (1, .int x1), (2, .int x2)]) hx hb dX8_sendsAgain_18 rfl hl (by decide) rfl (fun ls hl => ?_)
        refine L19 x2 _ (fun x1_6 x3_6 v0_6 H locs ls hf hW hl => ?_) N x1 (0 : Int32) v0 H locs ls hf hW (lv_sub hl [1, 2, 3, 0] rfl)
        refine lv_iinc (v := (x2 + 1)) (lv' := [(2, .int (x2 + 1)), (0, .ref (a0 0)), (1, .int x1_6), (3, .int x3_6)]) hx hb dX8_sendsAgain_85 hl (k := 2) rfl (by first | rfl | decide) (by decide) rfl (fun ls hl => ?_)
        refine lv_goto (tgt := 9) hx hb dX8_sendsAgain_88 (by decide) ?_
        exact ih _ _ _ H locs ls hf hW (lv_sub hl [1, 2, 0] rfl)
  rw [fX8_sendsAgain] at hf
  refine lv_aload_n hx hb dX8_sendsAgain_0 rfl (lv_at hl 0 rfl) ?_
  refine g_get C hW inX8 0 rfl rfl rfl 16 (by decide) (List.mem_of_getElem? (i := 1) rfl) (v := .ref (a0 5)) rfl dX8_sendsAgain_1 ?_
  refine lv_iconst (v := (1 : Int32)) hx hb dX8_sendsAgain_4 (by decide) ?_
  obtain ⟨hi, hf⟩ := gd_of hf
  refine g_iald C hW 0 5 rfl (f := (v0 16)) rfl (ib_in hi) dX8_sendsAgain_5 ?_
  refine lv_istore_n (lv' := [(1, .int ((v0 16) (Int32.toNatClampNeg (1 : Int32)))), (0, .ref (a0 0))]) hx hb dX8_sendsAgain_6 rfl hl (by decide) rfl (fun ls hl => ?_)
  refine lv_iconst (v := (0 : Int32)) hx hb dX8_sendsAgain_7 (by decide) ?_
  refine lv_istore_n (lv' := [(2, .int (0 : Int32)), (1, .int ((v0 16) (Int32.toNatClampNeg (1 : Int32)))), (0, .ref (a0 0))]) hx hb dX8_sendsAgain_8 rfl hl (by decide) rfl (fun ls hl => ?_)
  refine L9 _ (fun x1_7 x2_7 v0_7 H locs ls hf hW hl => ?_) N ((v0 16) (Int32.toNatClampNeg (1 : Int32))) (0 : Int32) v0 H locs ls hf hW (lv_sub hl [2, 1, 0] rfl)
  refine lv_aload_n hx hb dX8_sendsAgain_91 rfl (lv_at hl 0 rfl) ?_
  obtain ⟨y8, hc, hf⟩ := bd_of hf
  refine g_cVv (Cn := RX8) C (ct_X8_clearsGone g l N a0 v0_7 hc) gX8_sendsAgain_X8_clearsGone rfl 0 (by decide +kernel) ⟨rfl, rfl, ⟨Nat.le_of_ble_eq_true rfl, Nat.le_of_ble_eq_true rfl⟩, Nat.le_of_ble_eq_true rfl, Nat.le_of_ble_eq_true rfl⟩ rfl hl (Nat.le_of_ble_eq_true rfl) dX8_sendsAgain_92 rfl hW hA [0] rfl rfl rfl (ch' := [kX8 g a0 y8]) rfl 0 rfl rfl rfl (fun H locs hW => ?_)
  refine lv_iload_n hx hb dX8_sendsAgain_95 rfl (lv_at hl 1 rfl) ?_
  obtain rfl := Option.some.inj hf
  subst hQ
  exact g_iret C hr hk0 hW rfl rfl dX8_sendsAgain_96
def fX8_grants_L31 (N : Nat) (k : Int32 → Int32 → MM → Option (MM)) (x1 : Int32) (x3 : Int32) : Nat → Int32 → Int32 → MM → Option (MM)
  | 0, _, _, _ => none
  | n + 1, x2, x4, v0 => (if (v0 1 0) ≤ x4 then k x2 x4 v0 else (if x2 ≤ 0 then k x2 x4 v0 else (if ¬ (v0 1 0) = 0 then ((fX8_ofTerminal N ((x3 + x4) - (x3 + x4) / (v0 1 0) * (v0 1 0)) (3 : Int32)).bind (fun y1 => (if ib y1 667 = true then ((fX8_ofTerminal N ((x3 + x4) - (x3 + x4) / (v0 1 0) * (v0 1 0)) (2 : Int32)).bind (fun y2 => (if ib y2 667 = true then (if ((v0 16) (Int32.toNatClampNeg y2)) = (1 : Int32) then (if ((v0 16) (Int32.toNatClampNeg y1)) ≤ 0 then ((fX8_less N (4 : Int32) x2).bind (fun y3 => (if ib (2 : Int32) 667 = true then ((fX8_ofTerminal N ((x3 + x4) - (x3 + x4) / (v0 1 0) * (v0 1 0)) (2 : Int32)).bind (fun y4 => (if ib y4 667 = true then ((fX8_ofTerminal N ((x3 + x4) - (x3 + x4) / (v0 1 0) * (v0 1 0)) (5 : Int32)).bind (fun y5 => (if ib y5 667 = true then (if ib y5 667 = true then ((fX8_packs N ((x3 + x4) - (x3 + x4) / (v0 1 0) * (v0 1 0)) y3 (st (st (st v0 16 (upd (v0 16) (Int32.toNatClampNeg (2 : Int32)) ((x3 + x4) - (x3 + x4) / (v0 1 0) * (v0 1 0)))) 16 (upd (upd (v0 16) (Int32.toNatClampNeg (2 : Int32)) ((x3 + x4) - (x3 + x4) / (v0 1 0) * (v0 1 0))) (Int32.toNatClampNeg y4) (0 : Int32))) 16 (upd (upd (upd (v0 16) (Int32.toNatClampNeg (2 : Int32)) ((x3 + x4) - (x3 + x4) / (v0 1 0) * (v0 1 0))) (Int32.toNatClampNeg y4) (0 : Int32)) (Int32.toNatClampNeg y5) (((upd (upd (v0 16) (Int32.toNatClampNeg (2 : Int32)) ((x3 + x4) - (x3 + x4) / (v0 1 0) * (v0 1 0))) (Int32.toNatClampNeg y4) (0 : Int32)) (Int32.toNatClampNeg y5)) + y3)))).bind (fun y6 => fX8_grants_L31 N k x1 x3 n (x2 - y3) (x4 + 1) y6)) else none) else none))) else none))) else none))) else ((fX8_less N (((v0 16) (Int32.toNatClampNeg y1)) + (2 : Int32)) x2).bind (fun y7 => (if ib (2 : Int32) 667 = true then ((fX8_ofTerminal N ((x3 + x4) - (x3 + x4) / (v0 1 0) * (v0 1 0)) (2 : Int32)).bind (fun y8 => (if ib y8 667 = true then ((fX8_ofTerminal N ((x3 + x4) - (x3 + x4) / (v0 1 0) * (v0 1 0)) (5 : Int32)).bind (fun y9 => (if ib y9 667 = true then (if ib y9 667 = true then ((fX8_packs N ((x3 + x4) - (x3 + x4) / (v0 1 0) * (v0 1 0)) y7 (st (st (st v0 16 (upd (v0 16) (Int32.toNatClampNeg (2 : Int32)) ((x3 + x4) - (x3 + x4) / (v0 1 0) * (v0 1 0)))) 16 (upd (upd (v0 16) (Int32.toNatClampNeg (2 : Int32)) ((x3 + x4) - (x3 + x4) / (v0 1 0) * (v0 1 0))) (Int32.toNatClampNeg y8) (0 : Int32))) 16 (upd (upd (upd (v0 16) (Int32.toNatClampNeg (2 : Int32)) ((x3 + x4) - (x3 + x4) / (v0 1 0) * (v0 1 0))) (Int32.toNatClampNeg y8) (0 : Int32)) (Int32.toNatClampNeg y9) (((upd (upd (v0 16) (Int32.toNatClampNeg (2 : Int32)) ((x3 + x4) - (x3 + x4) / (v0 1 0) * (v0 1 0))) (Int32.toNatClampNeg y8) (0 : Int32)) (Int32.toNatClampNeg y9)) + y7)))).bind (fun y10 => fX8_grants_L31 N k x1 x3 n (x2 - y7) (x4 + 1) y10)) else none) else none))) else none))) else none)))) else (if ((v0 16) (Int32.toNatClampNeg y1)) ≤ 0 then fX8_grants_L31 N k x1 x3 n x2 (x4 + 1) v0 else (if ((v0 16) (Int32.toNatClampNeg y1)) ≤ 0 then ((fX8_less N (4 : Int32) x2).bind (fun y11 => (if ib (2 : Int32) 667 = true then ((fX8_ofTerminal N ((x3 + x4) - (x3 + x4) / (v0 1 0) * (v0 1 0)) (2 : Int32)).bind (fun y12 => (if ib y12 667 = true then ((fX8_ofTerminal N ((x3 + x4) - (x3 + x4) / (v0 1 0) * (v0 1 0)) (5 : Int32)).bind (fun y13 => (if ib y13 667 = true then (if ib y13 667 = true then ((fX8_packs N ((x3 + x4) - (x3 + x4) / (v0 1 0) * (v0 1 0)) y11 (st (st (st v0 16 (upd (v0 16) (Int32.toNatClampNeg (2 : Int32)) ((x3 + x4) - (x3 + x4) / (v0 1 0) * (v0 1 0)))) 16 (upd (upd (v0 16) (Int32.toNatClampNeg (2 : Int32)) ((x3 + x4) - (x3 + x4) / (v0 1 0) * (v0 1 0))) (Int32.toNatClampNeg y12) (0 : Int32))) 16 (upd (upd (upd (v0 16) (Int32.toNatClampNeg (2 : Int32)) ((x3 + x4) - (x3 + x4) / (v0 1 0) * (v0 1 0))) (Int32.toNatClampNeg y12) (0 : Int32)) (Int32.toNatClampNeg y13) (((upd (upd (v0 16) (Int32.toNatClampNeg (2 : Int32)) ((x3 + x4) - (x3 + x4) / (v0 1 0) * (v0 1 0))) (Int32.toNatClampNeg y12) (0 : Int32)) (Int32.toNatClampNeg y13)) + y11)))).bind (fun y14 => fX8_grants_L31 N k x1 x3 n (x2 - y11) (x4 + 1) y14)) else none) else none))) else none))) else none))) else ((fX8_less N (((v0 16) (Int32.toNatClampNeg y1)) + (2 : Int32)) x2).bind (fun y15 => (if ib (2 : Int32) 667 = true then ((fX8_ofTerminal N ((x3 + x4) - (x3 + x4) / (v0 1 0) * (v0 1 0)) (2 : Int32)).bind (fun y16 => (if ib y16 667 = true then ((fX8_ofTerminal N ((x3 + x4) - (x3 + x4) / (v0 1 0) * (v0 1 0)) (5 : Int32)).bind (fun y17 => (if ib y17 667 = true then (if ib y17 667 = true then ((fX8_packs N ((x3 + x4) - (x3 + x4) / (v0 1 0) * (v0 1 0)) y15 (st (st (st v0 16 (upd (v0 16) (Int32.toNatClampNeg (2 : Int32)) ((x3 + x4) - (x3 + x4) / (v0 1 0) * (v0 1 0)))) 16 (upd (upd (v0 16) (Int32.toNatClampNeg (2 : Int32)) ((x3 + x4) - (x3 + x4) / (v0 1 0) * (v0 1 0))) (Int32.toNatClampNeg y16) (0 : Int32))) 16 (upd (upd (upd (v0 16) (Int32.toNatClampNeg (2 : Int32)) ((x3 + x4) - (x3 + x4) / (v0 1 0) * (v0 1 0))) (Int32.toNatClampNeg y16) (0 : Int32)) (Int32.toNatClampNeg y17) (((upd (upd (v0 16) (Int32.toNatClampNeg (2 : Int32)) ((x3 + x4) - (x3 + x4) / (v0 1 0) * (v0 1 0))) (Int32.toNatClampNeg y16) (0 : Int32)) (Int32.toNatClampNeg y17)) + y15)))).bind (fun y18 => fX8_grants_L31 N k x1 x3 n (x2 - y15) (x4 + 1) y18)) else none) else none))) else none))) else none)))))) else none))) else none))) else none)))
def fX8_grants (N : Nat) (x1 : Int32) (v0 : MM) : Option (MM) := (if ib (2 : Int32) 667 = true then (if ib (2 : Int32) 667 = true then (if ((v0 16) (Int32.toNatClampNeg (2 : Int32))) = (-9 : Int32) then (fX8_grants_L31 N (fun (x2_20 : Int32) (x4_20 : Int32) (v0_20 : MM) => some v0_20) x1 (0 : Int32) N x1 (0 : Int32) v0) else (fX8_grants_L31 N (fun (x2_19 : Int32) (x4_19 : Int32) (v0_19 : MM) => some v0_19) x1 (((v0 16) (Int32.toNatClampNeg (2 : Int32))) + (1 : Int32)) N x1 (0 : Int32) v0)) else none) else none)
set_option maxHeartbeats 4000000 in
set_option maxRecDepth 100000 in
theorem ct_X8_grants (g : GT) (l : Launch) (N : Nat) (a0 : Nat → Nat) (x1 : Int32) (v0 : MM) {y : MM} (hf : fX8_grants N x1 v0 = some y) : ct g l yX8_grants wsX8_grants (rmk 4 100) [.ref (a0 0), .int x1] [kX8 g a0 v0] none [kX8 g a0 y] := by
  refine ct_of (cc := cX8_grants) (maxL := 8) (ret := none) (by decide) rfl (Nat.le_of_ble_eq_true rfl) ?_
  intro p e s m args below meth c A ls C hr hk0 hA hW hl
  have hx := C.1.1
  have hb := C.1.2.1
  replace hl : lv_has ls 8 [(0, .ref (a0 0)), (1, .int x1)] := hl
  obtain ⟨Q, hQ⟩ : ∃ Q, Q = MQ below (ctQ g A none [kX8 g a0 y]) args s 0 0 A := ⟨_, rfl⟩
  rw [← hQ]
  obtain ⟨H, hH⟩ : ∃ H, H = s.heap := ⟨_, rfl⟩
  obtain ⟨locs, hL⟩ : ∃ locs : List Loc, locs = [] := ⟨_, rfl⟩
  replace hW : wd g A s.heap [kX8 g a0 v0] H locs := by rw [hH, hL]; exact hW
  suffices hG : W p l e (rmk 4 100) s m args below meth c H locs 0 0 Q (F0 m 0 ls []) by
    rw [hH, hL] at hG; exact hG
  clear hH hL
  have inX8 : ∀ w ∈ wsX80, w ∈ wsX8_grants := fun _ h => List.mem_cons_of_mem _ (List.mem_append_right _ (h))
  have L31 : ∀ (x1 : Int32) (x3 : Int32) (k : Int32 → Int32 → MM → Option (MM)) (hk : ∀ (x2 : Int32) (x4 : Int32) (v0 : MM) (H : Heap) (locs : List Loc) (ls : Array Slot), k x2 x4 v0 = some y → wd g A s.heap [kX8 g a0 v0] H locs → lv_has ls 8 [(0, .ref (a0 0)), (1, .int x1), (2, .int x2), (3, .int x3), (4, .int x4)] → W p l e (rmk 4 100) s m args below meth c H locs 0 0 Q (F0 m 162 ls [])) (n : Nat) (x2 : Int32) (x4 : Int32) (v0 : MM) (H : Heap) (locs : List Loc) (ls : Array Slot), fX8_grants_L31 N k x1 x3 n x2 x4 v0 = some y → wd g A s.heap [kX8 g a0 v0] H locs → lv_has ls 8 [(0, .ref (a0 0)), (1, .int x1), (2, .int x2), (3, .int x3), (4, .int x4)] → W p l e (rmk 4 100) s m args below meth c H locs 0 0 Q (F0 m 31 ls []) := by
    intro x1 x3 k hk n
    induction n with
    | zero => intro x2 x4 v0 H locs ls hf; rw [fX8_grants_L31] at hf; cases hf
    | succ n ih =>
      intro x2 x4 v0 H locs ls hf hW hl
      rw [fX8_grants_L31] at hf
      refine lv_iload hx hb dX8_grants_31 (lv_at hl 4 rfl) ?_
      refine lv_aload_n hx hb dX8_grants_33 rfl (lv_at hl 0 rfl) ?_
      refine g_get C hW inX8 0 rfl rfl rfl 1 (by decide) (List.mem_of_getElem? (i := 2) rfl) (v := .int (v0 1 0)) rfl dX8_grants_34 ?_
      refine lv_icmp_ge (tgt := 162) hx hb dX8_grants_37 (by decide) (fun h => ?_) (fun h => ?_)
      · replace hf := (if_pos h).symm.trans hf
        exact hk _ _ _ H locs ls hf hW (lv_sub hl [0, 1, 2, 3, 4] rfl)
      · replace hf := (if_neg h).symm.trans hf
        refine lv_iload_n hx hb dX8_grants_40 rfl (lv_at hl 2 rfl) ?_
        refine lv_if_le (tgt := 162) hx hb dX8_grants_41 (by decide) (fun h => ?_) (fun h => ?_)
        · replace hf := (if_pos h).symm.trans hf
          exact hk _ _ _ H locs ls hf hW (lv_sub hl [0, 1, 2, 3, 4] rfl)
        · replace hf := (if_neg h).symm.trans hf
          refine lv_iload_n hx hb dX8_grants_44 rfl (lv_at hl 3 rfl) ?_
          refine lv_iload hx hb dX8_grants_45 (lv_at hl 4 rfl) ?_
          refine lv_iadd hx hb dX8_grants_47 ?_
          refine lv_aload_n hx hb dX8_grants_48 rfl (lv_at hl 0 rfl) ?_
          refine g_get C hW inX8 0 rfl rfl rfl 1 (by decide) (List.mem_of_getElem? (i := 2) rfl) (v := .int (v0 1 0)) rfl dX8_grants_49 ?_
          obtain ⟨hi, hf⟩ := gd_of hf
          refine lv_irem hx hb dX8_grants_52 hi ?_
          refine lv_istore (lv' := [(5, .int ((x3 + x4) - (x3 + x4) / (v0 1 0) * (v0 1 0))), (0, .ref (a0 0)), (1, .int x1), (2, .int x2), (3, .int x3), (4, .int x4)]) hx hb dX8_grants_53 hl (by decide) rfl (fun ls hl => ?_)
          refine lv_aload_n hx hb dX8_grants_55 rfl (lv_at hl 1 rfl) ?_
          refine g_get C hW inX8 0 rfl rfl rfl 16 (by decide) (List.mem_of_getElem? (i := 1) rfl) (v := .ref (a0 5)) rfl dX8_grants_56 ?_
          refine lv_iload hx hb dX8_grants_59 (lv_at hl 0 rfl) ?_
          refine lv_iconst (v := (3 : Int32)) hx hb dX8_grants_61 (by decide) ?_
          obtain ⟨y1, hc, hf⟩ := bd_of hf
          refine g_cS C (ct_X8_ofTerminal g l N ((x3 + x4) - (x3 + x4) / (v0 1 0) * (v0 1 0)) (3 : Int32) hc) gX8_grants_X8_ofTerminal rfl 2 (by decide +kernel) ⟨rfl, rfl, ⟨Nat.le_of_ble_eq_true rfl, Nat.le_of_ble_eq_true rfl⟩, Nat.le_of_ble_eq_true rfl, Nat.le_of_ble_eq_true rfl⟩ rfl hl (Nat.le_of_ble_eq_true rfl) dX8_grants_62 rfl hW hA [] rfl rfl rfl (ch' := [kX8 g a0 v0]) rfl (fun H locs hW => ?_)
          obtain ⟨hi, hf⟩ := gd_of hf
          refine g_iald C hW 0 5 rfl (f := (v0 16)) rfl (ib_in hi) dX8_grants_65 ?_
          refine lv_istore (lv' := [(6, .int ((v0 16) (Int32.toNatClampNeg y1))), (5, .int ((x3 + x4) - (x3 + x4) / (v0 1 0) * (v0 1 0))), (0, .ref (a0 0)), (1, .int x1), (2, .int x2), (3, .int x3), (4, .int x4)]) hx hb dX8_grants_66 hl (by decide) rfl (fun ls hl => ?_)
          refine lv_aload_n hx hb dX8_grants_68 rfl (lv_at hl 2 rfl) ?_
          refine g_get C hW inX8 0 rfl rfl rfl 16 (by decide) (List.mem_of_getElem? (i := 1) rfl) (v := .ref (a0 5)) rfl dX8_grants_69 ?_
          refine lv_iload hx hb dX8_grants_72 (lv_at hl 1 rfl) ?_
          refine lv_iconst (v := (2 : Int32)) hx hb dX8_grants_74 (by decide) ?_
          obtain ⟨y2, hc, hf⟩ := bd_of hf
          refine g_cS C (ct_X8_ofTerminal g l N ((x3 + x4) - (x3 + x4) / (v0 1 0) * (v0 1 0)) (2 : Int32) hc) gX8_grants_X8_ofTerminal rfl 2 (by decide +kernel) ⟨rfl, rfl, ⟨Nat.le_of_ble_eq_true rfl, Nat.le_of_ble_eq_true rfl⟩, Nat.le_of_ble_eq_true rfl, Nat.le_of_ble_eq_true rfl⟩ rfl hl (Nat.le_of_ble_eq_true rfl) dX8_grants_75 rfl hW hA [] rfl rfl rfl (ch' := [kX8 g a0 v0]) rfl (fun H locs hW => ?_)
          obtain ⟨hi, hf⟩ := gd_of hf
          refine g_iald C hW 0 5 rfl (f := (v0 16)) rfl (ib_in hi) dX8_grants_78 ?_
          refine lv_iconst (v := (1 : Int32)) hx hb dX8_grants_79 (by decide) ?_
          refine lv_icmp_eq (tgt := 88) hx hb dX8_grants_80 (by decide) (fun h => ?_) (fun h => ?_)
          · replace hf := (if_pos h).symm.trans hf
            refine lv_iload hx hb dX8_grants_88 (lv_at hl 0 rfl) ?_
            refine lv_if_le (tgt := 100) hx hb dX8_grants_90 (by decide) (fun h => ?_) (fun h => ?_)
            · replace hf := (if_pos h).symm.trans hf
              refine lv_iconst (v := (4 : Int32)) hx hb dX8_grants_100 (by decide) ?_
              refine lv_iload_n hx hb dX8_grants_101 rfl (lv_at hl 4 rfl) ?_
              obtain ⟨y3, hc, hf⟩ := bd_of hf
              refine g_cS C (ct_X8_less g l N (4 : Int32) x2 hc) gX8_grants_X8_less rfl 2 (by decide +kernel) ⟨rfl, rfl, ⟨Nat.le_of_ble_eq_true rfl, Nat.le_of_ble_eq_true rfl⟩, Nat.le_of_ble_eq_true rfl, Nat.le_of_ble_eq_true rfl⟩ rfl hl (Nat.le_of_ble_eq_true rfl) dX8_grants_102 rfl hW hA [] rfl rfl rfl (ch' := [kX8 g a0 v0]) rfl (fun H locs hW => ?_)
              refine lv_istore (lv' := [(7, .int y3), (6, .int ((v0 16) (Int32.toNatClampNeg y1))), (5, .int ((x3 + x4) - (x3 + x4) / (v0 1 0) * (v0 1 0))), (0, .ref (a0 0)), (1, .int x1), (2, .int x2), (3, .int x3), (4, .int x4)]) hx hb dX8_grants_105 hl (by decide) rfl (fun ls hl => ?_)
              refine lv_iload_n hx hb dX8_grants_107 rfl (lv_at hl 5 rfl) ?_
              refine lv_iload hx hb dX8_grants_108 (lv_at hl 0 rfl) ?_
              refine lv_isub hx hb dX8_grants_110 ?_
              refine lv_istore_n (lv' := [(2, .int (x2 - y3)), (7, .int y3), (6, .int ((v0 16) (Int32.toNatClampNeg y1))), (5, .int ((x3 + x4) - (x3 + x4) / (v0 1 0) * (v0 1 0))), (0, .ref (a0 0)), (1, .int x1), (3, .int x3), (4, .int x4)]) hx hb dX8_grants_111 rfl hl (by decide) rfl (fun ls hl => ?_)
              refine lv_aload_n hx hb dX8_grants_112 rfl (lv_at hl 4 rfl) ?_
              refine g_get C hW inX8 0 rfl rfl rfl 16 (by decide) (List.mem_of_getElem? (i := 1) rfl) (v := .ref (a0 5)) rfl dX8_grants_113 ?_
              refine lv_iconst (v := (2 : Int32)) hx hb dX8_grants_116 (by decide) ?_
              refine lv_iload hx hb dX8_grants_117 (lv_at hl 3 rfl) ?_
              obtain ⟨hi, hf⟩ := gd_of hf
              refine g_iast C hW 0 5 rfl (f := (v0 16)) rfl (ib_in hi) (kX8_w16 g a0 v0 (upd (v0 16) (Int32.toNatClampNeg (2 : Int32)) ((x3 + x4) - (x3 + x4) / (v0 1 0) * (v0 1 0)))) (ch' := [kX8 g a0 (st v0 16 (upd (v0 16) (Int32.toNatClampNeg (2 : Int32)) ((x3 + x4) - (x3 + x4) / (v0 1 0) * (v0 1 0))))]) rfl dX8_grants_119 (fun H locs hW => ?_)
              refine lv_aload_n hx hb dX8_grants_120 rfl (lv_at hl 4 rfl) ?_
              refine g_get C hW inX8 0 rfl rfl rfl 16 (by decide) (List.mem_of_getElem? (i := 1) rfl) (v := .ref (a0 5)) rfl dX8_grants_121 ?_
              refine lv_iload hx hb dX8_grants_124 (lv_at hl 3 rfl) ?_
              refine lv_iconst (v := (2 : Int32)) hx hb dX8_grants_126 (by decide) ?_
              obtain ⟨y4, hc, hf⟩ := bd_of hf
              refine g_cS C (ct_X8_ofTerminal g l N ((x3 + x4) - (x3 + x4) / (v0 1 0) * (v0 1 0)) (2 : Int32) hc) gX8_grants_X8_ofTerminal rfl 2 (by decide +kernel) ⟨rfl, rfl, ⟨Nat.le_of_ble_eq_true rfl, Nat.le_of_ble_eq_true rfl⟩, Nat.le_of_ble_eq_true rfl, Nat.le_of_ble_eq_true rfl⟩ rfl hl (Nat.le_of_ble_eq_true rfl) dX8_grants_127 rfl hW hA [] rfl rfl rfl (ch' := [kX8 g a0 (st v0 16 (upd (v0 16) (Int32.toNatClampNeg (2 : Int32)) ((x3 + x4) - (x3 + x4) / (v0 1 0) * (v0 1 0))))]) rfl (fun H locs hW => ?_)
              refine lv_iconst (v := (0 : Int32)) hx hb dX8_grants_130 (by decide) ?_
              obtain ⟨hi, hf⟩ := gd_of hf
              refine g_iast C hW 0 5 rfl (f := (upd (v0 16) (Int32.toNatClampNeg (2 : Int32)) ((x3 + x4) - (x3 + x4) / (v0 1 0) * (v0 1 0)))) rfl (ib_in hi) (kX8_w16 g a0 (st v0 16 (upd (v0 16) (Int32.toNatClampNeg (2 : Int32)) ((x3 + x4) - (x3 + x4) / (v0 1 0) * (v0 1 0)))) (upd (upd (v0 16) (Int32.toNatClampNeg (2 : Int32)) ((x3 + x4) - (x3 + x4) / (v0 1 0) * (v0 1 0))) (Int32.toNatClampNeg y4) (0 : Int32))) (ch' := [kX8 g a0 (st (st v0 16 (upd (v0 16) (Int32.toNatClampNeg (2 : Int32)) ((x3 + x4) - (x3 + x4) / (v0 1 0) * (v0 1 0)))) 16 (upd (upd (v0 16) (Int32.toNatClampNeg (2 : Int32)) ((x3 + x4) - (x3 + x4) / (v0 1 0) * (v0 1 0))) (Int32.toNatClampNeg y4) (0 : Int32)))]) rfl dX8_grants_131 (fun H locs hW => ?_)
              refine lv_aload_n hx hb dX8_grants_132 rfl (lv_at hl 4 rfl) ?_
              refine g_get C hW inX8 0 rfl rfl rfl 16 (by decide) (List.mem_of_getElem? (i := 1) rfl) (v := .ref (a0 5)) rfl dX8_grants_133 ?_
              refine lv_iload hx hb dX8_grants_136 (lv_at hl 3 rfl) ?_
              refine lv_iconst (v := (5 : Int32)) hx hb dX8_grants_138 (by decide) ?_
              obtain ⟨y5, hc, hf⟩ := bd_of hf
              refine g_cS C (ct_X8_ofTerminal g l N ((x3 + x4) - (x3 + x4) / (v0 1 0) * (v0 1 0)) (5 : Int32) hc) gX8_grants_X8_ofTerminal rfl 2 (by decide +kernel) ⟨rfl, rfl, ⟨Nat.le_of_ble_eq_true rfl, Nat.le_of_ble_eq_true rfl⟩, Nat.le_of_ble_eq_true rfl, Nat.le_of_ble_eq_true rfl⟩ rfl hl (Nat.le_of_ble_eq_true rfl) dX8_grants_139 rfl hW hA [] rfl rfl rfl (ch' := [kX8 g a0 (st (st v0 16 (upd (v0 16) (Int32.toNatClampNeg (2 : Int32)) ((x3 + x4) - (x3 + x4) / (v0 1 0) * (v0 1 0)))) 16 (upd (upd (v0 16) (Int32.toNatClampNeg (2 : Int32)) ((x3 + x4) - (x3 + x4) / (v0 1 0) * (v0 1 0))) (Int32.toNatClampNeg y4) (0 : Int32)))]) rfl (fun H locs hW => ?_)
              refine lv_dup2_11 hx hb dX8_grants_142 rfl rfl ?_
              obtain ⟨hi, hf⟩ := gd_of hf
              refine g_iald C hW 0 5 rfl (f := (upd (upd (v0 16) (Int32.toNatClampNeg (2 : Int32)) ((x3 + x4) - (x3 + x4) / (v0 1 0) * (v0 1 0))) (Int32.toNatClampNeg y4) (0 : Int32))) rfl (ib_in hi) dX8_grants_143 ?_
              refine lv_iload hx hb dX8_grants_144 (lv_at hl 1 rfl) ?_
              refine lv_iadd hx hb dX8_grants_146 ?_
              obtain ⟨hi, hf⟩ := gd_of hf
              refine g_iast C hW 0 5 rfl (f := (upd (upd (v0 16) (Int32.toNatClampNeg (2 : Int32)) ((x3 + x4) - (x3 + x4) / (v0 1 0) * (v0 1 0))) (Int32.toNatClampNeg y4) (0 : Int32))) rfl (ib_in hi) (kX8_w16 g a0 (st (st v0 16 (upd (v0 16) (Int32.toNatClampNeg (2 : Int32)) ((x3 + x4) - (x3 + x4) / (v0 1 0) * (v0 1 0)))) 16 (upd (upd (v0 16) (Int32.toNatClampNeg (2 : Int32)) ((x3 + x4) - (x3 + x4) / (v0 1 0) * (v0 1 0))) (Int32.toNatClampNeg y4) (0 : Int32))) (upd (upd (upd (v0 16) (Int32.toNatClampNeg (2 : Int32)) ((x3 + x4) - (x3 + x4) / (v0 1 0) * (v0 1 0))) (Int32.toNatClampNeg y4) (0 : Int32)) (Int32.toNatClampNeg y5) (((upd (upd (v0 16) (Int32.toNatClampNeg (2 : Int32)) ((x3 + x4) - (x3 + x4) / (v0 1 0) * (v0 1 0))) (Int32.toNatClampNeg y4) (0 : Int32)) (Int32.toNatClampNeg y5)) + y3))) (ch' := [kX8 g a0 (st (st (st v0 16 (upd (v0 16) (Int32.toNatClampNeg (2 : Int32)) ((x3 + x4) - (x3 + x4) / (v0 1 0) * (v0 1 0)))) 16 (upd (upd (v0 16) (Int32.toNatClampNeg (2 : Int32)) ((x3 + x4) - (x3 + x4) / (v0 1 0) * (v0 1 0))) (Int32.toNatClampNeg y4) (0 : Int32))) 16 (upd (upd (upd (v0 16) (Int32.toNatClampNeg (2 : Int32)) ((x3 + x4) - (x3 + x4) / (v0 1 0) * (v0 1 0))) (Int32.toNatClampNeg y4) (0 : Int32)) (Int32.toNatClampNeg y5) (((upd (upd (v0 16) (Int32.toNatClampNeg (2 : Int32)) ((x3 + x4) - (x3 + x4) / (v0 1 0) * (v0 1 0))) (Int32.toNatClampNeg y4) (0 : Int32)) (Int32.toNatClampNeg y5)) + y3)))]) rfl dX8_grants_147 (fun H locs hW => ?_)
              refine lv_aload_n hx hb dX8_grants_148 rfl (lv_at hl 4 rfl) ?_
              refine lv_iload hx hb dX8_grants_149 (lv_at hl 3 rfl) ?_
              refine lv_iload hx hb dX8_grants_151 (lv_at hl 1 rfl) ?_
              obtain ⟨y6, hc, hf⟩ := bd_of hf
              refine g_cVv (Cn := RX8) C (ct_X8_packs g l N a0 ((x3 + x4) - (x3 + x4) / (v0 1 0) * (v0 1 0)) y3 (st (st (st v0 16 (upd (v0 16) (Int32.toNatClampNeg (2 : Int32)) ((x3 + x4) - (x3 + x4) / (v0 1 0) * (v0 1 0)))) 16 (upd (upd (v0 16) (Int32.toNatClampNeg (2 : Int32)) ((x3 + x4) - (x3 + x4) / (v0 1 0) * (v0 1 0))) (Int32.toNatClampNeg y4) (0 : Int32))) 16 (upd (upd (upd (v0 16) (Int32.toNatClampNeg (2 : Int32)) ((x3 + x4) - (x3 + x4) / (v0 1 0) * (v0 1 0))) (Int32.toNatClampNeg y4) (0 : Int32)) (Int32.toNatClampNeg y5) (((upd (upd (v0 16) (Int32.toNatClampNeg (2 : Int32)) ((x3 + x4) - (x3 + x4) / (v0 1 0) * (v0 1 0))) (Int32.toNatClampNeg y4) (0 : Int32)) (Int32.toNatClampNeg y5)) + y3))) hc) gX8_grants_X8_packs rfl 2 (by decide +kernel) ⟨rfl, rfl, ⟨Nat.le_of_ble_eq_true rfl, Nat.le_of_ble_eq_true rfl⟩, Nat.le_of_ble_eq_true rfl, Nat.le_of_ble_eq_true rfl⟩ rfl hl (Nat.le_of_ble_eq_true rfl) dX8_grants_153 rfl hW hA [0] rfl rfl rfl (ch' := [kX8 g a0 y6]) rfl 0 rfl rfl rfl (fun H locs hW => ?_)
              refine lv_iinc (v := (x4 + 1)) (lv' := [(4, .int (x4 + 1)), (2, .int (x2 - y3)), (7, .int y3), (6, .int ((v0 16) (Int32.toNatClampNeg y1))), (5, .int ((x3 + x4) - (x3 + x4) / (v0 1 0) * (v0 1 0))), (0, .ref (a0 0)), (1, .int x1), (3, .int x3)]) hx hb dX8_grants_156 hl (k := 7) rfl (by first | rfl | decide) (by decide) rfl (fun ls hl => ?_)
              refine lv_goto (tgt := 31) hx hb dX8_grants_159 (by decide) ?_
              exact ih _ _ _ H locs ls hf hW (lv_sub hl [5, 6, 1, 7, 0] rfl)
            · replace hf := (if_neg h).symm.trans hf
              refine lv_iload hx hb dX8_grants_93 (lv_at hl 0 rfl) ?_
              refine lv_iconst (v := (2 : Int32)) hx hb dX8_grants_95 (by decide) ?_
              refine lv_iadd hx hb dX8_grants_96 ?_
              refine lv_goto (tgt := 101) hx hb dX8_grants_97 (by decide) ?_
              refine lv_iload_n hx hb dX8_grants_101 rfl (lv_at hl 4 rfl) ?_
              obtain ⟨y7, hc, hf⟩ := bd_of hf
              refine g_cS C (ct_X8_less g l N (((v0 16) (Int32.toNatClampNeg y1)) + (2 : Int32)) x2 hc) gX8_grants_X8_less rfl 2 (by decide +kernel) ⟨rfl, rfl, ⟨Nat.le_of_ble_eq_true rfl, Nat.le_of_ble_eq_true rfl⟩, Nat.le_of_ble_eq_true rfl, Nat.le_of_ble_eq_true rfl⟩ rfl hl (Nat.le_of_ble_eq_true rfl) dX8_grants_102 rfl hW hA [] rfl rfl rfl (ch' := [kX8 g a0 v0]) rfl (fun H locs hW => ?_)
              refine lv_istore (lv' := [(7, .int y7), (6, .int ((v0 16) (Int32.toNatClampNeg y1))), (5, .int ((x3 + x4) - (x3 + x4) / (v0 1 0) * (v0 1 0))), (0, .ref (a0 0)), (1, .int x1), (2, .int x2), (3, .int x3), (4, .int x4)]) hx hb dX8_grants_105 hl (by decide) rfl (fun ls hl => ?_)
              refine lv_iload_n hx hb dX8_grants_107 rfl (lv_at hl 5 rfl) ?_
              refine lv_iload hx hb dX8_grants_108 (lv_at hl 0 rfl) ?_
              refine lv_isub hx hb dX8_grants_110 ?_
              refine lv_istore_n (lv' := [(2, .int (x2 - y7)), (7, .int y7), (6, .int ((v0 16) (Int32.toNatClampNeg y1))), (5, .int ((x3 + x4) - (x3 + x4) / (v0 1 0) * (v0 1 0))), (0, .ref (a0 0)), (1, .int x1), (3, .int x3), (4, .int x4)]) hx hb dX8_grants_111 rfl hl (by decide) rfl (fun ls hl => ?_)
              refine lv_aload_n hx hb dX8_grants_112 rfl (lv_at hl 4 rfl) ?_
              refine g_get C hW inX8 0 rfl rfl rfl 16 (by decide) (List.mem_of_getElem? (i := 1) rfl) (v := .ref (a0 5)) rfl dX8_grants_113 ?_
              refine lv_iconst (v := (2 : Int32)) hx hb dX8_grants_116 (by decide) ?_
              refine lv_iload hx hb dX8_grants_117 (lv_at hl 3 rfl) ?_
              obtain ⟨hi, hf⟩ := gd_of hf
              refine g_iast C hW 0 5 rfl (f := (v0 16)) rfl (ib_in hi) (kX8_w16 g a0 v0 (upd (v0 16) (Int32.toNatClampNeg (2 : Int32)) ((x3 + x4) - (x3 + x4) / (v0 1 0) * (v0 1 0)))) (ch' := [kX8 g a0 (st v0 16 (upd (v0 16) (Int32.toNatClampNeg (2 : Int32)) ((x3 + x4) - (x3 + x4) / (v0 1 0) * (v0 1 0))))]) rfl dX8_grants_119 (fun H locs hW => ?_)
              refine lv_aload_n hx hb dX8_grants_120 rfl (lv_at hl 4 rfl) ?_
              refine g_get C hW inX8 0 rfl rfl rfl 16 (by decide) (List.mem_of_getElem? (i := 1) rfl) (v := .ref (a0 5)) rfl dX8_grants_121 ?_
              refine lv_iload hx hb dX8_grants_124 (lv_at hl 3 rfl) ?_
              refine lv_iconst (v := (2 : Int32)) hx hb dX8_grants_126 (by decide) ?_
              obtain ⟨y8, hc, hf⟩ := bd_of hf
              refine g_cS C (ct_X8_ofTerminal g l N ((x3 + x4) - (x3 + x4) / (v0 1 0) * (v0 1 0)) (2 : Int32) hc) gX8_grants_X8_ofTerminal rfl 2 (by decide +kernel) ⟨rfl, rfl, ⟨Nat.le_of_ble_eq_true rfl, Nat.le_of_ble_eq_true rfl⟩, Nat.le_of_ble_eq_true rfl, Nat.le_of_ble_eq_true rfl⟩ rfl hl (Nat.le_of_ble_eq_true rfl) dX8_grants_127 rfl hW hA [] rfl rfl rfl (ch' := [kX8 g a0 (st v0 16 (upd (v0 16) (Int32.toNatClampNeg (2 : Int32)) ((x3 + x4) - (x3 + x4) / (v0 1 0) * (v0 1 0))))]) rfl (fun H locs hW => ?_)
              refine lv_iconst (v := (0 : Int32)) hx hb dX8_grants_130 (by decide) ?_
              obtain ⟨hi, hf⟩ := gd_of hf
              refine g_iast C hW 0 5 rfl (f := (upd (v0 16) (Int32.toNatClampNeg (2 : Int32)) ((x3 + x4) - (x3 + x4) / (v0 1 0) * (v0 1 0)))) rfl (ib_in hi) (kX8_w16 g a0 (st v0 16 (upd (v0 16) (Int32.toNatClampNeg (2 : Int32)) ((x3 + x4) - (x3 + x4) / (v0 1 0) * (v0 1 0)))) (upd (upd (v0 16) (Int32.toNatClampNeg (2 : Int32)) ((x3 + x4) - (x3 + x4) / (v0 1 0) * (v0 1 0))) (Int32.toNatClampNeg y8) (0 : Int32))) (ch' := [kX8 g a0 (st (st v0 16 (upd (v0 16) (Int32.toNatClampNeg (2 : Int32)) ((x3 + x4) - (x3 + x4) / (v0 1 0) * (v0 1 0)))) 16 (upd (upd (v0 16) (Int32.toNatClampNeg (2 : Int32)) ((x3 + x4) - (x3 + x4) / (v0 1 0) * (v0 1 0))) (Int32.toNatClampNeg y8) (0 : Int32)))]) rfl dX8_grants_131 (fun H locs hW => ?_)
              refine lv_aload_n hx hb dX8_grants_132 rfl (lv_at hl 4 rfl) ?_
              refine g_get C hW inX8 0 rfl rfl rfl 16 (by decide) (List.mem_of_getElem? (i := 1) rfl) (v := .ref (a0 5)) rfl dX8_grants_133 ?_
              refine lv_iload hx hb dX8_grants_136 (lv_at hl 3 rfl) ?_
              refine lv_iconst (v := (5 : Int32)) hx hb dX8_grants_138 (by decide) ?_
              obtain ⟨y9, hc, hf⟩ := bd_of hf
              refine g_cS C (ct_X8_ofTerminal g l N ((x3 + x4) - (x3 + x4) / (v0 1 0) * (v0 1 0)) (5 : Int32) hc) gX8_grants_X8_ofTerminal rfl 2 (by decide +kernel) ⟨rfl, rfl, ⟨Nat.le_of_ble_eq_true rfl, Nat.le_of_ble_eq_true rfl⟩, Nat.le_of_ble_eq_true rfl, Nat.le_of_ble_eq_true rfl⟩ rfl hl (Nat.le_of_ble_eq_true rfl) dX8_grants_139 rfl hW hA [] rfl rfl rfl (ch' := [kX8 g a0 (st (st v0 16 (upd (v0 16) (Int32.toNatClampNeg (2 : Int32)) ((x3 + x4) - (x3 + x4) / (v0 1 0) * (v0 1 0)))) 16 (upd (upd (v0 16) (Int32.toNatClampNeg (2 : Int32)) ((x3 + x4) - (x3 + x4) / (v0 1 0) * (v0 1 0))) (Int32.toNatClampNeg y8) (0 : Int32)))]) rfl (fun H locs hW => ?_)
              refine lv_dup2_11 hx hb dX8_grants_142 rfl rfl ?_
              obtain ⟨hi, hf⟩ := gd_of hf
              refine g_iald C hW 0 5 rfl (f := (upd (upd (v0 16) (Int32.toNatClampNeg (2 : Int32)) ((x3 + x4) - (x3 + x4) / (v0 1 0) * (v0 1 0))) (Int32.toNatClampNeg y8) (0 : Int32))) rfl (ib_in hi) dX8_grants_143 ?_
              refine lv_iload hx hb dX8_grants_144 (lv_at hl 1 rfl) ?_
              refine lv_iadd hx hb dX8_grants_146 ?_
              obtain ⟨hi, hf⟩ := gd_of hf
              refine g_iast C hW 0 5 rfl (f := (upd (upd (v0 16) (Int32.toNatClampNeg (2 : Int32)) ((x3 + x4) - (x3 + x4) / (v0 1 0) * (v0 1 0))) (Int32.toNatClampNeg y8) (0 : Int32))) rfl (ib_in hi) (kX8_w16 g a0 (st (st v0 16 (upd (v0 16) (Int32.toNatClampNeg (2 : Int32)) ((x3 + x4) - (x3 + x4) / (v0 1 0) * (v0 1 0)))) 16 (upd (upd (v0 16) (Int32.toNatClampNeg (2 : Int32)) ((x3 + x4) - (x3 + x4) / (v0 1 0) * (v0 1 0))) (Int32.toNatClampNeg y8) (0 : Int32))) (upd (upd (upd (v0 16) (Int32.toNatClampNeg (2 : Int32)) ((x3 + x4) - (x3 + x4) / (v0 1 0) * (v0 1 0))) (Int32.toNatClampNeg y8) (0 : Int32)) (Int32.toNatClampNeg y9) (((upd (upd (v0 16) (Int32.toNatClampNeg (2 : Int32)) ((x3 + x4) - (x3 + x4) / (v0 1 0) * (v0 1 0))) (Int32.toNatClampNeg y8) (0 : Int32)) (Int32.toNatClampNeg y9)) + y7))) (ch' := [kX8 g a0 (st (st (st v0 16 (upd (v0 16) (Int32.toNatClampNeg (2 : Int32)) ((x3 + x4) - (x3 + x4) / (v0 1 0) * (v0 1 0)))) 16 (upd (upd (v0 16) (Int32.toNatClampNeg (2 : Int32)) ((x3 + x4) - (x3 + x4) / (v0 1 0) * (v0 1 0))) (Int32.toNatClampNeg y8) (0 : Int32))) 16 (upd (upd (upd (v0 16) (Int32.toNatClampNeg (2 : Int32)) ((x3 + x4) - (x3 + x4) / (v0 1 0) * (v0 1 0))) (Int32.toNatClampNeg y8) (0 : Int32)) (Int32.toNatClampNeg y9) (((upd (upd (v0 16) (Int32.toNatClampNeg (2 : Int32)) ((x3 + x4) - (x3 + x4) / (v0 1 0) * (v0 1 0))) (Int32.toNatClampNeg y8) (0 : Int32)) (Int32.toNatClampNeg y9)) + y7)))]) rfl dX8_grants_147 (fun H locs hW => ?_)
              refine lv_aload_n hx hb dX8_grants_148 rfl (lv_at hl 4 rfl) ?_
              refine lv_iload hx hb dX8_grants_149 (lv_at hl 3 rfl) ?_
              refine lv_iload hx hb dX8_grants_151 (lv_at hl 1 rfl) ?_
              obtain ⟨y10, hc, hf⟩ := bd_of hf
              refine g_cVv (Cn := RX8) C (ct_X8_packs g l N a0 ((x3 + x4) - (x3 + x4) / (v0 1 0) * (v0 1 0)) y7 (st (st (st v0 16 (upd (v0 16) (Int32.toNatClampNeg (2 : Int32)) ((x3 + x4) - (x3 + x4) / (v0 1 0) * (v0 1 0)))) 16 (upd (upd (v0 16) (Int32.toNatClampNeg (2 : Int32)) ((x3 + x4) - (x3 + x4) / (v0 1 0) * (v0 1 0))) (Int32.toNatClampNeg y8) (0 : Int32))) 16 (upd (upd (upd (v0 16) (Int32.toNatClampNeg (2 : Int32)) ((x3 + x4) - (x3 + x4) / (v0 1 0) * (v0 1 0))) (Int32.toNatClampNeg y8) (0 : Int32)) (Int32.toNatClampNeg y9) (((upd (upd (v0 16) (Int32.toNatClampNeg (2 : Int32)) ((x3 + x4) - (x3 + x4) / (v0 1 0) * (v0 1 0))) (Int32.toNatClampNeg y8) (0 : Int32)) (Int32.toNatClampNeg y9)) + y7))) hc) gX8_grants_X8_packs rfl 2 (by decide +kernel) ⟨rfl, rfl, ⟨Nat.le_of_ble_eq_true rfl, Nat.le_of_ble_eq_true rfl⟩, Nat.le_of_ble_eq_true rfl, Nat.le_of_ble_eq_true rfl⟩ rfl hl (Nat.le_of_ble_eq_true rfl) dX8_grants_153 rfl hW hA [0] rfl rfl rfl (ch' := [kX8 g a0 y10]) rfl 0 rfl rfl rfl (fun H locs hW => ?_)
              refine lv_iinc (v := (x4 + 1)) (lv' := [(4, .int (x4 + 1)), (2, .int (x2 - y7)), (7, .int y7), (6, .int ((v0 16) (Int32.toNatClampNeg y1))), (5, .int ((x3 + x4) - (x3 + x4) / (v0 1 0) * (v0 1 0))), (0, .ref (a0 0)), (1, .int x1), (3, .int x3)]) hx hb dX8_grants_156 hl (k := 7) rfl (by first | rfl | decide) (by decide) rfl (fun ls hl => ?_)
              refine lv_goto (tgt := 31) hx hb dX8_grants_159 (by decide) ?_
              exact ih _ _ _ H locs ls hf hW (lv_sub hl [5, 6, 1, 7, 0] rfl)
          · replace hf := (if_neg h).symm.trans hf
            refine lv_iload hx hb dX8_grants_83 (lv_at hl 0 rfl) ?_
            refine lv_if_le (tgt := 156) hx hb dX8_grants_85 (by decide) (fun h => ?_) (fun h => ?_)
            · replace hf := (if_pos h).symm.trans hf
              refine lv_iinc (v := (x4 + 1)) (lv' := [(4, .int (x4 + 1)), (6, .int ((v0 16) (Int32.toNatClampNeg y1))), (5, .int ((x3 + x4) - (x3 + x4) / (v0 1 0) * (v0 1 0))), (0, .ref (a0 0)), (1, .int x1), (2, .int x2), (3, .int x3)]) hx hb dX8_grants_156 hl (k := 6) rfl (by first | rfl | decide) (by decide) rfl (fun ls hl => ?_)
              refine lv_goto (tgt := 31) hx hb dX8_grants_159 (by decide) ?_
              exact ih _ _ _ H locs ls hf hW (lv_sub hl [3, 4, 5, 6, 0] rfl)
            · replace hf := (if_neg h).symm.trans hf
              refine lv_iload hx hb dX8_grants_88 (lv_at hl 0 rfl) ?_
              refine lv_if_le (tgt := 100) hx hb dX8_grants_90 (by decide) (fun h => ?_) (fun h => ?_)
              · replace hf := (if_pos h).symm.trans hf
                refine lv_iconst (v := (4 : Int32)) hx hb dX8_grants_100 (by decide) ?_
                refine lv_iload_n hx hb dX8_grants_101 rfl (lv_at hl 4 rfl) ?_
                obtain ⟨y11, hc, hf⟩ := bd_of hf
                refine g_cS C (ct_X8_less g l N (4 : Int32) x2 hc) gX8_grants_X8_less rfl 2 (by decide +kernel) ⟨rfl, rfl, ⟨Nat.le_of_ble_eq_true rfl, Nat.le_of_ble_eq_true rfl⟩, Nat.le_of_ble_eq_true rfl, Nat.le_of_ble_eq_true rfl⟩ rfl hl (Nat.le_of_ble_eq_true rfl) dX8_grants_102 rfl hW hA [] rfl rfl rfl (ch' := [kX8 g a0 v0]) rfl (fun H locs hW => ?_)
                refine lv_istore (lv' := [(7, .int y11), (6, .int ((v0 16) (Int32.toNatClampNeg y1))), (5, .int ((x3 + x4) - (x3 + x4) / (v0 1 0) * (v0 1 0))), (0, .ref (a0 0)), (1, .int x1), (2, .int x2), (3, .int x3), (4, .int x4)]) hx hb dX8_grants_105 hl (by decide) rfl (fun ls hl => ?_)
                refine lv_iload_n hx hb dX8_grants_107 rfl (lv_at hl 5 rfl) ?_
                refine lv_iload hx hb dX8_grants_108 (lv_at hl 0 rfl) ?_
                refine lv_isub hx hb dX8_grants_110 ?_
                refine lv_istore_n (lv' := [(2, .int (x2 - y11)), (7, .int y11), (6, .int ((v0 16) (Int32.toNatClampNeg y1))), (5, .int ((x3 + x4) - (x3 + x4) / (v0 1 0) * (v0 1 0))), (0, .ref (a0 0)), (1, .int x1), (3, .int x3), (4, .int x4)]) hx hb dX8_grants_111 rfl hl (by decide) rfl (fun ls hl => ?_)
                refine lv_aload_n hx hb dX8_grants_112 rfl (lv_at hl 4 rfl) ?_
                refine g_get C hW inX8 0 rfl rfl rfl 16 (by decide) (List.mem_of_getElem? (i := 1) rfl) (v := .ref (a0 5)) rfl dX8_grants_113 ?_
                refine lv_iconst (v := (2 : Int32)) hx hb dX8_grants_116 (by decide) ?_
                refine lv_iload hx hb dX8_grants_117 (lv_at hl 3 rfl) ?_
                obtain ⟨hi, hf⟩ := gd_of hf
                refine g_iast C hW 0 5 rfl (f := (v0 16)) rfl (ib_in hi) (kX8_w16 g a0 v0 (upd (v0 16) (Int32.toNatClampNeg (2 : Int32)) ((x3 + x4) - (x3 + x4) / (v0 1 0) * (v0 1 0)))) (ch' := [kX8 g a0 (st v0 16 (upd (v0 16) (Int32.toNatClampNeg (2 : Int32)) ((x3 + x4) - (x3 + x4) / (v0 1 0) * (v0 1 0))))]) rfl dX8_grants_119 (fun H locs hW => ?_)
                refine lv_aload_n hx hb dX8_grants_120 rfl (lv_at hl 4 rfl) ?_
                refine g_get C hW inX8 0 rfl rfl rfl 16 (by decide) (List.mem_of_getElem? (i := 1) rfl) (v := .ref (a0 5)) rfl dX8_grants_121 ?_
                refine lv_iload hx hb dX8_grants_124 (lv_at hl 3 rfl) ?_
                refine lv_iconst (v := (2 : Int32)) hx hb dX8_grants_126 (by decide) ?_
                obtain ⟨y12, hc, hf⟩ := bd_of hf
                refine g_cS C (ct_X8_ofTerminal g l N ((x3 + x4) - (x3 + x4) / (v0 1 0) * (v0 1 0)) (2 : Int32) hc) gX8_grants_X8_ofTerminal rfl 2 (by decide +kernel) ⟨rfl, rfl, ⟨Nat.le_of_ble_eq_true rfl, Nat.le_of_ble_eq_true rfl⟩, Nat.le_of_ble_eq_true rfl, Nat.le_of_ble_eq_true rfl⟩ rfl hl (Nat.le_of_ble_eq_true rfl) dX8_grants_127 rfl hW hA [] rfl rfl rfl (ch' := [kX8 g a0 (st v0 16 (upd (v0 16) (Int32.toNatClampNeg (2 : Int32)) ((x3 + x4) - (x3 + x4) / (v0 1 0) * (v0 1 0))))]) rfl (fun H locs hW => ?_)
                refine lv_iconst (v := (0 : Int32)) hx hb dX8_grants_130 (by decide) ?_
                obtain ⟨hi, hf⟩ := gd_of hf
                refine g_iast C hW 0 5 rfl (f := (upd (v0 16) (Int32.toNatClampNeg (2 : Int32)) ((x3 + x4) - (x3 + x4) / (v0 1 0) * (v0 1 0)))) rfl (ib_in hi) (kX8_w16 g a0 (st v0 16 (upd (v0 16) (Int32.toNatClampNeg (2 : Int32)) ((x3 + x4) - (x3 + x4) / (v0 1 0) * (v0 1 0)))) (upd (upd (v0 16) (Int32.toNatClampNeg (2 : Int32)) ((x3 + x4) - (x3 + x4) / (v0 1 0) * (v0 1 0))) (Int32.toNatClampNeg y12) (0 : Int32))) (ch' := [kX8 g a0 (st (st v0 16 (upd (v0 16) (Int32.toNatClampNeg (2 : Int32)) ((x3 + x4) - (x3 + x4) / (v0 1 0) * (v0 1 0)))) 16 (upd (upd (v0 16) (Int32.toNatClampNeg (2 : Int32)) ((x3 + x4) - (x3 + x4) / (v0 1 0) * (v0 1 0))) (Int32.toNatClampNeg y12) (0 : Int32)))]) rfl dX8_grants_131 (fun H locs hW => ?_)
                refine lv_aload_n hx hb dX8_grants_132 rfl (lv_at hl 4 rfl) ?_
                refine g_get C hW inX8 0 rfl rfl rfl 16 (by decide) (List.mem_of_getElem? (i := 1) rfl) (v := .ref (a0 5)) rfl dX8_grants_133 ?_
                refine lv_iload hx hb dX8_grants_136 (lv_at hl 3 rfl) ?_
                refine lv_iconst (v := (5 : Int32)) hx hb dX8_grants_138 (by decide) ?_
                obtain ⟨y13, hc, hf⟩ := bd_of hf
                refine g_cS C (ct_X8_ofTerminal g l N ((x3 + x4) - (x3 + x4) / (v0 1 0) * (v0 1 0)) (5 : Int32) hc) gX8_grants_X8_ofTerminal rfl 2 (by decide +kernel) ⟨rfl, rfl, ⟨Nat.le_of_ble_eq_true rfl, Nat.le_of_ble_eq_true rfl⟩, Nat.le_of_ble_eq_true rfl, Nat.le_of_ble_eq_true rfl⟩ rfl hl (Nat.le_of_ble_eq_true rfl) dX8_grants_139 rfl hW hA [] rfl rfl rfl (ch' := [kX8 g a0 (st (st v0 16 (upd (v0 16) (Int32.toNatClampNeg (2 : Int32)) ((x3 + x4) - (x3 + x4) / (v0 1 0) * (v0 1 0)))) 16 (upd (upd (v0 16) (Int32.toNatClampNeg (2 : Int32)) ((x3 + x4) - (x3 + x4) / (v0 1 0) * (v0 1 0))) (Int32.toNatClampNeg y12) (0 : Int32)))]) rfl (fun H locs hW => ?_)
                refine lv_dup2_11 hx hb dX8_grants_142 rfl rfl ?_
                obtain ⟨hi, hf⟩ := gd_of hf
                refine g_iald C hW 0 5 rfl (f := (upd (upd (v0 16) (Int32.toNatClampNeg (2 : Int32)) ((x3 + x4) - (x3 + x4) / (v0 1 0) * (v0 1 0))) (Int32.toNatClampNeg y12) (0 : Int32))) rfl (ib_in hi) dX8_grants_143 ?_
                refine lv_iload hx hb dX8_grants_144 (lv_at hl 1 rfl) ?_
                refine lv_iadd hx hb dX8_grants_146 ?_
                obtain ⟨hi, hf⟩ := gd_of hf
                refine g_iast C hW 0 5 rfl (f := (upd (upd (v0 16) (Int32.toNatClampNeg (2 : Int32)) ((x3 + x4) - (x3 + x4) / (v0 1 0) * (v0 1 0))) (Int32.toNatClampNeg y12) (0 : Int32))) rfl (ib_in hi) (kX8_w16 g a0 (st (st v0 16 (upd (v0 16) (Int32.toNatClampNeg (2 : Int32)) ((x3 + x4) - (x3 + x4) / (v0 1 0) * (v0 1 0)))) 16 (upd (upd (v0 16) (Int32.toNatClampNeg (2 : Int32)) ((x3 + x4) - (x3 + x4) / (v0 1 0) * (v0 1 0))) (Int32.toNatClampNeg y12) (0 : Int32))) (upd (upd (upd (v0 16) (Int32.toNatClampNeg (2 : Int32)) ((x3 + x4) - (x3 + x4) / (v0 1 0) * (v0 1 0))) (Int32.toNatClampNeg y12) (0 : Int32)) (Int32.toNatClampNeg y13) (((upd (upd (v0 16) (Int32.toNatClampNeg (2 : Int32)) ((x3 + x4) - (x3 + x4) / (v0 1 0) * (v0 1 0))) (Int32.toNatClampNeg y12) (0 : Int32)) (Int32.toNatClampNeg y13)) + y11))) (ch' := [kX8 g a0 (st (st (st v0 16 (upd (v0 16) (Int32.toNatClampNeg (2 : Int32)) ((x3 + x4) - (x3 + x4) / (v0 1 0) * (v0 1 0)))) 16 (upd (upd (v0 16) (Int32.toNatClampNeg (2 : Int32)) ((x3 + x4) - (x3 + x4) / (v0 1 0) * (v0 1 0))) (Int32.toNatClampNeg y12) (0 : Int32))) 16 (upd (upd (upd (v0 16) (Int32.toNatClampNeg (2 : Int32)) ((x3 + x4) - (x3 + x4) / (v0 1 0) * (v0 1 0))) (Int32.toNatClampNeg y12) (0 : Int32)) (Int32.toNatClampNeg y13) (((upd (upd (v0 16) (Int32.toNatClampNeg (2 : Int32)) ((x3 + x4) - (x3 + x4) / (v0 1 0) * (v0 1 0))) (Int32.toNatClampNeg y12) (0 : Int32)) (Int32.toNatClampNeg y13)) + y11)))]) rfl dX8_grants_147 (fun H locs hW => ?_)
                refine lv_aload_n hx hb dX8_grants_148 rfl (lv_at hl 4 rfl) ?_
                refine lv_iload hx hb dX8_grants_149 (lv_at hl 3 rfl) ?_
                refine lv_iload hx hb dX8_grants_151 (lv_at hl 1 rfl) ?_
                obtain ⟨y14, hc, hf⟩ := bd_of hf
                refine g_cVv (Cn := RX8) C (ct_X8_packs g l N a0 ((x3 + x4) - (x3 + x4) / (v0 1 0) * (v0 1 0)) y11 (st (st (st v0 16 (upd (v0 16) (Int32.toNatClampNeg (2 : Int32)) ((x3 + x4) - (x3 + x4) / (v0 1 0) * (v0 1 0)))) 16 (upd (upd (v0 16) (Int32.toNatClampNeg (2 : Int32)) ((x3 + x4) - (x3 + x4) / (v0 1 0) * (v0 1 0))) (Int32.toNatClampNeg y12) (0 : Int32))) 16 (upd (upd (upd (v0 16) (Int32.toNatClampNeg (2 : Int32)) ((x3 + x4) - (x3 + x4) / (v0 1 0) * (v0 1 0))) (Int32.toNatClampNeg y12) (0 : Int32)) (Int32.toNatClampNeg y13) (((upd (upd (v0 16) (Int32.toNatClampNeg (2 : Int32)) ((x3 + x4) - (x3 + x4) / (v0 1 0) * (v0 1 0))) (Int32.toNatClampNeg y12) (0 : Int32)) (Int32.toNatClampNeg y13)) + y11))) hc) gX8_grants_X8_packs rfl 2 (by decide +kernel) ⟨rfl, rfl, ⟨Nat.le_of_ble_eq_true rfl, Nat.le_of_ble_eq_true rfl⟩, Nat.le_of_ble_eq_true rfl, Nat.le_of_ble_eq_true rfl⟩ rfl hl (Nat.le_of_ble_eq_true rfl) dX8_grants_153 rfl hW hA [0] rfl rfl rfl (ch' := [kX8 g a0 y14]) rfl 0 rfl rfl rfl (fun H locs hW => ?_)
                refine lv_iinc (v := (x4 + 1)) (lv' := [(4, .int (x4 + 1)), (2, .int (x2 - y11)), (7, .int y11), (6, .int ((v0 16) (Int32.toNatClampNeg y1))), (5, .int ((x3 + x4) - (x3 + x4) / (v0 1 0) * (v0 1 0))), (0, .ref (a0 0)), (1, .int x1), (3, .int x3)]) hx hb dX8_grants_156 hl (k := 7) rfl (by first | rfl | decide) (by decide) rfl (fun ls hl => ?_)
                refine lv_goto (tgt := 31) hx hb dX8_grants_159 (by decide) ?_
                exact ih _ _ _ H locs ls hf hW (lv_sub hl [5, 6, 1, 7, 0] rfl)
              · replace hf := (if_neg h).symm.trans hf
                refine lv_iload hx hb dX8_grants_93 (lv_at hl 0 rfl) ?_
                refine lv_iconst (v := (2 : Int32)) hx hb dX8_grants_95 (by decide) ?_
                refine lv_iadd hx hb dX8_grants_96 ?_
                refine lv_goto (tgt := 101) hx hb dX8_grants_97 (by decide) ?_
                refine lv_iload_n hx hb dX8_grants_101 rfl (lv_at hl 4 rfl) ?_
                obtain ⟨y15, hc, hf⟩ := bd_of hf
                refine g_cS C (ct_X8_less g l N (((v0 16) (Int32.toNatClampNeg y1)) + (2 : Int32)) x2 hc) gX8_grants_X8_less rfl 2 (by decide +kernel) ⟨rfl, rfl, ⟨Nat.le_of_ble_eq_true rfl, Nat.le_of_ble_eq_true rfl⟩, Nat.le_of_ble_eq_true rfl, Nat.le_of_ble_eq_true rfl⟩ rfl hl (Nat.le_of_ble_eq_true rfl) dX8_grants_102 rfl hW hA [] rfl rfl rfl (ch' := [kX8 g a0 v0]) rfl (fun H locs hW => ?_)
                refine lv_istore (lv' := [(7, .int y15), (6, .int ((v0 16) (Int32.toNatClampNeg y1))), (5, .int ((x3 + x4) - (x3 + x4) / (v0 1 0) * (v0 1 0))), (0, .ref (a0 0)), (1, .int x1), (2, .int x2), (3, .int x3), (4, .int x4)]) hx hb dX8_grants_105 hl (by decide) rfl (fun ls hl => ?_)
                refine lv_iload_n hx hb dX8_grants_107 rfl (lv_at hl 5 rfl) ?_
                refine lv_iload hx hb dX8_grants_108 (lv_at hl 0 rfl) ?_
                refine lv_isub hx hb dX8_grants_110 ?_
                refine lv_istore_n (lv' := [(2, .int (x2 - y15)), (7, .int y15), (6, .int ((v0 16) (Int32.toNatClampNeg y1))), (5, .int ((x3 + x4) - (x3 + x4) / (v0 1 0) * (v0 1 0))), (0, .ref (a0 0)), (1, .int x1), (3, .int x3), (4, .int x4)]) hx hb dX8_grants_111 rfl hl (by decide) rfl (fun ls hl => ?_)
                refine lv_aload_n hx hb dX8_grants_112 rfl (lv_at hl 4 rfl) ?_
                refine g_get C hW inX8 0 rfl rfl rfl 16 (by decide) (List.mem_of_getElem? (i := 1) rfl) (v := .ref (a0 5)) rfl dX8_grants_113 ?_
                refine lv_iconst (v := (2 : Int32)) hx hb dX8_grants_116 (by decide) ?_
                refine lv_iload hx hb dX8_grants_117 (lv_at hl 3 rfl) ?_
                obtain ⟨hi, hf⟩ := gd_of hf
                refine g_iast C hW 0 5 rfl (f := (v0 16)) rfl (ib_in hi) (kX8_w16 g a0 v0 (upd (v0 16) (Int32.toNatClampNeg (2 : Int32)) ((x3 + x4) - (x3 + x4) / (v0 1 0) * (v0 1 0)))) (ch' := [kX8 g a0 (st v0 16 (upd (v0 16) (Int32.toNatClampNeg (2 : Int32)) ((x3 + x4) - (x3 + x4) / (v0 1 0) * (v0 1 0))))]) rfl dX8_grants_119 (fun H locs hW => ?_)
                refine lv_aload_n hx hb dX8_grants_120 rfl (lv_at hl 4 rfl) ?_
                refine g_get C hW inX8 0 rfl rfl rfl 16 (by decide) (List.mem_of_getElem? (i := 1) rfl) (v := .ref (a0 5)) rfl dX8_grants_121 ?_
                refine lv_iload hx hb dX8_grants_124 (lv_at hl 3 rfl) ?_
                refine lv_iconst (v := (2 : Int32)) hx hb dX8_grants_126 (by decide) ?_
                obtain ⟨y16, hc, hf⟩ := bd_of hf
                refine g_cS C (ct_X8_ofTerminal g l N ((x3 + x4) - (x3 + x4) / (v0 1 0) * (v0 1 0)) (2 : Int32) hc) gX8_grants_X8_ofTerminal rfl 2 (by decide +kernel) ⟨rfl, rfl, ⟨Nat.le_of_ble_eq_true rfl, Nat.le_of_ble_eq_true rfl⟩, Nat.le_of_ble_eq_true rfl, Nat.le_of_ble_eq_true rfl⟩ rfl hl (Nat.le_of_ble_eq_true rfl) dX8_grants_127 rfl hW hA [] rfl rfl rfl (ch' := [kX8 g a0 (st v0 16 (upd (v0 16) (Int32.toNatClampNeg (2 : Int32)) ((x3 + x4) - (x3 + x4) / (v0 1 0) * (v0 1 0))))]) rfl (fun H locs hW => ?_)
                refine lv_iconst (v := (0 : Int32)) hx hb dX8_grants_130 (by decide) ?_
                obtain ⟨hi, hf⟩ := gd_of hf
                refine g_iast C hW 0 5 rfl (f := (upd (v0 16) (Int32.toNatClampNeg (2 : Int32)) ((x3 + x4) - (x3 + x4) / (v0 1 0) * (v0 1 0)))) rfl (ib_in hi) (kX8_w16 g a0 (st v0 16 (upd (v0 16) (Int32.toNatClampNeg (2 : Int32)) ((x3 + x4) - (x3 + x4) / (v0 1 0) * (v0 1 0)))) (upd (upd (v0 16) (Int32.toNatClampNeg (2 : Int32)) ((x3 + x4) - (x3 + x4) / (v0 1 0) * (v0 1 0))) (Int32.toNatClampNeg y16) (0 : Int32))) (ch' := [kX8 g a0 (st (st v0 16 (upd (v0 16) (Int32.toNatClampNeg (2 : Int32)) ((x3 + x4) - (x3 + x4) / (v0 1 0) * (v0 1 0)))) 16 (upd (upd (v0 16) (Int32.toNatClampNeg (2 : Int32)) ((x3 + x4) - (x3 + x4) / (v0 1 0) * (v0 1 0))) (Int32.toNatClampNeg y16) (0 : Int32)))]) rfl dX8_grants_131 (fun H locs hW => ?_)
                refine lv_aload_n hx hb dX8_grants_132 rfl (lv_at hl 4 rfl) ?_
                refine g_get C hW inX8 0 rfl rfl rfl 16 (by decide) (List.mem_of_getElem? (i := 1) rfl) (v := .ref (a0 5)) rfl dX8_grants_133 ?_
                refine lv_iload hx hb dX8_grants_136 (lv_at hl 3 rfl) ?_
                refine lv_iconst (v := (5 : Int32)) hx hb dX8_grants_138 (by decide) ?_
                obtain ⟨y17, hc, hf⟩ := bd_of hf
                refine g_cS C (ct_X8_ofTerminal g l N ((x3 + x4) - (x3 + x4) / (v0 1 0) * (v0 1 0)) (5 : Int32) hc) gX8_grants_X8_ofTerminal rfl 2 (by decide +kernel) ⟨rfl, rfl, ⟨Nat.le_of_ble_eq_true rfl, Nat.le_of_ble_eq_true rfl⟩, Nat.le_of_ble_eq_true rfl, Nat.le_of_ble_eq_true rfl⟩ rfl hl (Nat.le_of_ble_eq_true rfl) dX8_grants_139 rfl hW hA [] rfl rfl rfl (ch' := [kX8 g a0 (st (st v0 16 (upd (v0 16) (Int32.toNatClampNeg (2 : Int32)) ((x3 + x4) - (x3 + x4) / (v0 1 0) * (v0 1 0)))) 16 (upd (upd (v0 16) (Int32.toNatClampNeg (2 : Int32)) ((x3 + x4) - (x3 + x4) / (v0 1 0) * (v0 1 0))) (Int32.toNatClampNeg y16) (0 : Int32)))]) rfl (fun H locs hW => ?_)
                refine lv_dup2_11 hx hb dX8_grants_142 rfl rfl ?_
                obtain ⟨hi, hf⟩ := gd_of hf
                refine g_iald C hW 0 5 rfl (f := (upd (upd (v0 16) (Int32.toNatClampNeg (2 : Int32)) ((x3 + x4) - (x3 + x4) / (v0 1 0) * (v0 1 0))) (Int32.toNatClampNeg y16) (0 : Int32))) rfl (ib_in hi) dX8_grants_143 ?_
                refine lv_iload hx hb dX8_grants_144 (lv_at hl 1 rfl) ?_
                refine lv_iadd hx hb dX8_grants_146 ?_
                obtain ⟨hi, hf⟩ := gd_of hf
                refine g_iast C hW 0 5 rfl (f := (upd (upd (v0 16) (Int32.toNatClampNeg (2 : Int32)) ((x3 + x4) - (x3 + x4) / (v0 1 0) * (v0 1 0))) (Int32.toNatClampNeg y16) (0 : Int32))) rfl (ib_in hi) (kX8_w16 g a0 (st (st v0 16 (upd (v0 16) (Int32.toNatClampNeg (2 : Int32)) ((x3 + x4) - (x3 + x4) / (v0 1 0) * (v0 1 0)))) 16 (upd (upd (v0 16) (Int32.toNatClampNeg (2 : Int32)) ((x3 + x4) - (x3 + x4) / (v0 1 0) * (v0 1 0))) (Int32.toNatClampNeg y16) (0 : Int32))) (upd (upd (upd (v0 16) (Int32.toNatClampNeg (2 : Int32)) ((x3 + x4) - (x3 + x4) / (v0 1 0) * (v0 1 0))) (Int32.toNatClampNeg y16) (0 : Int32)) (Int32.toNatClampNeg y17) (((upd (upd (v0 16) (Int32.toNatClampNeg (2 : Int32)) ((x3 + x4) - (x3 + x4) / (v0 1 0) * (v0 1 0))) (Int32.toNatClampNeg y16) (0 : Int32)) (Int32.toNatClampNeg y17)) + y15))) (ch' := [kX8 g a0 (st (st (st v0 16 (upd (v0 16) (Int32.toNatClampNeg (2 : Int32)) ((x3 + x4) - (x3 + x4) / (v0 1 0) * (v0 1 0)))) 16 (upd (upd (v0 16) (Int32.toNatClampNeg (2 : Int32)) ((x3 + x4) - (x3 + x4) / (v0 1 0) * (v0 1 0))) (Int32.toNatClampNeg y16) (0 : Int32))) 16 (upd (upd (upd (v0 16) (Int32.toNatClampNeg (2 : Int32)) ((x3 + x4) - (x3 + x4) / (v0 1 0) * (v0 1 0))) (Int32.toNatClampNeg y16) (0 : Int32)) (Int32.toNatClampNeg y17) (((upd (upd (v0 16) (Int32.toNatClampNeg (2 : Int32)) ((x3 + x4) - (x3 + x4) / (v0 1 0) * (v0 1 0))) (Int32.toNatClampNeg y16) (0 : Int32)) (Int32.toNatClampNeg y17)) + y15)))]) rfl dX8_grants_147 (fun H locs hW => ?_)
                refine lv_aload_n hx hb dX8_grants_148 rfl (lv_at hl 4 rfl) ?_
                refine lv_iload hx hb dX8_grants_149 (lv_at hl 3 rfl) ?_
                refine lv_iload hx hb dX8_grants_151 (lv_at hl 1 rfl) ?_
                obtain ⟨y18, hc, hf⟩ := bd_of hf
                refine g_cVv (Cn := RX8) C (ct_X8_packs g l N a0 ((x3 + x4) - (x3 + x4) / (v0 1 0) * (v0 1 0)) y15 (st (st (st v0 16 (upd (v0 16) (Int32.toNatClampNeg (2 : Int32)) ((x3 + x4) - (x3 + x4) / (v0 1 0) * (v0 1 0)))) 16 (upd (upd (v0 16) (Int32.toNatClampNeg (2 : Int32)) ((x3 + x4) - (x3 + x4) / (v0 1 0) * (v0 1 0))) (Int32.toNatClampNeg y16) (0 : Int32))) 16 (upd (upd (upd (v0 16) (Int32.toNatClampNeg (2 : Int32)) ((x3 + x4) - (x3 + x4) / (v0 1 0) * (v0 1 0))) (Int32.toNatClampNeg y16) (0 : Int32)) (Int32.toNatClampNeg y17) (((upd (upd (v0 16) (Int32.toNatClampNeg (2 : Int32)) ((x3 + x4) - (x3 + x4) / (v0 1 0) * (v0 1 0))) (Int32.toNatClampNeg y16) (0 : Int32)) (Int32.toNatClampNeg y17)) + y15))) hc) gX8_grants_X8_packs rfl 2 (by decide +kernel) ⟨rfl, rfl, ⟨Nat.le_of_ble_eq_true rfl, Nat.le_of_ble_eq_true rfl⟩, Nat.le_of_ble_eq_true rfl, Nat.le_of_ble_eq_true rfl⟩ rfl hl (Nat.le_of_ble_eq_true rfl) dX8_grants_153 rfl hW hA [0] rfl rfl rfl (ch' := [kX8 g a0 y18]) rfl 0 rfl rfl rfl (fun H locs hW => ?_)
                refine lv_iinc (v := (x4 + 1)) (lv' := [(4, .int (x4 + 1)), (2, .int (x2 - y15)), (7, .int y15), (6, .int ((v0 16) (Int32.toNatClampNeg y1))), (5, .int ((x3 + x4) - (x3 + x4) / (v0 1 0) * (v0 1 0))), (0, .ref (a0 0)), (1, .int x1), (3, .int x3)]) hx hb dX8_grants_156 hl (k := 7) rfl (by first | rfl | decide) (by decide) rfl (fun ls hl => ?_)
                refine lv_goto (tgt := 31) hx hb dX8_grants_159 (by decide) ?_
                exact ih _ _ _ H locs ls hf hW (lv_sub hl [5, 6, 1, 7, 0] rfl)
  rw [fX8_grants] at hf
  refine lv_iload_n hx hb dX8_grants_0 rfl (lv_at hl 1 rfl) ?_
  refine lv_istore_n (lv' := [(2, .int x1), (0, .ref (a0 0)), (1, .int x1)]) hx hb dX8_grants_1 rfl hl (by decide) rfl (fun ls hl => ?_)
  refine lv_aload_n hx hb dX8_grants_2 rfl (lv_at hl 1 rfl) ?_
  refine g_get C hW inX8 0 rfl rfl rfl 16 (by decide) (List.mem_of_getElem? (i := 1) rfl) (v := .ref (a0 5)) rfl dX8_grants_3 ?_
  refine lv_iconst (v := (2 : Int32)) hx hb dX8_grants_6 (by decide) ?_
  obtain ⟨hi, hf⟩ := gd_of hf
  refine g_iald C hW 0 5 rfl (f := (v0 16)) rfl (ib_in hi) dX8_grants_7 ?_
  refine lv_iconst (v := (1 : Int32)) hx hb dX8_grants_8 (by decide) ?_
  refine lv_iadd hx hb dX8_grants_9 ?_
  refine lv_istore_n (lv' := [(3, .int (((v0 16) (Int32.toNatClampNeg (2 : Int32))) + (1 : Int32))), (2, .int x1), (0, .ref (a0 0)), (1, .int x1)]) hx hb dX8_grants_10 rfl hl (by decide) rfl (fun ls hl => ?_)
  refine lv_aload_n hx hb dX8_grants_11 rfl (lv_at hl 2 rfl) ?_
  refine g_get C hW inX8 0 rfl rfl rfl 16 (by decide) (List.mem_of_getElem? (i := 1) rfl) (v := .ref (a0 5)) rfl dX8_grants_12 ?_
  refine lv_iconst (v := (2 : Int32)) hx hb dX8_grants_15 (by decide) ?_
  obtain ⟨hi, hf⟩ := gd_of hf
  refine g_iald C hW 0 5 rfl (f := (v0 16)) rfl (ib_in hi) dX8_grants_16 ?_
  refine lv_bipush (v := (-9 : Int32)) hx hb dX8_grants_17 (by decide) ?_
  refine lv_icmp_ne (tgt := 26) hx hb dX8_grants_19 (by decide) (fun h => ?_) (fun h => ?_)
  · replace hf := (if_neg h).symm.trans hf
    refine lv_iload_n hx hb dX8_grants_26 rfl (lv_at hl 0 rfl) ?_
    refine lv_istore_n (lv' := [(3, .int (((v0 16) (Int32.toNatClampNeg (2 : Int32))) + (1 : Int32))), (2, .int x1), (0, .ref (a0 0)), (1, .int x1)]) hx hb dX8_grants_27 rfl hl (by decide) rfl (fun ls hl => ?_)
    refine lv_iconst (v := (0 : Int32)) hx hb dX8_grants_28 (by decide) ?_
    refine lv_istore (lv' := [(4, .int (0 : Int32)), (3, .int (((v0 16) (Int32.toNatClampNeg (2 : Int32))) + (1 : Int32))), (2, .int x1), (0, .ref (a0 0)), (1, .int x1)]) hx hb dX8_grants_29 hl (by decide) rfl (fun ls hl => ?_)
    refine L31 x1 (((v0 16) (Int32.toNatClampNeg (2 : Int32))) + (1 : Int32)) _ (fun x2_19 x4_19 v0_19 H locs ls hf hW hl => ?_) N x1 (0 : Int32) v0 H locs ls hf hW (lv_sub hl [3, 4, 2, 1, 0] rfl)
    obtain rfl := Option.some.inj hf
    subst hQ
    exact g_vret C hr hk0 hW rfl rfl dX8_grants_162
  · replace hf := (if_pos h).symm.trans hf
    refine lv_iconst (v := (0 : Int32)) hx hb dX8_grants_22 (by decide) ?_
    refine lv_goto (tgt := 27) hx hb dX8_grants_23 (by decide) ?_
    refine lv_istore_n (lv' := [(3, .int (0 : Int32)), (2, .int x1), (0, .ref (a0 0)), (1, .int x1)]) hx hb dX8_grants_27 rfl hl (by decide) rfl (fun ls hl => ?_)
    refine lv_iconst (v := (0 : Int32)) hx hb dX8_grants_28 (by decide) ?_
    refine lv_istore (lv' := [(4, .int (0 : Int32)), (3, .int (0 : Int32)), (2, .int x1), (0, .ref (a0 0)), (1, .int x1)]) hx hb dX8_grants_29 hl (by decide) rfl (fun ls hl => ?_)
    refine L31 x1 (0 : Int32) _ (fun x2_20 x4_20 v0_20 H locs ls hf hW hl => ?_) N x1 (0 : Int32) v0 H locs ls hf hW (lv_sub hl [3, 4, 2, 1, 0] rfl)
    obtain rfl := Option.some.inj hf
    subst hQ
    exact g_vret C hr hk0 hW rfl rfl dX8_grants_162
def fX8_step_L2 (N : Nat) (k : Int32 → MM → Option (MM)) : Nat → Int32 → MM → Option (MM)
  | 0, _, _ => none
  | n + 1, x1, v0 => (if (v0 2 0) ≤ x1 then k x1 v0 else ((fX8_ofClass N x1 (1 : Int32)).bind (fun y1 => (if ib (((4 : Int32) * x1) + (3 : Int32)) 24 = true then ((fX8_ofClass N x1 (1 : Int32)).bind (fun y2 => (if ib y2 667 = true then (if ib (((4 : Int32) * x1) + (2 : Int32)) 24 = true then ((fX8_less N ((v0 7) (Int32.toNatClampNeg (((4 : Int32) * x1) + (3 : Int32)))) (((v0 16) (Int32.toNatClampNeg y2)) + ((v0 7) (Int32.toNatClampNeg (((4 : Int32) * x1) + (2 : Int32)))))).bind (fun y3 => (if ib y1 667 = true then fX8_step_L2 N k n (x1 + 1) (st v0 16 (upd (v0 16) (Int32.toNatClampNeg y1) y3)) else none))) else none) else none))) else none))))
def fX8_step_L62 (N : Nat) (k : Int32 → MM → Option (MM)) : Nat → Int32 → MM → Option (MM)
  | 0, _, _ => none
  | n + 1, x1, v0 => (if (v0 1 0) ≤ x1 then k x1 v0 else ((fX8_asks N x1 v0).bind (fun y5 => fX8_step_L62 N k n (x1 + 1) y5)))
def fX8_step (N : Nat) (v0 : MM) : Option (MM) := (fX8_step_L2 N (fun (x1_4 : Int32) (v0_4 : MM) => (fX8_step_L62 N (fun (x1_6 : Int32) (v0_6 : MM) => ((fX8_sendsAgain N v0_6).bind (fun y7 => ((fX8_grants N y7.1 y7.2).bind (fun y8 => (if ib (0 : Int32) 667 = true then (if ib (0 : Int32) 667 = true then some (st y8 16 (upd (y8 16) (Int32.toNatClampNeg (0 : Int32)) (((y8 16) (Int32.toNatClampNeg (0 : Int32))) + (1 : Int32)))) else none) else none)))))) N (0 : Int32) v0_4)) N (0 : Int32) v0)
set_option maxHeartbeats 4000000 in
set_option maxRecDepth 100000 in
theorem ct_X8_step (g : GT) (l : Launch) (N : Nat) (a0 : Nat → Nat) (v0 : MM) {y : MM} (hf : fX8_step N v0 = some y) : ct g l yX8_step wsX8_step (rmk 5 127) [.ref (a0 0)] [kX8 g a0 v0] none [kX8 g a0 y] := by
  refine ct_of (cc := cX8_step) (maxL := 2) (ret := none) (by decide) rfl (Nat.le_of_ble_eq_true rfl) ?_
  intro p e s m args below meth c A ls C hr hk0 hA hW hl
  have hx := C.1.1
  have hb := C.1.2.1
  replace hl : lv_has ls 2 [(0, .ref (a0 0))] := hl
  obtain ⟨Q, hQ⟩ : ∃ Q, Q = MQ below (ctQ g A none [kX8 g a0 y]) args s 0 0 A := ⟨_, rfl⟩
  rw [← hQ]
  obtain ⟨H, hH⟩ : ∃ H, H = s.heap := ⟨_, rfl⟩
  obtain ⟨locs, hL⟩ : ∃ locs : List Loc, locs = [] := ⟨_, rfl⟩
  replace hW : wd g A s.heap [kX8 g a0 v0] H locs := by rw [hH, hL]; exact hW
  suffices hG : W p l e (rmk 5 127) s m args below meth c H locs 0 0 Q (F0 m 0 ls []) by
    rw [hH, hL] at hG; exact hG
  clear hH hL
  have inX8 : ∀ w ∈ wsX80, w ∈ wsX8_step := fun _ h => List.mem_cons_of_mem _ (List.mem_append_right _ (h))
  have L2 : ∀ (k : Int32 → MM → Option (MM)) (hk : ∀ (x1 : Int32) (v0 : MM) (H : Heap) (locs : List Loc) (ls : Array Slot), k x1 v0 = some y → wd g A s.heap [kX8 g a0 v0] H locs → lv_has ls 2 [(0, .ref (a0 0)), (1, .int x1)] → W p l e (rmk 5 127) s m args below meth c H locs 0 0 Q (F0 m 60 ls [])) (n : Nat) (x1 : Int32) (v0 : MM) (H : Heap) (locs : List Loc) (ls : Array Slot), fX8_step_L2 N k n x1 v0 = some y → wd g A s.heap [kX8 g a0 v0] H locs → lv_has ls 2 [(0, .ref (a0 0)), (1, .int x1)] → W p l e (rmk 5 127) s m args below meth c H locs 0 0 Q (F0 m 2 ls []) := by
    intro k hk n
    induction n with
    | zero => intro x1 v0 H locs ls hf; rw [fX8_step_L2] at hf; cases hf
    | succ n ih =>
      intro x1 v0 H locs ls hf hW hl
      rw [fX8_step_L2] at hf
      refine lv_iload_n hx hb dX8_step_2 rfl (lv_at hl 1 rfl) ?_
      refine lv_aload_n hx hb dX8_step_3 rfl (lv_at hl 0 rfl) ?_
      refine g_get C hW inX8 0 rfl rfl rfl 2 (by decide) (List.mem_of_getElem? (i := 1) rfl) (v := .int (v0 2 0)) rfl dX8_step_4 ?_
      refine lv_icmp_ge (tgt := 60) hx hb dX8_step_7 (by decide) (fun h => ?_) (fun h => ?_)
      · replace hf := (if_pos h).symm.trans hf
        exact hk _ _ H locs ls hf hW (lv_sub hl [0, 1] rfl)
      · replace hf := (if_neg h).symm.trans hf
        refine lv_aload_n hx hb dX8_step_10 rfl (lv_at hl 0 rfl) ?_
        refine g_get C hW inX8 0 rfl rfl rfl 16 (by decide) (List.mem_of_getElem? (i := 2) rfl) (v := .ref (a0 5)) rfl dX8_step_11 ?_
        refine lv_iload_n hx hb dX8_step_14 rfl (lv_at hl 1 rfl) ?_
        refine lv_iconst (v := (1 : Int32)) hx hb dX8_step_15 (by decide) ?_
        obtain ⟨y1, hc, hf⟩ := bd_of hf
        refine g_cS C (ct_X8_ofClass g l N x1 (1 : Int32) hc) gX8_step_X8_ofClass rfl 2 (by decide +kernel) ⟨rfl, rfl, ⟨Nat.le_of_ble_eq_true rfl, Nat.le_of_ble_eq_true rfl⟩, Nat.le_of_ble_eq_true rfl, Nat.le_of_ble_eq_true rfl⟩ rfl hl (Nat.le_of_ble_eq_true rfl) dX8_step_16 rfl hW hA [] rfl rfl rfl (ch' := [kX8 g a0 v0]) rfl (fun H locs hW => ?_)
        refine lv_aload_n hx hb dX8_step_19 rfl (lv_at hl 0 rfl) ?_
        refine g_get C hW inX8 0 rfl rfl rfl 7 (by decide) (List.mem_of_getElem? (i := 3) rfl) (v := .ref (a0 2)) rfl dX8_step_20 ?_
        refine lv_iconst (v := (4 : Int32)) hx hb dX8_step_23 (by decide) ?_
        refine lv_iload_n hx hb dX8_step_24 rfl (lv_at hl 1 rfl) ?_
        refine lv_imul hx hb dX8_step_25 ?_
        refine lv_iconst (v := (3 : Int32)) hx hb dX8_step_26 (by decide) ?_
        refine lv_iadd hx hb dX8_step_27 ?_
        obtain ⟨hi, hf⟩ := gd_of hf
        refine g_iald C hW 0 2 rfl (f := (v0 7)) rfl (ib_in hi) dX8_step_28 ?_
        refine lv_aload_n hx hb dX8_step_29 rfl (lv_at hl 0 rfl) ?_
        refine g_get C hW inX8 0 rfl rfl rfl 16 (by decide) (List.mem_of_getElem? (i := 2) rfl) (v := .ref (a0 5)) rfl dX8_step_30 ?_
        refine lv_iload_n hx hb dX8_step_33 rfl (lv_at hl 1 rfl) ?_
        refine lv_iconst (v := (1 : Int32)) hx hb dX8_step_34 (by decide) ?_
        obtain ⟨y2, hc, hf⟩ := bd_of hf
        refine g_cS C (ct_X8_ofClass g l N x1 (1 : Int32) hc) gX8_step_X8_ofClass rfl 2 (by decide +kernel) ⟨rfl, rfl, ⟨Nat.le_of_ble_eq_true rfl, Nat.le_of_ble_eq_true rfl⟩, Nat.le_of_ble_eq_true rfl, Nat.le_of_ble_eq_true rfl⟩ rfl hl (Nat.le_of_ble_eq_true rfl) dX8_step_35 rfl hW hA [] rfl rfl rfl (ch' := [kX8 g a0 v0]) rfl (fun H locs hW => ?_)
        obtain ⟨hi, hf⟩ := gd_of hf
        refine g_iald C hW 0 5 rfl (f := (v0 16)) rfl (ib_in hi) dX8_step_38 ?_
        refine lv_aload_n hx hb dX8_step_39 rfl (lv_at hl 0 rfl) ?_
        refine g_get C hW inX8 0 rfl rfl rfl 7 (by decide) (List.mem_of_getElem? (i := 3) rfl) (v := .ref (a0 2)) rfl dX8_step_40 ?_
        refine lv_iconst (v := (4 : Int32)) hx hb dX8_step_43 (by decide) ?_
        refine lv_iload_n hx hb dX8_step_44 rfl (lv_at hl 1 rfl) ?_
        refine lv_imul hx hb dX8_step_45 ?_
        refine lv_iconst (v := (2 : Int32)) hx hb dX8_step_46 (by decide) ?_
        refine lv_iadd hx hb dX8_step_47 ?_
        obtain ⟨hi, hf⟩ := gd_of hf
        refine g_iald C hW 0 2 rfl (f := (v0 7)) rfl (ib_in hi) dX8_step_48 ?_
        refine lv_iadd hx hb dX8_step_49 ?_
        obtain ⟨y3, hc, hf⟩ := bd_of hf
        refine g_cS C (ct_X8_less g l N ((v0 7) (Int32.toNatClampNeg (((4 : Int32) * x1) + (3 : Int32)))) (((v0 16) (Int32.toNatClampNeg y2)) + ((v0 7) (Int32.toNatClampNeg (((4 : Int32) * x1) + (2 : Int32))))) hc) gX8_step_X8_less rfl 2 (by decide +kernel) ⟨rfl, rfl, ⟨Nat.le_of_ble_eq_true rfl, Nat.le_of_ble_eq_true rfl⟩, Nat.le_of_ble_eq_true rfl, Nat.le_of_ble_eq_true rfl⟩ rfl hl (Nat.le_of_ble_eq_true rfl) dX8_step_50 rfl hW hA [] rfl rfl rfl (ch' := [kX8 g a0 v0]) rfl (fun H locs hW => ?_)
        obtain ⟨hi, hf⟩ := gd_of hf
        refine g_iast C hW 0 5 rfl (f := (v0 16)) rfl (ib_in hi) (kX8_w16 g a0 v0 (upd (v0 16) (Int32.toNatClampNeg y1) y3)) (ch' := [kX8 g a0 (st v0 16 (upd (v0 16) (Int32.toNatClampNeg y1) y3))]) rfl dX8_step_53 (fun H locs hW => ?_)
        refine lv_iinc (v := (x1 + 1)) (lv' := [(1, .int (x1 + 1)), (0, .ref (a0 0))]) hx hb dX8_step_54 hl (k := 1) rfl (by first | rfl | decide) (by decide) rfl (fun ls hl => ?_)
        refine lv_goto (tgt := 2) hx hb dX8_step_57 (by decide) ?_
        exact ih _ _ H locs ls hf hW (lv_sub hl [1, 0] rfl)
  have L62 : ∀ (k : Int32 → MM → Option (MM)) (hk : ∀ (x1 : Int32) (v0 : MM) (H : Heap) (locs : List Loc) (ls : Array Slot), k x1 v0 = some y → wd g A s.heap [kX8 g a0 v0] H locs → lv_has ls 2 [(0, .ref (a0 0)), (1, .int x1)] → W p l e (rmk 5 127) s m args below meth c H locs 0 0 Q (F0 m 81 ls [])) (n : Nat) (x1 : Int32) (v0 : MM) (H : Heap) (locs : List Loc) (ls : Array Slot), fX8_step_L62 N k n x1 v0 = some y → wd g A s.heap [kX8 g a0 v0] H locs → lv_has ls 2 [(0, .ref (a0 0)), (1, .int x1)] → W p l e (rmk 5 127) s m args below meth c H locs 0 0 Q (F0 m 62 ls []) := by
    intro k hk n
    induction n with
    | zero => intro x1 v0 H locs ls hf; rw [fX8_step_L62] at hf; cases hf
    | succ n ih =>
      intro x1 v0 H locs ls hf hW hl
      rw [fX8_step_L62] at hf
      refine lv_iload_n hx hb dX8_step_62 rfl (lv_at hl 1 rfl) ?_
      refine lv_aload_n hx hb dX8_step_63 rfl (lv_at hl 0 rfl) ?_
      refine g_get C hW inX8 0 rfl rfl rfl 1 (by decide) (List.mem_of_getElem? (i := 4) rfl) (v := .int (v0 1 0)) rfl dX8_step_64 ?_
      refine lv_icmp_ge (tgt := 81) hx hb dX8_step_67 (by decide) (fun h => ?_) (fun h => ?_)
      · replace hf := (if_pos h).symm.trans hf
        exact hk _ _ H locs ls hf hW (lv_sub hl [0, 1] rfl)
      · replace hf := (if_neg h).symm.trans hf
        refine lv_aload_n hx hb dX8_step_70 rfl (lv_at hl 0 rfl) ?_
        refine lv_iload_n hx hb dX8_step_71 rfl (lv_at hl 1 rfl) ?_
        obtain ⟨y5, hc, hf⟩ := bd_of hf
        refine g_cVv (Cn := RX8) C (ct_X8_asks g l N a0 x1 v0 hc) gX8_step_X8_asks rfl 1 (by decide +kernel) ⟨rfl, rfl, ⟨Nat.le_of_ble_eq_true rfl, Nat.le_of_ble_eq_true rfl⟩, Nat.le_of_ble_eq_true rfl, Nat.le_of_ble_eq_true rfl⟩ rfl hl (Nat.le_of_ble_eq_true rfl) dX8_step_72 rfl hW hA [0] rfl rfl rfl (ch' := [kX8 g a0 y5]) rfl 0 rfl rfl rfl (fun H locs hW => ?_)
        refine lv_iinc (v := (x1 + 1)) (lv' := [(1, .int (x1 + 1)), (0, .ref (a0 0))]) hx hb dX8_step_75 hl (k := 1) rfl (by first | rfl | decide) (by decide) rfl (fun ls hl => ?_)
        refine lv_goto (tgt := 62) hx hb dX8_step_78 (by decide) ?_
        exact ih _ _ H locs ls hf hW (lv_sub hl [1, 0] rfl)
  rw [fX8_step] at hf
  refine lv_iconst (v := (0 : Int32)) hx hb dX8_step_0 (by decide) ?_
  refine lv_istore_n (lv' := [(1, .int (0 : Int32)), (0, .ref (a0 0))]) hx hb dX8_step_1 rfl hl (by decide) rfl (fun ls hl => ?_)
  refine L2 _ (fun x1_4 v0_4 H locs ls hf hW hl => ?_) N (0 : Int32) v0 H locs ls hf hW (lv_sub hl [1, 0] rfl)
  refine lv_iconst (v := (0 : Int32)) hx hb dX8_step_60 (by decide) ?_
  refine lv_istore_n (lv' := [(1, .int (0 : Int32)), (0, .ref (a0 0))]) hx hb dX8_step_61 rfl hl (by decide) rfl (fun ls hl => ?_)
  refine L62 _ (fun x1_6 v0_6 H locs ls hf hW hl => ?_) N (0 : Int32) v0_4 H locs ls hf hW (lv_sub hl [1, 0] rfl)
  refine lv_aload_n hx hb dX8_step_81 rfl (lv_at hl 0 rfl) ?_
  refine lv_aload_n hx hb dX8_step_82 rfl (lv_at hl 0 rfl) ?_
  obtain ⟨y7, hc, hf⟩ := bd_of hf
  refine g_cV (Cn := RX8) C (ct_X8_sendsAgain g l N a0 v0_6 hc) gX8_step_X8_sendsAgain rfl 0 (by decide +kernel) ⟨rfl, rfl, ⟨Nat.le_of_ble_eq_true rfl, Nat.le_of_ble_eq_true rfl⟩, Nat.le_of_ble_eq_true rfl, Nat.le_of_ble_eq_true rfl⟩ rfl hl (Nat.le_of_ble_eq_true rfl) dX8_step_83 rfl hW hA [0] rfl rfl rfl (ch' := [kX8 g a0 y7.2]) rfl 0 rfl rfl rfl (fun H locs hW => ?_)
  obtain ⟨y8, hc, hf⟩ := bd_of hf
  refine g_cVv (Cn := RX8) C (ct_X8_grants g l N a0 y7.1 y7.2 hc) gX8_step_X8_grants rfl 1 (by decide +kernel) ⟨rfl, rfl, ⟨Nat.le_of_ble_eq_true rfl, Nat.le_of_ble_eq_true rfl⟩, Nat.le_of_ble_eq_true rfl, Nat.le_of_ble_eq_true rfl⟩ rfl hl (Nat.le_of_ble_eq_true rfl) dX8_step_86 rfl hW hA [0] rfl rfl rfl (ch' := [kX8 g a0 y8]) rfl 0 rfl rfl rfl (fun H locs hW => ?_)
  refine lv_aload_n hx hb dX8_step_89 rfl (lv_at hl 0 rfl) ?_
  refine g_get C hW inX8 0 rfl rfl rfl 16 (by decide) (List.mem_of_getElem? (i := 2) rfl) (v := .ref (a0 5)) rfl dX8_step_90 ?_
  refine lv_iconst (v := (0 : Int32)) hx hb dX8_step_93 (by decide) ?_
  refine lv_dup2_11 hx hb dX8_step_94 rfl rfl ?_
  obtain ⟨hi, hf⟩ := gd_of hf
  refine g_iald C hW 0 5 rfl (f := (y8 16)) rfl (ib_in hi) dX8_step_95 ?_
  refine lv_iconst (v := (1 : Int32)) hx hb dX8_step_96 (by decide) ?_
  refine lv_iadd hx hb dX8_step_97 ?_
  obtain ⟨hi, hf⟩ := gd_of hf
  refine g_iast C hW 0 5 rfl (f := (y8 16)) rfl (ib_in hi) (kX8_w16 g a0 y8 (upd (y8 16) (Int32.toNatClampNeg (0 : Int32)) (((y8 16) (Int32.toNatClampNeg (0 : Int32))) + (1 : Int32)))) (ch' := [kX8 g a0 (st y8 16 (upd (y8 16) (Int32.toNatClampNeg (0 : Int32)) (((y8 16) (Int32.toNatClampNeg (0 : Int32))) + (1 : Int32))))]) rfl dX8_step_98 (fun H locs hW => ?_)
  obtain rfl := Option.some.inj hf
  subst hQ
  exact g_vret C hr hk0 hW rfl rfl dX8_step_99
