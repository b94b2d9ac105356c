def fX0_open_L54 (N : Nat) (k : Int32 → MM → Option (Int32 × MM)) (x1 : Int32) (x2 : Int32) : Nat → Int32 → MM → Option (Int32 × MM)
  | 0, _, _ => none
  | n + 1, x3, v0 => (if (6 : Int32) ≤ x3 then k x3 v0 else (if ib ((x2 * (6 : Int32)) + x3) 360 = true then fX0_open_L54 N k x1 x2 n (x3 + 1) (st v0 5 (upd (v0 5) (Int32.toNatClampNeg ((x2 * (6 : Int32)) + x3)) (0 : Int32))) else none))
def fX0_open (N : Nat) (x1 : Int32) (v0 : MM) : Option (Int32 × MM) := (if (v0 0 0) < 0 then some ((-1 : Int32), v0) else (if (v0 0 0) < (60 : Int32) then (if ib (v0 0 0) 60 = true then (if ib (v0 0 0) 60 = true then (if ib (v0 0 0) 60 = true then (if ib (v0 0 0) 60 = true then (fX0_open_L54 N (fun (x3_1 : Int32) (v0_1 : MM) => some ((v0 0 0), (st v0_1 0 (fun _ => ((v0_1 0 0) + (1 : Int32)))))) x1 (v0 0 0) N (0 : Int32) (st (st (st (st v0 1 (upd (v0 1) (Int32.toNatClampNeg (v0 0 0)) x1)) 2 (upd (v0 2) (Int32.toNatClampNeg (v0 0 0)) (-1 : Int32))) 3 (upd (v0 3) (Int32.toNatClampNeg (v0 0 0)) (0 : Int32))) 4 (upd (v0 4) (Int32.toNatClampNeg (v0 0 0)) (-9 : Int32)))) else none) else none) else none) else none) else some ((-1 : Int32), v0)))
set_option maxHeartbeats 4000000 in
set_option maxRecDepth 100000 in
theorem ct_X0_open (g : GT) (l : Launch) (N : Nat) (a0 : Nat → Nat) (x1 : Int32) (v0 : MM) {y : Int32 × MM} (hf : fX0_open N x1 v0 = some y) : ct g l yX0_open wsX0_open (rmk 0 0) [.ref (a0 0), .int x1] [kX0 g a0 v0] (some (.int y.1)) [kX0 g a0 y.2] := by
  refine ct_of (cc := cX0_open) (maxL := 4) (ret := (some .int)) (by decide) rfl (Nat.le_of_ble_eq_true rfl) ?_
  intro p e s m args below meth c A ls C hr hk0 hA hW hl
  have hx := C.1.1
  have hb := C.1.2.1
  replace hl : lv_has ls 4 [(0, .ref (a0 0)), (1, .int x1)] := hl
  obtain ⟨Q, hQ⟩ : ∃ Q, Q = MQ below (ctQ g A (some (.int y.1)) [kX0 g a0 y.2]) args s 0 0 A := ⟨_, rfl⟩
  rw [← hQ]
  obtain ⟨H, hH⟩ : ∃ H, H = s.heap := ⟨_, rfl⟩
  obtain ⟨locs, hL⟩ : ∃ locs : List Loc, locs = [] := ⟨_, rfl⟩
  replace hW : wd g A s.heap [kX0 g a0 v0] H locs := by rw [hH, hL]; exact hW
  suffices hG : W p l e (rmk 0 0) s m args below meth c H locs 0 0 Q (F0 m 0 ls []) by
    rw [hH, hL] at hG; exact hG
  clear hH hL
  have inX0 : ∀ w ∈ wsX00, w ∈ wsX0_open := fun _ h => List.mem_cons_of_mem _ (List.mem_append_right _ (h))
  have L54 : ∀ (x1 : Int32) (x2 : Int32) (k : Int32 → MM → Option (Int32 × MM)) (hk : ∀ (x3 : Int32) (v0 : MM) (H : Heap) (locs : List Loc) (ls : Array Slot), k x3 v0 = some y → wd g A s.heap [kX0 g a0 v0] H locs → lv_has ls 4 [(0, .ref (a0 0)), (1, .int x1), (2, .int x2), (3, .int x3)] → W p l e (rmk 0 0) s m args below meth c H locs 0 0 Q (F0 m 78 ls [])) (n : Nat) (x3 : Int32) (v0 : MM) (H : Heap) (locs : List Loc) (ls : Array Slot), fX0_open_L54 N k x1 x2 n x3 v0 = some y → wd g A s.heap [kX0 g a0 v0] H locs → lv_has ls 4 [(0, .ref (a0 0)), (1, .int x1), (2, .int x2), (3, .int x3)] → W p l e (rmk 0 0) s m args below meth c H locs 0 0 Q (F0 m 54 ls []) := by
    intro x1 x2 k hk n
    induction n with
    | zero => intro x3 v0 H locs ls hf; rw [fX0_open_L54] at hf; cases hf
    | succ n ih =>
      intro x3 v0 H locs ls hf hW hl
      rw [fX0_open_L54] at hf
      refine lv_iload_n hx hb dX0_open_54 rfl (lv_at hl 3 rfl) ?_
      refine lv_bipush (v := (6 : Int32)) hx hb dX0_open_55 (by decide) ?_
      refine lv_icmp_ge (tgt := 78) hx hb dX0_open_57 (by decide) (fun h => ?_) (fun h => ?_)
      · replace hf := (if_pos h).symm.trans hf
        exact hk _ _ H locs ls hf hW (lv_sub hl [0, 1, 2, 3] rfl)
      · replace hf := (if_neg h).symm.trans hf
        refine lv_aload_n hx hb dX0_open_60 rfl (lv_at hl 0 rfl) ?_
        refine g_get C hW inX0 0 rfl rfl rfl 5 (by decide) (List.mem_of_getElem? (i := 6) rfl) (v := .ref (a0 5)) rfl dX0_open_61 ?_
        refine lv_iload_n hx hb dX0_open_64 rfl (lv_at hl 2 rfl) ?_
        refine lv_bipush (v := (6 : Int32)) hx hb dX0_open_65 (by decide) ?_
        refine lv_imul hx hb dX0_open_67 ?_
        refine lv_iload_n hx hb dX0_open_68 rfl (lv_at hl 3 rfl) ?_
        refine lv_iadd hx hb dX0_open_69 ?_
        refine lv_iconst (v := (0 : Int32)) hx hb dX0_open_70 (by decide) ?_
        obtain ⟨hi, hf⟩ := gd_of hf
        refine g_iast C hW 0 5 rfl (f := (v0 5)) rfl (ib_in hi) (kX0_w5 g a0 v0 (upd (v0 5) (Int32.toNatClampNeg ((x2 * (6 : Int32)) + x3)) (0 : Int32))) (ch' := [kX0 g a0 (st v0 5 (upd (v0 5) (Int32.toNatClampNeg ((x2 * (6 : Int32)) + x3)) (0 : Int32)))]) rfl dX0_open_71 (fun H locs hW => ?_)
        refine lv_iinc (v := (x3 + 1)) (lv' := [(3, .int (x3 + 1)), (0, .ref (a0 0)), (1, .int x1), (2, .int x2)]) hx hb dX0_open_72 hl (k := 3) rfl (by first | rfl | decide) (by decide) rfl (fun ls hl => ?_)
        refine lv_goto (tgt := 54) hx hb dX0_open_75 (by decide) ?_
        exact ih _ _ H locs ls hf hW (lv_sub hl [1, 2, 3, 0] rfl)
  rw [fX0_open] at hf
  refine lv_aload_n hx hb dX0_open_0 rfl (lv_at hl 0 rfl) ?_
  refine g_get C hW inX0 0 rfl rfl rfl 0 (by decide) (List.mem_of_getElem? (i := 1) rfl) (v := .int (v0 0 0)) rfl dX0_open_1 ?_
  refine lv_if_lt (tgt := 16) hx hb dX0_open_4 (by decide) (fun h => ?_) (fun h => ?_)
  · replace hf := (if_pos h).symm.trans hf
    refine lv_iconst (v := (-1 : Int32)) hx hb dX0_open_16 (by decide) ?_
    obtain rfl := Option.some.inj hf
    subst hQ
    exact g_iret C hr hk0 hW rfl rfl dX0_open_17
  · replace hf := (if_neg h).symm.trans hf
    refine lv_aload_n hx hb dX0_open_7 rfl (lv_at hl 0 rfl) ?_
    refine g_get C hW inX0 0 rfl rfl rfl 0 (by decide) (List.mem_of_getElem? (i := 1) rfl) (v := .int (v0 0 0)) rfl dX0_open_8 ?_
    refine lv_bipush (v := (60 : Int32)) hx hb dX0_open_11 (by decide) ?_
    refine lv_icmp_lt (tgt := 18) hx hb dX0_open_13 (by decide) (fun h => ?_) (fun h => ?_)
    · replace hf := (if_pos h).symm.trans hf
      refine lv_aload_n hx hb dX0_open_18 rfl (lv_at hl 0 rfl) ?_
      refine g_get C hW inX0 0 rfl rfl rfl 0 (by decide) (List.mem_of_getElem? (i := 1) rfl) (v := .int (v0 0 0)) rfl dX0_open_19 ?_
      refine lv_istore_n (lv' := [(2, .int (v0 0 0)), (0, .ref (a0 0)), (1, .int x1)]) hx hb dX0_open_22 rfl hl (by decide) rfl (fun ls hl => ?_)
      refine lv_aload_n hx hb dX0_open_23 rfl (lv_at hl 1 rfl) ?_
      refine g_get C hW inX0 0 rfl rfl rfl 1 (by decide) (List.mem_of_getElem? (i := 2) rfl) (v := .ref (a0 1)) rfl dX0_open_24 ?_
      refine lv_iload_n hx hb dX0_open_27 rfl (lv_at hl 0 rfl) ?_
      refine lv_iload_n hx hb dX0_open_28 rfl (lv_at hl 2 rfl) ?_
      obtain ⟨hi, hf⟩ := gd_of hf
      refine g_iast C hW 0 1 rfl (f := (v0 1)) rfl (ib_in hi) (kX0_w1 g a0 v0 (upd (v0 1) (Int32.toNatClampNeg (v0 0 0)) x1)) (ch' := [kX0 g a0 (st v0 1 (upd (v0 1) (Int32.toNatClampNeg (v0 0 0)) x1))]) rfl dX0_open_29 (fun H locs hW => ?_)
      refine lv_aload_n hx hb dX0_open_30 rfl (lv_at hl 1 rfl) ?_
      refine g_get C hW inX0 0 rfl rfl rfl 2 (by decide) (List.mem_of_getElem? (i := 3) rfl) (v := .ref (a0 2)) rfl dX0_open_31 ?_
      refine lv_iload_n hx hb dX0_open_34 rfl (lv_at hl 0 rfl) ?_
      refine lv_iconst (v := (-1 : Int32)) hx hb dX0_open_35 (by decide) ?_
      obtain ⟨hi, hf⟩ := gd_of hf
      refine g_iast C hW 0 2 rfl (f := (v0 2)) rfl (ib_in hi) (kX0_w2 g a0 (st v0 1 (upd (v0 1) (Int32.toNatClampNeg (v0 0 0)) x1)) (upd (v0 2) (Int32.toNatClampNeg (v0 0 0)) (-1 : Int32))) (ch' := [kX0 g a0 (st (st v0 1 (upd (v0 1) (Int32.toNatClampNeg (v0 0 0)) x1)) 2 (upd (v0 2) (Int32.toNatClampNeg (v0 0 0)) (-1 : Int32)))]) rfl dX0_open_36 (fun H locs hW => ?_)
      refine lv_aload_n hx hb dX0_open_37 rfl (lv_at hl 1 rfl) ?_
      refine g_get C hW inX0 0 rfl rfl rfl 3 (by decide) (List.mem_of_getElem? (i := 4) rfl) (v := .ref (a0 3)) rfl dX0_open_38 ?_
      refine lv_iload_n hx hb dX0_open_41 rfl (lv_at hl 0 rfl) ?_
      refine lv_iconst (v := (0 : Int32)) hx hb dX0_open_42 (by decide) ?_
      obtain ⟨hi, hf⟩ := gd_of hf
      refine g_iast C hW 0 3 rfl (f := (v0 3)) rfl (ib_in hi) (kX0_w3 g a0 (st (st v0 1 (upd (v0 1) (Int32.toNatClampNeg (v0 0 0)) x1)) 2 (upd (v0 2) (Int32.toNatClampNeg (v0 0 0)) (-1 : Int32))) (upd (v0 3) (Int32.toNatClampNeg (v0 0 0)) (0 : Int32))) (ch' := [kX0 g a0 (st (st (st v0 1 (upd (v0 1) (Int32.toNatClampNeg (v0 0 0)) x1)) 2 (upd (v0 2) (Int32.toNatClampNeg (v0 0 0)) (-1 : Int32))) 3 (upd (v0 3) (Int32.toNatClampNeg (v0 0 0)) (0 : Int32)))]) rfl dX0_open_43 (fun H locs hW => ?_)
      refine lv_aload_n hx hb dX0_open_44 rfl (lv_at hl 1 rfl) ?_
      refine g_get C hW inX0 0 rfl rfl rfl 4 (by decide) (List.mem_of_getElem? (i := 5) rfl) (v := .ref (a0 4)) rfl dX0_open_45 ?_
      refine lv_iload_n hx hb dX0_open_48 rfl (lv_at hl 0 rfl) ?_
      refine lv_bipush (v := (-9 : Int32)) hx hb dX0_open_49 (by decide) ?_
      obtain ⟨hi, hf⟩ := gd_of hf
      refine g_iast C hW 0 4 rfl (f := (v0 4)) rfl (ib_in hi) (kX0_w4 g a0 (st (st (st v0 1 (upd (v0 1) (Int32.toNatClampNeg (v0 0 0)) x1)) 2 (upd (v0 2) (Int32.toNatClampNeg (v0 0 0)) (-1 : Int32))) 3 (upd (v0 3) (Int32.toNatClampNeg (v0 0 0)) (0 : Int32))) (upd (v0 4) (Int32.toNatClampNeg (v0 0 0)) (-9 : Int32))) (ch' := [kX0 g a0 (st (st (st (st v0 1 (upd (v0 1) (Int32.toNatClampNeg (v0 0 0)) x1)) 2 (upd (v0 2) (Int32.toNatClampNeg (v0 0 0)) (-1 : Int32))) 3 (upd (v0 3) (Int32.toNatClampNeg (v0 0 0)) (0 : Int32))) 4 (upd (v0 4) (Int32.toNatClampNeg (v0 0 0)) (-9 : Int32)))]) rfl dX0_open_51 (fun H locs hW => ?_)
      refine lv_iconst (v := (0 : Int32)) hx hb dX0_open_52 (by decide) ?_
      refine lv_istore_n (lv' := [(3, .int (0 : Int32)), (2, .int (v0 0 0)), (0, .ref (a0 0)), (1, .int x1)]) hx hb dX0_open_53 rfl hl (by decide) rfl (fun ls hl => ?_)
      refine L54 x1 (v0 0 0) _ (fun x3_1 v0_1 H locs ls hf hW hl => ?_) N (0 : Int32) (st (st (st (st v0 1 (upd (v0 1) (Int32.toNatClampNeg (v0 0 0)) x1)) 2 (upd (v0 2) (Int32.toNatClampNeg (v0 0 0)) (-1 : Int32))) 3 (upd (v0 3) (Int32.toNatClampNeg (v0 0 0)) (0 : Int32))) 4 (upd (v0 4) (Int32.toNatClampNeg (v0 0 0)) (-9 : Int32))) H locs ls hf hW (lv_sub hl [2, 3, 1, 0] rfl)
      refine lv_aload_n hx hb dX0_open_78 rfl (lv_at hl 0 rfl) ?_
      refine lv_dup hx hb dX0_open_79 rfl ?_
      refine g_get C hW inX0 0 rfl rfl rfl 0 (by decide) (List.mem_of_getElem? (i := 1) rfl) (v := .int (v0_1 0 0)) rfl dX0_open_80 ?_
      refine lv_iconst (v := (1 : Int32)) hx hb dX0_open_83 (by decide) ?_
      refine lv_iadd hx hb dX0_open_84 ?_
      refine g_put C hW inX0 tyX0_ok nmX0 0 rfl rfl rfl 0 (by decide) (List.mem_of_getElem? (i := 1) rfl) rfl rfl rfl rfl (kX0_s0 g a0 v0_1 ((v0_1 0 0) + (1 : Int32))) (ch' := [kX0 g a0 (st v0_1 0 (fun _ => ((v0_1 0 0) + (1 : Int32))))]) rfl dX0_open_85 (fun H locs hW => ?_)
      refine lv_iload_n hx hb dX0_open_88 rfl (lv_at hl 2 rfl) ?_
      obtain rfl := Option.some.inj hf
      subst hQ
      exact g_iret C hr hk0 hW rfl rfl dX0_open_89
    · replace hf := (if_neg h).symm.trans hf
      refine lv_iconst (v := (-1 : Int32)) hx hb dX0_open_16 (by decide) ?_
      obtain rfl := Option.some.inj hf
      subst hQ
      exact g_iret C hr hk0 hW rfl rfl dX0_open_17
def fX0_isDue (N : Nat) (x1 : Int32) (x2 : Int32) (x3 : Int32) (v0 : MM) : Option (Int32) := (if x1 < 0 then some (0 : Int32) else (if (60 : Int32) ≤ x1 then some (0 : Int32) else (if ib x1 60 = true then (if ((v0 1) (Int32.toNatClampNeg x1)) = x2 then (if ib x1 60 = true then (if ((v0 2) (Int32.toNatClampNeg x1)) = x3 then some (1 : Int32) else some (0 : Int32)) else none) else some (0 : Int32)) else none)))
set_option maxHeartbeats 4000000 in
set_option maxRecDepth 100000 in
theorem ct_X0_isDue (g : GT) (l : Launch) (N : Nat) (a0 : Nat → Nat) (x1 : Int32) (x2 : Int32) (x3 : Int32) (v0 : MM) {y : Int32} (hf : fX0_isDue N x1 x2 x3 v0 = some y) : ct g l yX0_isDue wsX0_isDue (rmk 0 0) [.ref (a0 0), .int x1, .int x2, .int x3] [kX0 g a0 v0] (some (.int y)) [kX0 g a0 v0] := by
  refine ct_of (cc := cX0_isDue) (maxL := 4) (ret := (some .boolean)) (by decide) rfl (Nat.le_of_ble_eq_true rfl) ?_
  intro p e s m args below meth c A ls C hr hk0 hA hW hl
  have hx := C.1.1
  have hb := C.1.2.1
  replace hl : lv_has ls 4 [(0, .ref (a0 0)), (1, .int x1), (2, .int x2), (3, .int x3)] := hl
  obtain ⟨Q, hQ⟩ : ∃ Q, Q = MQ below (ctQ g A (some (.int y)) [kX0 g a0 v0]) args s 0 0 A := ⟨_, rfl⟩
  rw [← hQ]
  obtain ⟨H, hH⟩ : ∃ H, H = s.heap := ⟨_, rfl⟩
  obtain ⟨locs, hL⟩ : ∃ locs : List Loc, locs = [] := ⟨_, rfl⟩
  replace hW : wd g A s.heap [kX0 g a0 v0] H locs := by rw [hH, hL]; exact hW
  suffices hG : W p l e (rmk 0 0) s m args below meth c H locs 0 0 Q (F0 m 0 ls []) by
    rw [hH, hL] at hG; exact hG
  clear hH hL
  have inX0 : ∀ w ∈ wsX00, w ∈ wsX0_isDue := fun _ h => List.mem_cons_of_mem _ (List.mem_append_right _ (h))
  rw [fX0_isDue] at hf
  refine lv_iload_n hx hb dX0_isDue_0 rfl (lv_at hl 1 rfl) ?_
  refine lv_if_lt (tgt := 34) hx hb dX0_isDue_1 (by decide) (fun h => ?_) (fun h => ?_)
  · replace hf := (if_pos h).symm.trans hf
    refine lv_iconst (v := (0 : Int32)) hx hb dX0_isDue_34 (by decide) ?_
    obtain rfl := Option.some.inj hf
    subst hQ
    exact g_zret C hr hk0 hW rfl rfl rfl dX0_isDue_35
  · replace hf := (if_neg h).symm.trans hf
    refine lv_iload_n hx hb dX0_isDue_4 rfl (lv_at hl 1 rfl) ?_
    refine lv_bipush (v := (60 : Int32)) hx hb dX0_isDue_5 (by decide) ?_
    refine lv_icmp_ge (tgt := 34) hx hb dX0_isDue_7 (by decide) (fun h => ?_) (fun h => ?_)
    · replace hf := (if_pos h).symm.trans hf
      refine lv_iconst (v := (0 : Int32)) hx hb dX0_isDue_34 (by decide) ?_
      obtain rfl := Option.some.inj hf
      subst hQ
      exact g_zret C hr hk0 hW rfl rfl rfl dX0_isDue_35
    · replace hf := (if_neg h).symm.trans hf
      refine lv_aload_n hx hb dX0_isDue_10 rfl (lv_at hl 0 rfl) ?_
      refine g_get C hW inX0 0 rfl rfl rfl 1 (by decide) (List.mem_of_getElem? (i := 1) rfl) (v := .ref (a0 1)) rfl dX0_isDue_11 ?_
      refine lv_iload_n hx hb dX0_isDue_14 rfl (lv_at hl 1 rfl) ?_
      obtain ⟨hi, hf⟩ := gd_of hf
      refine g_iald C hW 0 1 rfl (f := (v0 1)) rfl (ib_in hi) dX0_isDue_15 ?_
      refine lv_iload_n hx hb dX0_isDue_16 rfl (lv_at hl 2 rfl) ?_
      refine lv_icmp_ne (tgt := 34) hx hb dX0_isDue_17 (by decide) (fun h => ?_) (fun h => ?_)
      · replace hf := (if_neg h).symm.trans hf
        refine lv_iconst (v := (0 : Int32)) hx hb dX0_isDue_34 (by decide) ?_
        obtain rfl := Option.some.inj hf
        subst hQ
        exact g_zret C hr hk0 hW rfl rfl rfl dX0_isDue_35
      · replace hf := (if_pos h).symm.trans hf
        refine lv_aload_n hx hb dX0_isDue_20 rfl (lv_at hl 0 rfl) ?_
        refine g_get C hW inX0 0 rfl rfl rfl 2 (by decide) (List.mem_of_getElem? (i := 2) rfl) (v := .ref (a0 2)) rfl dX0_isDue_21 ?_
        refine lv_iload_n hx hb dX0_isDue_24 rfl (lv_at hl 1 rfl) ?_
        obtain ⟨hi, hf⟩ := gd_of hf
        refine g_iald C hW 0 2 rfl (f := (v0 2)) rfl (ib_in hi) dX0_isDue_25 ?_
        refine lv_iload_n hx hb dX0_isDue_26 rfl (lv_at hl 3 rfl) ?_
        refine lv_icmp_ne (tgt := 34) hx hb dX0_isDue_27 (by decide) (fun h => ?_) (fun h => ?_)
        · replace hf := (if_neg h).symm.trans hf
          refine lv_iconst (v := (0 : Int32)) hx hb dX0_isDue_34 (by decide) ?_
          obtain rfl := Option.some.inj hf
          subst hQ
          exact g_zret C hr hk0 hW rfl rfl rfl dX0_isDue_35
        · replace hf := (if_pos h).symm.trans hf
          refine lv_iconst (v := (1 : Int32)) hx hb dX0_isDue_30 (by decide) ?_
          refine lv_goto (tgt := 35) hx hb dX0_isDue_31 (by decide) ?_
          obtain rfl := Option.some.inj hf
          subst hQ
          exact g_zret C hr hk0 hW rfl rfl rfl dX0_isDue_35
def fX0_putLetters (N : Nat) (x1 : Int32) (x2 : Int32) (x3 : Int32) (v0 : MM) : Option (MM) := (if ((x1 * (6 : Int32)) + x2) < 0 then some v0 else (if (360 : Int32) ≤ ((x1 * (6 : Int32)) + x2) then some v0 else (if ib ((x1 * (6 : Int32)) + x2) 360 = true then (if ib ((x1 * (6 : Int32)) + x2) 360 = true then some (st v0 5 (upd (v0 5) (Int32.toNatClampNeg ((x1 * (6 : Int32)) + x2)) (((v0 5) (Int32.toNatClampNeg ((x1 * (6 : Int32)) + x2))) + x3))) else none) else none)))
set_option maxHeartbeats 4000000 in
set_option maxRecDepth 100000 in
theorem ct_X0_putLetters (g : GT) (l : Launch) (N : Nat) (a0 : Nat → Nat) (x1 : Int32) (x2 : Int32) (x3 : Int32) (v0 : MM) {y : MM} (hf : fX0_putLetters N x1 x2 x3 v0 = some y) : ct g l yX0_putLetters wsX0_putLetters (rmk 0 0) [.ref (a0 0), .int x1, .int x2, .int x3] [kX0 g a0 v0] none [kX0 g a0 y] := by
  refine ct_of (cc := cX0_putLetters) (maxL := 5) (ret := none) (by decide) rfl (Nat.le_of_ble_eq_true rfl) ?_
  intro p e s m args below meth c A ls C hr hk0 hA hW hl
  have hx := C.1.1
  have hb := C.1.2.1
  replace hl : lv_has ls 5 [(0, .ref (a0 0)), (1, .int x1), (2, .int x2), (3, .int x3)] := hl
  obtain ⟨Q, hQ⟩ : ∃ Q, Q = MQ below (ctQ g A none [kX0 g a0 y]) args s 0 0 A := ⟨_, rfl⟩
  rw [← hQ]
  obtain ⟨H, hH⟩ : ∃ H, H = s.heap := ⟨_, rfl⟩
  obtain ⟨locs, hL⟩ : ∃ locs : List Loc, locs = [] := ⟨_, rfl⟩
  replace hW : wd g A s.heap [kX0 g a0 v0] H locs := by rw [hH, hL]; exact hW
  suffices hG : W p l e (rmk 0 0) s m args below meth c H locs 0 0 Q (F0 m 0 ls []) by
    rw [hH, hL] at hG; exact hG
  clear hH hL
  have inX0 : ∀ w ∈ wsX00, w ∈ wsX0_putLetters := fun _ h => List.mem_cons_of_mem _ (List.mem_append_right _ (h))
  rw [fX0_putLetters] at hf
  refine lv_iload_n hx hb dX0_putLetters_0 rfl (lv_at hl 1 rfl) ?_
  refine lv_bipush (v := (6 : Int32)) hx hb dX0_putLetters_1 (by decide) ?_
  refine lv_imul hx hb dX0_putLetters_3 ?_
  refine lv_iload_n hx hb dX0_putLetters_4 rfl (lv_at hl 2 rfl) ?_
  refine lv_iadd hx hb dX0_putLetters_5 ?_
  refine lv_istore (lv' := [(4, .int ((x1 * (6 : Int32)) + x2)), (0, .ref (a0 0)), (1, .int x1), (2, .int x2), (3, .int x3)]) hx hb dX0_putLetters_6 hl (by decide) rfl (fun ls hl => ?_)
  refine lv_iload hx hb dX0_putLetters_8 (lv_at hl 0 rfl) ?_
  refine lv_if_lt (tgt := 34) hx hb dX0_putLetters_10 (by decide) (fun h => ?_) (fun h => ?_)
  · replace hf := (if_pos h).symm.trans hf
    obtain rfl := Option.some.inj hf
    subst hQ
    exact g_vret C hr hk0 hW rfl rfl dX0_putLetters_34
  · replace hf := (if_neg h).symm.trans hf
    refine lv_iload hx hb dX0_putLetters_13 (lv_at hl 0 rfl) ?_
    refine lv_aload_n hx hb dX0_putLetters_15 rfl (lv_at hl 1 rfl) ?_
    refine g_get C hW inX0 0 rfl rfl rfl 5 (by decide) (List.mem_of_getElem? (i := 1) rfl) (v := .ref (a0 5)) rfl dX0_putLetters_16 ?_
    refine g_alen C hW 0 5 0 rfl rfl rfl (v := (360 : Int32)) (by first | rfl | decide) dX0_putLetters_19 ?_
    refine lv_icmp_ge (tgt := 34) hx hb dX0_putLetters_20 (by decide) (fun h => ?_) (fun h => ?_)
    · replace hf := (if_pos h).symm.trans hf
      obtain rfl := Option.some.inj hf
      subst hQ
      exact g_vret C hr hk0 hW rfl rfl dX0_putLetters_34
    · replace hf := (if_neg h).symm.trans hf
      refine lv_aload_n hx hb dX0_putLetters_23 rfl (lv_at hl 1 rfl) ?_
      refine g_get C hW inX0 0 rfl rfl rfl 5 (by decide) (List.mem_of_getElem? (i := 1) rfl) (v := .ref (a0 5)) rfl dX0_putLetters_24 ?_
      refine lv_iload hx hb dX0_putLetters_27 (lv_at hl 0 rfl) ?_
      refine lv_dup2_11 hx hb dX0_putLetters_29 rfl rfl ?_
      obtain ⟨hi, hf⟩ := gd_of hf
      refine g_iald C hW 0 5 rfl (f := (v0 5)) rfl (ib_in hi) dX0_putLetters_30 ?_
      refine lv_iload_n hx hb dX0_putLetters_31 rfl (lv_at hl 4 rfl) ?_
      refine lv_iadd hx hb dX0_putLetters_32 ?_
      obtain ⟨hi, hf⟩ := gd_of hf
      refine g_iast C hW 0 5 rfl (f := (v0 5)) rfl (ib_in hi) (kX0_w5 g a0 v0 (upd (v0 5) (Int32.toNatClampNeg ((x1 * (6 : Int32)) + x2)) (((v0 5) (Int32.toNatClampNeg ((x1 * (6 : Int32)) + x2))) + x3))) (ch' := [kX0 g a0 (st v0 5 (upd (v0 5) (Int32.toNatClampNeg ((x1 * (6 : Int32)) + x2)) (((v0 5) (Int32.toNatClampNeg ((x1 * (6 : Int32)) + x2))) + x3)))]) rfl dX0_putLetters_33 (fun H locs hW => ?_)
      obtain rfl := Option.some.inj hf
      subst hQ
      exact g_vret C hr hk0 hW rfl rfl dX0_putLetters_34
def fX0_lettersOf (N : Nat) (x1 : Int32) (x2 : Int32) (v0 : MM) : Option (Int32) := (if ((x1 * (6 : Int32)) + x2) < 0 then some (0 : Int32) else (if (360 : Int32) ≤ ((x1 * (6 : Int32)) + x2) then some (0 : Int32) else (if ib ((x1 * (6 : Int32)) + x2) 360 = true then some ((v0 5) (Int32.toNatClampNeg ((x1 * (6 : Int32)) + x2))) else none)))
set_option maxHeartbeats 4000000 in
set_option maxRecDepth 100000 in
theorem ct_X0_lettersOf (g : GT) (l : Launch) (N : Nat) (a0 : Nat → Nat) (x1 : Int32) (x2 : Int32) (v0 : MM) {y : Int32} (hf : fX0_lettersOf N x1 x2 v0 = some y) : ct g l yX0_lettersOf wsX0_lettersOf (rmk 0 0) [.ref (a0 0), .int x1, .int x2] [kX0 g a0 v0] (some (.int y)) [kX0 g a0 v0] := by
  refine ct_of (cc := cX0_lettersOf) (maxL := 4) (ret := (some .int)) (by decide) rfl (Nat.le_of_ble_eq_true rfl) ?_
  intro p e s m args below meth c A ls C hr hk0 hA hW hl
  have hx := C.1.1
  have hb := C.1.2.1
  replace hl : lv_has ls 4 [(0, .ref (a0 0)), (1, .int x1), (2, .int x2)] := hl
  obtain ⟨Q, hQ⟩ : ∃ Q, Q = MQ below (ctQ g A (some (.int y)) [kX0 g a0 v0]) args s 0 0 A := ⟨_, rfl⟩
  rw [← hQ]
  obtain ⟨H, hH⟩ : ∃ H, H = s.heap := ⟨_, rfl⟩
  obtain ⟨locs, hL⟩ : ∃ locs : List Loc, locs = [] := ⟨_, rfl⟩
  replace hW : wd g A s.heap [kX0 g a0 v0] H locs := by rw [hH, hL]; exact hW
  suffices hG : W p l e (rmk 0 0) s m args below meth c H locs 0 0 Q (F0 m 0 ls []) by
    rw [hH, hL] at hG; exact hG
  clear hH hL
  have inX0 : ∀ w ∈ wsX00, w ∈ wsX0_lettersOf := fun _ h => List.mem_cons_of_mem _ (List.mem_append_right _ (h))
  rw [fX0_lettersOf] at hf
  refine lv_iload_n hx hb dX0_lettersOf_0 rfl (lv_at hl 1 rfl) ?_
  refine lv_bipush (v := (6 : Int32)) hx hb dX0_lettersOf_1 (by decide) ?_
  refine lv_imul hx hb dX0_lettersOf_3 ?_
  refine lv_iload_n hx hb dX0_lettersOf_4 rfl (lv_at hl 2 rfl) ?_
  refine lv_iadd hx hb dX0_lettersOf_5 ?_
  refine lv_istore_n (lv' := [(3, .int ((x1 * (6 : Int32)) + x2)), (0, .ref (a0 0)), (1, .int x1), (2, .int x2)]) hx hb dX0_lettersOf_6 rfl hl (by decide) rfl (fun ls hl => ?_)
  refine lv_iload_n hx hb dX0_lettersOf_7 rfl (lv_at hl 0 rfl) ?_
  refine lv_if_lt (tgt := 29) hx hb dX0_lettersOf_8 (by decide) (fun h => ?_) (fun h => ?_)
  · replace hf := (if_pos h).symm.trans hf
    refine lv_iconst (v := (0 : Int32)) hx hb dX0_lettersOf_29 (by decide) ?_
    obtain rfl := Option.some.inj hf
    subst hQ
    exact g_iret C hr hk0 hW rfl rfl dX0_lettersOf_30
  · replace hf := (if_neg h).symm.trans hf
    refine lv_iload_n hx hb dX0_lettersOf_11 rfl (lv_at hl 0 rfl) ?_
    refine lv_aload_n hx hb dX0_lettersOf_12 rfl (lv_at hl 1 rfl) ?_
    refine g_get C hW inX0 0 rfl rfl rfl 5 (by decide) (List.mem_of_getElem? (i := 1) rfl) (v := .ref (a0 5)) rfl dX0_lettersOf_13 ?_
    refine g_alen C hW 0 5 0 rfl rfl rfl (v := (360 : Int32)) (by first | rfl | decide) dX0_lettersOf_16 ?_
    refine lv_icmp_ge (tgt := 29) hx hb dX0_lettersOf_17 (by decide) (fun h => ?_) (fun h => ?_)
    · replace hf := (if_pos h).symm.trans hf
      refine lv_iconst (v := (0 : Int32)) hx hb dX0_lettersOf_29 (by decide) ?_
      obtain rfl := Option.some.inj hf
      subst hQ
      exact g_iret C hr hk0 hW rfl rfl dX0_lettersOf_30
    · replace hf := (if_neg h).symm.trans hf
      refine lv_aload_n hx hb dX0_lettersOf_20 rfl (lv_at hl 1 rfl) ?_
      refine g_get C hW inX0 0 rfl rfl rfl 5 (by decide) (List.mem_of_getElem? (i := 1) rfl) (v := .ref (a0 5)) rfl dX0_lettersOf_21 ?_
      refine lv_iload_n hx hb dX0_lettersOf_24 rfl (lv_at hl 0 rfl) ?_
      obtain ⟨hi, hf⟩ := gd_of hf
      refine g_iald C hW 0 5 rfl (f := (v0 5)) rfl (ib_in hi) dX0_lettersOf_25 ?_
      refine lv_goto (tgt := 30) hx hb dX0_lettersOf_26 (by decide) ?_
      obtain rfl := Option.some.inj hf
      subst hQ
      exact g_iret C hr hk0 hW rfl rfl dX0_lettersOf_30
def fX0_addLettersTo_L8 (N : Nat) (k : Int32 → (Nat → Int32) → Option ((Nat → Int32))) (x2 : Int32) (x3 : Int32) (n1 : Nat) (v0 : MM) : Nat → Int32 → (Nat → Int32) → Option ((Nat → Int32))
  | 0, _, _ => none
  | n + 1, x4, v1 => (if (6 : Int32) ≤ x4 then k x4 v1 else (if (Int32.ofNat n1) ≤ x4 then k x4 v1 else (if ib x4 n1 = true then (if (x3 + x4) < 0 then (if ib x4 n1 = true then fX0_addLettersTo_L8 N k x2 x3 n1 v0 n (x4 + 1) (upd v1 (Int32.toNatClampNeg x4) ((v1 (Int32.toNatClampNeg x4)) + (0 : Int32))) else none) else (if (360 : Int32) ≤ (x3 + x4) then (if ib x4 n1 = true then fX0_addLettersTo_L8 N k x2 x3 n1 v0 n (x4 + 1) (upd v1 (Int32.toNatClampNeg x4) ((v1 (Int32.toNatClampNeg x4)) + (0 : Int32))) else none) else (if ib (x3 + x4) 360 = true then (if ib x4 n1 = true then fX0_addLettersTo_L8 N k x2 x3 n1 v0 n (x4 + 1) (upd v1 (Int32.toNatClampNeg x4) ((v1 (Int32.toNatClampNeg x4)) + ((v0 5) (Int32.toNatClampNeg (x3 + x4))))) else none) else none))) else none)))
def fX0_addLettersTo (N : Nat) (x2 : Int32) (n1 : Nat) (v0 : MM) (v1 : Nat → Int32) : Option ((Nat → Int32)) := (fX0_addLettersTo_L8 N (fun (x4_1 : Int32) (v1_1 : (Nat → Int32)) => some v1_1) x2 (x2 * (6 : Int32)) n1 v0 N (0 : Int32) v1)
set_option maxHeartbeats 4000000 in
set_option maxRecDepth 100000 in
theorem ct_X0_addLettersTo (g : GT) (l : Launch) (N : Nat) (a0 : Nat → Nat) (a1 : Nat) (x2 : Int32) (n1 : Nat) (v0 : MM) (v1 : Nat → Int32) {y : (Nat → Int32)} (hf : fX0_addLettersTo N x2 n1 v0 v1 = some y) : ct g l yX0_addLettersTo wsX0_addLettersTo (rmk 0 0) [.ref (a0 0), .ref a1, .int x2] [kX0 g a0 v0, [(a1, .inl (g.2.1, n1, .inl v1))]] none [kX0 g a0 v0, [(a1, .inl (g.2.1, n1, .inl y))]] := by
  refine ct_of (cc := cX0_addLettersTo) (maxL := 6) (ret := none) (by decide) rfl (Nat.le_of_ble_eq_true rfl) ?_
  intro p e s m args below meth c A ls C hr hk0 hA hW hl
  have hx := C.1.1
  have hb := C.1.2.1
  replace hl : lv_has ls 6 [(0, .ref (a0 0)), (1, .ref a1), (2, .int x2)] := hl
  obtain ⟨Q, hQ⟩ : ∃ Q, Q = MQ below (ctQ g A none [kX0 g a0 v0, [(a1, .inl (g.2.1, n1, .inl y))]]) args s 0 0 A := ⟨_, rfl⟩
  rw [← hQ]
  obtain ⟨H, hH⟩ : ∃ H, H = s.heap := ⟨_, rfl⟩
  obtain ⟨locs, hL⟩ : ∃ locs : List Loc, locs = [] := ⟨_, rfl⟩
  replace hW : wd g A s.heap [kX0 g a0 v0, [(a1, .inl (g.2.1, n1, .inl v1))]] H locs := by rw [hH, hL]; exact hW
  suffices hG : W p l e (rmk 0 0) s m args below meth c H locs 0 0 Q (F0 m 0 ls []) by
    rw [hH, hL] at hG; exact hG
  clear hH hL
  have inX0 : ∀ w ∈ wsX00, w ∈ wsX0_addLettersTo := fun _ h => List.mem_cons_of_mem _ (List.mem_append_right _ (h))
  have L8 : ∀ (x2 : Int32) (x3 : Int32) (k : Int32 → (Nat → Int32) → Option ((Nat → Int32))) (hk : ∀ (x4 : Int32) (v1 : (Nat → Int32)) (H : Heap) (locs : List Loc) (ls : Array Slot), k x4 v1 = some y → wd g A s.heap [kX0 g a0 v0, [(a1, .inl (g.2.1, n1, .inl v1))]] H locs → lv_has ls 6 [(0, .ref (a0 0)), (1, .ref a1), (2, .int x2), (3, .int x3), (4, .int x4)] → W p l e (rmk 0 0) s m args below meth c H locs 0 0 Q (F0 m 67 ls [])) (n : Nat) (x4 : Int32) (v1 : (Nat → Int32)) (H : Heap) (locs : List Loc) (ls : Array Slot), fX0_addLettersTo_L8 N k x2 x3 n1 v0 n x4 v1 = some y → wd g A s.heap [kX0 g a0 v0, [(a1, .inl (g.2.1, n1, .inl v1))]] H locs → lv_has ls 6 [(0, .ref (a0 0)), (1, .ref a1), (2, .int x2), (3, .int x3), (4, .int x4)] → W p l e (rmk 0 0) s m args below meth c H locs 0 0 Q (F0 m 8 ls []) := by
    intro x2 x3 k hk n
    induction n with
    | zero => intro x4 v1 H locs ls hf; rw [fX0_addLettersTo_L8] at hf; cases hf
    | succ n ih =>
      intro x4 v1 H locs ls hf hW hl
      rw [fX0_addLettersTo_L8] at hf
      refine lv_iload hx hb dX0_addLettersTo_8 (lv_at hl 4 rfl) ?_
      refine lv_bipush (v := (6 : Int32)) hx hb dX0_addLettersTo_10 (by decide) ?_
      refine lv_icmp_ge (tgt := 67) hx hb dX0_addLettersTo_12 (by decide) (fun h => ?_) (fun h => ?_)
      · replace hf := (if_pos h).symm.trans hf
        exact hk _ _ H locs ls hf hW (lv_sub hl [0, 1, 2, 3, 4] rfl)
      · replace hf := (if_neg h).symm.trans hf
        refine lv_iload hx hb dX0_addLettersTo_15 (lv_at hl 4 rfl) ?_
        refine lv_aload_n hx hb dX0_addLettersTo_17 rfl (lv_at hl 1 rfl) ?_
        refine g_alen C hW 1 0 0 rfl rfl rfl (v := (Int32.ofNat n1)) (by first | rfl | decide) dX0_addLettersTo_18 ?_
        refine lv_icmp_ge (tgt := 67) hx hb dX0_addLettersTo_19 (by decide) (fun h => ?_) (fun h => ?_)
        · replace hf := (if_pos h).symm.trans hf
          exact hk _ _ H locs ls hf hW (lv_sub hl [0, 1, 2, 3, 4] rfl)
        · replace hf := (if_neg h).symm.trans hf
          refine lv_iload_n hx hb dX0_addLettersTo_22 rfl (lv_at hl 3 rfl) ?_
          refine lv_iload hx hb dX0_addLettersTo_23 (lv_at hl 4 rfl) ?_
          refine lv_iadd hx hb dX0_addLettersTo_25 ?_
          refine lv_istore (lv' := [(5, .int (x3 + x4)), (0, .ref (a0 0)), (1, .ref a1), (2, .int x2), (3, .int x3), (4, .int x4)]) hx hb dX0_addLettersTo_26 hl (by decide) rfl (fun ls hl => ?_)
          refine lv_aload_n hx hb dX0_addLettersTo_28 rfl (lv_at hl 2 rfl) ?_
          refine lv_iload hx hb dX0_addLettersTo_29 (lv_at hl 5 rfl) ?_
          refine lv_dup2_11 hx hb dX0_addLettersTo_31 rfl rfl ?_
          obtain ⟨hi, hf⟩ := gd_of hf
          refine g_iald C hW 1 0 rfl (f := v1) rfl (ib_in hi) dX0_addLettersTo_32 ?_
          refine lv_iload hx hb dX0_addLettersTo_33 (lv_at hl 0 rfl) ?_
          refine lv_if_lt (tgt := 58) hx hb dX0_addLettersTo_35 (by decide) (fun h => ?_) (fun h => ?_)
          · replace hf := (if_pos h).symm.trans hf
            refine lv_iconst (v := (0 : Int32)) hx hb dX0_addLettersTo_58 (by decide) ?_
            refine lv_iadd hx hb dX0_addLettersTo_59 ?_
            obtain ⟨hi, hf⟩ := gd_of hf
            refine g_iast C hW 1 0 rfl (f := v1) rfl (ib_in hi) (rfl) (ch' := [kX0 g a0 v0, [(a1, .inl (g.2.1, n1, .inl (upd v1 (Int32.toNatClampNeg x4) ((v1 (Int32.toNatClampNeg x4)) + (0 : Int32)))))]]) rfl dX0_addLettersTo_60 (fun H locs hW => ?_)
            refine lv_iinc (v := (x4 + 1)) (lv' := [(4, .int (x4 + 1)), (5, .int (x3 + x4)), (0, .ref (a0 0)), (1, .ref a1), (2, .int x2), (3, .int x3)]) hx hb dX0_addLettersTo_61 hl (k := 5) rfl (by first | rfl | decide) (by decide) rfl (fun ls hl => ?_)
            refine lv_goto (tgt := 8) hx hb dX0_addLettersTo_64 (by decide) ?_
            exact ih _ _ H locs ls hf hW (lv_sub hl [2, 3, 4, 5, 0] rfl)
          · replace hf := (if_neg h).symm.trans hf
            refine lv_iload hx hb dX0_addLettersTo_38 (lv_at hl 0 rfl) ?_
            refine lv_aload_n hx hb dX0_addLettersTo_40 rfl (lv_at hl 1 rfl) ?_
            refine g_get C hW inX0 0 rfl rfl rfl 5 (by decide) (List.mem_of_getElem? (i := 1) rfl) (v := .ref (a0 5)) rfl dX0_addLettersTo_41 ?_
            refine g_alen C hW 0 5 0 rfl rfl rfl (v := (360 : Int32)) (by first | rfl | decide) dX0_addLettersTo_44 ?_
            refine lv_icmp_ge (tgt := 58) hx hb dX0_addLettersTo_45 (by decide) (fun h => ?_) (fun h => ?_)
            · replace hf := (if_pos h).symm.trans hf
              refine lv_iconst (v := (0 : Int32)) hx hb dX0_addLettersTo_58 (by decide) ?_
              refine lv_iadd hx hb dX0_addLettersTo_59 ?_
              obtain ⟨hi, hf⟩ := gd_of hf
              refine g_iast C hW 1 0 rfl (f := v1) rfl (ib_in hi) (rfl) (ch' := [kX0 g a0 v0, [(a1, .inl (g.2.1, n1, .inl (upd v1 (Int32.toNatClampNeg x4) ((v1 (Int32.toNatClampNeg x4)) + (0 : Int32)))))]]) rfl dX0_addLettersTo_60 (fun H locs hW => ?_)
              refine lv_iinc (v := (x4 + 1)) (lv' := [(4, .int (x4 + 1)), (5, .int (x3 + x4)), (0, .ref (a0 0)), (1, .ref a1), (2, .int x2), (3, .int x3)]) hx hb dX0_addLettersTo_61 hl (k := 5) rfl (by first | rfl | decide) (by decide) rfl (fun ls hl => ?_)
              refine lv_goto (tgt := 8) hx hb dX0_addLettersTo_64 (by decide) ?_
              exact ih _ _ H locs ls hf hW (lv_sub hl [2, 3, 4, 5, 0] rfl)
            · replace hf := (if_neg h).symm.trans hf
              refine lv_aload_n hx hb dX0_addLettersTo_48 rfl (lv_at hl 1 rfl) ?_
              refine g_get C hW inX0 0 rfl rfl rfl 5 (by decide) (List.mem_of_getElem? (i := 1) rfl) (v := .ref (a0 5)) rfl dX0_addLettersTo_49 ?_
              refine lv_iload hx hb dX0_addLettersTo_52 (lv_at hl 0 rfl) ?_
              obtain ⟨hi, hf⟩ := gd_of hf
              refine g_iald C hW 0 5 rfl (f := (v0 5)) rfl (ib_in hi) dX0_addLettersTo_54 ?_
              refine lv_goto (tgt := 59) hx hb dX0_addLettersTo_55 (by decide) ?_
              refine lv_iadd hx hb dX0_addLettersTo_59 ?_
              obtain ⟨hi, hf⟩ := gd_of hf
              refine g_iast C hW 1 0 rfl (f := v1) rfl (ib_in hi) (rfl) (ch' := [kX0 g a0 v0, [(a1, .inl (g.2.1, n1, .inl (upd v1 (Int32.toNatClampNeg x4) ((v1 (Int32.toNatClampNeg x4)) + ((v0 5) (Int32.toNatClampNeg (x3 + x4)))))))]]) rfl dX0_addLettersTo_60 (fun H locs hW => ?_)
              refine lv_iinc (v := (x4 + 1)) (lv' := [(4, .int (x4 + 1)), (5, .int (x3 + x4)), (0, .ref (a0 0)), (1, .ref a1), (2, .int x2), (3, .int x3)]) hx hb dX0_addLettersTo_61 hl (k := 5) rfl (by first | rfl | decide) (by decide) rfl (fun ls hl => ?_)
              refine lv_goto (tgt := 8) hx hb dX0_addLettersTo_64 (by decide) ?_
              exact ih _ _ H locs ls hf hW (lv_sub hl [2, 3, 4, 5, 0] rfl)
  rw [fX0_addLettersTo] at hf
  refine lv_iload_n hx hb dX0_addLettersTo_0 rfl (lv_at hl 2 rfl) ?_
  refine lv_bipush (v := (6 : Int32)) hx hb dX0_addLettersTo_1 (by decide) ?_
  refine lv_imul hx hb dX0_addLettersTo_3 ?_
  refine lv_istore_n (lv' := [(3, .int (x2 * (6 : Int32))), (0, .ref (a0 0)), (1, .ref a1), (2, .int x2)]) hx hb dX0_addLettersTo_4 rfl hl (by decide) rfl (fun ls hl => ?_)
  refine lv_iconst (v := (0 : Int32)) hx hb dX0_addLettersTo_5 (by decide) ?_
  refine lv_istore (lv' := [(4, .int (0 : Int32)), (3, .int (x2 * (6 : Int32))), (0, .ref (a0 0)), (1, .ref a1), (2, .int x2)]) hx hb dX0_addLettersTo_6 hl (by decide) rfl (fun ls hl => ?_)
  refine L8 x2 (x2 * (6 : Int32)) _ (fun x4_1 v1_1 H locs ls hf hW hl => ?_) N (0 : Int32) v1 H locs ls hf hW (lv_sub hl [2, 3, 4, 1, 0] rfl)
  obtain rfl := Option.some.inj hf
  subst hQ
  exact g_vret C hr hk0 hW rfl rfl dX0_addLettersTo_67
def fX0_allLetters_L10 (N : Nat) (k : Int32 → Int32 → Option (Int32)) (x1 : Int32) (x2 : Int32) (v0 : MM) : Nat → Int32 → Int32 → Option (Int32)
  | 0, _, _ => none
  | n + 1, x3, x4 => (if x4 < 0 then k x3 x4 else (if (x2 + (6 : Int32)) ≤ x4 then k x3 x4 else (if (360 : Int32) ≤ x4 then k x3 x4 else (if ib x4 360 = true then fX0_allLetters_L10 N k x1 x2 v0 n (x3 + ((v0 5) (Int32.toNatClampNeg x4))) (x4 + 1) else none))))
def fX0_allLetters (N : Nat) (x1 : Int32) (v0 : MM) : Option (Int32) := (fX0_allLetters_L10 N (fun (x3_1 : Int32) (x4_1 : Int32) => some x3_1) x1 (x1 * (6 : Int32)) v0 N (0 : Int32) (x1 * (6 : Int32)))
set_option maxHeartbeats 4000000 in
set_option maxRecDepth 100000 in
theorem ct_X0_allLetters (g : GT) (l : Launch) (N : Nat) (a0 : Nat → Nat) (x1 : Int32) (v0 : MM) {y : Int32} (hf : fX0_allLetters N x1 v0 = some y) : ct g l yX0_allLetters wsX0_allLetters (rmk 0 0) [.ref (a0 0), .int x1] [kX0 g a0 v0] (some (.int y)) [kX0 g a0 v0] := by
  refine ct_of (cc := cX0_allLetters) (maxL := 5) (ret := (some .int)) (by decide) rfl (Nat.le_of_ble_eq_true rfl) ?_
  intro p e s m args below meth c A ls C hr hk0 hA hW hl
  have hx := C.1.1
  have hb := C.1.2.1
  replace hl : lv_has ls 5 [(0, .ref (a0 0)), (1, .int x1)] := hl
  obtain ⟨Q, hQ⟩ : ∃ Q, Q = MQ below (ctQ g A (some (.int y)) [kX0 g a0 v0]) args s 0 0 A := ⟨_, rfl⟩
  rw [← hQ]
  obtain ⟨H, hH⟩ : ∃ H, H = s.heap := ⟨_, rfl⟩
  obtain ⟨locs, hL⟩ : ∃ locs : List Loc, locs = [] := ⟨_, rfl⟩
  replace hW : wd g A s.heap [kX0 g a0 v0] H locs := by rw [hH, hL]; exact hW
  suffices hG : W p l e (rmk 0 0) s m args below meth c H locs 0 0 Q (F0 m 0 ls []) by
    rw [hH, hL] at hG; exact hG
  clear hH hL
  have inX0 : ∀ w ∈ wsX00, w ∈ wsX0_allLetters := fun _ h => List.mem_cons_of_mem _ (List.mem_append_right _ (h))
  have L10 : ∀ (x1 : Int32) (x2 : Int32) (k : Int32 → Int32 → Option (Int32)) (hk : ∀ (x3 : Int32) (x4 : Int32) (H : Heap) (locs : List Loc) (ls : Array Slot), k x3 x4 = some y → wd g A s.heap [kX0 g a0 v0] H locs → lv_has ls 5 [(0, .ref (a0 0)), (1, .int x1), (2, .int x2), (3, .int x3), (4, .int x4)] → W p l e (rmk 0 0) s m args below meth c H locs 0 0 Q (F0 m 50 ls [])) (n : Nat) (x3 : Int32) (x4 : Int32) (H : Heap) (locs : List Loc) (ls : Array Slot), fX0_allLetters_L10 N k x1 x2 v0 n x3 x4 = some y → wd g A s.heap [kX0 g a0 v0] H locs → lv_has ls 5 [(0, .ref (a0 0)), (1, .int x1), (2, .int x2), (3, .int x3), (4, .int x4)] → W p l e (rmk 0 0) s m args below meth c H locs 0 0 Q (F0 m 10 ls []) := by
    intro x1 x2 k hk n
    induction n with
    | zero => intro x3 x4 H locs ls hf; rw [fX0_allLetters_L10] at hf; cases hf
    | succ n ih =>
      intro x3 x4 H locs ls hf hW hl
      rw [fX0_allLetters_L10] at hf
      refine lv_iload hx hb dX0_allLetters_10 (lv_at hl 4 rfl) ?_
      refine lv_if_lt (tgt := 50) hx hb dX0_allLetters_12 (by decide) (fun h => ?_) (fun h => ?_)
      · replace hf := (if_pos h).symm.trans hf
        exact hk _ _ H locs ls hf hW (lv_sub hl [0, 1, 2, 3, 4] rfl)
      · replace hf := (if_neg h).symm.trans hf
        refine lv_iload hx hb dX0_allLetters_15 (lv_at hl 4 rfl) ?_
        refine lv_iload_n hx hb dX0_allLetters_17 rfl (lv_at hl 2 rfl) ?_
        refine lv_bipush (v := (6 : Int32)) hx hb dX0_allLetters_18 (by decide) ?_
        refine lv_iadd hx hb dX0_allLetters_20 ?_
        refine lv_icmp_ge (tgt := 50) hx hb dX0_allLetters_21 (by decide) (fun h => ?_) (fun h => ?_)
        · replace hf := (if_pos h).symm.trans hf
          exact hk _ _ H locs ls hf hW (lv_sub hl [0, 1, 2, 3, 4] rfl)
        · replace hf := (if_neg h).symm.trans hf
          refine lv_iload hx hb dX0_allLetters_24 (lv_at hl 4 rfl) ?_
          refine lv_aload_n hx hb dX0_allLetters_26 rfl (lv_at hl 0 rfl) ?_
          refine g_get C hW inX0 0 rfl rfl rfl 5 (by decide) (List.mem_of_getElem? (i := 1) rfl) (v := .ref (a0 5)) rfl dX0_allLetters_27 ?_
          refine g_alen C hW 0 5 0 rfl rfl rfl (v := (360 : Int32)) (by first | rfl | decide) dX0_allLetters_30 ?_
          refine lv_icmp_ge (tgt := 50) hx hb dX0_allLetters_31 (by decide) (fun h => ?_) (fun h => ?_)
          · replace hf := (if_pos h).symm.trans hf
            exact hk _ _ H locs ls hf hW (lv_sub hl [0, 1, 2, 3, 4] rfl)
          · replace hf := (if_neg h).symm.trans hf
            refine lv_iload_n hx hb dX0_allLetters_34 rfl (lv_at hl 3 rfl) ?_
            refine lv_aload_n hx hb dX0_allLetters_35 rfl (lv_at hl 0 rfl) ?_
            refine g_get C hW inX0 0 rfl rfl rfl 5 (by decide) (List.mem_of_getElem? (i := 1) rfl) (v := .ref (a0 5)) rfl dX0_allLetters_36 ?_
            refine lv_iload hx hb dX0_allLetters_39 (lv_at hl 4 rfl) ?_
            obtain ⟨hi, hf⟩ := gd_of hf
            refine g_iald C hW 0 5 rfl (f := (v0 5)) rfl (ib_in hi) dX0_allLetters_41 ?_
            refine lv_iadd hx hb dX0_allLetters_42 ?_
            refine lv_istore_n (lv' := [(3, .int (x3 + ((v0 5) (Int32.toNatClampNeg x4)))), (0, .ref (a0 0)), (1, .int x1), (2, .int x2), (4, .int x4)]) hx hb dX0_allLetters_43 rfl hl (by decide) rfl (fun ls hl => ?_)
            refine lv_iinc (v := (x4 + 1)) (lv' := [(4, .int (x4 + 1)), (3, .int (x3 + ((v0 5) (Int32.toNatClampNeg x4)))), (0, .ref (a0 0)), (1, .int x1), (2, .int x2)]) hx hb dX0_allLetters_44 hl (k := 4) rfl (by first | rfl | decide) (by decide) rfl (fun ls hl => ?_)
            refine lv_goto (tgt := 10) hx hb dX0_allLetters_47 (by decide) ?_
            exact ih _ _ H locs ls hf hW (lv_sub hl [2, 3, 4, 1, 0] rfl)
  rw [fX0_allLetters] at hf
  refine lv_iload_n hx hb dX0_allLetters_0 rfl (lv_at hl 1 rfl) ?_
  refine lv_bipush (v := (6 : Int32)) hx hb dX0_allLetters_1 (by decide) ?_
  refine lv_imul hx hb dX0_allLetters_3 ?_
  refine lv_istore_n (lv' := [(2, .int (x1 * (6 : Int32))), (0, .ref (a0 0)), (1, .int x1)]) hx hb dX0_allLetters_4 rfl hl (by decide) rfl (fun ls hl => ?_)
  refine lv_iconst (v := (0 : Int32)) hx hb dX0_allLetters_5 (by decide) ?_
  refine lv_istore_n (lv' := [(3, .int (0 : Int32)), (2, .int (x1 * (6 : Int32))), (0, .ref (a0 0)), (1, .int x1)]) hx hb dX0_allLetters_6 rfl hl (by decide) rfl (fun ls hl => ?_)
  refine lv_iload_n hx hb dX0_allLetters_7 rfl (lv_at hl 1 rfl) ?_
  refine lv_istore (lv' := [(4, .int (x1 * (6 : Int32))), (3, .int (0 : Int32)), (2, .int (x1 * (6 : Int32))), (0, .ref (a0 0)), (1, .int x1)]) hx hb dX0_allLetters_8 hl (by decide) rfl (fun ls hl => ?_)
  refine L10 x1 (x1 * (6 : Int32)) _ (fun x3_1 x4_1 H locs ls hf hW hl => ?_) N (0 : Int32) (x1 * (6 : Int32)) H locs ls hf hW (lv_sub hl [3, 4, 2, 1, 0] rfl)
  refine lv_iload_n hx hb dX0_allLetters_50 rfl (lv_at hl 3 rfl) ?_
  obtain rfl := Option.some.inj hf
  subst hQ
  exact g_iret C hr hk0 hW rfl rfl dX0_allLetters_51
def fX0_putReport (N : Nat) (x1 : Int32) (x2 : Int32) (v0 : MM) : Option (MM) := (if x1 < 0 then some v0 else (if (60 : Int32) ≤ x1 then some v0 else (if ib x1 60 = true then some (st v0 4 (upd (v0 4) (Int32.toNatClampNeg x1) x2)) else none)))
set_option maxHeartbeats 4000000 in
set_option maxRecDepth 100000 in
theorem ct_X0_putReport (g : GT) (l : Launch) (N : Nat) (a0 : Nat → Nat) (x1 : Int32) (x2 : Int32) (v0 : MM) {y : MM} (hf : fX0_putReport N x1 x2 v0 = some y) : ct g l yX0_putReport wsX0_putReport (rmk 0 0) [.ref (a0 0), .int x1, .int x2] [kX0 g a0 v0] none [kX0 g a0 y] := by
  refine ct_of (cc := cX0_putReport) (maxL := 3) (ret := none) (by decide) rfl (Nat.le_of_ble_eq_true rfl) ?_
  intro p e s m args below meth c A ls C hr hk0 hA hW hl
  have hx := C.1.1
  have hb := C.1.2.1
  replace hl : lv_has ls 3 [(0, .ref (a0 0)), (1, .int x1), (2, .int x2)] := hl
  obtain ⟨Q, hQ⟩ : ∃ Q, Q = MQ below (ctQ g A none [kX0 g a0 y]) args s 0 0 A := ⟨_, rfl⟩
  rw [← hQ]
  obtain ⟨H, hH⟩ : ∃ H, H = s.heap := ⟨_, rfl⟩
  obtain ⟨locs, hL⟩ : ∃ locs : List Loc, locs = [] := ⟨_, rfl⟩
  replace hW : wd g A s.heap [kX0 g a0 v0] H locs := by rw [hH, hL]; exact hW
  suffices hG : W p l e (rmk 0 0) s m args below meth c H locs 0 0 Q (F0 m 0 ls []) by
    rw [hH, hL] at hG; exact hG
  clear hH hL
  have inX0 : ∀ w ∈ wsX00, w ∈ wsX0_putReport := fun _ h => List.mem_cons_of_mem _ (List.mem_append_right _ (h))
  rw [fX0_putReport] at hf
  refine lv_iload_n hx hb dX0_putReport_0 rfl (lv_at hl 1 rfl) ?_
  refine lv_if_lt (tgt := 17) hx hb dX0_putReport_1 (by decide) (fun h => ?_) (fun h => ?_)
  · replace hf := (if_pos h).symm.trans hf
    obtain rfl := Option.some.inj hf
    subst hQ
    exact g_vret C hr hk0 hW rfl rfl dX0_putReport_17
  · replace hf := (if_neg h).symm.trans hf
    refine lv_iload_n hx hb dX0_putReport_4 rfl (lv_at hl 1 rfl) ?_
    refine lv_bipush (v := (60 : Int32)) hx hb dX0_putReport_5 (by decide) ?_
    refine lv_icmp_ge (tgt := 17) hx hb dX0_putReport_7 (by decide) (fun h => ?_) (fun h => ?_)
    · replace hf := (if_pos h).symm.trans hf
      obtain rfl := Option.some.inj hf
      subst hQ
      exact g_vret C hr hk0 hW rfl rfl dX0_putReport_17
    · replace hf := (if_neg h).symm.trans hf
      refine lv_aload_n hx hb dX0_putReport_10 rfl (lv_at hl 0 rfl) ?_
      refine g_get C hW inX0 0 rfl rfl rfl 4 (by decide) (List.mem_of_getElem? (i := 1) rfl) (v := .ref (a0 4)) rfl dX0_putReport_11 ?_
      refine lv_iload_n hx hb dX0_putReport_14 rfl (lv_at hl 1 rfl) ?_
      refine lv_iload_n hx hb dX0_putReport_15 rfl (lv_at hl 2 rfl) ?_
      obtain ⟨hi, hf⟩ := gd_of hf
      refine g_iast C hW 0 4 rfl (f := (v0 4)) rfl (ib_in hi) (kX0_w4 g a0 v0 (upd (v0 4) (Int32.toNatClampNeg x1) x2)) (ch' := [kX0 g a0 (st v0 4 (upd (v0 4) (Int32.toNatClampNeg x1) x2))]) rfl dX0_putReport_16 (fun H locs hW => ?_)
      obtain rfl := Option.some.inj hf
      subst hQ
      exact g_vret C hr hk0 hW rfl rfl dX0_putReport_17
def fX0_reportOf (N : Nat) (x1 : Int32) (v0 : MM) : Option (Int32) := (if x1 < 0 then some (-9 : Int32) else (if (60 : Int32) ≤ x1 then some (-9 : Int32) else (if ib x1 60 = true then some ((v0 4) (Int32.toNatClampNeg x1)) else none)))
set_option maxHeartbeats 4000000 in
set_option maxRecDepth 100000 in
theorem ct_X0_reportOf (g : GT) (l : Launch) (N : Nat) (a0 : Nat → Nat) (x1 : Int32) (v0 : MM) {y : Int32} (hf : fX0_reportOf N x1 v0 = some y) : ct g l yX0_reportOf wsX0_reportOf (rmk 0 0) [.ref (a0 0), .int x1] [kX0 g a0 v0] (some (.int y)) [kX0 g a0 v0] := by
  refine ct_of (cc := cX0_reportOf) (maxL := 2) (ret := (some .int)) (by decide) rfl (Nat.le_of_ble_eq_true rfl) ?_
  intro p e s m args below meth c A ls C hr hk0 hA hW hl
  have hx := C.1.1
  have hb := C.1.2.1
  replace hl : lv_has ls 2 [(0, .ref (a0 0)), (1, .int x1)] := hl
  obtain ⟨Q, hQ⟩ : ∃ Q, Q = MQ below (ctQ g A (some (.int y)) [kX0 g a0 v0]) args s 0 0 A := ⟨_, rfl⟩
  rw [← hQ]
  obtain ⟨H, hH⟩ : ∃ H, H = s.heap := ⟨_, rfl⟩
  obtain ⟨locs, hL⟩ : ∃ locs : List Loc, locs = [] := ⟨_, rfl⟩
  replace hW : wd g A s.heap [kX0 g a0 v0] H locs := by rw [hH, hL]; exact hW
  suffices hG : W p l e (rmk 0 0) s m args below meth c H locs 0 0 Q (F0 m 0 ls []) by
    rw [hH, hL] at hG; exact hG
  clear hH hL
  have inX0 : ∀ w ∈ wsX00, w ∈ wsX0_reportOf := fun _ h => List.mem_cons_of_mem _ (List.mem_append_right _ (h))
  rw [fX0_reportOf] at hf
  refine lv_iload_n hx hb dX0_reportOf_0 rfl (lv_at hl 1 rfl) ?_
  refine lv_if_lt (tgt := 19) hx hb dX0_reportOf_1 (by decide) (fun h => ?_) (fun h => ?_)
  · replace hf := (if_pos h).symm.trans hf
    refine lv_bipush (v := (-9 : Int32)) hx hb dX0_reportOf_19 (by decide) ?_
    obtain rfl := Option.some.inj hf
    subst hQ
    exact g_iret C hr hk0 hW rfl rfl dX0_reportOf_21
  · replace hf := (if_neg h).symm.trans hf
    refine lv_iload_n hx hb dX0_reportOf_4 rfl (lv_at hl 1 rfl) ?_
    refine lv_bipush (v := (60 : Int32)) hx hb dX0_reportOf_5 (by decide) ?_
    refine lv_icmp_ge (tgt := 19) hx hb dX0_reportOf_7 (by decide) (fun h => ?_) (fun h => ?_)
    · replace hf := (if_pos h).symm.trans hf
      refine lv_bipush (v := (-9 : Int32)) hx hb dX0_reportOf_19 (by decide) ?_
      obtain rfl := Option.some.inj hf
      subst hQ
      exact g_iret C hr hk0 hW rfl rfl dX0_reportOf_21
    · replace hf := (if_neg h).symm.trans hf
      refine lv_aload_n hx hb dX0_reportOf_10 rfl (lv_at hl 0 rfl) ?_
      refine g_get C hW inX0 0 rfl rfl rfl 4 (by decide) (List.mem_of_getElem? (i := 1) rfl) (v := .ref (a0 4)) rfl dX0_reportOf_11 ?_
      refine lv_iload_n hx hb dX0_reportOf_14 rfl (lv_at hl 1 rfl) ?_
      obtain ⟨hi, hf⟩ := gd_of hf
      refine g_iald C hW 0 4 rfl (f := (v0 4)) rfl (ib_in hi) dX0_reportOf_15 ?_
      refine lv_goto (tgt := 21) hx hb dX0_reportOf_16 (by decide) ?_
      obtain rfl := Option.some.inj hf
      subst hQ
      exact g_iret C hr hk0 hW rfl rfl dX0_reportOf_21
def fX0_content (N : Nat) (x1 : Int32) (v0 : MM) : Option (Int32) := ((fX0_allLetters N x1 v0).bind (fun y1 => ((fX0_reportOf N x1 v0).bind (fun y2 => (if y2 = (-9 : Int32) then some (y1 + (0 : Int32)) else some (y1 + (2 : Int32)))))))
set_option maxHeartbeats 4000000 in
set_option maxRecDepth 100000 in
theorem ct_X0_content (g : GT) (l : Launch) (N : Nat) (a0 : Nat → Nat) (x1 : Int32) (v0 : MM) {y : Int32} (hf : fX0_content N x1 v0 = some y) : ct g l yX0_content wsX0_content (rmk 1 24) [.ref (a0 0), .int x1] [kX0 g a0 v0] (some (.int y)) [kX0 g a0 v0] := by
  refine ct_of (cc := cX0_content) (maxL := 2) (ret := (some .int)) (by decide) rfl (Nat.le_of_ble_eq_true rfl) ?_
  intro p e s m args below meth c A ls C hr hk0 hA hW hl
  have hx := C.1.1
  have hb := C.1.2.1
  replace hl : lv_has ls 2 [(0, .ref (a0 0)), (1, .int x1)] := hl
  obtain ⟨Q, hQ⟩ : ∃ Q, Q = MQ below (ctQ g A (some (.int y)) [kX0 g a0 v0]) args s 0 0 A := ⟨_, rfl⟩
  rw [← hQ]
  obtain ⟨H, hH⟩ : ∃ H, H = s.heap := ⟨_, rfl⟩
  obtain ⟨locs, hL⟩ : ∃ locs : List Loc, locs = [] := ⟨_, rfl⟩
  replace hW : wd g A s.heap [kX0 g a0 v0] H locs := by rw [hH, hL]; exact hW
  suffices hG : W p l e (rmk 1 24) s m args below meth c H locs 0 0 Q (F0 m 0 ls []) by
    rw [hH, hL] at hG; exact hG
  clear hH hL
  rw [fX0_content] at hf
  refine lv_aload_n hx hb dX0_content_0 rfl (lv_at hl 0 rfl) ?_
  refine lv_iload_n hx hb dX0_content_1 rfl (lv_at hl 1 rfl) ?_
  obtain ⟨y1, hc, hf⟩ := bd_of hf
  refine g_cV (Cn := RX0) C (ct_X0_allLetters g l N a0 x1 v0 hc) gX0_content_X0_allLetters rfl 1 (by decide +kernel) ⟨rfl, rfl, ⟨Nat.le_of_ble_eq_true rfl, Nat.le_of_ble_eq_true rfl⟩, Nat.le_of_ble_eq_true rfl, Nat.le_of_ble_eq_true rfl⟩ rfl hl (Nat.le_of_ble_eq_true rfl) dX0_content_2 rfl hW hA [0] rfl rfl rfl (ch' := [kX0 g a0 v0]) rfl 0 rfl rfl rfl (fun H locs hW => ?_)
  refine lv_aload_n hx hb dX0_content_5 rfl (lv_at hl 0 rfl) ?_
  refine lv_iload_n hx hb dX0_content_6 rfl (lv_at hl 1 rfl) ?_
  obtain ⟨y2, hc, hf⟩ := bd_of hf
  refine g_cV (Cn := RX0) C (ct_X0_reportOf g l N a0 x1 v0 hc) gX0_content_X0_reportOf rfl 1 (by decide +kernel) ⟨rfl, rfl, ⟨Nat.le_of_ble_eq_true rfl, Nat.le_of_ble_eq_true rfl⟩, Nat.le_of_ble_eq_true rfl, Nat.le_of_ble_eq_true rfl⟩ rfl hl (Nat.le_of_ble_eq_true rfl) dX0_content_7 rfl hW hA [0] rfl rfl rfl (ch' := [kX0 g a0 v0]) rfl 0 rfl rfl rfl (fun H locs hW => ?_)
  refine lv_bipush (v := (-9 : Int32)) hx hb dX0_content_10 (by decide) ?_
  refine lv_icmp_ne (tgt := 19) hx hb dX0_content_12 (by decide) (fun h => ?_) (fun h => ?_)
  · replace hf := (if_neg h).symm.trans hf
    refine lv_iconst (v := (2 : Int32)) hx hb dX0_content_19 (by decide) ?_
    refine lv_iadd hx hb dX0_content_20 ?_
    obtain rfl := Option.some.inj hf
    subst hQ
    exact g_iret C hr hk0 hW rfl rfl dX0_content_21
  · replace hf := (if_pos h).symm.trans hf
    refine lv_iconst (v := (0 : Int32)) hx hb dX0_content_15 (by decide) ?_
    refine lv_goto (tgt := 20) hx hb dX0_content_16 (by decide) ?_
    refine lv_iadd hx hb dX0_content_20 ?_
    obtain rfl := Option.some.inj hf
    subst hQ
    exact g_iret C hr hk0 hW rfl rfl dX0_content_21
def fX0_countSending (N : Nat) (x1 : Int32) (v0 : MM) : Option (Int32 × MM) := (if x1 < 0 then some ((0 : Int32), v0) else (if x1 < (60 : Int32) then (if ib x1 60 = true then (if ib x1 60 = true then (if ib x1 60 = true then some (((upd (v0 3) (Int32.toNatClampNeg x1) (((v0 3) (Int32.toNatClampNeg x1)) + (1 : Int32))) (Int32.toNatClampNeg x1)), (st v0 3 (upd (v0 3) (Int32.toNatClampNeg x1) (((v0 3) (Int32.toNatClampNeg x1)) + (1 : Int32))))) else none) else none) else none) else some ((0 : Int32), v0)))
set_option maxHeartbeats 4000000 in
set_option maxRecDepth 100000 in
theorem ct_X0_countSending (g : GT) (l : Launch) (N : Nat) (a0 : Nat → Nat) (x1 : Int32) (v0 : MM) {y : Int32 × MM} (hf : fX0_countSending N x1 v0 = some y) : ct g l yX0_countSending wsX0_countSending (rmk 0 0) [.ref (a0 0), .int x1] [kX0 g a0 v0] (some (.int y.1)) [kX0 g a0 y.2] := by
  refine ct_of (cc := cX0_countSending) (maxL := 2) (ret := (some .int)) (by decide) rfl (Nat.le_of_ble_eq_true rfl) ?_
  intro p e s m args below meth c A ls C hr hk0 hA hW hl
  have hx := C.1.1
  have hb := C.1.2.1
  replace hl : lv_has ls 2 [(0, .ref (a0 0)), (1, .int x1)] := hl
  obtain ⟨Q, hQ⟩ : ∃ Q, Q = MQ below (ctQ g A (some (.int y.1)) [kX0 g a0 y.2]) args s 0 0 A := ⟨_, rfl⟩
  rw [← hQ]
  obtain ⟨H, hH⟩ : ∃ H, H = s.heap := ⟨_, rfl⟩
  obtain ⟨locs, hL⟩ : ∃ locs : List Loc, locs = [] := ⟨_, rfl⟩
  replace hW : wd g A s.heap [kX0 g a0 v0] H locs := by rw [hH, hL]; exact hW
  suffices hG : W p l e (rmk 0 0) s m args below meth c H locs 0 0 Q (F0 m 0 ls []) by
    rw [hH, hL] at hG; exact hG
  clear hH hL
  have inX0 : ∀ w ∈ wsX00, w ∈ wsX0_countSending := fun _ h => List.mem_cons_of_mem _ (List.mem_append_right _ (h))
  rw [fX0_countSending] at hf
  refine lv_iload_n hx hb dX0_countSending_0 rfl (lv_at hl 1 rfl) ?_
  refine lv_if_lt (tgt := 10) hx hb dX0_countSending_1 (by decide) (fun h => ?_) (fun h => ?_)
  · replace hf := (if_pos h).symm.trans hf
    refine lv_iconst (v := (0 : Int32)) hx hb dX0_countSending_10 (by decide) ?_
    obtain rfl := Option.some.inj hf
    subst hQ
    exact g_iret C hr hk0 hW rfl rfl dX0_countSending_11
  · replace hf := (if_neg h).symm.trans hf
    refine lv_iload_n hx hb dX0_countSending_4 rfl (lv_at hl 1 rfl) ?_
    refine lv_bipush (v := (60 : Int32)) hx hb dX0_countSending_5 (by decide) ?_
    refine lv_icmp_lt (tgt := 12) hx hb dX0_countSending_7 (by decide) (fun h => ?_) (fun h => ?_)
    · replace hf := (if_pos h).symm.trans hf
      refine lv_aload_n hx hb dX0_countSending_12 rfl (lv_at hl 0 rfl) ?_
      refine g_get C hW inX0 0 rfl rfl rfl 3 (by decide) (List.mem_of_getElem? (i := 1) rfl) (v := .ref (a0 3)) rfl dX0_countSending_13 ?_
      refine lv_iload_n hx hb dX0_countSending_16 rfl (lv_at hl 1 rfl) ?_
      refine lv_dup2_11 hx hb dX0_countSending_17 rfl rfl ?_
      obtain ⟨hi, hf⟩ := gd_of hf
      refine g_iald C hW 0 3 rfl (f := (v0 3)) rfl (ib_in hi) dX0_countSending_18 ?_
      refine lv_iconst (v := (1 : Int32)) hx hb dX0_countSending_19 (by decide) ?_
      refine lv_iadd hx hb dX0_countSending_20 ?_
      obtain ⟨hi, hf⟩ := gd_of hf
      refine g_iast C hW 0 3 rfl (f := (v0 3)) rfl (ib_in hi) (kX0_w3 g a0 v0 (upd (v0 3) (Int32.toNatClampNeg x1) (((v0 3) (Int32.toNatClampNeg x1)) + (1 : Int32)))) (ch' := [kX0 g a0 (st v0 3 (upd (v0 3) (Int32.toNatClampNeg x1) (((v0 3) (Int32.toNatClampNeg x1)) + (1 : Int32))))]) rfl dX0_countSending_21 (fun H locs hW => ?_)
      refine lv_aload_n hx hb dX0_countSending_22 rfl (lv_at hl 0 rfl) ?_
      refine g_get C hW inX0 0 rfl rfl rfl 3 (by decide) (List.mem_of_getElem? (i := 1) rfl) (v := .ref (a0 3)) rfl dX0_countSending_23 ?_
      refine lv_iload_n hx hb dX0_countSending_26 rfl (lv_at hl 1 rfl) ?_
      obtain ⟨hi, hf⟩ := gd_of hf
      refine g_iald C hW 0 3 rfl (f := (upd (v0 3) (Int32.toNatClampNeg x1) (((v0 3) (Int32.toNatClampNeg x1)) + (1 : Int32)))) rfl (ib_in hi) dX0_countSending_27 ?_
      obtain rfl := Option.some.inj hf
      subst hQ
      exact g_iret C hr hk0 hW rfl rfl dX0_countSending_28
    · replace hf := (if_neg h).symm.trans hf
      refine lv_iconst (v := (0 : Int32)) hx hb dX0_countSending_10 (by decide) ?_
      obtain rfl := Option.some.inj hf
      subst hQ
      exact g_iret C hr hk0 hW rfl rfl dX0_countSending_11
def fX0_putDue (N : Nat) (x1 : Int32) (x2 : Int32) (v0 : MM) : Option (MM) := (if x1 < 0 then some v0 else (if (60 : Int32) ≤ x1 then some v0 else (if ib x1 60 = true then some (st v0 2 (upd (v0 2) (Int32.toNatClampNeg x1) x2)) else none)))
set_option maxHeartbeats 4000000 in
set_option maxRecDepth 100000 in
theorem ct_X0_putDue (g : GT) (l : Launch) (N : Nat) (a0 : Nat → Nat) (x1 : Int32) (x2 : Int32) (v0 : MM) {y : MM} (hf : fX0_putDue N x1 x2 v0 = some y) : ct g l yX0_putDue wsX0_putDue (rmk 0 0) [.ref (a0 0), .int x1, .int x2] [kX0 g a0 v0] none [kX0 g a0 y] := by
  refine ct_of (cc := cX0_putDue) (maxL := 3) (ret := none) (by decide) rfl (Nat.le_of_ble_eq_true rfl) ?_
  intro p e s m args below meth c A ls C hr hk0 hA hW hl
  have hx := C.1.1
  have hb := C.1.2.1
  replace hl : lv_has ls 3 [(0, .ref (a0 0)), (1, .int x1), (2, .int x2)] := hl
  obtain ⟨Q, hQ⟩ : ∃ Q, Q = MQ below (ctQ g A none [kX0 g a0 y]) args s 0 0 A := ⟨_, rfl⟩
  rw [← hQ]
  obtain ⟨H, hH⟩ : ∃ H, H = s.heap := ⟨_, rfl⟩
  obtain ⟨locs, hL⟩ : ∃ locs : List Loc, locs = [] := ⟨_, rfl⟩
  replace hW : wd g A s.heap [kX0 g a0 v0] H locs := by rw [hH, hL]; exact hW
  suffices hG : W p l e (rmk 0 0) s m args below meth c H locs 0 0 Q (F0 m 0 ls []) by
    rw [hH, hL] at hG; exact hG
  clear hH hL
  have inX0 : ∀ w ∈ wsX00, w ∈ wsX0_putDue := fun _ h => List.mem_cons_of_mem _ (List.mem_append_right _ (h))
  rw [fX0_putDue] at hf
  refine lv_iload_n hx hb dX0_putDue_0 rfl (lv_at hl 1 rfl) ?_
  refine lv_if_lt (tgt := 17) hx hb dX0_putDue_1 (by decide) (fun h => ?_) (fun h => ?_)
  · replace hf := (if_pos h).symm.trans hf
    obtain rfl := Option.some.inj hf
    subst hQ
    exact g_vret C hr hk0 hW rfl rfl dX0_putDue_17
  · replace hf := (if_neg h).symm.trans hf
    refine lv_iload_n hx hb dX0_putDue_4 rfl (lv_at hl 1 rfl) ?_
    refine lv_bipush (v := (60 : Int32)) hx hb dX0_putDue_5 (by decide) ?_
    refine lv_icmp_ge (tgt := 17) hx hb dX0_putDue_7 (by decide) (fun h => ?_) (fun h => ?_)
    · replace hf := (if_pos h).symm.trans hf
      obtain rfl := Option.some.inj hf
      subst hQ
      exact g_vret C hr hk0 hW rfl rfl dX0_putDue_17
    · replace hf := (if_neg h).symm.trans hf
      refine lv_aload_n hx hb dX0_putDue_10 rfl (lv_at hl 0 rfl) ?_
      refine g_get C hW inX0 0 rfl rfl rfl 2 (by decide) (List.mem_of_getElem? (i := 1) rfl) (v := .ref (a0 2)) rfl dX0_putDue_11 ?_
      refine lv_iload_n hx hb dX0_putDue_14 rfl (lv_at hl 1 rfl) ?_
      refine lv_iload_n hx hb dX0_putDue_15 rfl (lv_at hl 2 rfl) ?_
      obtain ⟨hi, hf⟩ := gd_of hf
      refine g_iast C hW 0 2 rfl (f := (v0 2)) rfl (ib_in hi) (kX0_w2 g a0 v0 (upd (v0 2) (Int32.toNatClampNeg x1) x2)) (ch' := [kX0 g a0 (st v0 2 (upd (v0 2) (Int32.toNatClampNeg x1) x2))]) rfl dX0_putDue_16 (fun H locs hW => ?_)
      obtain rfl := Option.some.inj hf
      subst hQ
      exact g_vret C hr hk0 hW rfl rfl dX0_putDue_17
def fX0_markGone (N : Nat) (x1 : Int32) (v0 : MM) : Option (MM) := (if x1 < 0 then some v0 else (if (60 : Int32) ≤ x1 then some v0 else (if ib x1 60 = true then some (st v0 2 (upd (v0 2) (Int32.toNatClampNeg x1) (-1 : Int32))) else none)))
set_option maxHeartbeats 4000000 in
set_option maxRecDepth 100000 in
theorem ct_X0_markGone (g : GT) (l : Launch) (N : Nat) (a0 : Nat → Nat) (x1 : Int32) (v0 : MM) {y : MM} (hf : fX0_markGone N x1 v0 = some y) : ct g l yX0_markGone wsX0_markGone (rmk 0 0) [.ref (a0 0), .int x1] [kX0 g a0 v0] none [kX0 g a0 y] := by
  refine ct_of (cc := cX0_markGone) (maxL := 2) (ret := none) (by decide) rfl (Nat.le_of_ble_eq_true rfl) ?_
  intro p e s m args below meth c A ls C hr hk0 hA hW hl
  have hx := C.1.1
  have hb := C.1.2.1
  replace hl : lv_has ls 2 [(0, .ref (a0 0)), (1, .int x1)] := hl
  obtain ⟨Q, hQ⟩ : ∃ Q, Q = MQ below (ctQ g A none [kX0 g a0 y]) args s 0 0 A := ⟨_, rfl⟩
  rw [← hQ]
  obtain ⟨H, hH⟩ : ∃ H, H = s.heap := ⟨_, rfl⟩
  obtain ⟨locs, hL⟩ : ∃ locs : List Loc, locs = [] := ⟨_, rfl⟩
  replace hW : wd g A s.heap [kX0 g a0 v0] H locs := by rw [hH, hL]; exact hW
  suffices hG : W p l e (rmk 0 0) s m args below meth c H locs 0 0 Q (F0 m 0 ls []) by
    rw [hH, hL] at hG; exact hG
  clear hH hL
  have inX0 : ∀ w ∈ wsX00, w ∈ wsX0_markGone := fun _ h => List.mem_cons_of_mem _ (List.mem_append_right _ (h))
  rw [fX0_markGone] at hf
  refine lv_iload_n hx hb dX0_markGone_0 rfl (lv_at hl 1 rfl) ?_
  refine lv_if_lt (tgt := 17) hx hb dX0_markGone_1 (by decide) (fun h => ?_) (fun h => ?_)
  · replace hf := (if_pos h).symm.trans hf
    obtain rfl := Option.some.inj hf
    subst hQ
    exact g_vret C hr hk0 hW rfl rfl dX0_markGone_17
  · replace hf := (if_neg h).symm.trans hf
    refine lv_iload_n hx hb dX0_markGone_4 rfl (lv_at hl 1 rfl) ?_
    refine lv_bipush (v := (60 : Int32)) hx hb dX0_markGone_5 (by decide) ?_
    refine lv_icmp_ge (tgt := 17) hx hb dX0_markGone_7 (by decide) (fun h => ?_) (fun h => ?_)
    · replace hf := (if_pos h).symm.trans hf
      obtain rfl := Option.some.inj hf
      subst hQ
      exact g_vret C hr hk0 hW rfl rfl dX0_markGone_17
    · replace hf := (if_neg h).symm.trans hf
      refine lv_aload_n hx hb dX0_markGone_10 rfl (lv_at hl 0 rfl) ?_
      refine g_get C hW inX0 0 rfl rfl rfl 2 (by decide) (List.mem_of_getElem? (i := 1) rfl) (v := .ref (a0 2)) rfl dX0_markGone_11 ?_
      refine lv_iload_n hx hb dX0_markGone_14 rfl (lv_at hl 1 rfl) ?_
      refine lv_iconst (v := (-1 : Int32)) hx hb dX0_markGone_15 (by decide) ?_
      obtain ⟨hi, hf⟩ := gd_of hf
      refine g_iast C hW 0 2 rfl (f := (v0 2)) rfl (ib_in hi) (kX0_w2 g a0 v0 (upd (v0 2) (Int32.toNatClampNeg x1) (-1 : Int32))) (ch' := [kX0 g a0 (st v0 2 (upd (v0 2) (Int32.toNatClampNeg x1) (-1 : Int32)))]) rfl dX0_markGone_16 (fun H locs hW => ?_)
      obtain rfl := Option.some.inj hf
      subst hQ
      exact g_vret C hr hk0 hW rfl rfl dX0_markGone_17
def fX0_move_L66 (N : Nat) (k : Int32 → MM → Option (MM)) (x1 : Int32) (x2 : Int32) : Nat → Int32 → MM → Option (MM)
  | 0, _, _ => none
  | n + 1, x3, v0 => (if (6 : Int32) ≤ x3 then k x3 v0 else (if ib ((x1 * (6 : Int32)) + x3) 360 = true then (if ib ((x2 * (6 : Int32)) + x3) 360 = true then fX0_move_L66 N k x1 x2 n (x3 + 1) (st v0 5 (upd (v0 5) (Int32.toNatClampNeg ((x2 * (6 : Int32)) + x3)) ((v0 5) (Int32.toNatClampNeg ((x1 * (6 : Int32)) + x3))))) else none) else none))
def fX0_move (N : Nat) (x1 : Int32) (x2 : Int32) (v0 : MM) : Option (MM) := (if x2 < 0 then some v0 else (if x1 ≤ x2 then some v0 else (if x1 < (60 : Int32) then (if ib x1 60 = true then (if ib x2 60 = true then (if ib x1 60 = true then (if ib x2 60 = true then (if ib x1 60 = true then (if ib x2 60 = true then (if ib x1 60 = true then (if ib x2 60 = true then (fX0_move_L66 N (fun (x3_1 : Int32) (v0_1 : MM) => some v0_1) x1 x2 N (0 : Int32) (st (st (st (st v0 1 (upd (v0 1) (Int32.toNatClampNeg x2) ((v0 1) (Int32.toNatClampNeg x1)))) 2 (upd (v0 2) (Int32.toNatClampNeg x2) ((v0 2) (Int32.toNatClampNeg x1)))) 3 (upd (v0 3) (Int32.toNatClampNeg x2) ((v0 3) (Int32.toNatClampNeg x1)))) 4 (upd (v0 4) (Int32.toNatClampNeg x2) ((v0 4) (Int32.toNatClampNeg x1))))) else none) else none) else none) else none) else none) else none) else none) else none) else some v0)))
set_option maxHeartbeats 4000000 in
set_option maxRecDepth 100000 in
theorem ct_X0_move (g : GT) (l : Launch) (N : Nat) (a0 : Nat → Nat) (x1 : Int32) (x2 : Int32) (v0 : MM) {y : MM} (hf : fX0_move N x1 x2 v0 = some y) : ct g l yX0_move wsX0_move (rmk 0 0) [.ref (a0 0), .int x1, .int x2] [kX0 g a0 v0] none [kX0 g a0 y] := by
  refine ct_of (cc := cX0_move) (maxL := 4) (ret := none) (by decide) rfl (Nat.le_of_ble_eq_true rfl) ?_
  intro p e s m args below meth c A ls C hr hk0 hA hW hl
  have hx := C.1.1
  have hb := C.1.2.1
  replace hl : lv_has ls 4 [(0, .ref (a0 0)), (1, .int x1), (2, .int x2)] := hl
  obtain ⟨Q, hQ⟩ : ∃ Q, Q = MQ below (ctQ g A none [kX0 g a0 y]) args s 0 0 A := ⟨_, rfl⟩
  rw [← hQ]
  obtain ⟨H, hH⟩ : ∃ H, H = s.heap := ⟨_, rfl⟩
  obtain ⟨locs, hL⟩ : ∃ locs : List Loc, locs = [] := ⟨_, rfl⟩
  replace hW : wd g A s.heap [kX0 g a0 v0] H locs := by rw [hH, hL]; exact hW
  suffices hG : W p l e (rmk 0 0) s m args below meth c H locs 0 0 Q (F0 m 0 ls []) by
    rw [hH, hL] at hG; exact hG
  clear hH hL
  have inX0 : ∀ w ∈ wsX00, w ∈ wsX0_move := fun _ h => List.mem_cons_of_mem _ (List.mem_append_right _ (h))
  have L66 : ∀ (x1 : Int32) (x2 : Int32) (k : Int32 → MM → Option (MM)) (hk : ∀ (x3 : Int32) (v0 : MM) (H : Heap) (locs : List Loc) (ls : Array Slot), k x3 v0 = some y → wd g A s.heap [kX0 g a0 v0] H locs → lv_has ls 4 [(0, .ref (a0 0)), (1, .int x1), (2, .int x2), (3, .int x3)] → W p l e (rmk 0 0) s m args below meth c H locs 0 0 Q (F0 m 100 ls [])) (n : Nat) (x3 : Int32) (v0 : MM) (H : Heap) (locs : List Loc) (ls : Array Slot), fX0_move_L66 N k x1 x2 n x3 v0 = some y → wd g A s.heap [kX0 g a0 v0] H locs → lv_has ls 4 [(0, .ref (a0 0)), (1, .int x1), (2, .int x2), (3, .int x3)] → W p l e (rmk 0 0) s m args below meth c H locs 0 0 Q (F0 m 66 ls []) := by
    intro x1 x2 k hk n
    induction n with
    | zero => intro x3 v0 H locs ls hf; rw [fX0_move_L66] at hf; cases hf
    | succ n ih =>
      intro x3 v0 H locs ls hf hW hl
      rw [fX0_move_L66] at hf
      refine lv_iload_n hx hb dX0_move_66 rfl (lv_at hl 3 rfl) ?_
      refine lv_bipush (v := (6 : Int32)) hx hb dX0_move_67 (by decide) ?_
      refine lv_icmp_ge (tgt := 100) hx hb dX0_move_69 (by decide) (fun h => ?_) (fun h => ?_)
      · replace hf := (if_pos h).symm.trans hf
        exact hk _ _ H locs ls hf hW (lv_sub hl [0, 1, 2, 3] rfl)
      · replace hf := (if_neg h).symm.trans hf
        refine lv_aload_n hx hb dX0_move_72 rfl (lv_at hl 0 rfl) ?_
        refine g_get C hW inX0 0 rfl rfl rfl 5 (by decide) (List.mem_of_getElem? (i := 5) rfl) (v := .ref (a0 5)) rfl dX0_move_73 ?_
        refine lv_iload_n hx hb dX0_move_76 rfl (lv_at hl 2 rfl) ?_
        refine lv_bipush (v := (6 : Int32)) hx hb dX0_move_77 (by decide) ?_
        refine lv_imul hx hb dX0_move_79 ?_
        refine lv_iload_n hx hb dX0_move_80 rfl (lv_at hl 3 rfl) ?_
        refine lv_iadd hx hb dX0_move_81 ?_
        refine lv_aload_n hx hb dX0_move_82 rfl (lv_at hl 0 rfl) ?_
        refine g_get C hW inX0 0 rfl rfl rfl 5 (by decide) (List.mem_of_getElem? (i := 5) rfl) (v := .ref (a0 5)) rfl dX0_move_83 ?_
        refine lv_iload_n hx hb dX0_move_86 rfl (lv_at hl 1 rfl) ?_
        refine lv_bipush (v := (6 : Int32)) hx hb dX0_move_87 (by decide) ?_
        refine lv_imul hx hb dX0_move_89 ?_
        refine lv_iload_n hx hb dX0_move_90 rfl (lv_at hl 3 rfl) ?_
        refine lv_iadd hx hb dX0_move_91 ?_
        obtain ⟨hi, hf⟩ := gd_of hf
        refine g_iald C hW 0 5 rfl (f := (v0 5)) rfl (ib_in hi) dX0_move_92 ?_
        obtain ⟨hi, hf⟩ := gd_of hf
        refine g_iast C hW 0 5 rfl (f := (v0 5)) rfl (ib_in hi) (kX0_w5 g a0 v0 (upd (v0 5) (Int32.toNatClampNeg ((x2 * (6 : Int32)) + x3)) ((v0 5) (Int32.toNatClampNeg ((x1 * (6 : Int32)) + x3))))) (ch' := [kX0 g a0 (st v0 5 (upd (v0 5) (Int32.toNatClampNeg ((x2 * (6 : Int32)) + x3)) ((v0 5) (Int32.toNatClampNeg ((x1 * (6 : Int32)) + x3)))))]) rfl dX0_move_93 (fun H locs hW => ?_)
        refine lv_iinc (v := (x3 + 1)) (lv' := [(3, .int (x3 + 1)), (0, .ref (a0 0)), (1, .int x1), (2, .int x2)]) hx hb dX0_move_94 hl (k := 3) rfl (by first | rfl | decide) (by decide) rfl (fun ls hl => ?_)
        refine lv_goto (tgt := 66) hx hb dX0_move_97 (by decide) ?_
        exact ih _ _ H locs ls hf hW (lv_sub hl [1, 2, 3, 0] rfl)
  rw [fX0_move] at hf
  refine lv_iload_n hx hb dX0_move_0 rfl (lv_at hl 2 rfl) ?_
  refine lv_if_lt (tgt := 15) hx hb dX0_move_1 (by decide) (fun h => ?_) (fun h => ?_)
  · replace hf := (if_pos h).symm.trans hf
    obtain rfl := Option.some.inj hf
    subst hQ
    exact g_vret C hr hk0 hW rfl rfl dX0_move_15
  · replace hf := (if_neg h).symm.trans hf
    refine lv_iload_n hx hb dX0_move_4 rfl (lv_at hl 2 rfl) ?_
    refine lv_iload_n hx hb dX0_move_5 rfl (lv_at hl 1 rfl) ?_
    refine lv_icmp_ge (tgt := 15) hx hb dX0_move_6 (by decide) (fun h => ?_) (fun h => ?_)
    · replace hf := (if_pos h).symm.trans hf
      obtain rfl := Option.some.inj hf
      subst hQ
      exact g_vret C hr hk0 hW rfl rfl dX0_move_15
    · replace hf := (if_neg h).symm.trans hf
      refine lv_iload_n hx hb dX0_move_9 rfl (lv_at hl 1 rfl) ?_
      refine lv_bipush (v := (60 : Int32)) hx hb dX0_move_10 (by decide) ?_
      refine lv_icmp_lt (tgt := 16) hx hb dX0_move_12 (by decide) (fun h => ?_) (fun h => ?_)
      · replace hf := (if_pos h).symm.trans hf
        refine lv_aload_n hx hb dX0_move_16 rfl (lv_at hl 0 rfl) ?_
        refine g_get C hW inX0 0 rfl rfl rfl 1 (by decide) (List.mem_of_getElem? (i := 1) rfl) (v := .ref (a0 1)) rfl dX0_move_17 ?_
        refine lv_iload_n hx hb dX0_move_20 rfl (lv_at hl 2 rfl) ?_
        refine lv_aload_n hx hb dX0_move_21 rfl (lv_at hl 0 rfl) ?_
        refine g_get C hW inX0 0 rfl rfl rfl 1 (by decide) (List.mem_of_getElem? (i := 1) rfl) (v := .ref (a0 1)) rfl dX0_move_22 ?_
        refine lv_iload_n hx hb dX0_move_25 rfl (lv_at hl 1 rfl) ?_
        obtain ⟨hi, hf⟩ := gd_of hf
        refine g_iald C hW 0 1 rfl (f := (v0 1)) rfl (ib_in hi) dX0_move_26 ?_
        obtain ⟨hi, hf⟩ := gd_of hf
        refine g_iast C hW 0 1 rfl (f := (v0 1)) rfl (ib_in hi) (kX0_w1 g a0 v0 (upd (v0 1) (Int32.toNatClampNeg x2) ((v0 1) (Int32.toNatClampNeg x1)))) (ch' := [kX0 g a0 (st v0 1 (upd (v0 1) (Int32.toNatClampNeg x2) ((v0 1) (Int32.toNatClampNeg x1))))]) rfl dX0_move_27 (fun H locs hW => ?_)
        refine lv_aload_n hx hb dX0_move_28 rfl (lv_at hl 0 rfl) ?_
        refine g_get C hW inX0 0 rfl rfl rfl 2 (by decide) (List.mem_of_getElem? (i := 2) rfl) (v := .ref (a0 2)) rfl dX0_move_29 ?_
        refine lv_iload_n hx hb dX0_move_32 rfl (lv_at hl 2 rfl) ?_
        refine lv_aload_n hx hb dX0_move_33 rfl (lv_at hl 0 rfl) ?_
        refine g_get C hW inX0 0 rfl rfl rfl 2 (by decide) (List.mem_of_getElem? (i := 2) rfl) (v := .ref (a0 2)) rfl dX0_move_34 ?_
        refine lv_iload_n hx hb dX0_move_37 rfl (lv_at hl 1 rfl) ?_
        obtain ⟨hi, hf⟩ := gd_of hf
        refine g_iald C hW 0 2 rfl (f := (v0 2)) rfl (ib_in hi) dX0_move_38 ?_
        obtain ⟨hi, hf⟩ := gd_of hf
        refine g_iast C hW 0 2 rfl (f := (v0 2)) rfl (ib_in hi) (kX0_w2 g a0 (st v0 1 (upd (v0 1) (Int32.toNatClampNeg x2) ((v0 1) (Int32.toNatClampNeg x1)))) (upd (v0 2) (Int32.toNatClampNeg x2) ((v0 2) (Int32.toNatClampNeg x1)))) (ch' := [kX0 g a0 (st (st v0 1 (upd (v0 1) (Int32.toNatClampNeg x2) ((v0 1) (Int32.toNatClampNeg x1)))) 2 (upd (v0 2) (Int32.toNatClampNeg x2) ((v0 2) (Int32.toNatClampNeg x1))))]) rfl dX0_move_39 (fun H locs hW => ?_)
        refine lv_aload_n hx hb dX0_move_40 rfl (lv_at hl 0 rfl) ?_
        refine g_get C hW inX0 0 rfl rfl rfl 3 (by decide) (List.mem_of_getElem? (i := 3) rfl) (v := .ref (a0 3)) rfl dX0_move_41 ?_
        refine lv_iload_n hx hb dX0_move_44 rfl (lv_at hl 2 rfl) ?_
        refine lv_aload_n hx hb dX0_move_45 rfl (lv_at hl 0 rfl) ?_
        refine g_get C hW inX0 0 rfl rfl rfl 3 (by decide) (List.mem_of_getElem? (i := 3) rfl) (v := .ref (a0 3)) rfl dX0_move_46 ?_
        refine lv_iload_n hx hb dX0_move_49 rfl (lv_at hl 1 rfl) ?_
        obtain ⟨hi, hf⟩ := gd_of hf
        refine g_iald C hW 0 3 rfl (f := (v0 3)) rfl (ib_in hi) dX0_move_50 ?_
        obtain ⟨hi, hf⟩ := gd_of hf
        refine g_iast C hW 0 3 rfl (f := (v0 3)) rfl (ib_in hi) (kX0_w3 g a0 (st (st v0 1 (upd (v0 1) (Int32.toNatClampNeg x2) ((v0 1) (Int32.toNatClampNeg x1)))) 2 (upd (v0 2) (Int32.toNatClampNeg x2) ((v0 2) (Int32.toNatClampNeg x1)))) (upd (v0 3) (Int32.toNatClampNeg x2) ((v0 3) (Int32.toNatClampNeg x1)))) (ch' := [kX0 g a0 (st (st (st v0 1 (upd (v0 1) (Int32.toNatClampNeg x2) ((v0 1) (Int32.toNatClampNeg x1)))) 2 (upd (v0 2) (Int32.toNatClampNeg x2) ((v0 2) (Int32.toNatClampNeg x1)))) 3 (upd (v0 3) (Int32.toNatClampNeg x2) ((v0 3) (Int32.toNatClampNeg x1))))]) rfl dX0_move_51 (fun H locs hW => ?_)
        refine lv_aload_n hx hb dX0_move_52 rfl (lv_at hl 0 rfl) ?_
        refine g_get C hW inX0 0 rfl rfl rfl 4 (by decide) (List.mem_of_getElem? (i := 4) rfl) (v := .ref (a0 4)) rfl dX0_move_53 ?_
        refine lv_iload_n hx hb dX0_move_56 rfl (lv_at hl 2 rfl) ?_
        refine lv_aload_n hx hb dX0_move_57 rfl (lv_at hl 0 rfl) ?_
        refine g_get C hW inX0 0 rfl rfl rfl 4 (by decide) (List.mem_of_getElem? (i := 4) rfl) (v := .ref (a0 4)) rfl dX0_move_58 ?_
        refine lv_iload_n hx hb dX0_move_61 rfl (lv_at hl 1 rfl) ?_
        obtain ⟨hi, hf⟩ := gd_of hf
        refine g_iald C hW 0 4 rfl (f := (v0 4)) rfl (ib_in hi) dX0_move_62 ?_
        obtain ⟨hi, hf⟩ := gd_of hf
        refine g_iast C hW 0 4 rfl (f := (v0 4)) rfl (ib_in hi) (kX0_w4 g a0 (st (st (st v0 1 (upd (v0 1) (Int32.toNatClampNeg x2) ((v0 1) (Int32.toNatClampNeg x1)))) 2 (upd (v0 2) (Int32.toNatClampNeg x2) ((v0 2) (Int32.toNatClampNeg x1)))) 3 (upd (v0 3) (Int32.toNatClampNeg x2) ((v0 3) (Int32.toNatClampNeg x1)))) (upd (v0 4) (Int32.toNatClampNeg x2) ((v0 4) (Int32.toNatClampNeg x1)))) (ch' := [kX0 g a0 (st (st (st (st v0 1 (upd (v0 1) (Int32.toNatClampNeg x2) ((v0 1) (Int32.toNatClampNeg x1)))) 2 (upd (v0 2) (Int32.toNatClampNeg x2) ((v0 2) (Int32.toNatClampNeg x1)))) 3 (upd (v0 3) (Int32.toNatClampNeg x2) ((v0 3) (Int32.toNatClampNeg x1)))) 4 (upd (v0 4) (Int32.toNatClampNeg x2) ((v0 4) (Int32.toNatClampNeg x1))))]) rfl dX0_move_63 (fun H locs hW => ?_)
        refine lv_iconst (v := (0 : Int32)) hx hb dX0_move_64 (by decide) ?_
        refine lv_istore_n (lv' := [(3, .int (0 : Int32)), (0, .ref (a0 0)), (1, .int x1), (2, .int x2)]) hx hb dX0_move_65 rfl hl (by decide) rfl (fun ls hl => ?_)
        refine L66 x1 x2 _ (fun x3_1 v0_1 H locs ls hf hW hl => ?_) N (0 : Int32) (st (st (st (st v0 1 (upd (v0 1) (Int32.toNatClampNeg x2) ((v0 1) (Int32.toNatClampNeg x1)))) 2 (upd (v0 2) (Int32.toNatClampNeg x2) ((v0 2) (Int32.toNatClampNeg x1)))) 3 (upd (v0 3) (Int32.toNatClampNeg x2) ((v0 3) (Int32.toNatClampNeg x1)))) 4 (upd (v0 4) (Int32.toNatClampNeg x2) ((v0 4) (Int32.toNatClampNeg x1)))) H locs ls hf hW (lv_sub hl [1, 2, 3, 0] rfl)
        obtain rfl := Option.some.inj hf
        subst hQ
        exact g_vret C hr hk0 hW rfl rfl dX0_move_100
      · replace hf := (if_neg h).symm.trans hf
        obtain rfl := Option.some.inj hf
        subst hQ
        exact g_vret C hr hk0 hW rfl rfl dX0_move_15
def fX0_dropGone_L4 (N : Nat) (k : Int32 → Int32 → MM → Option (MM)) : Nat → Int32 → Int32 → MM → Option (MM)
  | 0, _, _, _ => none
  | n + 1, x1, x2, v0 => (if (v0 0 0) ≤ x2 then k x1 x2 v0 else (if (60 : Int32) ≤ x2 then k x1 x2 v0 else (if ib x2 60 = true then (if ((v0 2) (Int32.toNatClampNeg x2)) = (-1 : Int32) then fX0_dropGone_L4 N k n x1 (x2 + 1) v0 else ((fX0_move N x2 x1 v0).bind (fun y1 => fX0_dropGone_L4 N k n (x1 + 1) (x2 + 1) y1))) else none)))
def fX0_dropGone (N : Nat) (v0 : MM) : Option (MM) := (fX0_dropGone_L4 N (fun (x1_2 : Int32) (x2_2 : Int32) (v0_2 : MM) => some (st v0_2 0 (fun _ => x1_2))) N (0 : Int32) (0 : Int32) v0)
set_option maxHeartbeats 4000000 in
set_option maxRecDepth 100000 in
theorem ct_X0_dropGone (g : GT) (l : Launch) (N : Nat) (a0 : Nat → Nat) (v0 : MM) {y : MM} (hf : fX0_dropGone N v0 = some y) : ct g l yX0_dropGone wsX0_dropGone (rmk 1 23) [.ref (a0 0)] [kX0 g a0 v0] none [kX0 g a0 y] := by
  refine ct_of (cc := cX0_dropGone) (maxL := 3) (ret := none) (by decide) rfl (Nat.le_of_ble_eq_true rfl) ?_
  intro p e s m args below meth c A ls C hr hk0 hA hW hl
  have hx := C.1.1
  have hb := C.1.2.1
  replace hl : lv_has ls 3 [(0, .ref (a0 0))] := hl
  obtain ⟨Q, hQ⟩ : ∃ Q, Q = MQ below (ctQ g A none [kX0 g a0 y]) args s 0 0 A := ⟨_, rfl⟩
  rw [← hQ]
  obtain ⟨H, hH⟩ : ∃ H, H = s.heap := ⟨_, rfl⟩
  obtain ⟨locs, hL⟩ : ∃ locs : List Loc, locs = [] := ⟨_, rfl⟩
  replace hW : wd g A s.heap [kX0 g a0 v0] H locs := by rw [hH, hL]; exact hW
  suffices hG : W p l e (rmk 1 23) s m args below meth c H locs 0 0 Q (F0 m 0 ls []) by
    rw [hH, hL] at hG; exact hG
  clear hH hL
  have inX0 : ∀ w ∈ wsX00, w ∈ wsX0_dropGone := fun _ h => List.mem_cons_of_mem _ (List.mem_append_right _ (h))
  have L4 : ∀ (k : Int32 → Int32 → MM → Option (MM)) (hk : ∀ (x1 : Int32) (x2 : Int32) (v0 : MM) (H : Heap) (locs : List Loc) (ls : Array Slot), k x1 x2 v0 = some y → wd g A s.heap [kX0 g a0 v0] H locs → lv_has ls 3 [(0, .ref (a0 0)), (1, .int x1), (2, .int x2)] → W p l e (rmk 1 23) s m args below meth c H locs 0 0 Q (F0 m 43 ls [])) (n : Nat) (x1 : Int32) (x2 : Int32) (v0 : MM) (H : Heap) (locs : List Loc) (ls : Array Slot), fX0_dropGone_L4 N k n x1 x2 v0 = some y → wd g A s.heap [kX0 g a0 v0] H locs → lv_has ls 3 [(0, .ref (a0 0)), (1, .int x1), (2, .int x2)] → W p l e (rmk 1 23) s m args below meth c H locs 0 0 Q (F0 m 4 ls []) := by
    intro k hk n
    induction n with
    | zero => intro x1 x2 v0 H locs ls hf; rw [fX0_dropGone_L4] at hf; cases hf
    | succ n ih =>
      intro x1 x2 v0 H locs ls hf hW hl
      rw [fX0_dropGone_L4] at hf
      refine lv_iload_n hx hb dX0_dropGone_4 rfl (lv_at hl 2 rfl) ?_
      refine lv_aload_n hx hb dX0_dropGone_5 rfl (lv_at hl 0 rfl) ?_
      refine g_get C hW inX0 0 rfl rfl rfl 0 (by decide) (List.mem_of_getElem? (i := 1) rfl) (v := .int (v0 0 0)) rfl dX0_dropGone_6 ?_
      refine lv_icmp_ge (tgt := 43) hx hb dX0_dropGone_9 (by decide) (fun h => ?_) (fun h => ?_)
      · replace hf := (if_pos h).symm.trans hf
        exact hk _ _ _ H locs ls hf hW (lv_sub hl [0, 1, 2] rfl)
      · replace hf := (if_neg h).symm.trans hf
        refine lv_iload_n hx hb dX0_dropGone_12 rfl (lv_at hl 2 rfl) ?_
        refine lv_bipush (v := (60 : Int32)) hx hb dX0_dropGone_13 (by decide) ?_
        refine lv_icmp_ge (tgt := 43) hx hb dX0_dropGone_15 (by decide) (fun h => ?_) (fun h => ?_)
        · replace hf := (if_pos h).symm.trans hf
          exact hk _ _ _ H locs ls hf hW (lv_sub hl [0, 1, 2] rfl)
        · replace hf := (if_neg h).symm.trans hf
          refine lv_aload_n hx hb dX0_dropGone_18 rfl (lv_at hl 0 rfl) ?_
          refine g_get C hW inX0 0 rfl rfl rfl 2 (by decide) (List.mem_of_getElem? (i := 2) rfl) (v := .ref (a0 2)) rfl dX0_dropGone_19 ?_
          refine lv_iload_n hx hb dX0_dropGone_22 rfl (lv_at hl 2 rfl) ?_
          obtain ⟨hi, hf⟩ := gd_of hf
          refine g_iald C hW 0 2 rfl (f := (v0 2)) rfl (ib_in hi) dX0_dropGone_23 ?_
          refine lv_iconst (v := (-1 : Int32)) hx hb dX0_dropGone_24 (by decide) ?_
          refine lv_icmp_eq (tgt := 37) hx hb dX0_dropGone_25 (by decide) (fun h => ?_) (fun h => ?_)
          · replace hf := (if_pos h).symm.trans hf
            refine lv_iinc (v := (x2 + 1)) (lv' := [(2, .int (x2 + 1)), (0, .ref (a0 0)), (1, .int x1)]) hx hb dX0_dropGone_37 hl (k := 2) rfl (by first | rfl | decide) (by decide) rfl (fun ls hl => ?_)
            refine lv_goto (tgt := 4) hx hb dX0_dropGone_40 (by decide) ?_
            exact ih _ _ _ H locs ls hf hW (lv_sub hl [1, 2, 0] rfl)
          · replace hf := (if_neg h).symm.trans hf
            refine lv_aload_n hx hb dX0_dropGone_28 rfl (lv_at hl 0 rfl) ?_
            refine lv_iload_n hx hb dX0_dropGone_29 rfl (lv_at hl 2 rfl) ?_
            refine lv_iload_n hx hb dX0_dropGone_30 rfl (lv_at hl 1 rfl) ?_
            obtain ⟨y1, hc, hf⟩ := bd_of hf
            refine g_cVv (Cn := RX0) C (ct_X0_move g l N a0 x2 x1 v0 hc) gX0_dropGone_X0_move rfl 2 (by decide +kernel) ⟨rfl, rfl, ⟨Nat.le_of_ble_eq_true rfl, Nat.le_of_ble_eq_true rfl⟩, Nat.le_of_ble_eq_true rfl, Nat.le_of_ble_eq_true rfl⟩ rfl hl (Nat.le_of_ble_eq_true rfl) dX0_dropGone_31 rfl hW hA [0] rfl rfl rfl (ch' := [kX0 g a0 y1]) rfl 0 rfl rfl rfl (fun H locs hW => ?_)
            refine lv_iinc (v := (x1 + 1)) (lv' := [(1, .int (x1 + 1)), (0, .ref (a0 0)), (2, .int x2)]) hx hb dX0_dropGone_34 hl (k := 1) rfl (by first | rfl | decide) (by decide) rfl (fun ls hl => ?_)
            refine lv_iinc (v := (x2 + 1)) (lv' := [(2, .int (x2 + 1)), (1, .int (x1 + 1)), (0, .ref (a0 0))]) hx hb dX0_dropGone_37 hl (k := 2) rfl (by first | rfl | decide) (by decide) rfl (fun ls hl => ?_)
            refine lv_goto (tgt := 4) hx hb dX0_dropGone_40 (by decide) ?_
            exact ih _ _ _ H locs ls hf hW (lv_sub hl [2, 1, 0] rfl)
  rw [fX0_dropGone] at hf
  refine lv_iconst (v := (0 : Int32)) hx hb dX0_dropGone_0 (by decide) ?_
  refine lv_istore_n (lv' := [(1, .int (0 : Int32)), (0, .ref (a0 0))]) hx hb dX0_dropGone_1 rfl hl (by decide) rfl (fun ls hl => ?_)
  refine lv_iconst (v := (0 : Int32)) hx hb dX0_dropGone_2 (by decide) ?_
  refine lv_istore_n (lv' := [(2, .int (0 : Int32)), (1, .int (0 : Int32)), (0, .ref (a0 0))]) hx hb dX0_dropGone_3 rfl hl (by decide) rfl (fun ls hl => ?_)
  refine L4 _ (fun x1_2 x2_2 v0_2 H locs ls hf hW hl => ?_) N (0 : Int32) (0 : Int32) v0 H locs ls hf hW (lv_sub hl [2, 1, 0] rfl)
  refine lv_aload_n hx hb dX0_dropGone_43 rfl (lv_at hl 0 rfl) ?_
  refine lv_iload_n hx hb dX0_dropGone_44 rfl (lv_at hl 1 rfl) ?_
  refine g_put C hW inX0 tyX0_ok nmX0 0 rfl rfl rfl 0 (by decide) (List.mem_of_getElem? (i := 1) rfl) rfl rfl rfl rfl (kX0_s0 g a0 v0_2 x1_2) (ch' := [kX0 g a0 (st v0_2 0 (fun _ => x1_2))]) rfl dX0_dropGone_45 (fun H locs hW => ?_)
  obtain rfl := Option.some.inj hf
  subst hQ
  exact g_vret C hr hk0 hW rfl rfl dX0_dropGone_48
def fX0_isEarlier (N : Nat) (x1 : Int32) (x2 : Int32) (v0 : MM) : Option (Int32) := (if ib x1 60 = true then (if ib x2 60 = true then (if ((v0 2) (Int32.toNatClampNeg x1)) = ((v0 2) (Int32.toNatClampNeg x2)) then (if ib x1 60 = true then (if ib x2 60 = true then (if ((v0 1) (Int32.toNatClampNeg x1)) = ((v0 1) (Int32.toNatClampNeg x2)) then (if x2 ≤ x1 then some (0 : Int32) else some (1 : Int32)) else (if ib x1 60 = true then (if ib x2 60 = true then (if ((v0 1) (Int32.toNatClampNeg x2)) ≤ ((v0 1) (Int32.toNatClampNeg x1)) then some (0 : Int32) else some (1 : Int32)) else none) else none)) else none) else none) else (if ib x1 60 = true then (if ib x2 60 = true then (if ((v0 2) (Int32.toNatClampNeg x2)) ≤ ((v0 2) (Int32.toNatClampNeg x1)) then some (0 : Int32) else some (1 : Int32)) else none) else none)) else none) else none)
set_option maxHeartbeats 4000000 in
set_option maxRecDepth 100000 in
theorem ct_X0_isEarlier (g : GT) (l : Launch) (N : Nat) (a0 : Nat → Nat) (x1 : Int32) (x2 : Int32) (v0 : MM) {y : Int32} (hf : fX0_isEarlier N x1 x2 v0 = some y) : ct g l yX0_isEarlier wsX0_isEarlier (rmk 0 0) [.ref (a0 0), .int x1, .int x2] [kX0 g a0 v0] (some (.int y)) [kX0 g a0 v0] := by
  refine ct_of (cc := cX0_isEarlier) (maxL := 3) (ret := (some .boolean)) (by decide) rfl (Nat.le_of_ble_eq_true rfl) ?_
  intro p e s m args below meth c A ls C hr hk0 hA hW hl
  have hx := C.1.1
  have hb := C.1.2.1
  replace hl : lv_has ls 3 [(0, .ref (a0 0)), (1, .int x1), (2, .int x2)] := hl
  obtain ⟨Q, hQ⟩ : ∃ Q, Q = MQ below (ctQ g A (some (.int y)) [kX0 g a0 v0]) args s 0 0 A := ⟨_, rfl⟩
  rw [← hQ]
  obtain ⟨H, hH⟩ : ∃ H, H = s.heap := ⟨_, rfl⟩
  obtain ⟨locs, hL⟩ : ∃ locs : List Loc, locs = [] := ⟨_, rfl⟩
  replace hW : wd g A s.heap [kX0 g a0 v0] H locs := by rw [hH, hL]; exact hW
  suffices hG : W p l e (rmk 0 0) s m args below meth c H locs 0 0 Q (F0 m 0 ls []) by
    rw [hH, hL] at hG; exact hG
  clear hH hL
  have inX0 : ∀ w ∈ wsX00, w ∈ wsX0_isEarlier := fun _ h => List.mem_cons_of_mem _ (List.mem_append_right _ (h))
  rw [fX0_isEarlier] at hf
  refine lv_aload_n hx hb dX0_isEarlier_0 rfl (lv_at hl 0 rfl) ?_
  refine g_get C hW inX0 0 rfl rfl rfl 2 (by decide) (List.mem_of_getElem? (i := 1) rfl) (v := .ref (a0 2)) rfl dX0_isEarlier_1 ?_
  refine lv_iload_n hx hb dX0_isEarlier_4 rfl (lv_at hl 1 rfl) ?_
  obtain ⟨hi, hf⟩ := gd_of hf
  refine g_iald C hW 0 2 rfl (f := (v0 2)) rfl (ib_in hi) dX0_isEarlier_5 ?_
  refine lv_aload_n hx hb dX0_isEarlier_6 rfl (lv_at hl 0 rfl) ?_
  refine g_get C hW inX0 0 rfl rfl rfl 2 (by decide) (List.mem_of_getElem? (i := 1) rfl) (v := .ref (a0 2)) rfl dX0_isEarlier_7 ?_
  refine lv_iload_n hx hb dX0_isEarlier_10 rfl (lv_at hl 2 rfl) ?_
  obtain ⟨hi, hf⟩ := gd_of hf
  refine g_iald C hW 0 2 rfl (f := (v0 2)) rfl (ib_in hi) dX0_isEarlier_11 ?_
  refine lv_icmp_eq (tgt := 36) hx hb dX0_isEarlier_12 (by decide) (fun h => ?_) (fun h => ?_)
  · replace hf := (if_pos h).symm.trans hf
    refine lv_aload_n hx hb dX0_isEarlier_36 rfl (lv_at hl 0 rfl) ?_
    refine g_get C hW inX0 0 rfl rfl rfl 1 (by decide) (List.mem_of_getElem? (i := 2) rfl) (v := .ref (a0 1)) rfl dX0_isEarlier_37 ?_
    refine lv_iload_n hx hb dX0_isEarlier_40 rfl (lv_at hl 1 rfl) ?_
    obtain ⟨hi, hf⟩ := gd_of hf
    refine g_iald C hW 0 1 rfl (f := (v0 1)) rfl (ib_in hi) dX0_isEarlier_41 ?_
    refine lv_aload_n hx hb dX0_isEarlier_42 rfl (lv_at hl 0 rfl) ?_
    refine g_get C hW inX0 0 rfl rfl rfl 1 (by decide) (List.mem_of_getElem? (i := 2) rfl) (v := .ref (a0 1)) rfl dX0_isEarlier_43 ?_
    refine lv_iload_n hx hb dX0_isEarlier_46 rfl (lv_at hl 2 rfl) ?_
    obtain ⟨hi, hf⟩ := gd_of hf
    refine g_iald C hW 0 1 rfl (f := (v0 1)) rfl (ib_in hi) dX0_isEarlier_47 ?_
    refine lv_icmp_eq (tgt := 74) hx hb dX0_isEarlier_48 (by decide) (fun h => ?_) (fun h => ?_)
    · replace hf := (if_pos h).symm.trans hf
      refine lv_iload_n hx hb dX0_isEarlier_74 rfl (lv_at hl 1 rfl) ?_
      refine lv_iload_n hx hb dX0_isEarlier_75 rfl (lv_at hl 2 rfl) ?_
      refine lv_icmp_ge (tgt := 83) hx hb dX0_isEarlier_76 (by decide) (fun h => ?_) (fun h => ?_)
      · replace hf := (if_pos h).symm.trans hf
        refine lv_iconst (v := (0 : Int32)) hx hb dX0_isEarlier_83 (by decide) ?_
        obtain rfl := Option.some.inj hf
        subst hQ
        exact g_zret C hr hk0 hW rfl rfl rfl dX0_isEarlier_84
      · replace hf := (if_neg h).symm.trans hf
        refine lv_iconst (v := (1 : Int32)) hx hb dX0_isEarlier_79 (by decide) ?_
        refine lv_goto (tgt := 84) hx hb dX0_isEarlier_80 (by decide) ?_
        obtain rfl := Option.some.inj hf
        subst hQ
        exact g_zret C hr hk0 hW rfl rfl rfl dX0_isEarlier_84
    · replace hf := (if_neg h).symm.trans hf
      refine lv_aload_n hx hb dX0_isEarlier_51 rfl (lv_at hl 0 rfl) ?_
      refine g_get C hW inX0 0 rfl rfl rfl 1 (by decide) (List.mem_of_getElem? (i := 2) rfl) (v := .ref (a0 1)) rfl dX0_isEarlier_52 ?_
      refine lv_iload_n hx hb dX0_isEarlier_55 rfl (lv_at hl 1 rfl) ?_
      obtain ⟨hi, hf⟩ := gd_of hf
      refine g_iald C hW 0 1 rfl (f := (v0 1)) rfl (ib_in hi) dX0_isEarlier_56 ?_
      refine lv_aload_n hx hb dX0_isEarlier_57 rfl (lv_at hl 0 rfl) ?_
      refine g_get C hW inX0 0 rfl rfl rfl 1 (by decide) (List.mem_of_getElem? (i := 2) rfl) (v := .ref (a0 1)) rfl dX0_isEarlier_58 ?_
      refine lv_iload_n hx hb dX0_isEarlier_61 rfl (lv_at hl 2 rfl) ?_
      obtain ⟨hi, hf⟩ := gd_of hf
      refine g_iald C hW 0 1 rfl (f := (v0 1)) rfl (ib_in hi) dX0_isEarlier_62 ?_
      refine lv_icmp_ge (tgt := 70) hx hb dX0_isEarlier_63 (by decide) (fun h => ?_) (fun h => ?_)
      · replace hf := (if_pos h).symm.trans hf
        refine lv_iconst (v := (0 : Int32)) hx hb dX0_isEarlier_70 (by decide) ?_
        refine lv_goto (tgt := 84) hx hb dX0_isEarlier_71 (by decide) ?_
        obtain rfl := Option.some.inj hf
        subst hQ
        exact g_zret C hr hk0 hW rfl rfl rfl dX0_isEarlier_84
      · replace hf := (if_neg h).symm.trans hf
        refine lv_iconst (v := (1 : Int32)) hx hb dX0_isEarlier_66 (by decide) ?_
        refine lv_goto (tgt := 84) hx hb dX0_isEarlier_67 (by decide) ?_
        obtain rfl := Option.some.inj hf
        subst hQ
        exact g_zret C hr hk0 hW rfl rfl rfl dX0_isEarlier_84
  · replace hf := (if_neg h).symm.trans hf
    refine lv_aload_n hx hb dX0_isEarlier_15 rfl (lv_at hl 0 rfl) ?_
    refine g_get C hW inX0 0 rfl rfl rfl 2 (by decide) (List.mem_of_getElem? (i := 1) rfl) (v := .ref (a0 2)) rfl dX0_isEarlier_16 ?_
    refine lv_iload_n hx hb dX0_isEarlier_19 rfl (lv_at hl 1 rfl) ?_
    obtain ⟨hi, hf⟩ := gd_of hf
    refine g_iald C hW 0 2 rfl (f := (v0 2)) rfl (ib_in hi) dX0_isEarlier_20 ?_
    refine lv_aload_n hx hb dX0_isEarlier_21 rfl (lv_at hl 0 rfl) ?_
    refine g_get C hW inX0 0 rfl rfl rfl 2 (by decide) (List.mem_of_getElem? (i := 1) rfl) (v := .ref (a0 2)) rfl dX0_isEarlier_22 ?_
    refine lv_iload_n hx hb dX0_isEarlier_25 rfl (lv_at hl 2 rfl) ?_
    obtain ⟨hi, hf⟩ := gd_of hf
    refine g_iald C hW 0 2 rfl (f := (v0 2)) rfl (ib_in hi) dX0_isEarlier_26 ?_
    refine lv_icmp_ge (tgt := 34) hx hb dX0_isEarlier_27 (by decide) (fun h => ?_) (fun h => ?_)
    · replace hf := (if_pos h).symm.trans hf
      refine lv_iconst (v := (0 : Int32)) hx hb dX0_isEarlier_34 (by decide) ?_
      obtain rfl := Option.some.inj hf
      subst hQ
      exact g_zret C hr hk0 hW rfl rfl rfl dX0_isEarlier_35
    · replace hf := (if_neg h).symm.trans hf
      refine lv_iconst (v := (1 : Int32)) hx hb dX0_isEarlier_30 (by decide) ?_
      refine lv_goto (tgt := 35) hx hb dX0_isEarlier_31 (by decide) ?_
      obtain rfl := Option.some.inj hf
      subst hQ
      exact g_zret C hr hk0 hW rfl rfl rfl dX0_isEarlier_35
def fX0_placeOf_L21 (N : Nat) (k : Int32 → Int32 → Option (Int32)) (x1 : Int32) (x2 : Int32) (v0 : MM) : Nat → Int32 → Int32 → Option (Int32)
  | 0, _, _ => none
  | n + 1, x3, x4 => (if (v0 0 0) ≤ x4 then k x3 x4 else (if (60 : Int32) ≤ x4 then k x3 x4 else ((fX0_isEarlier N x4 x2 v0).bind (fun y1 => (if y1 = 0 then fX0_placeOf_L21 N k x1 x2 v0 n (x3 + (0 : Int32)) (x4 + 1) else fX0_placeOf_L21 N k x1 x2 v0 n (x3 + (1 : Int32)) (x4 + 1))))))
def fX0_placeOf_L2 (N : Nat) (k : Int32 → Option (Int32)) (x1 : Int32) (v0 : MM) : Nat → Int32 → Option (Int32)
  | 0, _ => none
  | n + 1, x2 => (if (v0 0 0) ≤ x2 then k x2 else (if (60 : Int32) ≤ x2 then k x2 else (fX0_placeOf_L21 N (fun (x3_2 : Int32) (x4_2 : Int32) => (if x3_2 = x1 then some x2 else fX0_placeOf_L2 N k x1 v0 n (x2 + 1))) x1 x2 v0 N (0 : Int32) (0 : Int32))))
def fX0_placeOf (N : Nat) (x1 : Int32) (v0 : MM) : Option (Int32) := (fX0_placeOf_L2 N (fun (x2_3 : Int32) => some (-1 : Int32)) x1 v0 N (0 : Int32))
set_option maxHeartbeats 4000000 in
set_option maxRecDepth 100000 in
theorem ct_X0_placeOf (g : GT) (l : Launch) (N : Nat) (a0 : Nat → Nat) (x1 : Int32) (v0 : MM) {y : Int32} (hf : fX0_placeOf N x1 v0 = some y) : ct g l yX0_placeOf wsX0_placeOf (rmk 1 22) [.ref (a0 0), .int x1] [kX0 g a0 v0] (some (.int y)) [kX0 g a0 v0] := by
  refine ct_of (cc := cX0_placeOf) (maxL := 5) (ret := (some .int)) (by decide) rfl (Nat.le_of_ble_eq_true rfl) ?_
  intro p e s m args below meth c A ls C hr hk0 hA hW hl
  have hx := C.1.1
  have hb := C.1.2.1
  replace hl : lv_has ls 5 [(0, .ref (a0 0)), (1, .int x1)] := hl
  obtain ⟨Q, hQ⟩ : ∃ Q, Q = MQ below (ctQ g A (some (.int y)) [kX0 g a0 v0]) args s 0 0 A := ⟨_, rfl⟩
  rw [← hQ]
  obtain ⟨H, hH⟩ : ∃ H, H = s.heap := ⟨_, rfl⟩
  obtain ⟨locs, hL⟩ : ∃ locs : List Loc, locs = [] := ⟨_, rfl⟩
  replace hW : wd g A s.heap [kX0 g a0 v0] H locs := by rw [hH, hL]; exact hW
  suffices hG : W p l e (rmk 1 22) s m args below meth c H locs 0 0 Q (F0 m 0 ls []) by
    rw [hH, hL] at hG; exact hG
  clear hH hL
  have inX0 : ∀ w ∈ wsX00, w ∈ wsX0_placeOf := fun _ h => List.mem_cons_of_mem _ (List.mem_append_right _ (h))
  have L21 : ∀ (x1 : Int32) (x2 : Int32) (k : Int32 → Int32 → Option (Int32)) (hk : ∀ (x3 : Int32) (x4 : Int32) (H : Heap) (locs : List Loc) (ls : Array Slot), k x3 x4 = some y → wd g A s.heap [kX0 g a0 v0] H locs → lv_has ls 5 [(0, .ref (a0 0)), (1, .int x1), (2, .int x2), (3, .int x3), (4, .int x4)] → W p l e (rmk 1 22) s m args below meth c H locs 0 0 Q (F0 m 61 ls [])) (n : Nat) (x3 : Int32) (x4 : Int32) (H : Heap) (locs : List Loc) (ls : Array Slot), fX0_placeOf_L21 N k x1 x2 v0 n x3 x4 = some y → wd g A s.heap [kX0 g a0 v0] H locs → lv_has ls 5 [(0, .ref (a0 0)), (1, .int x1), (2, .int x2), (3, .int x3), (4, .int x4)] → W p l e (rmk 1 22) s m args below meth c H locs 0 0 Q (F0 m 21 ls []) := by
    intro x1 x2 k hk n
    induction n with
    | zero => intro x3 x4 H locs ls hf; rw [fX0_placeOf_L21] at hf; cases hf
    | succ n ih =>
      intro x3 x4 H locs ls hf hW hl
      rw [fX0_placeOf_L21] at hf
      refine lv_iload hx hb dX0_placeOf_21 (lv_at hl 4 rfl) ?_
      refine lv_aload_n hx hb dX0_placeOf_23 rfl (lv_at hl 0 rfl) ?_
      refine g_get C hW inX0 0 rfl rfl rfl 0 (by decide) (List.mem_of_getElem? (i := 1) rfl) (v := .int (v0 0 0)) rfl dX0_placeOf_24 ?_
      refine lv_icmp_ge (tgt := 61) hx hb dX0_placeOf_27 (by decide) (fun h => ?_) (fun h => ?_)
      · replace hf := (if_pos h).symm.trans hf
        exact hk _ _ H locs ls hf hW (lv_sub hl [0, 1, 2, 3, 4] rfl)
      · replace hf := (if_neg h).symm.trans hf
        refine lv_iload hx hb dX0_placeOf_30 (lv_at hl 4 rfl) ?_
        refine lv_bipush (v := (60 : Int32)) hx hb dX0_placeOf_32 (by decide) ?_
        refine lv_icmp_ge (tgt := 61) hx hb dX0_placeOf_34 (by decide) (fun h => ?_) (fun h => ?_)
        · replace hf := (if_pos h).symm.trans hf
          exact hk _ _ H locs ls hf hW (lv_sub hl [0, 1, 2, 3, 4] rfl)
        · replace hf := (if_neg h).symm.trans hf
          refine lv_iload_n hx hb dX0_placeOf_37 rfl (lv_at hl 3 rfl) ?_
          refine lv_aload_n hx hb dX0_placeOf_38 rfl (lv_at hl 0 rfl) ?_
          refine lv_iload hx hb dX0_placeOf_39 (lv_at hl 4 rfl) ?_
          refine lv_iload_n hx hb dX0_placeOf_41 rfl (lv_at hl 2 rfl) ?_
          obtain ⟨y1, hc, hf⟩ := bd_of hf
          refine g_cV (Cn := RX0) C (ct_X0_isEarlier g l N a0 x4 x2 v0 hc) gX0_placeOf_X0_isEarlier rfl 2 (by decide +kernel) ⟨rfl, rfl, ⟨Nat.le_of_ble_eq_true rfl, Nat.le_of_ble_eq_true rfl⟩, Nat.le_of_ble_eq_true rfl, Nat.le_of_ble_eq_true rfl⟩ rfl hl (Nat.le_of_ble_eq_true rfl) dX0_placeOf_42 rfl hW hA [0] rfl rfl rfl (ch' := [kX0 g a0 v0]) rfl 0 rfl rfl rfl (fun H locs hW => ?_)
          refine lv_if_eq (tgt := 52) hx hb dX0_placeOf_45 (by decide) (fun h => ?_) (fun h => ?_)
          · replace hf := (if_pos h).symm.trans hf
            refine lv_iconst (v := (0 : Int32)) hx hb dX0_placeOf_52 (by decide) ?_
            refine lv_iadd hx hb dX0_placeOf_53 ?_
            refine lv_istore_n (lv' := [(3, .int (x3 + (0 : Int32))), (0, .ref (a0 0)), (1, .int x1), (2, .int x2), (4, .int x4)]) hx hb dX0_placeOf_54 rfl hl (by decide) rfl (fun ls hl => ?_)
            refine lv_iinc (v := (x4 + 1)) (lv' := [(4, .int (x4 + 1)), (3, .int (x3 + (0 : Int32))), (0, .ref (a0 0)), (1, .int x1), (2, .int x2)]) hx hb dX0_placeOf_55 hl (k := 4) rfl (by first | rfl | decide) (by decide) rfl (fun ls hl => ?_)
            refine lv_goto (tgt := 21) hx hb dX0_placeOf_58 (by decide) ?_
            exact ih _ _ H locs ls hf hW (lv_sub hl [2, 3, 4, 1, 0] rfl)
          · replace hf := (if_neg h).symm.trans hf
            refine lv_iconst (v := (1 : Int32)) hx hb dX0_placeOf_48 (by decide) ?_
            refine lv_goto (tgt := 53) hx hb dX0_placeOf_49 (by decide) ?_
            refine lv_iadd hx hb dX0_placeOf_53 ?_
            refine lv_istore_n (lv' := [(3, .int (x3 + (1 : Int32))), (0, .ref (a0 0)), (1, .int x1), (2, .int x2), (4, .int x4)]) hx hb dX0_placeOf_54 rfl hl (by decide) rfl (fun ls hl => ?_)
            refine lv_iinc (v := (x4 + 1)) (lv' := [(4, .int (x4 + 1)), (3, .int (x3 + (1 : Int32))), (0, .ref (a0 0)), (1, .int x1), (2, .int x2)]) hx hb dX0_placeOf_55 hl (k := 4) rfl (by first | rfl | decide) (by decide) rfl (fun ls hl => ?_)
            refine lv_goto (tgt := 21) hx hb dX0_placeOf_58 (by decide) ?_
            exact ih _ _ H locs ls hf hW (lv_sub hl [2, 3, 4, 1, 0] rfl)
  have L2 : ∀ (x1 : Int32) (k : Int32 → Option (Int32)) (hk : ∀ (x2 : Int32) (H : Heap) (locs : List Loc) (ls : Array Slot), k x2 = some y → wd g A s.heap [kX0 g a0 v0] H locs → lv_has ls 5 [(0, .ref (a0 0)), (1, .int x1), (2, .int x2)] → W p l e (rmk 1 22) s m args below meth c H locs 0 0 Q (F0 m 74 ls [])) (n : Nat) (x2 : Int32) (H : Heap) (locs : List Loc) (ls : Array Slot), fX0_placeOf_L2 N k x1 v0 n x2 = some y → wd g A s.heap [kX0 g a0 v0] H locs → lv_has ls 5 [(0, .ref (a0 0)), (1, .int x1), (2, .int x2)] → W p l e (rmk 1 22) s m args below meth c H locs 0 0 Q (F0 m 2 ls []) := by
    intro x1 k hk n
    induction n with
    | zero => intro x2 H locs ls hf; rw [fX0_placeOf_L2] at hf; cases hf
    | succ n ih =>
      intro x2 H locs ls hf hW hl
      rw [fX0_placeOf_L2] at hf
      refine lv_iload_n hx hb dX0_placeOf_2 rfl (lv_at hl 2 rfl) ?_
      refine lv_aload_n hx hb dX0_placeOf_3 rfl (lv_at hl 0 rfl) ?_
      refine g_get C hW inX0 0 rfl rfl rfl 0 (by decide) (List.mem_of_getElem? (i := 1) rfl) (v := .int (v0 0 0)) rfl dX0_placeOf_4 ?_
      refine lv_icmp_ge (tgt := 74) hx hb dX0_placeOf_7 (by decide) (fun h => ?_) (fun h => ?_)
      · replace hf := (if_pos h).symm.trans hf
        exact hk _ H locs ls hf hW (lv_sub hl [0, 1, 2] rfl)
      · replace hf := (if_neg h).symm.trans hf
        refine lv_iload_n hx hb dX0_placeOf_10 rfl (lv_at hl 2 rfl) ?_
        refine lv_bipush (v := (60 : Int32)) hx hb dX0_placeOf_11 (by decide) ?_
        refine lv_icmp_ge (tgt := 74) hx hb dX0_placeOf_13 (by decide) (fun h => ?_) (fun h => ?_)
        · replace hf := (if_pos h).symm.trans hf
          exact hk _ H locs ls hf hW (lv_sub hl [0, 1, 2] rfl)
        · replace hf := (if_neg h).symm.trans hf
          refine lv_iconst (v := (0 : Int32)) hx hb dX0_placeOf_16 (by decide) ?_
          refine lv_istore_n (lv' := [(3, .int (0 : Int32)), (0, .ref (a0 0)), (1, .int x1), (2, .int x2)]) hx hb dX0_placeOf_17 rfl hl (by decide) rfl (fun ls hl => ?_)
          refine lv_iconst (v := (0 : Int32)) hx hb dX0_placeOf_18 (by decide) ?_
          refine lv_istore (lv' := [(4, .int (0 : Int32)), (3, .int (0 : Int32)), (0, .ref (a0 0)), (1, .int x1), (2, .int x2)]) hx hb dX0_placeOf_19 hl (by decide) rfl (fun ls hl => ?_)
          refine L21 x1 x2 _ (fun x3_2 x4_2 H locs ls hf hW hl => ?_) N (0 : Int32) (0 : Int32) H locs ls hf hW (lv_sub hl [2, 3, 4, 1, 0] rfl)
          refine lv_iload_n hx hb dX0_placeOf_61 rfl (lv_at hl 3 rfl) ?_
          refine lv_iload_n hx hb dX0_placeOf_62 rfl (lv_at hl 1 rfl) ?_
          refine lv_icmp_ne (tgt := 68) hx hb dX0_placeOf_63 (by decide) (fun h => ?_) (fun h => ?_)
          · replace hf := (if_neg h).symm.trans hf
            refine lv_iinc (v := (x2 + 1)) (lv' := [(2, .int (x2 + 1)), (0, .ref (a0 0)), (1, .int x1), (3, .int x3_2), (4, .int x4_2)]) hx hb dX0_placeOf_68 hl (k := 2) rfl (by first | rfl | decide) (by decide) rfl (fun ls hl => ?_)
            refine lv_goto (tgt := 2) hx hb dX0_placeOf_71 (by decide) ?_
            exact ih _ H locs ls hf hW (lv_sub hl [1, 2, 0] rfl)
          · replace hf := (if_pos h).symm.trans hf
            refine lv_iload_n hx hb dX0_placeOf_66 rfl (lv_at hl 2 rfl) ?_
            obtain rfl := Option.some.inj hf
            subst hQ
            exact g_iret C hr hk0 hW rfl rfl dX0_placeOf_67
  rw [fX0_placeOf] at hf
  refine lv_iconst (v := (0 : Int32)) hx hb dX0_placeOf_0 (by decide) ?_
  refine lv_istore_n (lv' := [(2, .int (0 : Int32)), (0, .ref (a0 0)), (1, .int x1)]) hx hb dX0_placeOf_1 rfl hl (by decide) rfl (fun ls hl => ?_)
  refine L2 x1 _ (fun x2_3 H locs ls hf hW hl => ?_) N (0 : Int32) H locs ls hf hW (lv_sub hl [1, 2, 0] rfl)
  refine lv_iconst (v := (-1 : Int32)) hx hb dX0_placeOf_74 (by decide) ?_
  obtain rfl := Option.some.inj hf
  subst hQ
  exact g_iret C hr hk0 hW rfl rfl dX0_placeOf_75
def fX0_told (N : Nat) (x1 : Int32) (x2 : Int32) (v0 : MM) : Option (Int32) := (if x1 < 0 then some (-9 : Int32) else (if x1 < (60 : Int32) then (if x2 = (0 : Int32) then (if ib x1 60 = true then some ((v0 1) (Int32.toNatClampNeg x1)) else none) else (if x2 = (1 : Int32) then (if ib x1 60 = true then some ((v0 2) (Int32.toNatClampNeg x1)) else none) else (if x2 = (2 : Int32) then (if ib x1 60 = true then some ((v0 3) (Int32.toNatClampNeg x1)) else none) else (if x2 = (3 : Int32) then ((fX0_content N x1 v0).bind (fun y1 => some y1)) else (if ib x1 60 = true then some ((v0 4) (Int32.toNatClampNeg x1)) else none))))) else some (-9 : Int32)))
set_option maxHeartbeats 4000000 in
set_option maxRecDepth 100000 in
theorem ct_X0_told (g : GT) (l : Launch) (N : Nat) (a0 : Nat → Nat) (x1 : Int32) (x2 : Int32) (v0 : MM) {y : Int32} (hf : fX0_told N x1 x2 v0 = some y) : ct g l yX0_told wsX0_told (rmk 2 45) [.ref (a0 0), .int x1, .int x2] [kX0 g a0 v0] (some (.int y)) [kX0 g a0 v0] := by
  refine ct_of (cc := cX0_told) (maxL := 3) (ret := (some .int)) (by decide) rfl (Nat.le_of_ble_eq_true rfl) ?_
  intro p e s m args below meth c A ls C hr hk0 hA hW hl
  have hx := C.1.1
  have hb := C.1.2.1
  replace hl : lv_has ls 3 [(0, .ref (a0 0)), (1, .int x1), (2, .int x2)] := hl
  obtain ⟨Q, hQ⟩ : ∃ Q, Q = MQ below (ctQ g A (some (.int y)) [kX0 g a0 v0]) args s 0 0 A := ⟨_, rfl⟩
  rw [← hQ]
  obtain ⟨H, hH⟩ : ∃ H, H = s.heap := ⟨_, rfl⟩
  obtain ⟨locs, hL⟩ : ∃ locs : List Loc, locs = [] := ⟨_, rfl⟩
  replace hW : wd g A s.heap [kX0 g a0 v0] H locs := by rw [hH, hL]; exact hW
  suffices hG : W p l e (rmk 2 45) s m args below meth c H locs 0 0 Q (F0 m 0 ls []) by
    rw [hH, hL] at hG; exact hG
  clear hH hL
  have inX0 : ∀ w ∈ wsX00, w ∈ wsX0_told := fun _ h => List.mem_cons_of_mem _ (List.mem_append_right _ (h))
  rw [fX0_told] at hf
  refine lv_iload_n hx hb dX0_told_0 rfl (lv_at hl 1 rfl) ?_
  refine lv_if_lt (tgt := 10) hx hb dX0_told_1 (by decide) (fun h => ?_) (fun h => ?_)
  · replace hf := (if_pos h).symm.trans hf
    refine lv_bipush (v := (-9 : Int32)) hx hb dX0_told_10 (by decide) ?_
    obtain rfl := Option.some.inj hf
    subst hQ
    exact g_iret C hr hk0 hW rfl rfl dX0_told_12
  · replace hf := (if_neg h).symm.trans hf
    refine lv_iload_n hx hb dX0_told_4 rfl (lv_at hl 1 rfl) ?_
    refine lv_bipush (v := (60 : Int32)) hx hb dX0_told_5 (by decide) ?_
    refine lv_icmp_lt (tgt := 13) hx hb dX0_told_7 (by decide) (fun h => ?_) (fun h => ?_)
    · replace hf := (if_pos h).symm.trans hf
      refine lv_iload_n hx hb dX0_told_13 rfl (lv_at hl 2 rfl) ?_
      rcases Decidable.em (x2 = (0 : Int32)) with h0 | h0
      · replace hf := (if_pos h0).symm.trans hf
        refine g_tsw C (off := 30) h0 dX0_told_14 (by decide) (by decide) (tgt := 44) (by decide) ?_
        refine lv_aload_n hx hb dX0_told_44 rfl (lv_at hl 0 rfl) ?_
        refine g_get C hW inX0 0 rfl rfl rfl 1 (by decide) (List.mem_of_getElem? (i := 1) rfl) (v := .ref (a0 1)) rfl dX0_told_45 ?_
        refine lv_iload_n hx hb dX0_told_48 rfl (lv_at hl 1 rfl) ?_
        obtain ⟨hi, hf⟩ := gd_of hf
        refine g_iald C hW 0 1 rfl (f := (v0 1)) rfl (ib_in hi) dX0_told_49 ?_
        obtain rfl := Option.some.inj hf
        subst hQ
        exact g_iret C hr hk0 hW rfl rfl dX0_told_50
      replace hf := (if_neg h0).symm.trans hf
      rcases Decidable.em (x2 = (1 : Int32)) with h1 | h1
      · replace hf := (if_pos h1).symm.trans hf
        refine g_tsw C (off := 37) h1 dX0_told_14 (by decide) (by decide) (tgt := 51) (by decide) ?_
        refine lv_aload_n hx hb dX0_told_51 rfl (lv_at hl 0 rfl) ?_
        refine g_get C hW inX0 0 rfl rfl rfl 2 (by decide) (List.mem_of_getElem? (i := 2) rfl) (v := .ref (a0 2)) rfl dX0_told_52 ?_
        refine lv_iload_n hx hb dX0_told_55 rfl (lv_at hl 1 rfl) ?_
        obtain ⟨hi, hf⟩ := gd_of hf
        refine g_iald C hW 0 2 rfl (f := (v0 2)) rfl (ib_in hi) dX0_told_56 ?_
        obtain rfl := Option.some.inj hf
        subst hQ
        exact g_iret C hr hk0 hW rfl rfl dX0_told_57
      replace hf := (if_neg h1).symm.trans hf
      rcases Decidable.em (x2 = (2 : Int32)) with h2 | h2
      · replace hf := (if_pos h2).symm.trans hf
        refine g_tsw C (off := 44) h2 dX0_told_14 (by decide) (by decide) (tgt := 58) (by decide) ?_
        refine lv_aload_n hx hb dX0_told_58 rfl (lv_at hl 0 rfl) ?_
        refine g_get C hW inX0 0 rfl rfl rfl 3 (by decide) (List.mem_of_getElem? (i := 3) rfl) (v := .ref (a0 3)) rfl dX0_told_59 ?_
        refine lv_iload_n hx hb dX0_told_62 rfl (lv_at hl 1 rfl) ?_
        obtain ⟨hi, hf⟩ := gd_of hf
        refine g_iald C hW 0 3 rfl (f := (v0 3)) rfl (ib_in hi) dX0_told_63 ?_
        obtain rfl := Option.some.inj hf
        subst hQ
        exact g_iret C hr hk0 hW rfl rfl dX0_told_64
      replace hf := (if_neg h2).symm.trans hf
      rcases Decidable.em (x2 = (3 : Int32)) with h3 | h3
      · replace hf := (if_pos h3).symm.trans hf
        refine g_tsw C (off := 51) h3 dX0_told_14 (by decide) (by decide) (tgt := 65) (by decide) ?_
        refine lv_aload_n hx hb dX0_told_65 rfl (lv_at hl 0 rfl) ?_
        refine lv_iload_n hx hb dX0_told_66 rfl (lv_at hl 1 rfl) ?_
        obtain ⟨y1, hc, hf⟩ := bd_of hf
        refine g_cV (Cn := RX0) C (ct_X0_content g l N a0 x1 v0 hc) gX0_told_X0_content rfl 1 (by decide +kernel) ⟨rfl, rfl, ⟨Nat.le_of_ble_eq_true rfl, Nat.le_of_ble_eq_true rfl⟩, Nat.le_of_ble_eq_true rfl, Nat.le_of_ble_eq_true rfl⟩ rfl hl (Nat.le_of_ble_eq_true rfl) dX0_told_67 rfl hW hA [0] rfl rfl rfl (ch' := [kX0 g a0 v0]) rfl 0 rfl rfl rfl (fun H locs hW => ?_)
        obtain rfl := Option.some.inj hf
        subst hQ
        exact g_iret C hr hk0 hW rfl rfl dX0_told_70
      replace hf := (if_neg h3).symm.trans hf
      have t0 := lv_neT h0 (show (0 : Int32).toInt = 0 by decide)
      have t1 := lv_neT h1 (show (1 : Int32).toInt = 1 by decide)
      have t2 := lv_neT h2 (show (2 : Int32).toInt = 2 by decide)
      have t3 := lv_neT h3 (show (3 : Int32).toInt = 3 by decide)
      refine lv_tableOut hx hb dX0_told_14 (by omega) (tgt := 71) (by decide) ?_
      refine lv_aload_n hx hb dX0_told_71 rfl (lv_at hl 0 rfl) ?_
      refine g_get C hW inX0 0 rfl rfl rfl 4 (by decide) (List.mem_of_getElem? (i := 4) rfl) (v := .ref (a0 4)) rfl dX0_told_72 ?_
      refine lv_iload_n hx hb dX0_told_75 rfl (lv_at hl 1 rfl) ?_
      obtain ⟨hi, hf⟩ := gd_of hf
      refine g_iald C hW 0 4 rfl (f := (v0 4)) rfl (ib_in hi) dX0_told_76 ?_
      obtain rfl := Option.some.inj hf
      subst hQ
      exact g_iret C hr hk0 hW rfl rfl dX0_told_77
    · replace hf := (if_neg h).symm.trans hf
      refine lv_bipush (v := (-9 : Int32)) hx hb dX0_told_10 (by decide) ?_
      obtain rfl := Option.some.inj hf
      subst hQ
      exact g_iret C hr hk0 hW rfl rfl dX0_told_12
def fX0_lettersOnTheWay_L4 (N : Nat) (k : Int32 → Int32 → Option (Int32)) (x1 : Int32) (v0 : MM) : Nat → Int32 → Int32 → Option (Int32)
  | 0, _, _ => none
  | n + 1, x2, x3 => (if (v0 0 0) ≤ x3 then k x2 x3 else ((fX0_lettersOf N x3 x1 v0).bind (fun y1 => fX0_lettersOnTheWay_L4 N k x1 v0 n (x2 + y1) (x3 + 1))))
def fX0_lettersOnTheWay (N : Nat) (x1 : Int32) (v0 : MM) : Option (Int32) := (fX0_lettersOnTheWay_L4 N (fun (x2_2 : Int32) (x3_2 : Int32) => some x2_2) x1 v0 N (0 : Int32) (0 : Int32))
set_option maxHeartbeats 4000000 in
set_option maxRecDepth 100000 in
theorem ct_X0_lettersOnTheWay (g : GT) (l : Launch) (N : Nat) (a0 : Nat → Nat) (x1 : Int32) (v0 : MM) {y : Int32} (hf : fX0_lettersOnTheWay N x1 v0 = some y) : ct g l yX0_lettersOnTheWay wsX0_lettersOnTheWay (rmk 1 23) [.ref (a0 0), .int x1] [kX0 g a0 v0] (some (.int y)) [kX0 g a0 v0] := by
  refine ct_of (cc := cX0_lettersOnTheWay) (maxL := 4) (ret := (some .int)) (by decide) rfl (Nat.le_of_ble_eq_true rfl) ?_
  intro p e s m args below meth c A ls C hr hk0 hA hW hl
  have hx := C.1.1
  have hb := C.1.2.1
  replace hl : lv_has ls 4 [(0, .ref (a0 0)), (1, .int x1)] := hl
  obtain ⟨Q, hQ⟩ : ∃ Q, Q = MQ below (ctQ g A (some (.int y)) [kX0 g a0 v0]) args s 0 0 A := ⟨_, rfl⟩
  rw [← hQ]
  obtain ⟨H, hH⟩ : ∃ H, H = s.heap := ⟨_, rfl⟩
  obtain ⟨locs, hL⟩ : ∃ locs : List Loc, locs = [] := ⟨_, rfl⟩
  replace hW : wd g A s.heap [kX0 g a0 v0] H locs := by rw [hH, hL]; exact hW
  suffices hG : W p l e (rmk 1 23) s m args below meth c H locs 0 0 Q (F0 m 0 ls []) by
    rw [hH, hL] at hG; exact hG
  clear hH hL
  have inX0 : ∀ w ∈ wsX00, w ∈ wsX0_lettersOnTheWay := fun _ h => List.mem_cons_of_mem _ (List.mem_append_right _ (h))
  have L4 : ∀ (x1 : Int32) (k : Int32 → Int32 → Option (Int32)) (hk : ∀ (x2 : Int32) (x3 : Int32) (H : Heap) (locs : List Loc) (ls : Array Slot), k x2 x3 = some y → wd g A s.heap [kX0 g a0 v0] H locs → lv_has ls 4 [(0, .ref (a0 0)), (1, .int x1), (2, .int x2), (3, .int x3)] → W p l e (rmk 1 23) s m args below meth c H locs 0 0 Q (F0 m 27 ls [])) (n : Nat) (x2 : Int32) (x3 : Int32) (H : Heap) (locs : List Loc) (ls : Array Slot), fX0_lettersOnTheWay_L4 N k x1 v0 n x2 x3 = some y → wd g A s.heap [kX0 g a0 v0] H locs → lv_has ls 4 [(0, .ref (a0 0)), (1, .int x1), (2, .int x2), (3, .int x3)] → W p l e (rmk 1 23) s m args below meth c H locs 0 0 Q (F0 m 4 ls []) := by
    intro x1 k hk n
    induction n with
    | zero => intro x2 x3 H locs ls hf; rw [fX0_lettersOnTheWay_L4] at hf; cases hf
    | succ n ih =>
      intro x2 x3 H locs ls hf hW hl
      rw [fX0_lettersOnTheWay_L4] at hf
      refine lv_iload_n hx hb dX0_lettersOnTheWay_4 rfl (lv_at hl 3 rfl) ?_
      refine lv_aload_n hx hb dX0_lettersOnTheWay_5 rfl (lv_at hl 0 rfl) ?_
      refine g_get C hW inX0 0 rfl rfl rfl 0 (by decide) (List.mem_of_getElem? (i := 1) rfl) (v := .int (v0 0 0)) rfl dX0_lettersOnTheWay_6 ?_
      refine lv_icmp_ge (tgt := 27) hx hb dX0_lettersOnTheWay_9 (by decide) (fun h => ?_) (fun h => ?_)
      · replace hf := (if_pos h).symm.trans hf
        exact hk _ _ H locs ls hf hW (lv_sub hl [0, 1, 2, 3] rfl)
      · replace hf := (if_neg h).symm.trans hf
        refine lv_iload_n hx hb dX0_lettersOnTheWay_12 rfl (lv_at hl 2 rfl) ?_
        refine lv_aload_n hx hb dX0_lettersOnTheWay_13 rfl (lv_at hl 0 rfl) ?_
        refine lv_iload_n hx hb dX0_lettersOnTheWay_14 rfl (lv_at hl 3 rfl) ?_
        refine lv_iload_n hx hb dX0_lettersOnTheWay_15 rfl (lv_at hl 1 rfl) ?_
        obtain ⟨y1, hc, hf⟩ := bd_of hf
        refine g_cV (Cn := RX0) C (ct_X0_lettersOf g l N a0 x3 x1 v0 hc) gX0_lettersOnTheWay_X0_lettersOf rfl 2 (by decide +kernel) ⟨rfl, rfl, ⟨Nat.le_of_ble_eq_true rfl, Nat.le_of_ble_eq_true rfl⟩, Nat.le_of_ble_eq_true rfl, Nat.le_of_ble_eq_true rfl⟩ rfl hl (Nat.le_of_ble_eq_true rfl) dX0_lettersOnTheWay_16 rfl hW hA [0] rfl rfl rfl (ch' := [kX0 g a0 v0]) rfl 0 rfl rfl rfl (fun H locs hW => ?_)
        refine lv_iadd hx hb dX0_lettersOnTheWay_19 ?_
        refine lv_istore_n (lv' := [(2, .int (x2 + y1)), (0, .ref (a0 0)), (1, .int x1), (3, .int x3)]) hx hb dX0_lettersOnTheWay_20 rfl hl (by decide) rfl (fun ls hl => ?_)
        refine lv_iinc (v := (x3 + 1)) (lv' := [(3, .int (x3 + 1)), (2, .int (x2 + y1)), (0, .ref (a0 0)), (1, .int x1)]) hx hb dX0_lettersOnTheWay_21 hl (k := 3) rfl (by first | rfl | decide) (by decide) rfl (fun ls hl => ?_)
        refine lv_goto (tgt := 4) hx hb dX0_lettersOnTheWay_24 (by decide) ?_
        exact ih _ _ H locs ls hf hW (lv_sub hl [2, 3, 1, 0] rfl)
  rw [fX0_lettersOnTheWay] at hf
  refine lv_iconst (v := (0 : Int32)) hx hb dX0_lettersOnTheWay_0 (by decide) ?_
  refine lv_istore_n (lv' := [(2, .int (0 : Int32)), (0, .ref (a0 0)), (1, .int x1)]) hx hb dX0_lettersOnTheWay_1 rfl hl (by decide) rfl (fun ls hl => ?_)
  refine lv_iconst (v := (0 : Int32)) hx hb dX0_lettersOnTheWay_2 (by decide) ?_
  refine lv_istore_n (lv' := [(3, .int (0 : Int32)), (2, .int (0 : Int32)), (0, .ref (a0 0)), (1, .int x1)]) hx hb dX0_lettersOnTheWay_3 rfl hl (by decide) rfl (fun ls hl => ?_)
  refine L4 x1 _ (fun x2_2 x3_2 H locs ls hf hW hl => ?_) N (0 : Int32) (0 : Int32) H locs ls hf hW (lv_sub hl [2, 3, 1, 0] rfl)
  refine lv_iload_n hx hb dX0_lettersOnTheWay_27 rfl (lv_at hl 2 rfl) ?_
  obtain rfl := Option.some.inj hf
  subst hQ
  exact g_iret C hr hk0 hW rfl rfl dX0_lettersOnTheWay_28
def fX0_blocksOf_L4 (N : Nat) (k : Int32 → Int32 → Option (Int32)) (x1 : Int32) (v0 : MM) : Nat → Int32 → Int32 → Option (Int32)
  | 0, _, _ => none
  | n + 1, x2, x3 => (if (v0 0 0) ≤ x3 then k x2 x3 else (if (60 : Int32) ≤ x3 then k x2 x3 else (if ib x3 60 = true then (if ((v0 1) (Int32.toNatClampNeg x3)) = x1 then fX0_blocksOf_L4 N k x1 v0 n (x2 + (1 : Int32)) (x3 + 1) else fX0_blocksOf_L4 N k x1 v0 n (x2 + (0 : Int32)) (x3 + 1)) else none)))
def fX0_blocksOf (N : Nat) (x1 : Int32) (v0 : MM) : Option (Int32) := (fX0_blocksOf_L4 N (fun (x2_1 : Int32) (x3_1 : Int32) => some x2_1) x1 v0 N (0 : Int32) (0 : Int32))
set_option maxHeartbeats 4000000 in
set_option maxRecDepth 100000 in
theorem ct_X0_blocksOf (g : GT) (l : Launch) (N : Nat) (a0 : Nat → Nat) (x1 : Int32) (v0 : MM) {y : Int32} (hf : fX0_blocksOf N x1 v0 = some y) : ct g l yX0_blocksOf wsX0_blocksOf (rmk 0 0) [.ref (a0 0), .int x1] [kX0 g a0 v0] (some (.int y)) [kX0 g a0 v0] := by
  refine ct_of (cc := cX0_blocksOf) (maxL := 4) (ret := (some .int)) (by decide) rfl (Nat.le_of_ble_eq_true rfl) ?_
  intro p e s m args below meth c A ls C hr hk0 hA hW hl
  have hx := C.1.1
  have hb := C.1.2.1
  replace hl : lv_has ls 4 [(0, .ref (a0 0)), (1, .int x1)] := hl
  obtain ⟨Q, hQ⟩ : ∃ Q, Q = MQ below (ctQ g A (some (.int y)) [kX0 g a0 v0]) args s 0 0 A := ⟨_, rfl⟩
  rw [← hQ]
  obtain ⟨H, hH⟩ : ∃ H, H = s.heap := ⟨_, rfl⟩
  obtain ⟨locs, hL⟩ : ∃ locs : List Loc, locs = [] := ⟨_, rfl⟩
  replace hW : wd g A s.heap [kX0 g a0 v0] H locs := by rw [hH, hL]; exact hW
  suffices hG : W p l e (rmk 0 0) s m args below meth c H locs 0 0 Q (F0 m 0 ls []) by
    rw [hH, hL] at hG; exact hG
  clear hH hL
  have inX0 : ∀ w ∈ wsX00, w ∈ wsX0_blocksOf := fun _ h => List.mem_cons_of_mem _ (List.mem_append_right _ (h))
  have L4 : ∀ (x1 : Int32) (k : Int32 → Int32 → Option (Int32)) (hk : ∀ (x2 : Int32) (x3 : Int32) (H : Heap) (locs : List Loc) (ls : Array Slot), k x2 x3 = some y → wd g A s.heap [kX0 g a0 v0] H locs → lv_has ls 4 [(0, .ref (a0 0)), (1, .int x1), (2, .int x2), (3, .int x3)] → W p l e (rmk 0 0) s m args below meth c H locs 0 0 Q (F0 m 42 ls [])) (n : Nat) (x2 : Int32) (x3 : Int32) (H : Heap) (locs : List Loc) (ls : Array Slot), fX0_blocksOf_L4 N k x1 v0 n x2 x3 = some y → wd g A s.heap [kX0 g a0 v0] H locs → lv_has ls 4 [(0, .ref (a0 0)), (1, .int x1), (2, .int x2), (3, .int x3)] → W p l e (rmk 0 0) s m args below meth c H locs 0 0 Q (F0 m 4 ls []) := by
    intro x1 k hk n
    induction n with
    | zero => intro x2 x3 H locs ls hf; rw [fX0_blocksOf_L4] at hf; cases hf
    | succ n ih =>
      intro x2 x3 H locs ls hf hW hl
      rw [fX0_blocksOf_L4] at hf
      refine lv_iload_n hx hb dX0_blocksOf_4 rfl (lv_at hl 3 rfl) ?_
      refine lv_aload_n hx hb dX0_blocksOf_5 rfl (lv_at hl 0 rfl) ?_
      refine g_get C hW inX0 0 rfl rfl rfl 0 (by decide) (List.mem_of_getElem? (i := 1) rfl) (v := .int (v0 0 0)) rfl dX0_blocksOf_6 ?_
      refine lv_icmp_ge (tgt := 42) hx hb dX0_blocksOf_9 (by decide) (fun h => ?_) (fun h => ?_)
      · replace hf := (if_pos h).symm.trans hf
        exact hk _ _ H locs ls hf hW (lv_sub hl [0, 1, 2, 3] rfl)
      · replace hf := (if_neg h).symm.trans hf
        refine lv_iload_n hx hb dX0_blocksOf_12 rfl (lv_at hl 3 rfl) ?_
        refine lv_bipush (v := (60 : Int32)) hx hb dX0_blocksOf_13 (by decide) ?_
        refine lv_icmp_ge (tgt := 42) hx hb dX0_blocksOf_15 (by decide) (fun h => ?_) (fun h => ?_)
        · replace hf := (if_pos h).symm.trans hf
          exact hk _ _ H locs ls hf hW (lv_sub hl [0, 1, 2, 3] rfl)
        · replace hf := (if_neg h).symm.trans hf
          refine lv_iload_n hx hb dX0_blocksOf_18 rfl (lv_at hl 2 rfl) ?_
          refine lv_aload_n hx hb dX0_blocksOf_19 rfl (lv_at hl 0 rfl) ?_
          refine g_get C hW inX0 0 rfl rfl rfl 1 (by decide) (List.mem_of_getElem? (i := 2) rfl) (v := .ref (a0 1)) rfl dX0_blocksOf_20 ?_
          refine lv_iload_n hx hb dX0_blocksOf_23 rfl (lv_at hl 3 rfl) ?_
          obtain ⟨hi, hf⟩ := gd_of hf
          refine g_iald C hW 0 1 rfl (f := (v0 1)) rfl (ib_in hi) dX0_blocksOf_24 ?_
          refine lv_iload_n hx hb dX0_blocksOf_25 rfl (lv_at hl 1 rfl) ?_
          refine lv_icmp_ne (tgt := 33) hx hb dX0_blocksOf_26 (by decide) (fun h => ?_) (fun h => ?_)
          · replace hf := (if_neg h).symm.trans hf
            refine lv_iconst (v := (0 : Int32)) hx hb dX0_blocksOf_33 (by decide) ?_
            refine lv_iadd hx hb dX0_blocksOf_34 ?_
            refine lv_istore_n (lv' := [(2, .int (x2 + (0 : Int32))), (0, .ref (a0 0)), (1, .int x1), (3, .int x3)]) hx hb dX0_blocksOf_35 rfl hl (by decide) rfl (fun ls hl => ?_)
            refine lv_iinc (v := (x3 + 1)) (lv' := [(3, .int (x3 + 1)), (2, .int (x2 + (0 : Int32))), (0, .ref (a0 0)), (1, .int x1)]) hx hb dX0_blocksOf_36 hl (k := 3) rfl (by first | rfl | decide) (by decide) rfl (fun ls hl => ?_)
            refine lv_goto (tgt := 4) hx hb dX0_blocksOf_39 (by decide) ?_
            exact ih _ _ H locs ls hf hW (lv_sub hl [2, 3, 1, 0] rfl)
          · replace hf := (if_pos h).symm.trans hf
            refine lv_iconst (v := (1 : Int32)) hx hb dX0_blocksOf_29 (by decide) ?_
            refine lv_goto (tgt := 34) hx hb dX0_blocksOf_30 (by decide) ?_
            refine lv_iadd hx hb dX0_blocksOf_34 ?_
            refine lv_istore_n (lv' := [(2, .int (x2 + (1 : Int32))), (0, .ref (a0 0)), (1, .int x1), (3, .int x3)]) hx hb dX0_blocksOf_35 rfl hl (by decide) rfl (fun ls hl => ?_)
            refine lv_iinc (v := (x3 + 1)) (lv' := [(3, .int (x3 + 1)), (2, .int (x2 + (1 : Int32))), (0, .ref (a0 0)), (1, .int x1)]) hx hb dX0_blocksOf_36 hl (k := 3) rfl (by first | rfl | decide) (by decide) rfl (fun ls hl => ?_)
            refine lv_goto (tgt := 4) hx hb dX0_blocksOf_39 (by decide) ?_
            exact ih _ _ H locs ls hf hW (lv_sub hl [2, 3, 1, 0] rfl)
  rw [fX0_blocksOf] at hf
  refine lv_iconst (v := (0 : Int32)) hx hb dX0_blocksOf_0 (by decide) ?_
  refine lv_istore_n (lv' := [(2, .int (0 : Int32)), (0, .ref (a0 0)), (1, .int x1)]) hx hb dX0_blocksOf_1 rfl hl (by decide) rfl (fun ls hl => ?_)
  refine lv_iconst (v := (0 : Int32)) hx hb dX0_blocksOf_2 (by decide) ?_
  refine lv_istore_n (lv' := [(3, .int (0 : Int32)), (2, .int (0 : Int32)), (0, .ref (a0 0)), (1, .int x1)]) hx hb dX0_blocksOf_3 rfl hl (by decide) rfl (fun ls hl => ?_)
  refine L4 x1 _ (fun x2_1 x3_1 H locs ls hf hW hl => ?_) N (0 : Int32) (0 : Int32) H locs ls hf hW (lv_sub hl [2, 3, 1, 0] rfl)
  refine lv_iload_n hx hb dX0_blocksOf_42 rfl (lv_at hl 2 rfl) ?_
  obtain rfl := Option.some.inj hf
  subst hQ
  exact g_iret C hr hk0 hW rfl rfl dX0_blocksOf_43
