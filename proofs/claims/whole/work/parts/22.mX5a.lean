def fX7_isWithin (N : Nat) (x0 : Int32) (x1 : Int32) (x2 : Int32) : Option (Int32) := (if x0 < x1 then some (0 : Int32) else (if x2 < x0 then some (0 : Int32) else some (1 : Int32)))
set_option maxHeartbeats 4000000 in
set_option maxRecDepth 100000 in
theorem ct_X7_isWithin (g : GT) (l : Launch) (N : Nat) (x0 : Int32) (x1 : Int32) (x2 : Int32) {y : Int32} (hf : fX7_isWithin N x0 x1 x2 = some y) : ct g l yX7_isWithin wsX7_isWithin (rmk 0 0) [.int x0, .int x1, .int x2] [] (some (.int y)) [] := by
  refine ct_of (cc := cX7_isWithin) (maxL := 3) (ret := (some .boolean)) (by decide) rfl (Nat.le_of_ble_eq_true rfl) ?_
  intro p e s m args below meth c A ls C hr hk0 hA hW hl
  have hx := C.1.1
  have hb := C.1.2.1
  replace hl : lv_has ls 3 [(0, .int x0), (1, .int x1), (2, .int x2)] := hl
  obtain ⟨Q, hQ⟩ : ∃ Q, Q = MQ below (ctQ g A (some (.int y)) []) args s 0 0 A := ⟨_, rfl⟩
  rw [← hQ]
  obtain ⟨H, hH⟩ : ∃ H, H = s.heap := ⟨_, rfl⟩
  obtain ⟨locs, hL⟩ : ∃ locs : List Loc, locs = [] := ⟨_, rfl⟩
  replace hW : wd g A s.heap [] H locs := by rw [hH, hL]; exact hW
  suffices hG : W p l e (rmk 0 0) s m args below meth c H locs 0 0 Q (F0 m 0 ls []) by
    rw [hH, hL] at hG; exact hG
  clear hH hL
  rw [fX7_isWithin] at hf
  refine lv_iload_n hx hb dX7_isWithin_0 rfl (lv_at hl 0 rfl) ?_
  refine lv_iload_n hx hb dX7_isWithin_1 rfl (lv_at hl 1 rfl) ?_
  refine lv_icmp_lt (tgt := 14) hx hb dX7_isWithin_2 (by decide) (fun h => ?_) (fun h => ?_)
  · replace hf := (if_pos h).symm.trans hf
    refine lv_iconst (v := (0 : Int32)) hx hb dX7_isWithin_14 (by decide) ?_
    obtain rfl := Option.some.inj hf
    subst hQ
    exact g_zret C hr hk0 hW rfl rfl rfl dX7_isWithin_15
  · replace hf := (if_neg h).symm.trans hf
    refine lv_iload_n hx hb dX7_isWithin_5 rfl (lv_at hl 0 rfl) ?_
    refine lv_iload_n hx hb dX7_isWithin_6 rfl (lv_at hl 2 rfl) ?_
    refine lv_icmp_gt (tgt := 14) hx hb dX7_isWithin_7 (by decide) (fun h => ?_) (fun h => ?_)
    · replace hf := (if_pos h).symm.trans hf
      refine lv_iconst (v := (0 : Int32)) hx hb dX7_isWithin_14 (by decide) ?_
      obtain rfl := Option.some.inj hf
      subst hQ
      exact g_zret C hr hk0 hW rfl rfl rfl dX7_isWithin_15
    · replace hf := (if_neg h).symm.trans hf
      refine lv_iconst (v := (1 : Int32)) hx hb dX7_isWithin_10 (by decide) ?_
      refine lv_goto (tgt := 15) hx hb dX7_isWithin_11 (by decide) ?_
      obtain rfl := Option.some.inj hf
      subst hQ
      exact g_zret C hr hk0 hW rfl rfl rfl dX7_isWithin_15
def fX3_begin (N : Nat) (v0 : MM) : Option (MM) := some (st (st (st (st (st (st v0 0 (fun _ => (0 : Int32))) 1 (fun _ => (0 : Int32))) 2 (fun _ => (20 : Int32))) 3 (fun _ => (2 : Int32))) 4 (fun _ => (4 : Int32))) 5 (fun _ => (3 : Int32)))
set_option maxHeartbeats 4000000 in
set_option maxRecDepth 100000 in
theorem ct_X3_begin (g : GT) (l : Launch) (N : Nat) (a0 : Nat → Nat) (v0 : MM) {y : MM} (hf : fX3_begin N v0 = some y) : ct g l yX3_begin wsX3_begin (rmk 0 0) [.ref (a0 0)] [kX3 g a0 v0] none [kX3 g a0 y] := by
  refine ct_of (cc := cX3_begin) (maxL := 1) (ret := none) (by decide) rfl (Nat.le_of_ble_eq_true rfl) ?_
  intro p e s m args below meth c A ls C hr hk0 hA hW hl
  have hx := C.1.1
  have hb := C.1.2.1
  replace hl : lv_has ls 1 [(0, .ref (a0 0))] := hl
  obtain ⟨Q, hQ⟩ : ∃ Q, Q = MQ below (ctQ g A none [kX3 g a0 y]) args s 0 0 A := ⟨_, rfl⟩
  rw [← hQ]
  obtain ⟨H, hH⟩ : ∃ H, H = s.heap := ⟨_, rfl⟩
  obtain ⟨locs, hL⟩ : ∃ locs : List Loc, locs = [] := ⟨_, rfl⟩
  replace hW : wd g A s.heap [kX3 g a0 v0] H locs := by rw [hH, hL]; exact hW
  suffices hG : W p l e (rmk 0 0) s m args below meth c H locs 0 0 Q (F0 m 0 ls []) by
    rw [hH, hL] at hG; exact hG
  clear hH hL
  have inX3 : ∀ w ∈ wsX30, w ∈ wsX3_begin := fun _ h => List.mem_cons_of_mem _ (List.mem_append_right _ (h))
  rw [fX3_begin] at hf
  refine lv_aload_n hx hb dX3_begin_0 rfl (lv_at hl 0 rfl) ?_
  refine lv_iconst (v := (0 : Int32)) hx hb dX3_begin_1 (by decide) ?_
  refine g_put C hW inX3 tyX3_ok nmX3 0 rfl rfl rfl 0 (by decide) (List.mem_of_getElem? (i := 1) rfl) rfl rfl rfl rfl (kX3_s0 g a0 v0 (0 : Int32)) (ch' := [kX3 g a0 (st v0 0 (fun _ => (0 : Int32)))]) rfl dX3_begin_2 (fun H locs hW => ?_)
  refine lv_aload_n hx hb dX3_begin_5 rfl (lv_at hl 0 rfl) ?_
  refine lv_iconst (v := (0 : Int32)) hx hb dX3_begin_6 (by decide) ?_
  refine g_put C hW inX3 tyX3_ok nmX3 0 rfl rfl rfl 1 (by decide) (List.mem_of_getElem? (i := 2) rfl) rfl rfl rfl rfl (kX3_s1 g a0 (st v0 0 (fun _ => (0 : Int32))) (0 : Int32)) (ch' := [kX3 g a0 (st (st v0 0 (fun _ => (0 : Int32))) 1 (fun _ => (0 : Int32)))]) rfl dX3_begin_7 (fun H locs hW => ?_)
  refine lv_aload_n hx hb dX3_begin_10 rfl (lv_at hl 0 rfl) ?_
  refine lv_bipush (v := (20 : Int32)) hx hb dX3_begin_11 (by decide) ?_
  refine g_put C hW inX3 tyX3_ok nmX3 0 rfl rfl rfl 2 (by decide) (List.mem_of_getElem? (i := 3) rfl) rfl rfl rfl rfl (kX3_s2 g a0 (st (st v0 0 (fun _ => (0 : Int32))) 1 (fun _ => (0 : Int32))) (20 : Int32)) (ch' := [kX3 g a0 (st (st (st v0 0 (fun _ => (0 : Int32))) 1 (fun _ => (0 : Int32))) 2 (fun _ => (20 : Int32)))]) rfl dX3_begin_13 (fun H locs hW => ?_)
  refine lv_aload_n hx hb dX3_begin_16 rfl (lv_at hl 0 rfl) ?_
  refine lv_iconst (v := (2 : Int32)) hx hb dX3_begin_17 (by decide) ?_
  refine g_put C hW inX3 tyX3_ok nmX3 0 rfl rfl rfl 3 (by decide) (List.mem_of_getElem? (i := 4) rfl) rfl rfl rfl rfl (kX3_s3 g a0 (st (st (st v0 0 (fun _ => (0 : Int32))) 1 (fun _ => (0 : Int32))) 2 (fun _ => (20 : Int32))) (2 : Int32)) (ch' := [kX3 g a0 (st (st (st (st v0 0 (fun _ => (0 : Int32))) 1 (fun _ => (0 : Int32))) 2 (fun _ => (20 : Int32))) 3 (fun _ => (2 : Int32)))]) rfl dX3_begin_18 (fun H locs hW => ?_)
  refine lv_aload_n hx hb dX3_begin_21 rfl (lv_at hl 0 rfl) ?_
  refine lv_iconst (v := (4 : Int32)) hx hb dX3_begin_22 (by decide) ?_
  refine g_put C hW inX3 tyX3_ok nmX3 0 rfl rfl rfl 4 (by decide) (List.mem_of_getElem? (i := 5) rfl) rfl rfl rfl rfl (kX3_s4 g a0 (st (st (st (st v0 0 (fun _ => (0 : Int32))) 1 (fun _ => (0 : Int32))) 2 (fun _ => (20 : Int32))) 3 (fun _ => (2 : Int32))) (4 : Int32)) (ch' := [kX3 g a0 (st (st (st (st (st v0 0 (fun _ => (0 : Int32))) 1 (fun _ => (0 : Int32))) 2 (fun _ => (20 : Int32))) 3 (fun _ => (2 : Int32))) 4 (fun _ => (4 : Int32)))]) rfl dX3_begin_23 (fun H locs hW => ?_)
  refine lv_aload_n hx hb dX3_begin_26 rfl (lv_at hl 0 rfl) ?_
  refine lv_iconst (v := (3 : Int32)) hx hb dX3_begin_27 (by decide) ?_
  refine g_put C hW inX3 tyX3_ok nmX3 0 rfl rfl rfl 5 (by decide) (List.mem_of_getElem? (i := 6) rfl) rfl rfl rfl rfl (kX3_s5 g a0 (st (st (st (st (st v0 0 (fun _ => (0 : Int32))) 1 (fun _ => (0 : Int32))) 2 (fun _ => (20 : Int32))) 3 (fun _ => (2 : Int32))) 4 (fun _ => (4 : Int32))) (3 : Int32)) (ch' := [kX3 g a0 (st (st (st (st (st (st v0 0 (fun _ => (0 : Int32))) 1 (fun _ => (0 : Int32))) 2 (fun _ => (20 : Int32))) 3 (fun _ => (2 : Int32))) 4 (fun _ => (4 : Int32))) 5 (fun _ => (3 : Int32)))]) rfl dX3_begin_28 (fun H locs hW => ?_)
  obtain rfl := Option.some.inj hf
  subst hQ
  exact g_vret C hr hk0 hW rfl rfl dX3_begin_31
def fX3_isAhead (N : Nat) (x1 : Int32) (x2 : Int32) (v0 : MM) : Option (Int32) := (if ib x1 6 = true then (if ib x2 6 = true then (if ((v0 8) (Int32.toNatClampNeg x1)) < ((v0 8) (Int32.toNatClampNeg x2)) then some (1 : Int32) else (if ib x1 6 = true then (if ib x2 6 = true then (if ((v0 8) (Int32.toNatClampNeg x1)) = ((v0 8) (Int32.toNatClampNeg x2)) then (if x2 ≤ x1 then some (0 : Int32) else some (1 : Int32)) else some (0 : Int32)) else none) else none)) else none) else none)
set_option maxHeartbeats 4000000 in
set_option maxRecDepth 100000 in
theorem ct_X3_isAhead (g : GT) (l : Launch) (N : Nat) (a0 : Nat → Nat) (x1 : Int32) (x2 : Int32) (v0 : MM) {y : Int32} (hf : fX3_isAhead N x1 x2 v0 = some y) : ct g l yX3_isAhead wsX3_isAhead (rmk 0 0) [.ref (a0 0), .int x1, .int x2] [kX3 g a0 v0] (some (.int y)) [kX3 g a0 v0] := by
  refine ct_of (cc := cX3_isAhead) (maxL := 3) (ret := (some .boolean)) (by decide) rfl (Nat.le_of_ble_eq_true rfl) ?_
  intro p e s m args below meth c A ls C hr hk0 hA hW hl
  have hx := C.1.1
  have hb := C.1.2.1
  replace hl : lv_has ls 3 [(0, .ref (a0 0)), (1, .int x1), (2, .int x2)] := hl
  obtain ⟨Q, hQ⟩ : ∃ Q, Q = MQ below (ctQ g A (some (.int y)) [kX3 g a0 v0]) args s 0 0 A := ⟨_, rfl⟩
  rw [← hQ]
  obtain ⟨H, hH⟩ : ∃ H, H = s.heap := ⟨_, rfl⟩
  obtain ⟨locs, hL⟩ : ∃ locs : List Loc, locs = [] := ⟨_, rfl⟩
  replace hW : wd g A s.heap [kX3 g a0 v0] H locs := by rw [hH, hL]; exact hW
  suffices hG : W p l e (rmk 0 0) s m args below meth c H locs 0 0 Q (F0 m 0 ls []) by
    rw [hH, hL] at hG; exact hG
  clear hH hL
  have inX3 : ∀ w ∈ wsX30, w ∈ wsX3_isAhead := fun _ h => List.mem_cons_of_mem _ (List.mem_append_right _ (h))
  rw [fX3_isAhead] at hf
  refine lv_aload_n hx hb dX3_isAhead_0 rfl (lv_at hl 0 rfl) ?_
  refine g_get C hW inX3 0 rfl rfl rfl 8 (by decide) (List.mem_of_getElem? (i := 1) rfl) (v := .ref (a0 3)) rfl dX3_isAhead_1 ?_
  refine lv_iload_n hx hb dX3_isAhead_4 rfl (lv_at hl 1 rfl) ?_
  obtain ⟨hi, hf⟩ := gd_of hf
  refine g_iald C hW 0 3 rfl (f := (v0 8)) rfl (ib_in hi) dX3_isAhead_5 ?_
  refine lv_aload_n hx hb dX3_isAhead_6 rfl (lv_at hl 0 rfl) ?_
  refine g_get C hW inX3 0 rfl rfl rfl 8 (by decide) (List.mem_of_getElem? (i := 1) rfl) (v := .ref (a0 3)) rfl dX3_isAhead_7 ?_
  refine lv_iload_n hx hb dX3_isAhead_10 rfl (lv_at hl 2 rfl) ?_
  obtain ⟨hi, hf⟩ := gd_of hf
  refine g_iald C hW 0 3 rfl (f := (v0 8)) rfl (ib_in hi) dX3_isAhead_11 ?_
  refine lv_icmp_lt (tgt := 35) hx hb dX3_isAhead_12 (by decide) (fun h => ?_) (fun h => ?_)
  · replace hf := (if_pos h).symm.trans hf
    refine lv_iconst (v := (1 : Int32)) hx hb dX3_isAhead_35 (by decide) ?_
    refine lv_goto (tgt := 40) hx hb dX3_isAhead_36 (by decide) ?_
    obtain rfl := Option.some.inj hf
    subst hQ
    exact g_zret C hr hk0 hW rfl rfl rfl dX3_isAhead_40
  · replace hf := (if_neg h).symm.trans hf
    refine lv_aload_n hx hb dX3_isAhead_15 rfl (lv_at hl 0 rfl) ?_
    refine g_get C hW inX3 0 rfl rfl rfl 8 (by decide) (List.mem_of_getElem? (i := 1) rfl) (v := .ref (a0 3)) rfl dX3_isAhead_16 ?_
    refine lv_iload_n hx hb dX3_isAhead_19 rfl (lv_at hl 1 rfl) ?_
    obtain ⟨hi, hf⟩ := gd_of hf
    refine g_iald C hW 0 3 rfl (f := (v0 8)) rfl (ib_in hi) dX3_isAhead_20 ?_
    refine lv_aload_n hx hb dX3_isAhead_21 rfl (lv_at hl 0 rfl) ?_
    refine g_get C hW inX3 0 rfl rfl rfl 8 (by decide) (List.mem_of_getElem? (i := 1) rfl) (v := .ref (a0 3)) rfl dX3_isAhead_22 ?_
    refine lv_iload_n hx hb dX3_isAhead_25 rfl (lv_at hl 2 rfl) ?_
    obtain ⟨hi, hf⟩ := gd_of hf
    refine g_iald C hW 0 3 rfl (f := (v0 8)) rfl (ib_in hi) dX3_isAhead_26 ?_
    refine lv_icmp_ne (tgt := 39) hx hb dX3_isAhead_27 (by decide) (fun h => ?_) (fun h => ?_)
    · replace hf := (if_neg h).symm.trans hf
      refine lv_iconst (v := (0 : Int32)) hx hb dX3_isAhead_39 (by decide) ?_
      obtain rfl := Option.some.inj hf
      subst hQ
      exact g_zret C hr hk0 hW rfl rfl rfl dX3_isAhead_40
    · replace hf := (if_pos h).symm.trans hf
      refine lv_iload_n hx hb dX3_isAhead_30 rfl (lv_at hl 1 rfl) ?_
      refine lv_iload_n hx hb dX3_isAhead_31 rfl (lv_at hl 2 rfl) ?_
      refine lv_icmp_ge (tgt := 39) hx hb dX3_isAhead_32 (by decide) (fun h => ?_) (fun h => ?_)
      · replace hf := (if_pos h).symm.trans hf
        refine lv_iconst (v := (0 : Int32)) hx hb dX3_isAhead_39 (by decide) ?_
        obtain rfl := Option.some.inj hf
        subst hQ
        exact g_zret C hr hk0 hW rfl rfl rfl dX3_isAhead_40
      · replace hf := (if_neg h).symm.trans hf
        refine lv_iconst (v := (1 : Int32)) hx hb dX3_isAhead_35 (by decide) ?_
        refine lv_goto (tgt := 40) hx hb dX3_isAhead_36 (by decide) ?_
        obtain rfl := Option.some.inj hf
        subst hQ
        exact g_zret C hr hk0 hW rfl rfl rfl dX3_isAhead_40
def fX3_isPlaceToAsk (N : Nat) (x1 : Int32) (x2 : Int32) (v0 : MM) : Option (Int32) := (if ib x1 3 = true then (if ((v0 6) (Int32.toNatClampNeg x1)) ≤ 0 then some (0 : Int32) else (if ¬ ((v0 6) (Int32.toNatClampNeg x1)) = 0 then (if ¬ ((v0 6) (Int32.toNatClampNeg x1)) = 0 then (if (x2 - x2 / ((v0 6) (Int32.toNatClampNeg x1)) * ((v0 6) (Int32.toNatClampNeg x1))) = (x1 - x1 / ((v0 6) (Int32.toNatClampNeg x1)) * ((v0 6) (Int32.toNatClampNeg x1))) then some (1 : Int32) else some (0 : Int32)) else none) else none)) else none)
set_option maxHeartbeats 4000000 in
set_option maxRecDepth 100000 in
theorem ct_X3_isPlaceToAsk (g : GT) (l : Launch) (N : Nat) (a0 : Nat → Nat) (x1 : Int32) (x2 : Int32) (v0 : MM) {y : Int32} (hf : fX3_isPlaceToAsk N x1 x2 v0 = some y) : ct g l yX3_isPlaceToAsk wsX3_isPlaceToAsk (rmk 0 0) [.ref (a0 0), .int x1, .int x2] [kX3 g a0 v0] (some (.int y)) [kX3 g a0 v0] := by
  refine ct_of (cc := cX3_isPlaceToAsk) (maxL := 4) (ret := (some .boolean)) (by decide) rfl (Nat.le_of_ble_eq_true rfl) ?_
  intro p e s m args below meth c A ls C hr hk0 hA hW hl
  have hx := C.1.1
  have hb := C.1.2.1
  replace hl : lv_has ls 4 [(0, .ref (a0 0)), (1, .int x1), (2, .int x2)] := hl
  obtain ⟨Q, hQ⟩ : ∃ Q, Q = MQ below (ctQ g A (some (.int y)) [kX3 g a0 v0]) args s 0 0 A := ⟨_, rfl⟩
  rw [← hQ]
  obtain ⟨H, hH⟩ : ∃ H, H = s.heap := ⟨_, rfl⟩
  obtain ⟨locs, hL⟩ : ∃ locs : List Loc, locs = [] := ⟨_, rfl⟩
  replace hW : wd g A s.heap [kX3 g a0 v0] H locs := by rw [hH, hL]; exact hW
  suffices hG : W p l e (rmk 0 0) s m args below meth c H locs 0 0 Q (F0 m 0 ls []) by
    rw [hH, hL] at hG; exact hG
  clear hH hL
  have inX3 : ∀ w ∈ wsX30, w ∈ wsX3_isPlaceToAsk := fun _ h => List.mem_cons_of_mem _ (List.mem_append_right _ (h))
  rw [fX3_isPlaceToAsk] at hf
  refine lv_aload_n hx hb dX3_isPlaceToAsk_0 rfl (lv_at hl 0 rfl) ?_
  refine g_get C hW inX3 0 rfl rfl rfl 6 (by decide) (List.mem_of_getElem? (i := 1) rfl) (v := .ref (a0 1)) rfl dX3_isPlaceToAsk_1 ?_
  refine lv_iload_n hx hb dX3_isPlaceToAsk_4 rfl (lv_at hl 1 rfl) ?_
  obtain ⟨hi, hf⟩ := gd_of hf
  refine g_iald C hW 0 1 rfl (f := (v0 6)) rfl (ib_in hi) dX3_isPlaceToAsk_5 ?_
  refine lv_istore_n (lv' := [(3, .int ((v0 6) (Int32.toNatClampNeg x1))), (0, .ref (a0 0)), (1, .int x1), (2, .int x2)]) hx hb dX3_isPlaceToAsk_6 rfl hl (by decide) rfl (fun ls hl => ?_)
  refine lv_iload_n hx hb dX3_isPlaceToAsk_7 rfl (lv_at hl 0 rfl) ?_
  refine lv_if_le (tgt := 24) hx hb dX3_isPlaceToAsk_8 (by decide) (fun h => ?_) (fun h => ?_)
  · replace hf := (if_pos h).symm.trans hf
    refine lv_iconst (v := (0 : Int32)) hx hb dX3_isPlaceToAsk_24 (by decide) ?_
    obtain rfl := Option.some.inj hf
    subst hQ
    exact g_zret C hr hk0 hW rfl rfl rfl dX3_isPlaceToAsk_25
  · replace hf := (if_neg h).symm.trans hf
    refine lv_iload_n hx hb dX3_isPlaceToAsk_11 rfl (lv_at hl 3 rfl) ?_
    refine lv_iload_n hx hb dX3_isPlaceToAsk_12 rfl (lv_at hl 0 rfl) ?_
    obtain ⟨hi, hf⟩ := gd_of hf
    refine lv_irem hx hb dX3_isPlaceToAsk_13 hi ?_
    refine lv_iload_n hx hb dX3_isPlaceToAsk_14 rfl (lv_at hl 2 rfl) ?_
    refine lv_iload_n hx hb dX3_isPlaceToAsk_15 rfl (lv_at hl 0 rfl) ?_
    obtain ⟨hi, hf⟩ := gd_of hf
    refine lv_irem hx hb dX3_isPlaceToAsk_16 hi ?_
    refine lv_icmp_ne (tgt := 24) hx hb dX3_isPlaceToAsk_17 (by decide) (fun h => ?_) (fun h => ?_)
    · replace hf := (if_neg h).symm.trans hf
      refine lv_iconst (v := (0 : Int32)) hx hb dX3_isPlaceToAsk_24 (by decide) ?_
      obtain rfl := Option.some.inj hf
      subst hQ
      exact g_zret C hr hk0 hW rfl rfl rfl dX3_isPlaceToAsk_25
    · replace hf := (if_pos h).symm.trans hf
      refine lv_iconst (v := (1 : Int32)) hx hb dX3_isPlaceToAsk_20 (by decide) ?_
      refine lv_goto (tgt := 25) hx hb dX3_isPlaceToAsk_21 (by decide) ?_
      obtain rfl := Option.some.inj hf
      subst hQ
      exact g_zret C hr hk0 hW rfl rfl rfl dX3_isPlaceToAsk_25
def fX4_isDeaf (N : Nat) (x1 : Int32) (x2 : Int32) (v0 : MM) : Option (Int32) := (if x2 < 0 then some (0 : Int32) else (if (199 : Int32) < x2 then some (0 : Int32) else (if ib x2 200 = true then (if (((v0 13) (Int32.toNatClampNeg x2)) &&& ((1 : Int32) <<< (x1 &&& 31))) = 0 then some (0 : Int32) else some (1 : Int32)) else none)))
set_option maxHeartbeats 4000000 in
set_option maxRecDepth 100000 in
theorem ct_X4_isDeaf (g : GT) (l : Launch) (N : Nat) (a0 : Nat → Nat) (q14 : Nat) (x1 : Int32) (x2 : Int32) (v0 : MM) {y : Int32} (hf : fX4_isDeaf N x1 x2 v0 = some y) : ct g l yX4_isDeaf wsX4_isDeaf (rmk 0 0) [.ref (a0 0), .int x1, .int x2] [kX4 g a0 q14 v0] (some (.int y)) [kX4 g a0 q14 v0] := by
  refine ct_of (cc := cX4_isDeaf) (maxL := 3) (ret := (some .boolean)) (by decide) rfl (Nat.le_of_ble_eq_true rfl) ?_
  intro p e s m args below meth c A ls C hr hk0 hA hW hl
  have hx := C.1.1
  have hb := C.1.2.1
  replace hl : lv_has ls 3 [(0, .ref (a0 0)), (1, .int x1), (2, .int x2)] := hl
  obtain ⟨Q, hQ⟩ : ∃ Q, Q = MQ below (ctQ g A (some (.int y)) [kX4 g a0 q14 v0]) args s 0 0 A := ⟨_, rfl⟩
  rw [← hQ]
  obtain ⟨H, hH⟩ : ∃ H, H = s.heap := ⟨_, rfl⟩
  obtain ⟨locs, hL⟩ : ∃ locs : List Loc, locs = [] := ⟨_, rfl⟩
  replace hW : wd g A s.heap [kX4 g a0 q14 v0] H locs := by rw [hH, hL]; exact hW
  suffices hG : W p l e (rmk 0 0) s m args below meth c H locs 0 0 Q (F0 m 0 ls []) by
    rw [hH, hL] at hG; exact hG
  clear hH hL
  have inX4 : ∀ w ∈ wsX40, w ∈ wsX4_isDeaf := fun _ h => List.mem_cons_of_mem _ (List.mem_append_right _ (h))
  rw [fX4_isDeaf] at hf
  refine lv_iload_n hx hb dX4_isDeaf_0 rfl (lv_at hl 2 rfl) ?_
  refine lv_if_lt (tgt := 28) hx hb dX4_isDeaf_1 (by decide) (fun h => ?_) (fun h => ?_)
  · replace hf := (if_pos h).symm.trans hf
    refine lv_iconst (v := (0 : Int32)) hx hb dX4_isDeaf_28 (by decide) ?_
    obtain rfl := Option.some.inj hf
    subst hQ
    exact g_zret C hr hk0 hW rfl rfl rfl dX4_isDeaf_29
  · replace hf := (if_neg h).symm.trans hf
    refine lv_iload_n hx hb dX4_isDeaf_4 rfl (lv_at hl 2 rfl) ?_
    refine lv_sipush (v := (199 : Int32)) hx hb dX4_isDeaf_5 (by decide) ?_
    refine lv_icmp_gt (tgt := 28) hx hb dX4_isDeaf_8 (by decide) (fun h => ?_) (fun h => ?_)
    · replace hf := (if_pos h).symm.trans hf
      refine lv_iconst (v := (0 : Int32)) hx hb dX4_isDeaf_28 (by decide) ?_
      obtain rfl := Option.some.inj hf
      subst hQ
      exact g_zret C hr hk0 hW rfl rfl rfl dX4_isDeaf_29
    · replace hf := (if_neg h).symm.trans hf
      refine lv_aload_n hx hb dX4_isDeaf_11 rfl (lv_at hl 0 rfl) ?_
      refine g_get C hW inX4 0 rfl rfl rfl 13 (by decide) (List.mem_of_getElem? (i := 1) rfl) (v := .ref (a0 11)) rfl dX4_isDeaf_12 ?_
      refine lv_iload_n hx hb dX4_isDeaf_15 rfl (lv_at hl 2 rfl) ?_
      obtain ⟨hi, hf⟩ := gd_of hf
      refine g_iald C hW 0 11 rfl (f := (v0 13)) rfl (ib_in hi) dX4_isDeaf_16 ?_
      refine lv_iconst (v := (1 : Int32)) hx hb dX4_isDeaf_17 (by decide) ?_
      refine lv_iload_n hx hb dX4_isDeaf_18 rfl (lv_at hl 1 rfl) ?_
      refine lv_ishl hx hb dX4_isDeaf_19 ?_
      refine lv_iand hx hb dX4_isDeaf_20 ?_
      refine lv_if_eq (tgt := 28) hx hb dX4_isDeaf_21 (by decide) (fun h => ?_) (fun h => ?_)
      · replace hf := (if_pos h).symm.trans hf
        refine lv_iconst (v := (0 : Int32)) hx hb dX4_isDeaf_28 (by decide) ?_
        obtain rfl := Option.some.inj hf
        subst hQ
        exact g_zret C hr hk0 hW rfl rfl rfl dX4_isDeaf_29
      · replace hf := (if_neg h).symm.trans hf
        refine lv_iconst (v := (1 : Int32)) hx hb dX4_isDeaf_24 (by decide) ?_
        refine lv_goto (tgt := 29) hx hb dX4_isDeaf_25 (by decide) ?_
        obtain rfl := Option.some.inj hf
        subst hQ
        exact g_zret C hr hk0 hW rfl rfl rfl dX4_isDeaf_29
def fX4_makeDeaf_L10 (N : Nat) (k : Int32 → Int32 → MM → Option (Int32 × MM)) (x1 : Int32) (x2 : Int32) (x3 : Int32) : Nat → Int32 → Int32 → MM → Option (Int32 × MM)
  | 0, _, _, _ => none
  | n + 1, x4, x5, v0 => (if x3 < x5 then k x4 x5 v0 else (if (199 : Int32) < x5 then k x4 x5 v0 else ((fX4_isDeaf N x1 x5 v0).bind (fun y1 => (if y1 = 0 then (if ib x5 200 = true then (if ib x5 200 = true then fX4_makeDeaf_L10 N k x1 x2 x3 n (x4 + 1) (x5 + 1) (st v0 13 (upd (v0 13) (Int32.toNatClampNeg x5) (((v0 13) (Int32.toNatClampNeg x5)) ||| ((1 : Int32) <<< (x1 &&& 31))))) else none) else none) else fX4_makeDeaf_L10 N k x1 x2 x3 n x4 (x5 + 1) v0)))))
def fX4_makeDeaf (N : Nat) (x1 : Int32) (x2 : Int32) (x3 : Int32) (v0 : MM) : Option (Int32 × MM) := (fX4_makeDeaf_L10 N (fun (x4_2 : Int32) (x5_2 : Int32) (v0_2 : MM) => some (x4_2, v0_2)) x1 x2 x3 N (0 : Int32) (if (0 : Int32) < x2 then x2 else (0 : Int32)) v0)
set_option maxHeartbeats 4000000 in
set_option maxRecDepth 100000 in
theorem ct_X4_makeDeaf (g : GT) (l : Launch) (N : Nat) (a0 : Nat → Nat) (q14 : Nat) (x1 : Int32) (x2 : Int32) (x3 : Int32) (v0 : MM) {y : Int32 × MM} (hf : fX4_makeDeaf N x1 x2 x3 v0 = some y) : ct g l yX4_makeDeaf wsX4_makeDeaf (rmk 1 22) [.ref (a0 0), .int x1, .int x2, .int x3] [kX4 g a0 q14 v0] (some (.int y.1)) [kX4 g a0 q14 y.2] := by
  refine ct_of (cc := cX4_makeDeaf) (maxL := 6) (ret := (some .int)) (by decide) rfl (Nat.le_of_ble_eq_true rfl) ?_
  intro p e s m args below meth c A ls C hr hk0 hA hW hl
  have hx := C.1.1
  have hb := C.1.2.1
  replace hl : lv_has ls 6 [(0, .ref (a0 0)), (1, .int x1), (2, .int x2), (3, .int x3)] := hl
  obtain ⟨Q, hQ⟩ : ∃ Q, Q = MQ below (ctQ g A (some (.int y.1)) [kX4 g a0 q14 y.2]) args s 0 0 A := ⟨_, rfl⟩
  rw [← hQ]
  obtain ⟨H, hH⟩ : ∃ H, H = s.heap := ⟨_, rfl⟩
  obtain ⟨locs, hL⟩ : ∃ locs : List Loc, locs = [] := ⟨_, rfl⟩
  replace hW : wd g A s.heap [kX4 g a0 q14 v0] H locs := by rw [hH, hL]; exact hW
  suffices hG : W p l e (rmk 1 22) s m args below meth c H locs 0 0 Q (F0 m 0 ls []) by
    rw [hH, hL] at hG; exact hG
  clear hH hL
  have inX4 : ∀ w ∈ wsX40, w ∈ wsX4_makeDeaf := fun _ h => List.mem_cons_of_mem _ (List.mem_append_right _ (h))
  have L10 : ∀ (x1 : Int32) (x2 : Int32) (x3 : Int32) (k : Int32 → Int32 → MM → Option (Int32 × MM)) (hk : ∀ (x4 : Int32) (x5 : Int32) (v0 : MM) (H : Heap) (locs : List Loc) (ls : Array Slot), k x4 x5 v0 = some y → wd g A s.heap [kX4 g a0 q14 v0] H locs → lv_has ls 6 [(0, .ref (a0 0)), (1, .int x1), (2, .int x2), (3, .int x3), (4, .int x4), (5, .int x5)] → W p l e (rmk 1 22) s m args below meth c H locs 0 0 Q (F0 m 56 ls [])) (n : Nat) (x4 : Int32) (x5 : Int32) (v0 : MM) (H : Heap) (locs : List Loc) (ls : Array Slot), fX4_makeDeaf_L10 N k x1 x2 x3 n x4 x5 v0 = some y → wd g A s.heap [kX4 g a0 q14 v0] H locs → lv_has ls 6 [(0, .ref (a0 0)), (1, .int x1), (2, .int x2), (3, .int x3), (4, .int x4), (5, .int x5)] → W p l e (rmk 1 22) s m args below meth c H locs 0 0 Q (F0 m 10 ls []) := by
    intro x1 x2 x3 k hk n
    induction n with
    | zero => intro x4 x5 v0 H locs ls hf; rw [fX4_makeDeaf_L10] at hf; cases hf
    | succ n ih =>
      intro x4 x5 v0 H locs ls hf hW hl
      rw [fX4_makeDeaf_L10] at hf
      refine lv_iload hx hb dX4_makeDeaf_10 (lv_at hl 5 rfl) ?_
      refine lv_iload_n hx hb dX4_makeDeaf_12 rfl (lv_at hl 3 rfl) ?_
      refine lv_icmp_gt (tgt := 56) hx hb dX4_makeDeaf_13 (by decide) (fun h => ?_) (fun h => ?_)
      · replace hf := (if_pos h).symm.trans hf
        exact hk _ _ _ H locs ls hf hW (lv_sub hl [0, 1, 2, 3, 4, 5] rfl)
      · replace hf := (if_neg h).symm.trans hf
        refine lv_iload hx hb dX4_makeDeaf_16 (lv_at hl 5 rfl) ?_
        refine lv_sipush (v := (199 : Int32)) hx hb dX4_makeDeaf_18 (by decide) ?_
        refine lv_icmp_gt (tgt := 56) hx hb dX4_makeDeaf_21 (by decide) (fun h => ?_) (fun h => ?_)
        · replace hf := (if_pos h).symm.trans hf
          exact hk _ _ _ H locs ls hf hW (lv_sub hl [0, 1, 2, 3, 4, 5] rfl)
        · replace hf := (if_neg h).symm.trans hf
          refine lv_aload_n hx hb dX4_makeDeaf_24 rfl (lv_at hl 0 rfl) ?_
          refine lv_iload_n hx hb dX4_makeDeaf_25 rfl (lv_at hl 1 rfl) ?_
          refine lv_iload hx hb dX4_makeDeaf_26 (lv_at hl 5 rfl) ?_
          obtain ⟨y1, hc, hf⟩ := bd_of hf
          refine g_cV (Cn := RX4) C (ct_X4_isDeaf g l N a0 q14 x1 x5 v0 hc) gX4_makeDeaf_X4_isDeaf rfl 2 (by decide +kernel) ⟨rfl, rfl, ⟨Nat.le_of_ble_eq_true rfl, Nat.le_of_ble_eq_true rfl⟩, Nat.le_of_ble_eq_true rfl, Nat.le_of_ble_eq_true rfl⟩ rfl hl (Nat.le_of_ble_eq_true rfl) dX4_makeDeaf_28 rfl hW hA [0] rfl rfl rfl (ch' := [kX4 g a0 q14 v0]) rfl 0 rfl rfl rfl (fun H locs hW => ?_)
          refine lv_if_ne (tgt := 50) hx hb dX4_makeDeaf_31 (by decide) (fun h => ?_) (fun h => ?_)
          · replace hf := (if_neg h).symm.trans hf
            refine lv_iinc (v := (x5 + 1)) (lv' := [(5, .int (x5 + 1)), (0, .ref (a0 0)), (1, .int x1), (2, .int x2), (3, .int x3), (4, .int x4)]) hx hb dX4_makeDeaf_50 hl (k := 5) rfl (by first | rfl | decide) (by decide) rfl (fun ls hl => ?_)
            refine lv_goto (tgt := 10) hx hb dX4_makeDeaf_53 (by decide) ?_
            exact ih _ _ _ H locs ls hf hW (lv_sub hl [1, 2, 3, 4, 5, 0] rfl)
          · replace hf := (if_pos h).symm.trans hf
            refine lv_aload_n hx hb dX4_makeDeaf_34 rfl (lv_at hl 0 rfl) ?_
            refine g_get C hW inX4 0 rfl rfl rfl 13 (by decide) (List.mem_of_getElem? (i := 5) rfl) (v := .ref (a0 11)) rfl dX4_makeDeaf_35 ?_
            refine lv_iload hx hb dX4_makeDeaf_38 (lv_at hl 5 rfl) ?_
            refine lv_dup2_11 hx hb dX4_makeDeaf_40 rfl rfl ?_
            obtain ⟨hi, hf⟩ := gd_of hf
            refine g_iald C hW 0 11 rfl (f := (v0 13)) rfl (ib_in hi) dX4_makeDeaf_41 ?_
            refine lv_iconst (v := (1 : Int32)) hx hb dX4_makeDeaf_42 (by decide) ?_
            refine lv_iload_n hx hb dX4_makeDeaf_43 rfl (lv_at hl 1 rfl) ?_
            refine lv_ishl hx hb dX4_makeDeaf_44 ?_
            refine lv_ior hx hb dX4_makeDeaf_45 ?_
            obtain ⟨hi, hf⟩ := gd_of hf
            refine g_iast C hW 0 11 rfl (f := (v0 13)) rfl (ib_in hi) (kX4_w13 g a0 q14 v0 (upd (v0 13) (Int32.toNatClampNeg x5) (((v0 13) (Int32.toNatClampNeg x5)) ||| ((1 : Int32) <<< (x1 &&& 31))))) (ch' := [kX4 g a0 q14 (st v0 13 (upd (v0 13) (Int32.toNatClampNeg x5) (((v0 13) (Int32.toNatClampNeg x5)) ||| ((1 : Int32) <<< (x1 &&& 31)))))]) rfl dX4_makeDeaf_46 (fun H locs hW => ?_)
            refine lv_iinc (v := (x4 + 1)) (lv' := [(4, .int (x4 + 1)), (0, .ref (a0 0)), (1, .int x1), (2, .int x2), (3, .int x3), (5, .int x5)]) hx hb dX4_makeDeaf_47 hl (k := 4) rfl (by first | rfl | decide) (by decide) rfl (fun ls hl => ?_)
            refine lv_iinc (v := (x5 + 1)) (lv' := [(5, .int (x5 + 1)), (4, .int (x4 + 1)), (0, .ref (a0 0)), (1, .int x1), (2, .int x2), (3, .int x3)]) hx hb dX4_makeDeaf_50 hl (k := 5) rfl (by first | rfl | decide) (by decide) rfl (fun ls hl => ?_)
            refine lv_goto (tgt := 10) hx hb dX4_makeDeaf_53 (by decide) ?_
            exact ih _ _ _ H locs ls hf hW (lv_sub hl [2, 3, 4, 5, 1, 0] rfl)
  rw [fX4_makeDeaf] at hf
  refine lv_iconst (v := (0 : Int32)) hx hb dX4_makeDeaf_0 (by decide) ?_
  refine lv_istore (lv' := [(4, .int (0 : Int32)), (0, .ref (a0 0)), (1, .int x1), (2, .int x2), (3, .int x3)]) hx hb dX4_makeDeaf_1 hl (by decide) rfl (fun ls hl => ?_)
  refine lv_iconst (v := (0 : Int32)) hx hb dX4_makeDeaf_3 (by decide) ?_
  refine lv_iload_n hx hb dX4_makeDeaf_4 rfl (lv_at hl 3 rfl) ?_
  refine g_mmax C hl (List.mem_of_getElem? (i := 1) rfl) (List.mem_of_getElem? (i := 2) rfl) (List.mem_of_getElem? (i := 3) rfl) (List.mem_of_getElem? (i := 4) rfl) ⟨Nat.le_of_ble_eq_true rfl, Nat.le_of_ble_eq_true rfl, Nat.le_of_ble_eq_true rfl, Nat.le_of_ble_eq_true rfl⟩ (Nat.le_of_ble_eq_true rfl) dX4_makeDeaf_5 ?_
  refine lv_istore (lv' := [(5, .int (if (0 : Int32) < x2 then x2 else (0 : Int32))), (4, .int (0 : Int32)), (0, .ref (a0 0)), (1, .int x1), (2, .int x2), (3, .int x3)]) hx hb dX4_makeDeaf_8 hl (by decide) rfl (fun ls hl => ?_)
  refine L10 x1 x2 x3 _ (fun x4_2 x5_2 v0_2 H locs ls hf hW hl => ?_) N (0 : Int32) (if (0 : Int32) < x2 then x2 else (0 : Int32)) v0 H locs ls hf hW (lv_sub hl [2, 3, 4, 5, 1, 0] rfl)
  refine lv_iload hx hb dX4_makeDeaf_56 (lv_at hl 4 rfl) ?_
  obtain rfl := Option.some.inj hf
  subst hQ
  exact g_iret C hr hk0 hW rfl rfl dX4_makeDeaf_58
def fX4_allThrough_L4 (N : Nat) (k : Int32 → Int32 → Option (Int32)) (v0 : MM) : Nat → Int32 → Int32 → Option (Int32)
  | 0, _, _ => none
  | n + 1, x1, x2 => (if (6 : Int32) ≤ x2 then k x1 x2 else (if ib x2 6 = true then fX4_allThrough_L4 N k v0 n (x1 + ((v0 11) (Int32.toNatClampNeg x2))) (x2 + 1) else none))
def fX4_allThrough (N : Nat) (v0 : MM) : Option (Int32) := (fX4_allThrough_L4 N (fun (x1_1 : Int32) (x2_1 : Int32) => some x1_1) v0 N (0 : Int32) (0 : Int32))
set_option maxHeartbeats 4000000 in
set_option maxRecDepth 100000 in
theorem ct_X4_allThrough (g : GT) (l : Launch) (N : Nat) (a0 : Nat → Nat) (q14 : Nat) (v0 : MM) {y : Int32} (hf : fX4_allThrough N v0 = some y) : ct g l yX4_allThrough wsX4_allThrough (rmk 0 0) [.ref (a0 0)] [kX4 g a0 q14 v0] (some (.int y)) [kX4 g a0 q14 v0] := by
  refine ct_of (cc := cX4_allThrough) (maxL := 3) (ret := (some .int)) (by decide) rfl (Nat.le_of_ble_eq_true rfl) ?_
  intro p e s m args below meth c A ls C hr hk0 hA hW hl
  have hx := C.1.1
  have hb := C.1.2.1
  replace hl : lv_has ls 3 [(0, .ref (a0 0))] := hl
  obtain ⟨Q, hQ⟩ : ∃ Q, Q = MQ below (ctQ g A (some (.int y)) [kX4 g a0 q14 v0]) args s 0 0 A := ⟨_, rfl⟩
  rw [← hQ]
  obtain ⟨H, hH⟩ : ∃ H, H = s.heap := ⟨_, rfl⟩
  obtain ⟨locs, hL⟩ : ∃ locs : List Loc, locs = [] := ⟨_, rfl⟩
  replace hW : wd g A s.heap [kX4 g a0 q14 v0] H locs := by rw [hH, hL]; exact hW
  suffices hG : W p l e (rmk 0 0) s m args below meth c H locs 0 0 Q (F0 m 0 ls []) by
    rw [hH, hL] at hG; exact hG
  clear hH hL
  have inX4 : ∀ w ∈ wsX40, w ∈ wsX4_allThrough := fun _ h => List.mem_cons_of_mem _ (List.mem_append_right _ (h))
  have L4 : ∀ (k : Int32 → Int32 → Option (Int32)) (hk : ∀ (x1 : Int32) (x2 : Int32) (H : Heap) (locs : List Loc) (ls : Array Slot), k x1 x2 = some y → wd g A s.heap [kX4 g a0 q14 v0] H locs → lv_has ls 3 [(0, .ref (a0 0)), (1, .int x1), (2, .int x2)] → W p l e (rmk 0 0) s m args below meth c H locs 0 0 Q (F0 m 25 ls [])) (n : Nat) (x1 : Int32) (x2 : Int32) (H : Heap) (locs : List Loc) (ls : Array Slot), fX4_allThrough_L4 N k v0 n x1 x2 = some y → wd g A s.heap [kX4 g a0 q14 v0] H locs → lv_has ls 3 [(0, .ref (a0 0)), (1, .int x1), (2, .int x2)] → W p l e (rmk 0 0) s m args below meth c H locs 0 0 Q (F0 m 4 ls []) := by
    intro k hk n
    induction n with
    | zero => intro x1 x2 H locs ls hf; rw [fX4_allThrough_L4] at hf; cases hf
    | succ n ih =>
      intro x1 x2 H locs ls hf hW hl
      rw [fX4_allThrough_L4] at hf
      refine lv_iload_n hx hb dX4_allThrough_4 rfl (lv_at hl 2 rfl) ?_
      refine lv_bipush (v := (6 : Int32)) hx hb dX4_allThrough_5 (by decide) ?_
      refine lv_icmp_ge (tgt := 25) hx hb dX4_allThrough_7 (by decide) (fun h => ?_) (fun h => ?_)
      · replace hf := (if_pos h).symm.trans hf
        exact hk _ _ H locs ls hf hW (lv_sub hl [0, 1, 2] rfl)
      · replace hf := (if_neg h).symm.trans hf
        refine lv_iload_n hx hb dX4_allThrough_10 rfl (lv_at hl 1 rfl) ?_
        refine lv_aload_n hx hb dX4_allThrough_11 rfl (lv_at hl 0 rfl) ?_
        refine g_get C hW inX4 0 rfl rfl rfl 11 (by decide) (List.mem_of_getElem? (i := 1) rfl) (v := .ref (a0 9)) rfl dX4_allThrough_12 ?_
        refine lv_iload_n hx hb dX4_allThrough_15 rfl (lv_at hl 2 rfl) ?_
        obtain ⟨hi, hf⟩ := gd_of hf
        refine g_iald C hW 0 9 rfl (f := (v0 11)) rfl (ib_in hi) dX4_allThrough_16 ?_
        refine lv_iadd hx hb dX4_allThrough_17 ?_
        refine lv_istore_n (lv' := [(1, .int (x1 + ((v0 11) (Int32.toNatClampNeg x2)))), (0, .ref (a0 0)), (2, .int x2)]) hx hb dX4_allThrough_18 rfl hl (by decide) rfl (fun ls hl => ?_)
        refine lv_iinc (v := (x2 + 1)) (lv' := [(2, .int (x2 + 1)), (1, .int (x1 + ((v0 11) (Int32.toNatClampNeg x2)))), (0, .ref (a0 0))]) hx hb dX4_allThrough_19 hl (k := 2) rfl (by first | rfl | decide) (by decide) rfl (fun ls hl => ?_)
        refine lv_goto (tgt := 4) hx hb dX4_allThrough_22 (by decide) ?_
        exact ih _ _ H locs ls hf hW (lv_sub hl [2, 1, 0] rfl)
  rw [fX4_allThrough] at hf
  refine lv_iconst (v := (0 : Int32)) hx hb dX4_allThrough_0 (by decide) ?_
  refine lv_istore_n (lv' := [(1, .int (0 : Int32)), (0, .ref (a0 0))]) hx hb dX4_allThrough_1 rfl hl (by decide) rfl (fun ls hl => ?_)
  refine lv_iconst (v := (0 : Int32)) hx hb dX4_allThrough_2 (by decide) ?_
  refine lv_istore_n (lv' := [(2, .int (0 : Int32)), (1, .int (0 : Int32)), (0, .ref (a0 0))]) hx hb dX4_allThrough_3 rfl hl (by decide) rfl (fun ls hl => ?_)
  refine L4 _ (fun x1_1 x2_1 H locs ls hf hW hl => ?_) N (0 : Int32) (0 : Int32) H locs ls hf hW (lv_sub hl [2, 1, 0] rfl)
  refine lv_iload_n hx hb dX4_allThrough_25 rfl (lv_at hl 1 rfl) ?_
  obtain rfl := Option.some.inj hf
  subst hQ
  exact g_iret C hr hk0 hW rfl rfl dX4_allThrough_26
def fX4_isDrained_L10 (N : Nat) (k : Int32 → Int32 → Option (Int32)) (v0 : MM) (v1 : MM) : Nat → Int32 → Int32 → Option (Int32)
  | 0, _, _ => none
  | n + 1, x1, x2 => (if (6 : Int32) ≤ x2 then k x1 x2 else (if ib x2 6 = true then fX4_isDrained_L10 N k v0 v1 n (x1 + ((v1 9) (Int32.toNatClampNeg x2))) (x2 + 1) else none))
def fX4_isDrained (N : Nat) (v0 : MM) (v1 : MM) : Option (Int32) := (fX4_isDrained_L10 N (fun (x1_1 : Int32) (x2_1 : Int32) => (if x1_1 = 0 then some (1 : Int32) else some (0 : Int32))) v0 v1 N (v0 0 0) (0 : Int32))
set_option maxHeartbeats 4000000 in
set_option maxRecDepth 100000 in
theorem ct_X4_isDrained (g : GT) (l : Launch) (N : Nat) (a0 : Nat → Nat) (a1 : Nat → Nat) (v0 : MM) (v1 : MM) {y : Int32} (hf : fX4_isDrained N v0 v1 = some y) : ct g l yX4_isDrained wsX4_isDrained (rmk 0 0) [.ref (a1 0)] [kX0 g a0 v0, kX4 g a1 (a0 0) v1] (some (.int y)) [kX0 g a0 v0, kX4 g a1 (a0 0) v1] := by
  refine ct_of (cc := cX4_isDrained) (maxL := 3) (ret := (some .boolean)) (by decide) rfl (Nat.le_of_ble_eq_true rfl) ?_
  intro p e s m args below meth c A ls C hr hk0 hA hW hl
  have hx := C.1.1
  have hb := C.1.2.1
  replace hl : lv_has ls 3 [(0, .ref (a1 0))] := hl
  obtain ⟨Q, hQ⟩ : ∃ Q, Q = MQ below (ctQ g A (some (.int y)) [kX0 g a0 v0, kX4 g a1 (a0 0) v1]) args s 0 0 A := ⟨_, rfl⟩
  rw [← hQ]
  obtain ⟨H, hH⟩ : ∃ H, H = s.heap := ⟨_, rfl⟩
  obtain ⟨locs, hL⟩ : ∃ locs : List Loc, locs = [] := ⟨_, rfl⟩
  replace hW : wd g A s.heap [kX0 g a0 v0, kX4 g a1 (a0 0) v1] H locs := by rw [hH, hL]; exact hW
  suffices hG : W p l e (rmk 0 0) s m args below meth c H locs 0 0 Q (F0 m 0 ls []) by
    rw [hH, hL] at hG; exact hG
  clear hH hL
  have inX0 : ∀ w ∈ wsX00, w ∈ wsX4_isDrained := fun _ h => List.mem_cons_of_mem _ (List.mem_append_right _ (h))
  have inX4 : ∀ w ∈ wsX40, w ∈ wsX4_isDrained := fun _ h => List.mem_cons_of_mem _ (List.mem_append_left _ (List.mem_append_right _ (h)))
  have L10 : ∀ (k : Int32 → Int32 → Option (Int32)) (hk : ∀ (x1 : Int32) (x2 : Int32) (H : Heap) (locs : List Loc) (ls : Array Slot), k x1 x2 = some y → wd g A s.heap [kX0 g a0 v0, kX4 g a1 (a0 0) v1] H locs → lv_has ls 3 [(0, .ref (a1 0)), (1, .int x1), (2, .int x2)] → W p l e (rmk 0 0) s m args below meth c H locs 0 0 Q (F0 m 31 ls [])) (n : Nat) (x1 : Int32) (x2 : Int32) (H : Heap) (locs : List Loc) (ls : Array Slot), fX4_isDrained_L10 N k v0 v1 n x1 x2 = some y → wd g A s.heap [kX0 g a0 v0, kX4 g a1 (a0 0) v1] H locs → lv_has ls 3 [(0, .ref (a1 0)), (1, .int x1), (2, .int x2)] → W p l e (rmk 0 0) s m args below meth c H locs 0 0 Q (F0 m 10 ls []) := by
    intro k hk n
    induction n with
    | zero => intro x1 x2 H locs ls hf; rw [fX4_isDrained_L10] at hf; cases hf
    | succ n ih =>
      intro x1 x2 H locs ls hf hW hl
      rw [fX4_isDrained_L10] at hf
      refine lv_iload_n hx hb dX4_isDrained_10 rfl (lv_at hl 2 rfl) ?_
      refine lv_bipush (v := (6 : Int32)) hx hb dX4_isDrained_11 (by decide) ?_
      refine lv_icmp_ge (tgt := 31) hx hb dX4_isDrained_13 (by decide) (fun h => ?_) (fun h => ?_)
      · replace hf := (if_pos h).symm.trans hf
        exact hk _ _ H locs ls hf hW (lv_sub hl [0, 1, 2] rfl)
      · replace hf := (if_neg h).symm.trans hf
        refine lv_iload_n hx hb dX4_isDrained_16 rfl (lv_at hl 1 rfl) ?_
        refine lv_aload_n hx hb dX4_isDrained_17 rfl (lv_at hl 0 rfl) ?_
        refine g_get C hW inX4 1 rfl rfl rfl 9 (by decide) (List.mem_of_getElem? (i := 3) rfl) (v := .ref (a1 7)) rfl dX4_isDrained_18 ?_
        refine lv_iload_n hx hb dX4_isDrained_21 rfl (lv_at hl 2 rfl) ?_
        obtain ⟨hi, hf⟩ := gd_of hf
        refine g_iald C hW 1 7 rfl (f := (v1 9)) rfl (ib_in hi) dX4_isDrained_22 ?_
        refine lv_iadd hx hb dX4_isDrained_23 ?_
        refine lv_istore_n (lv' := [(1, .int (x1 + ((v1 9) (Int32.toNatClampNeg x2)))), (0, .ref (a1 0)), (2, .int x2)]) hx hb dX4_isDrained_24 rfl hl (by decide) rfl (fun ls hl => ?_)
        refine lv_iinc (v := (x2 + 1)) (lv' := [(2, .int (x2 + 1)), (1, .int (x1 + ((v1 9) (Int32.toNatClampNeg x2)))), (0, .ref (a1 0))]) hx hb dX4_isDrained_25 hl (k := 2) rfl (by first | rfl | decide) (by decide) rfl (fun ls hl => ?_)
        refine lv_goto (tgt := 10) hx hb dX4_isDrained_28 (by decide) ?_
        exact ih _ _ H locs ls hf hW (lv_sub hl [2, 1, 0] rfl)
  rw [fX4_isDrained] at hf
  refine lv_aload_n hx hb dX4_isDrained_0 rfl (lv_at hl 0 rfl) ?_
  refine g_get C hW inX4 1 rfl rfl rfl 14 (by decide) (List.mem_of_getElem? (i := 1) rfl) (v := .ref (a0 0)) rfl dX4_isDrained_1 ?_
  refine g_get C hW inX0 0 rfl rfl rfl 0 (by decide) (List.mem_of_getElem? (i := 2) rfl) (v := .int (v0 0 0)) rfl dX4_isDrained_4 ?_
  refine lv_istore_n (lv' := [(1, .int (v0 0 0)), (0, .ref (a1 0))]) hx hb dX4_isDrained_7 rfl hl (by decide) rfl (fun ls hl => ?_)
  refine lv_iconst (v := (0 : Int32)) hx hb dX4_isDrained_8 (by decide) ?_
  refine lv_istore_n (lv' := [(2, .int (0 : Int32)), (1, .int (v0 0 0)), (0, .ref (a1 0))]) hx hb dX4_isDrained_9 rfl hl (by decide) rfl (fun ls hl => ?_)
  refine L10 _ (fun x1_1 x2_1 H locs ls hf hW hl => ?_) N (v0 0 0) (0 : Int32) H locs ls hf hW (lv_sub hl [2, 1, 0] rfl)
  refine lv_iload_n hx hb dX4_isDrained_31 rfl (lv_at hl 1 rfl) ?_
  refine lv_if_ne (tgt := 39) hx hb dX4_isDrained_32 (by decide) (fun h => ?_) (fun h => ?_)
  · replace hf := (if_neg h).symm.trans hf
    refine lv_iconst (v := (0 : Int32)) hx hb dX4_isDrained_39 (by decide) ?_
    obtain rfl := Option.some.inj hf
    subst hQ
    exact g_zret C hr hk0 hW rfl rfl rfl dX4_isDrained_40
  · replace hf := (if_pos h).symm.trans hf
    refine lv_iconst (v := (1 : Int32)) hx hb dX4_isDrained_35 (by decide) ?_
    refine lv_goto (tgt := 40) hx hb dX4_isDrained_36 (by decide) ?_
    obtain rfl := Option.some.inj hf
    subst hQ
    exact g_zret C hr hk0 hW rfl rfl rfl dX4_isDrained_40
def fX5_waitsUpTo_L2 (N : Nat) (k : Int32 → Option (Int32)) (x1 : Int32) (v0 : MM) (v1 : MM) (v2 : MM) : Nat → Int32 → Option (Int32)
  | 0, _ => none
  | n + 1, x2 => (if (v0 1 0) ≤ x2 then k x2 else (if ib x2 6 = true then (if ib x1 6 = true then (if ((v0 7) (Int32.toNatClampNeg x2)) = ((v0 7) (Int32.toNatClampNeg x1)) then ((fX3_isAhead N x1 x2 v0).bind (fun y1 => (if y1 = 0 then (if ib x2 6 = true then (if ((v1 9) (Int32.toNatClampNeg x2)) ≤ 0 then fX5_waitsUpTo_L2 N k x1 v0 v1 v2 n (x2 + 1) else some (1 : Int32)) else none) else fX5_waitsUpTo_L2 N k x1 v0 v1 v2 n (x2 + 1)))) else fX5_waitsUpTo_L2 N k x1 v0 v1 v2 n (x2 + 1)) else none) else none))
def fX5_waitsUpTo (N : Nat) (x1 : Int32) (v0 : MM) (v1 : MM) (v2 : MM) : Option (Int32) := (fX5_waitsUpTo_L2 N (fun (x2_2 : Int32) => some (0 : Int32)) x1 v0 v1 v2 N (0 : Int32))
set_option maxHeartbeats 4000000 in
set_option maxRecDepth 100000 in
theorem ct_X5_waitsUpTo (g : GT) (l : Launch) (N : Nat) (a0 : Nat → Nat) (a1 : Nat → Nat) (a2 : Nat → Nat) (q1_14 : Nat) (x1 : Int32) (v0 : MM) (v1 : MM) (v2 : MM) {y : Int32} (hf : fX5_waitsUpTo N x1 v0 v1 v2 = some y) : ct g l yX5_waitsUpTo wsX5_waitsUpTo (rmk 1 22) [.ref (a2 0), .int x1] [kX3 g a0 v0, kX4 g a1 q1_14 v1, kX5 g a2 (a0 0) (a1 0) v2] (some (.int y)) [kX3 g a0 v0, kX4 g a1 q1_14 v1, kX5 g a2 (a0 0) (a1 0) v2] := by
  refine ct_of (cc := cX5_waitsUpTo) (maxL := 4) (ret := (some .boolean)) (by decide) rfl (Nat.le_of_ble_eq_true rfl) ?_
  intro p e s m args below meth c A ls C hr hk0 hA hW hl
  have hx := C.1.1
  have hb := C.1.2.1
  replace hl : lv_has ls 4 [(0, .ref (a2 0)), (1, .int x1)] := hl
  obtain ⟨Q, hQ⟩ : ∃ Q, Q = MQ below (ctQ g A (some (.int y)) [kX3 g a0 v0, kX4 g a1 q1_14 v1, kX5 g a2 (a0 0) (a1 0) v2]) args s 0 0 A := ⟨_, rfl⟩
  rw [← hQ]
  obtain ⟨H, hH⟩ : ∃ H, H = s.heap := ⟨_, rfl⟩
  obtain ⟨locs, hL⟩ : ∃ locs : List Loc, locs = [] := ⟨_, rfl⟩
  replace hW : wd g A s.heap [kX3 g a0 v0, kX4 g a1 q1_14 v1, kX5 g a2 (a0 0) (a1 0) v2] H locs := by rw [hH, hL]; exact hW
  suffices hG : W p l e (rmk 1 22) s m args below meth c H locs 0 0 Q (F0 m 0 ls []) by
    rw [hH, hL] at hG; exact hG
  clear hH hL
  have inX3 : ∀ w ∈ wsX30, w ∈ wsX5_waitsUpTo := fun _ h => List.mem_cons_of_mem _ (List.mem_append_left _ (List.mem_append_right _ (h)))
  have inX4 : ∀ w ∈ wsX40, w ∈ wsX5_waitsUpTo := fun _ h => List.mem_cons_of_mem _ (List.mem_append_right _ (h))
  have inX5 : ∀ w ∈ wsX50, w ∈ wsX5_waitsUpTo := fun _ h => List.mem_cons_of_mem _ (List.mem_append_left _ (List.mem_append_left _ (List.mem_append_right _ (h))))
  have L2 : ∀ (x1 : Int32) (k : Int32 → Option (Int32)) (hk : ∀ (x2 : Int32) (H : Heap) (locs : List Loc) (ls : Array Slot), k x2 = some y → wd g A s.heap [kX3 g a0 v0, kX4 g a1 q1_14 v1, kX5 g a2 (a0 0) (a1 0) v2] H locs → lv_has ls 4 [(0, .ref (a2 0)), (1, .int x1), (2, .int x2)] → W p l e (rmk 1 22) s m args below meth c H locs 0 0 Q (F0 m 76 ls [])) (n : Nat) (x2 : Int32) (H : Heap) (locs : List Loc) (ls : Array Slot), fX5_waitsUpTo_L2 N k x1 v0 v1 v2 n x2 = some y → wd g A s.heap [kX3 g a0 v0, kX4 g a1 q1_14 v1, kX5 g a2 (a0 0) (a1 0) v2] H locs → lv_has ls 4 [(0, .ref (a2 0)), (1, .int x1), (2, .int x2)] → W p l e (rmk 1 22) s m args below meth c H locs 0 0 Q (F0 m 2 ls []) := by
    intro x1 k hk n
    induction n with
    | zero => intro x2 H locs ls hf; rw [fX5_waitsUpTo_L2] at hf; cases hf
    | succ n ih =>
      intro x2 H locs ls hf hW hl
      rw [fX5_waitsUpTo_L2] at hf
      refine lv_iload_n hx hb dX5_waitsUpTo_2 rfl (lv_at hl 2 rfl) ?_
      refine lv_aload_n hx hb dX5_waitsUpTo_3 rfl (lv_at hl 0 rfl) ?_
      refine g_get C hW inX5 2 rfl rfl rfl 0 (by decide) (List.mem_of_getElem? (i := 1) rfl) (v := .ref (a0 0)) rfl dX5_waitsUpTo_4 ?_
      refine g_get C hW inX3 0 rfl rfl rfl 1 (by decide) (List.mem_of_getElem? (i := 2) rfl) (v := .int (v0 1 0)) rfl dX5_waitsUpTo_7 ?_
      refine lv_icmp_ge (tgt := 76) hx hb dX5_waitsUpTo_10 (by decide) (fun h => ?_) (fun h => ?_)
      · replace hf := (if_pos h).symm.trans hf
        exact hk _ H locs ls hf hW (lv_sub hl [0, 1, 2] rfl)
      · replace hf := (if_neg h).symm.trans hf
        refine lv_aload_n hx hb dX5_waitsUpTo_13 rfl (lv_at hl 0 rfl) ?_
        refine g_get C hW inX5 2 rfl rfl rfl 0 (by decide) (List.mem_of_getElem? (i := 1) rfl) (v := .ref (a0 0)) rfl dX5_waitsUpTo_14 ?_
        refine g_get C hW inX3 0 rfl rfl rfl 7 (by decide) (List.mem_of_getElem? (i := 3) rfl) (v := .ref (a0 2)) rfl dX5_waitsUpTo_17 ?_
        refine lv_iload_n hx hb dX5_waitsUpTo_20 rfl (lv_at hl 2 rfl) ?_
        obtain ⟨hi, hf⟩ := gd_of hf
        refine g_iald C hW 0 2 rfl (f := (v0 7)) rfl (ib_in hi) dX5_waitsUpTo_21 ?_
        refine lv_aload_n hx hb dX5_waitsUpTo_22 rfl (lv_at hl 0 rfl) ?_
        refine g_get C hW inX5 2 rfl rfl rfl 0 (by decide) (List.mem_of_getElem? (i := 1) rfl) (v := .ref (a0 0)) rfl dX5_waitsUpTo_23 ?_
        refine g_get C hW inX3 0 rfl rfl rfl 7 (by decide) (List.mem_of_getElem? (i := 3) rfl) (v := .ref (a0 2)) rfl dX5_waitsUpTo_26 ?_
        refine lv_iload_n hx hb dX5_waitsUpTo_29 rfl (lv_at hl 1 rfl) ?_
        obtain ⟨hi, hf⟩ := gd_of hf
        refine g_iald C hW 0 2 rfl (f := (v0 7)) rfl (ib_in hi) dX5_waitsUpTo_30 ?_
        refine lv_icmp_ne (tgt := 50) hx hb dX5_waitsUpTo_31 (by decide) (fun h => ?_) (fun h => ?_)
        · replace hf := (if_neg h).symm.trans hf
          refine lv_iconst (v := (0 : Int32)) hx hb dX5_waitsUpTo_50 (by decide) ?_
          refine lv_istore_n (lv' := [(3, .int (0 : Int32)), (0, .ref (a2 0)), (1, .int x1), (2, .int x2)]) hx hb dX5_waitsUpTo_51 rfl hl (by decide) rfl (fun ls hl => ?_)
          refine lv_iload_n hx hb dX5_waitsUpTo_52 rfl (lv_at hl 0 rfl) ?_
          refine lv_if_eq (tgt := 70) hx hb dX5_waitsUpTo_53 (by decide) (fun _ => ?_) (fun h => absurd h (by decide))
          refine lv_iinc (v := (x2 + 1)) (lv' := [(2, .int (x2 + 1)), (3, .int (0 : Int32)), (0, .ref (a2 0)), (1, .int x1)]) hx hb dX5_waitsUpTo_70 hl (k := 3) rfl (by first | rfl | decide) (by decide) rfl (fun ls hl => ?_)
          refine lv_goto (tgt := 2) hx hb dX5_waitsUpTo_73 (by decide) ?_
          exact ih _ H locs ls hf hW (lv_sub hl [2, 3, 0] rfl)
        · replace hf := (if_pos h).symm.trans hf
          refine lv_aload_n hx hb dX5_waitsUpTo_34 rfl (lv_at hl 0 rfl) ?_
          refine g_get C hW inX5 2 rfl rfl rfl 0 (by decide) (List.mem_of_getElem? (i := 1) rfl) (v := .ref (a0 0)) rfl dX5_waitsUpTo_35 ?_
          refine lv_iload_n hx hb dX5_waitsUpTo_38 rfl (lv_at hl 1 rfl) ?_
          refine lv_iload_n hx hb dX5_waitsUpTo_39 rfl (lv_at hl 2 rfl) ?_
          obtain ⟨y1, hc, hf⟩ := bd_of hf
          refine g_cV (Cn := RX3) C (ct_X3_isAhead g l N a0 x1 x2 v0 hc) gX5_waitsUpTo_X3_isAhead rfl 2 (by decide +kernel) ⟨rfl, rfl, ⟨Nat.le_of_ble_eq_true rfl, Nat.le_of_ble_eq_true rfl⟩, Nat.le_of_ble_eq_true rfl, Nat.le_of_ble_eq_true rfl⟩ rfl hl (Nat.le_of_ble_eq_true rfl) dX5_waitsUpTo_40 rfl hW hA [0] rfl rfl rfl (ch' := [kX3 g a0 v0, kX4 g a1 q1_14 v1, kX5 g a2 (a0 0) (a1 0) v2]) rfl 0 rfl rfl rfl (fun H locs hW => ?_)
          refine lv_if_ne (tgt := 50) hx hb dX5_waitsUpTo_43 (by decide) (fun h => ?_) (fun h => ?_)
          · replace hf := (if_neg h).symm.trans hf
            refine lv_iconst (v := (0 : Int32)) hx hb dX5_waitsUpTo_50 (by decide) ?_
            refine lv_istore_n (lv' := [(3, .int (0 : Int32)), (0, .ref (a2 0)), (1, .int x1), (2, .int x2)]) hx hb dX5_waitsUpTo_51 rfl hl (by decide) rfl (fun ls hl => ?_)
            refine lv_iload_n hx hb dX5_waitsUpTo_52 rfl (lv_at hl 0 rfl) ?_
            refine lv_if_eq (tgt := 70) hx hb dX5_waitsUpTo_53 (by decide) (fun _ => ?_) (fun h => absurd h (by decide))
            refine lv_iinc (v := (x2 + 1)) (lv' := [(2, .int (x2 + 1)), (3, .int (0 : Int32)), (0, .ref (a2 0)), (1, .int x1)]) hx hb dX5_waitsUpTo_70 hl (k := 3) rfl (by first | rfl | decide) (by decide) rfl (fun ls hl => ?_)
            refine lv_goto (tgt := 2) hx hb dX5_waitsUpTo_73 (by decide) ?_
            exact ih _ H locs ls hf hW (lv_sub hl [2, 3, 0] rfl)
          · replace hf := (if_pos h).symm.trans hf
            refine lv_iconst (v := (1 : Int32)) hx hb dX5_waitsUpTo_46 (by decide) ?_
            refine lv_goto (tgt := 51) hx hb dX5_waitsUpTo_47 (by decide) ?_
            refine lv_istore_n (lv' := [(3, .int (1 : Int32)), (0, .ref (a2 0)), (1, .int x1), (2, .int x2)]) hx hb dX5_waitsUpTo_51 rfl hl (by decide) rfl (fun ls hl => ?_)
            refine lv_iload_n hx hb dX5_waitsUpTo_52 rfl (lv_at hl 0 rfl) ?_
            refine lv_if_eq (tgt := 70) hx hb dX5_waitsUpTo_53 (by decide) (fun h => absurd h (by decide)) (fun _ => ?_)
            refine lv_aload_n hx hb dX5_waitsUpTo_56 rfl (lv_at hl 1 rfl) ?_
            refine g_get C hW inX5 2 rfl rfl rfl 1 (by decide) (List.mem_of_getElem? (i := 4) rfl) (v := .ref (a1 0)) rfl dX5_waitsUpTo_57 ?_
            refine g_get C hW inX4 1 rfl rfl rfl 9 (by decide) (List.mem_of_getElem? (i := 5) rfl) (v := .ref (a1 7)) rfl dX5_waitsUpTo_60 ?_
            refine lv_iload_n hx hb dX5_waitsUpTo_63 rfl (lv_at hl 3 rfl) ?_
            obtain ⟨hi, hf⟩ := gd_of hf
            refine g_iald C hW 1 7 rfl (f := (v1 9)) rfl (ib_in hi) dX5_waitsUpTo_64 ?_
            refine lv_if_le (tgt := 70) hx hb dX5_waitsUpTo_65 (by decide) (fun h => ?_) (fun h => ?_)
            · replace hf := (if_pos h).symm.trans hf
              refine lv_iinc (v := (x2 + 1)) (lv' := [(2, .int (x2 + 1)), (3, .int (1 : Int32)), (0, .ref (a2 0)), (1, .int x1)]) hx hb dX5_waitsUpTo_70 hl (k := 3) rfl (by first | rfl | decide) (by decide) rfl (fun ls hl => ?_)
              refine lv_goto (tgt := 2) hx hb dX5_waitsUpTo_73 (by decide) ?_
              exact ih _ H locs ls hf hW (lv_sub hl [2, 3, 0] rfl)
            · replace hf := (if_neg h).symm.trans hf
              refine lv_iconst (v := (1 : Int32)) hx hb dX5_waitsUpTo_68 (by decide) ?_
              obtain rfl := Option.some.inj hf
              subst hQ
              exact g_zret C hr hk0 hW rfl rfl rfl dX5_waitsUpTo_69
  rw [fX5_waitsUpTo] at hf
  refine lv_iconst (v := (0 : Int32)) hx hb dX5_waitsUpTo_0 (by decide) ?_
  refine lv_istore_n (lv' := [(2, .int (0 : Int32)), (0, .ref (a2 0)), (1, .int x1)]) hx hb dX5_waitsUpTo_1 rfl hl (by decide) rfl (fun ls hl => ?_)
  refine L2 x1 _ (fun x2_2 H locs ls hf hW hl => ?_) N (0 : Int32) H locs ls hf hW (lv_sub hl [1, 2, 0] rfl)
  refine lv_iconst (v := (0 : Int32)) hx hb dX5_waitsUpTo_76 (by decide) ?_
  obtain rfl := Option.some.inj hf
  subst hQ
  exact g_zret C hr hk0 hW rfl rfl rfl dX5_waitsUpTo_77
theorem sn_X5_bring_29_a : (yX5_bring.cls, 29, yX7_isWithin) ∈ gNest := List.mem_of_getElem? (i := 4) rfl
theorem sn_X5_bring_29_b : Cond.static yX7_isWithin ∈ wsX5_bring := (List.mem_of_getElem? (i := 6) rfl)
theorem sn_X5_bring_29_c : Cond.initialized yX7_isWithin.cls ∈ wsX5_bring := (List.mem_of_getElem? (i := 7) rfl)
theorem sn_X5_bring_29_d : yX7_isWithin.cls ≠ "java/lang/invoke/MethodHandle" ∧ yX7_isWithin.cls ≠ "java/lang/invoke/VarHandle" ∧ (parseMethodDescriptor yX7_isWithin.desc).map (fun d => d.parameters.length) = some 3 := by decide +kernel
def fX5_bring (N : Nat) (x1 : Int32) (x2 : Int32) (v0 : MM) (v1 : MM) (v2 : MM) : Option (MM) := (if ib x1 6 = true then ((fX7_isWithin N ((v0 7) (Int32.toNatClampNeg x1)) (0 : Int32) (2 : Int32)).bind (fun y1 => (if y1 = 0 then (if ib x1 6 = true then (if ib x1 6 = true then some (st v1 9 (upd (v1 9) (Int32.toNatClampNeg x1) (((v1 9) (Int32.toNatClampNeg x1)) + x2))) else none) else none) else ((fX5_waitsUpTo N x1 v0 v1 v2).bind (fun y2 => (if y2 = 0 then (if ib ((v0 7) (Int32.toNatClampNeg x1)) 3 = true then (if ib x1 6 = true then (if ib x1 6 = true then some (st (st v1 3 (upd (v1 3) (Int32.toNatClampNeg ((v0 7) (Int32.toNatClampNeg x1))) (1 : Int32))) 9 (upd (v1 9) (Int32.toNatClampNeg x1) (((v1 9) (Int32.toNatClampNeg x1)) + x2))) else none) else none) else none) else (if ib x1 6 = true then (if ib x1 6 = true then some (st v1 9 (upd (v1 9) (Int32.toNatClampNeg x1) (((v1 9) (Int32.toNatClampNeg x1)) + x2))) else none) else none))))))) else none)
set_option maxHeartbeats 4000000 in
set_option maxRecDepth 100000 in
theorem ct_X5_bring (g : GT) (l : Launch) (N : Nat) (a0 : Nat → Nat) (a1 : Nat → Nat) (a2 : Nat → Nat) (q1_14 : Nat) (x1 : Int32) (x2 : Int32) (v0 : MM) (v1 : MM) (v2 : MM) {y : MM} (hf : fX5_bring N x1 x2 v0 v1 v2 = some y) : ct g l yX5_bring wsX5_bring (rmk 2 45) [.ref (a2 0), .int x1, .int x2] [kX3 g a0 v0, kX4 g a1 q1_14 v1, kX5 g a2 (a0 0) (a1 0) v2] none [kX3 g a0 v0, kX4 g a1 q1_14 y, kX5 g a2 (a0 0) (a1 0) v2] := by
  refine ct_of (cc := cX5_bring) (maxL := 4) (ret := none) (by decide) rfl (Nat.le_of_ble_eq_true rfl) ?_
  intro p e s m args below meth c A ls C hr hk0 hA hW hl
  have hx := C.1.1
  have hb := C.1.2.1
  replace hl : lv_has ls 4 [(0, .ref (a2 0)), (1, .int x1), (2, .int x2)] := hl
  obtain ⟨Q, hQ⟩ : ∃ Q, Q = MQ below (ctQ g A none [kX3 g a0 v0, kX4 g a1 q1_14 y, kX5 g a2 (a0 0) (a1 0) v2]) args s 0 0 A := ⟨_, rfl⟩
  rw [← hQ]
  obtain ⟨H, hH⟩ : ∃ H, H = s.heap := ⟨_, rfl⟩
  obtain ⟨locs, hL⟩ : ∃ locs : List Loc, locs = [] := ⟨_, rfl⟩
  replace hW : wd g A s.heap [kX3 g a0 v0, kX4 g a1 q1_14 v1, kX5 g a2 (a0 0) (a1 0) v2] H locs := by rw [hH, hL]; exact hW
  suffices hG : W p l e (rmk 2 45) s m args below meth c H locs 0 0 Q (F0 m 0 ls []) by
    rw [hH, hL] at hG; exact hG
  clear hH hL
  have inX3 : ∀ w ∈ wsX30, w ∈ wsX5_bring := fun _ h => List.mem_cons_of_mem _ (List.mem_append_left _ (List.mem_append_right _ (h)))
  have inX4 : ∀ w ∈ wsX40, w ∈ wsX5_bring := fun _ h => List.mem_cons_of_mem _ (List.mem_append_right _ (h))
  have inX5 : ∀ w ∈ wsX50, w ∈ wsX5_bring := fun _ h => List.mem_cons_of_mem _ (List.mem_append_left _ (List.mem_append_left _ (List.mem_append_right _ (h))))
  rw [fX5_bring] at hf
  refine lv_aload_n hx hb dX5_bring_0 rfl (lv_at hl 0 rfl) ?_
  refine g_get C hW inX5 2 rfl rfl rfl 0 (by decide) (List.mem_of_getElem? (i := 1) rfl) (v := .ref (a0 0)) rfl dX5_bring_1 ?_
  refine g_get C hW inX3 0 rfl rfl rfl 7 (by decide) (List.mem_of_getElem? (i := 2) rfl) (v := .ref (a0 2)) rfl dX5_bring_4 ?_
  refine lv_iload_n hx hb dX5_bring_7 rfl (lv_at hl 1 rfl) ?_
  obtain ⟨hi, hf⟩ := gd_of hf
  refine g_iald C hW 0 2 rfl (f := (v0 7)) rfl (ib_in hi) dX5_bring_8 ?_
  refine lv_istore_n (lv' := [(3, .int ((v0 7) (Int32.toNatClampNeg x1))), (0, .ref (a2 0)), (1, .int x1), (2, .int x2)]) hx hb dX5_bring_9 rfl hl (by decide) rfl (fun ls hl => ?_)
  refine lv_iload_n hx hb dX5_bring_10 rfl (lv_at hl 0 rfl) ?_
  refine lv_iconst (v := (0 : Int32)) hx hb dX5_bring_11 (by decide) ?_
  refine lv_iconst (v := (2 : Int32)) hx hb dX5_bring_12 (by decide) ?_
  obtain ⟨y1, hc, hf⟩ := bd_of hf
  refine g_cSN C (ct_X7_isWithin g l N ((v0 7) (Int32.toNatClampNeg x1)) (0 : Int32) (2 : Int32) hc) gX5_bring_X7_isWithin_n29 rfl 3 sn_X5_bring_29_d sn_X5_bring_29_a sn_X5_bring_29_b sn_X5_bring_29_c ⟨rfl, rfl, ⟨Nat.le_of_ble_eq_true rfl, Nat.le_of_ble_eq_true rfl⟩, Nat.le_of_ble_eq_true rfl, Nat.le_of_ble_eq_true rfl⟩ rfl hl (Nat.le_of_ble_eq_true rfl) dX5_bring_13 rfl hW hA [] rfl rfl rfl (ch' := [kX3 g a0 v0, kX4 g a1 q1_14 v1, kX5 g a2 (a0 0) (a1 0) v2]) rfl (fun H locs hW => ?_)
  refine lv_if_eq (tgt := 37) hx hb dX5_bring_16 (by decide) (fun h => ?_) (fun h => ?_)
  · replace hf := (if_pos h).symm.trans hf
    refine lv_aload_n hx hb dX5_bring_37 rfl (lv_at hl 1 rfl) ?_
    refine g_get C hW inX5 2 rfl rfl rfl 1 (by decide) (List.mem_of_getElem? (i := 3) rfl) (v := .ref (a1 0)) rfl dX5_bring_38 ?_
    refine g_get C hW inX4 1 rfl rfl rfl 9 (by decide) (List.mem_of_getElem? (i := 5) rfl) (v := .ref (a1 7)) rfl dX5_bring_41 ?_
    refine lv_iload_n hx hb dX5_bring_44 rfl (lv_at hl 2 rfl) ?_
    refine lv_dup2_11 hx hb dX5_bring_45 rfl rfl ?_
    obtain ⟨hi, hf⟩ := gd_of hf
    refine g_iald C hW 1 7 rfl (f := (v1 9)) rfl (ib_in hi) dX5_bring_46 ?_
    refine lv_iload_n hx hb dX5_bring_47 rfl (lv_at hl 3 rfl) ?_
    refine lv_iadd hx hb dX5_bring_48 ?_
    obtain ⟨hi, hf⟩ := gd_of hf
    refine g_iast C hW 1 7 rfl (f := (v1 9)) rfl (ib_in hi) (kX4_w9 g a1 q1_14 v1 (upd (v1 9) (Int32.toNatClampNeg x1) (((v1 9) (Int32.toNatClampNeg x1)) + x2))) (ch' := [kX3 g a0 v0, kX4 g a1 q1_14 (st v1 9 (upd (v1 9) (Int32.toNatClampNeg x1) (((v1 9) (Int32.toNatClampNeg x1)) + x2))), kX5 g a2 (a0 0) (a1 0) v2]) rfl dX5_bring_49 (fun H locs hW => ?_)
    obtain rfl := Option.some.inj hf
    subst hQ
    exact g_vret C hr hk0 hW rfl rfl dX5_bring_50
  · replace hf := (if_neg h).symm.trans hf
    refine lv_aload_n hx hb dX5_bring_19 rfl (lv_at hl 1 rfl) ?_
    refine lv_iload_n hx hb dX5_bring_20 rfl (lv_at hl 2 rfl) ?_
    obtain ⟨y2, hc, hf⟩ := bd_of hf
    refine g_cV (Cn := RX5) C (ct_X5_waitsUpTo g l N a0 a1 a2 q1_14 x1 v0 v1 v2 hc) gX5_bring_X5_waitsUpTo rfl 1 (by decide +kernel) ⟨rfl, rfl, ⟨Nat.le_of_ble_eq_true rfl, Nat.le_of_ble_eq_true rfl⟩, Nat.le_of_ble_eq_true rfl, Nat.le_of_ble_eq_true rfl⟩ rfl hl (Nat.le_of_ble_eq_true rfl) dX5_bring_21 rfl hW hA [0, 1, 2] rfl rfl rfl (ch' := [kX3 g a0 v0, kX4 g a1 q1_14 v1, kX5 g a2 (a0 0) (a1 0) v2]) rfl 2 rfl rfl rfl (fun H locs hW => ?_)
    refine lv_if_ne (tgt := 37) hx hb dX5_bring_24 (by decide) (fun h => ?_) (fun h => ?_)
    · replace hf := (if_neg h).symm.trans hf
      refine lv_aload_n hx hb dX5_bring_37 rfl (lv_at hl 1 rfl) ?_
      refine g_get C hW inX5 2 rfl rfl rfl 1 (by decide) (List.mem_of_getElem? (i := 3) rfl) (v := .ref (a1 0)) rfl dX5_bring_38 ?_
      refine g_get C hW inX4 1 rfl rfl rfl 9 (by decide) (List.mem_of_getElem? (i := 5) rfl) (v := .ref (a1 7)) rfl dX5_bring_41 ?_
      refine lv_iload_n hx hb dX5_bring_44 rfl (lv_at hl 2 rfl) ?_
      refine lv_dup2_11 hx hb dX5_bring_45 rfl rfl ?_
      obtain ⟨hi, hf⟩ := gd_of hf
      refine g_iald C hW 1 7 rfl (f := (v1 9)) rfl (ib_in hi) dX5_bring_46 ?_
      refine lv_iload_n hx hb dX5_bring_47 rfl (lv_at hl 3 rfl) ?_
      refine lv_iadd hx hb dX5_bring_48 ?_
      obtain ⟨hi, hf⟩ := gd_of hf
      refine g_iast C hW 1 7 rfl (f := (v1 9)) rfl (ib_in hi) (kX4_w9 g a1 q1_14 v1 (upd (v1 9) (Int32.toNatClampNeg x1) (((v1 9) (Int32.toNatClampNeg x1)) + x2))) (ch' := [kX3 g a0 v0, kX4 g a1 q1_14 (st v1 9 (upd (v1 9) (Int32.toNatClampNeg x1) (((v1 9) (Int32.toNatClampNeg x1)) + x2))), kX5 g a2 (a0 0) (a1 0) v2]) rfl dX5_bring_49 (fun H locs hW => ?_)
      obtain rfl := Option.some.inj hf
      subst hQ
      exact g_vret C hr hk0 hW rfl rfl dX5_bring_50
    · replace hf := (if_pos h).symm.trans hf
      refine lv_aload_n hx hb dX5_bring_27 rfl (lv_at hl 1 rfl) ?_
      refine g_get C hW inX5 2 rfl rfl rfl 1 (by decide) (List.mem_of_getElem? (i := 3) rfl) (v := .ref (a1 0)) rfl dX5_bring_28 ?_
      refine g_get C hW inX4 1 rfl rfl rfl 3 (by decide) (List.mem_of_getElem? (i := 4) rfl) (v := .ref (a1 1)) rfl dX5_bring_31 ?_
      refine lv_iload_n hx hb dX5_bring_34 rfl (lv_at hl 0 rfl) ?_
      refine lv_iconst (v := (1 : Int32)) hx hb dX5_bring_35 (by decide) ?_
      obtain ⟨hi, hf⟩ := gd_of hf
      refine g_iast C hW 1 1 rfl (f := (v1 3)) rfl (ib_in hi) (kX4_w3 g a1 q1_14 v1 (upd (v1 3) (Int32.toNatClampNeg ((v0 7) (Int32.toNatClampNeg x1))) (1 : Int32))) (ch' := [kX3 g a0 v0, kX4 g a1 q1_14 (st v1 3 (upd (v1 3) (Int32.toNatClampNeg ((v0 7) (Int32.toNatClampNeg x1))) (1 : Int32))), kX5 g a2 (a0 0) (a1 0) v2]) rfl dX5_bring_36 (fun H locs hW => ?_)
      refine lv_aload_n hx hb dX5_bring_37 rfl (lv_at hl 1 rfl) ?_
      refine g_get C hW inX5 2 rfl rfl rfl 1 (by decide) (List.mem_of_getElem? (i := 3) rfl) (v := .ref (a1 0)) rfl dX5_bring_38 ?_
      refine g_get C hW inX4 1 rfl rfl rfl 9 (by decide) (List.mem_of_getElem? (i := 5) rfl) (v := .ref (a1 7)) rfl dX5_bring_41 ?_
      refine lv_iload_n hx hb dX5_bring_44 rfl (lv_at hl 2 rfl) ?_
      refine lv_dup2_11 hx hb dX5_bring_45 rfl rfl ?_
      obtain ⟨hi, hf⟩ := gd_of hf
      refine g_iald C hW 1 7 rfl (f := (v1 9)) rfl (ib_in hi) dX5_bring_46 ?_
      refine lv_iload_n hx hb dX5_bring_47 rfl (lv_at hl 3 rfl) ?_
      refine lv_iadd hx hb dX5_bring_48 ?_
      obtain ⟨hi, hf⟩ := gd_of hf
      refine g_iast C hW 1 7 rfl (f := (v1 9)) rfl (ib_in hi) (kX4_w9 g a1 q1_14 (st v1 3 (upd (v1 3) (Int32.toNatClampNeg ((v0 7) (Int32.toNatClampNeg x1))) (1 : Int32))) (upd (v1 9) (Int32.toNatClampNeg x1) (((v1 9) (Int32.toNatClampNeg x1)) + x2))) (ch' := [kX3 g a0 v0, kX4 g a1 q1_14 (st (st v1 3 (upd (v1 3) (Int32.toNatClampNeg ((v0 7) (Int32.toNatClampNeg x1))) (1 : Int32))) 9 (upd (v1 9) (Int32.toNatClampNeg x1) (((v1 9) (Int32.toNatClampNeg x1)) + x2))), kX5 g a2 (a0 0) (a1 0) v2]) rfl dX5_bring_49 (fun H locs hW => ?_)
      obtain rfl := Option.some.inj hf
      subst hQ
      exact g_vret C hr hk0 hW rfl rfl dX5_bring_50
def fX5_waitingAt_L4 (N : Nat) (k : Int32 → Int32 → Option (Int32)) (x1 : Int32) (v0 : MM) (v1 : MM) (v2 : MM) : Nat → Int32 → Int32 → Option (Int32)
  | 0, _, _ => none
  | n + 1, x2, x3 => (if (v0 1 0) ≤ x3 then k x2 x3 else (if ib x3 6 = true then (if ((v0 7) (Int32.toNatClampNeg x3)) = x1 then (if ib x3 6 = true then fX5_waitingAt_L4 N k x1 v0 v1 v2 n (x2 + ((v1 9) (Int32.toNatClampNeg x3))) (x3 + 1) else none) else fX5_waitingAt_L4 N k x1 v0 v1 v2 n (x2 + (0 : Int32)) (x3 + 1)) else none))
def fX5_waitingAt (N : Nat) (x1 : Int32) (v0 : MM) (v1 : MM) (v2 : MM) : Option (Int32) := (fX5_waitingAt_L4 N (fun (x2_1 : Int32) (x3_1 : Int32) => some x2_1) x1 v0 v1 v2 N (0 : Int32) (0 : Int32))
set_option maxHeartbeats 4000000 in
set_option maxRecDepth 100000 in
theorem ct_X5_waitingAt (g : GT) (l : Launch) (N : Nat) (a0 : Nat → Nat) (a1 : Nat → Nat) (a2 : Nat → Nat) (q1_14 : Nat) (x1 : Int32) (v0 : MM) (v1 : MM) (v2 : MM) {y : Int32} (hf : fX5_waitingAt N x1 v0 v1 v2 = some y) : ct g l yX5_waitingAt wsX5_waitingAt (rmk 0 0) [.ref (a2 0), .int x1] [kX3 g a0 v0, kX4 g a1 q1_14 v1, kX5 g a2 (a0 0) (a1 0) v2] (some (.int y)) [kX3 g a0 v0, kX4 g a1 q1_14 v1, kX5 g a2 (a0 0) (a1 0) v2] := by
  refine ct_of (cc := cX5_waitingAt) (maxL := 4) (ret := (some .int)) (by decide) rfl (Nat.le_of_ble_eq_true rfl) ?_
  intro p e s m args below meth c A ls C hr hk0 hA hW hl
  have hx := C.1.1
  have hb := C.1.2.1
  replace hl : lv_has ls 4 [(0, .ref (a2 0)), (1, .int x1)] := hl
  obtain ⟨Q, hQ⟩ : ∃ Q, Q = MQ below (ctQ g A (some (.int y)) [kX3 g a0 v0, kX4 g a1 q1_14 v1, kX5 g a2 (a0 0) (a1 0) v2]) args s 0 0 A := ⟨_, rfl⟩
  rw [← hQ]
  obtain ⟨H, hH⟩ : ∃ H, H = s.heap := ⟨_, rfl⟩
  obtain ⟨locs, hL⟩ : ∃ locs : List Loc, locs = [] := ⟨_, rfl⟩
  replace hW : wd g A s.heap [kX3 g a0 v0, kX4 g a1 q1_14 v1, kX5 g a2 (a0 0) (a1 0) v2] H locs := by rw [hH, hL]; exact hW
  suffices hG : W p l e (rmk 0 0) s m args below meth c H locs 0 0 Q (F0 m 0 ls []) by
    rw [hH, hL] at hG; exact hG
  clear hH hL
  have inX3 : ∀ w ∈ wsX30, w ∈ wsX5_waitingAt := fun _ h => List.mem_cons_of_mem _ (List.mem_append_left _ (List.mem_append_right _ (h)))
  have inX4 : ∀ w ∈ wsX40, w ∈ wsX5_waitingAt := fun _ h => List.mem_cons_of_mem _ (List.mem_append_right _ (h))
  have inX5 : ∀ w ∈ wsX50, w ∈ wsX5_waitingAt := fun _ h => List.mem_cons_of_mem _ (List.mem_append_left _ (List.mem_append_left _ (List.mem_append_right _ (h))))
  have L4 : ∀ (x1 : Int32) (k : Int32 → Int32 → Option (Int32)) (hk : ∀ (x2 : Int32) (x3 : Int32) (H : Heap) (locs : List Loc) (ls : Array Slot), k x2 x3 = some y → wd g A s.heap [kX3 g a0 v0, kX4 g a1 q1_14 v1, kX5 g a2 (a0 0) (a1 0) v2] H locs → lv_has ls 4 [(0, .ref (a2 0)), (1, .int x1), (2, .int x2), (3, .int x3)] → W p l e (rmk 0 0) s m args below meth c H locs 0 0 Q (F0 m 50 ls [])) (n : Nat) (x2 : Int32) (x3 : Int32) (H : Heap) (locs : List Loc) (ls : Array Slot), fX5_waitingAt_L4 N k x1 v0 v1 v2 n x2 x3 = some y → wd g A s.heap [kX3 g a0 v0, kX4 g a1 q1_14 v1, kX5 g a2 (a0 0) (a1 0) v2] H locs → lv_has ls 4 [(0, .ref (a2 0)), (1, .int x1), (2, .int x2), (3, .int x3)] → W p l e (rmk 0 0) s m args below meth c H locs 0 0 Q (F0 m 4 ls []) := by
    intro x1 k hk n
    induction n with
    | zero => intro x2 x3 H locs ls hf; rw [fX5_waitingAt_L4] at hf; cases hf
    | succ n ih =>
      intro x2 x3 H locs ls hf hW hl
      rw [fX5_waitingAt_L4] at hf
      refine lv_iload_n hx hb dX5_waitingAt_4 rfl (lv_at hl 3 rfl) ?_
      refine lv_aload_n hx hb dX5_waitingAt_5 rfl (lv_at hl 0 rfl) ?_
      refine g_get C hW inX5 2 rfl rfl rfl 0 (by decide) (List.mem_of_getElem? (i := 1) rfl) (v := .ref (a0 0)) rfl dX5_waitingAt_6 ?_
      refine g_get C hW inX3 0 rfl rfl rfl 1 (by decide) (List.mem_of_getElem? (i := 2) rfl) (v := .int (v0 1 0)) rfl dX5_waitingAt_9 ?_
      refine lv_icmp_ge (tgt := 50) hx hb dX5_waitingAt_12 (by decide) (fun h => ?_) (fun h => ?_)
      · replace hf := (if_pos h).symm.trans hf
        exact hk _ _ H locs ls hf hW (lv_sub hl [0, 1, 2, 3] rfl)
      · replace hf := (if_neg h).symm.trans hf
        refine lv_iload_n hx hb dX5_waitingAt_15 rfl (lv_at hl 2 rfl) ?_
        refine lv_aload_n hx hb dX5_waitingAt_16 rfl (lv_at hl 0 rfl) ?_
        refine g_get C hW inX5 2 rfl rfl rfl 0 (by decide) (List.mem_of_getElem? (i := 1) rfl) (v := .ref (a0 0)) rfl dX5_waitingAt_17 ?_
        refine g_get C hW inX3 0 rfl rfl rfl 7 (by decide) (List.mem_of_getElem? (i := 3) rfl) (v := .ref (a0 2)) rfl dX5_waitingAt_20 ?_
        refine lv_iload_n hx hb dX5_waitingAt_23 rfl (lv_at hl 3 rfl) ?_
        obtain ⟨hi, hf⟩ := gd_of hf
        refine g_iald C hW 0 2 rfl (f := (v0 7)) rfl (ib_in hi) dX5_waitingAt_24 ?_
        refine lv_iload_n hx hb dX5_waitingAt_25 rfl (lv_at hl 1 rfl) ?_
        refine lv_icmp_ne (tgt := 41) hx hb dX5_waitingAt_26 (by decide) (fun h => ?_) (fun h => ?_)
        · replace hf := (if_neg h).symm.trans hf
          refine lv_iconst (v := (0 : Int32)) hx hb dX5_waitingAt_41 (by decide) ?_
          refine lv_iadd hx hb dX5_waitingAt_42 ?_
          refine lv_istore_n (lv' := [(2, .int (x2 + (0 : Int32))), (0, .ref (a2 0)), (1, .int x1), (3, .int x3)]) hx hb dX5_waitingAt_43 rfl hl (by decide) rfl (fun ls hl => ?_)
          refine lv_iinc (v := (x3 + 1)) (lv' := [(3, .int (x3 + 1)), (2, .int (x2 + (0 : Int32))), (0, .ref (a2 0)), (1, .int x1)]) hx hb dX5_waitingAt_44 hl (k := 3) rfl (by first | rfl | decide) (by decide) rfl (fun ls hl => ?_)
          refine lv_goto (tgt := 4) hx hb dX5_waitingAt_47 (by decide) ?_
          exact ih _ _ H locs ls hf hW (lv_sub hl [2, 3, 1, 0] rfl)
        · replace hf := (if_pos h).symm.trans hf
          refine lv_aload_n hx hb dX5_waitingAt_29 rfl (lv_at hl 0 rfl) ?_
          refine g_get C hW inX5 2 rfl rfl rfl 1 (by decide) (List.mem_of_getElem? (i := 4) rfl) (v := .ref (a1 0)) rfl dX5_waitingAt_30 ?_
          refine g_get C hW inX4 1 rfl rfl rfl 9 (by decide) (List.mem_of_getElem? (i := 5) rfl) (v := .ref (a1 7)) rfl dX5_waitingAt_33 ?_
          refine lv_iload_n hx hb dX5_waitingAt_36 rfl (lv_at hl 3 rfl) ?_
          obtain ⟨hi, hf⟩ := gd_of hf
          refine g_iald C hW 1 7 rfl (f := (v1 9)) rfl (ib_in hi) dX5_waitingAt_37 ?_
          refine lv_goto (tgt := 42) hx hb dX5_waitingAt_38 (by decide) ?_
          refine lv_iadd hx hb dX5_waitingAt_42 ?_
          refine lv_istore_n (lv' := [(2, .int (x2 + ((v1 9) (Int32.toNatClampNeg x3)))), (0, .ref (a2 0)), (1, .int x1), (3, .int x3)]) hx hb dX5_waitingAt_43 rfl hl (by decide) rfl (fun ls hl => ?_)
          refine lv_iinc (v := (x3 + 1)) (lv' := [(3, .int (x3 + 1)), (2, .int (x2 + ((v1 9) (Int32.toNatClampNeg x3)))), (0, .ref (a2 0)), (1, .int x1)]) hx hb dX5_waitingAt_44 hl (k := 3) rfl (by first | rfl | decide) (by decide) rfl (fun ls hl => ?_)
          refine lv_goto (tgt := 4) hx hb dX5_waitingAt_47 (by decide) ?_
          exact ih _ _ H locs ls hf hW (lv_sub hl [2, 3, 1, 0] rfl)
  rw [fX5_waitingAt] at hf
  refine lv_iconst (v := (0 : Int32)) hx hb dX5_waitingAt_0 (by decide) ?_
  refine lv_istore_n (lv' := [(2, .int (0 : Int32)), (0, .ref (a2 0)), (1, .int x1)]) hx hb dX5_waitingAt_1 rfl hl (by decide) rfl (fun ls hl => ?_)
  refine lv_iconst (v := (0 : Int32)) hx hb dX5_waitingAt_2 (by decide) ?_
  refine lv_istore_n (lv' := [(3, .int (0 : Int32)), (2, .int (0 : Int32)), (0, .ref (a2 0)), (1, .int x1)]) hx hb dX5_waitingAt_3 rfl hl (by decide) rfl (fun ls hl => ?_)
  refine L4 x1 _ (fun x2_1 x3_1 H locs ls hf hW hl => ?_) N (0 : Int32) (0 : Int32) H locs ls hf hW (lv_sub hl [2, 3, 1, 0] rfl)
  refine lv_iload_n hx hb dX5_waitingAt_50 rfl (lv_at hl 2 rfl) ?_
  obtain rfl := Option.some.inj hf
  subst hQ
  exact g_iret C hr hk0 hW rfl rfl dX5_waitingAt_51
def fX5_gainTokens_L2 (N : Nat) (k : Int32 → MM → Option (MM)) (v0 : MM) (v2 : MM) : Nat → Int32 → MM → Option (MM)
  | 0, _, _ => none
  | n + 1, x1, v1 => (if (v0 1 0) ≤ x1 then k x1 v1 else (if ib x1 6 = true then (if ib x1 6 = true then (if ib x1 6 = true then (if ib x1 6 = true then fX5_gainTokens_L2 N k v0 v2 n (x1 + 1) (st v1 10 (upd (v1 10) (Int32.toNatClampNeg x1) (if (((v1 10) (Int32.toNatClampNeg x1)) + ((v0 9) (Int32.toNatClampNeg x1))) < ((v0 10) (Int32.toNatClampNeg x1)) then (((v1 10) (Int32.toNatClampNeg x1)) + ((v0 9) (Int32.toNatClampNeg x1))) else ((v0 10) (Int32.toNatClampNeg x1))))) else none) else none) else none) else none))
def fX5_gainTokens (N : Nat) (v0 : MM) (v1 : MM) (v2 : MM) : Option (MM) := (fX5_gainTokens_L2 N (fun (x1_1 : Int32) (v1_1 : MM) => some v1_1) v0 v2 N (0 : Int32) v1)
set_option maxHeartbeats 4000000 in
set_option maxRecDepth 100000 in
theorem ct_X5_gainTokens (g : GT) (l : Launch) (N : Nat) (a0 : Nat → Nat) (a1 : Nat → Nat) (a2 : Nat → Nat) (q1_14 : Nat) (v0 : MM) (v1 : MM) (v2 : MM) {y : MM} (hf : fX5_gainTokens N v0 v1 v2 = some y) : ct g l yX5_gainTokens wsX5_gainTokens (rmk 1 21) [.ref (a2 0)] [kX3 g a0 v0, kX4 g a1 q1_14 v1, kX5 g a2 (a0 0) (a1 0) v2] none [kX3 g a0 v0, kX4 g a1 q1_14 y, kX5 g a2 (a0 0) (a1 0) v2] := by
  refine ct_of (cc := cX5_gainTokens) (maxL := 2) (ret := none) (by decide) rfl (Nat.le_of_ble_eq_true rfl) ?_
  intro p e s m args below meth c A ls C hr hk0 hA hW hl
  have hx := C.1.1
  have hb := C.1.2.1
  replace hl : lv_has ls 2 [(0, .ref (a2 0))] := hl
  obtain ⟨Q, hQ⟩ : ∃ Q, Q = MQ below (ctQ g A none [kX3 g a0 v0, kX4 g a1 q1_14 y, kX5 g a2 (a0 0) (a1 0) v2]) args s 0 0 A := ⟨_, rfl⟩
  rw [← hQ]
  obtain ⟨H, hH⟩ : ∃ H, H = s.heap := ⟨_, rfl⟩
  obtain ⟨locs, hL⟩ : ∃ locs : List Loc, locs = [] := ⟨_, rfl⟩
  replace hW : wd g A s.heap [kX3 g a0 v0, kX4 g a1 q1_14 v1, kX5 g a2 (a0 0) (a1 0) v2] H locs := by rw [hH, hL]; exact hW
  suffices hG : W p l e (rmk 1 21) s m args below meth c H locs 0 0 Q (F0 m 0 ls []) by
    rw [hH, hL] at hG; exact hG
  clear hH hL
  have inX3 : ∀ w ∈ wsX30, w ∈ wsX5_gainTokens := fun _ h => List.mem_cons_of_mem _ (List.mem_append_left _ (List.mem_append_right _ (h)))
  have inX4 : ∀ w ∈ wsX40, w ∈ wsX5_gainTokens := fun _ h => List.mem_cons_of_mem _ (List.mem_append_right _ (h))
  have inX5 : ∀ w ∈ wsX50, w ∈ wsX5_gainTokens := fun _ h => List.mem_cons_of_mem _ (List.mem_append_left _ (List.mem_append_left _ (List.mem_append_right _ (h))))
  have L2 : ∀ (k : Int32 → MM → Option (MM)) (hk : ∀ (x1 : Int32) (v1 : MM) (H : Heap) (locs : List Loc) (ls : Array Slot), k x1 v1 = some y → wd g A s.heap [kX3 g a0 v0, kX4 g a1 q1_14 v1, kX5 g a2 (a0 0) (a1 0) v2] H locs → lv_has ls 2 [(0, .ref (a2 0)), (1, .int x1)] → W p l e (rmk 1 21) s m args below meth c H locs 0 0 Q (F0 m 59 ls [])) (n : Nat) (x1 : Int32) (v1 : MM) (H : Heap) (locs : List Loc) (ls : Array Slot), fX5_gainTokens_L2 N k v0 v2 n x1 v1 = some y → wd g A s.heap [kX3 g a0 v0, kX4 g a1 q1_14 v1, kX5 g a2 (a0 0) (a1 0) v2] H locs → lv_has ls 2 [(0, .ref (a2 0)), (1, .int x1)] → W p l e (rmk 1 21) s m args below meth c H locs 0 0 Q (F0 m 2 ls []) := by
    intro k hk n
    induction n with
    | zero => intro x1 v1 H locs ls hf; rw [fX5_gainTokens_L2] at hf; cases hf
    | succ n ih =>
      intro x1 v1 H locs ls hf hW hl
      rw [fX5_gainTokens_L2] at hf
      refine lv_iload_n hx hb dX5_gainTokens_2 rfl (lv_at hl 1 rfl) ?_
      refine lv_aload_n hx hb dX5_gainTokens_3 rfl (lv_at hl 0 rfl) ?_
      refine g_get C hW inX5 2 rfl rfl rfl 0 (by decide) (List.mem_of_getElem? (i := 1) rfl) (v := .ref (a0 0)) rfl dX5_gainTokens_4 ?_
      refine g_get C hW inX3 0 rfl rfl rfl 1 (by decide) (List.mem_of_getElem? (i := 2) rfl) (v := .int (v0 1 0)) rfl dX5_gainTokens_7 ?_
      refine lv_icmp_ge (tgt := 59) hx hb dX5_gainTokens_10 (by decide) (fun h => ?_) (fun h => ?_)
      · replace hf := (if_pos h).symm.trans hf
        exact hk _ _ H locs ls hf hW (lv_sub hl [0, 1] rfl)
      · replace hf := (if_neg h).symm.trans hf
        refine lv_aload_n hx hb dX5_gainTokens_13 rfl (lv_at hl 0 rfl) ?_
        refine g_get C hW inX5 2 rfl rfl rfl 1 (by decide) (List.mem_of_getElem? (i := 3) rfl) (v := .ref (a1 0)) rfl dX5_gainTokens_14 ?_
        refine g_get C hW inX4 1 rfl rfl rfl 10 (by decide) (List.mem_of_getElem? (i := 4) rfl) (v := .ref (a1 8)) rfl dX5_gainTokens_17 ?_
        refine lv_iload_n hx hb dX5_gainTokens_20 rfl (lv_at hl 1 rfl) ?_
        refine lv_aload_n hx hb dX5_gainTokens_21 rfl (lv_at hl 0 rfl) ?_
        refine g_get C hW inX5 2 rfl rfl rfl 0 (by decide) (List.mem_of_getElem? (i := 1) rfl) (v := .ref (a0 0)) rfl dX5_gainTokens_22 ?_
        refine g_get C hW inX3 0 rfl rfl rfl 10 (by decide) (List.mem_of_getElem? (i := 5) rfl) (v := .ref (a0 5)) rfl dX5_gainTokens_25 ?_
        refine lv_iload_n hx hb dX5_gainTokens_28 rfl (lv_at hl 1 rfl) ?_
        obtain ⟨hi, hf⟩ := gd_of hf
        refine g_iald C hW 0 5 rfl (f := (v0 10)) rfl (ib_in hi) dX5_gainTokens_29 ?_
        refine lv_aload_n hx hb dX5_gainTokens_30 rfl (lv_at hl 0 rfl) ?_
        refine g_get C hW inX5 2 rfl rfl rfl 1 (by decide) (List.mem_of_getElem? (i := 3) rfl) (v := .ref (a1 0)) rfl dX5_gainTokens_31 ?_
        refine g_get C hW inX4 1 rfl rfl rfl 10 (by decide) (List.mem_of_getElem? (i := 4) rfl) (v := .ref (a1 8)) rfl dX5_gainTokens_34 ?_
        refine lv_iload_n hx hb dX5_gainTokens_37 rfl (lv_at hl 1 rfl) ?_
        obtain ⟨hi, hf⟩ := gd_of hf
        refine g_iald C hW 1 8 rfl (f := (v1 10)) rfl (ib_in hi) dX5_gainTokens_38 ?_
        refine lv_aload_n hx hb dX5_gainTokens_39 rfl (lv_at hl 0 rfl) ?_
        refine g_get C hW inX5 2 rfl rfl rfl 0 (by decide) (List.mem_of_getElem? (i := 1) rfl) (v := .ref (a0 0)) rfl dX5_gainTokens_40 ?_
        refine g_get C hW inX3 0 rfl rfl rfl 9 (by decide) (List.mem_of_getElem? (i := 6) rfl) (v := .ref (a0 4)) rfl dX5_gainTokens_43 ?_
        refine lv_iload_n hx hb dX5_gainTokens_46 rfl (lv_at hl 1 rfl) ?_
        obtain ⟨hi, hf⟩ := gd_of hf
        refine g_iald C hW 0 4 rfl (f := (v0 9)) rfl (ib_in hi) dX5_gainTokens_47 ?_
        refine lv_iadd hx hb dX5_gainTokens_48 ?_
        refine g_mmin C hl (List.mem_of_getElem? (i := 7) rfl) (List.mem_of_getElem? (i := 8) rfl) (List.mem_of_getElem? (i := 9) rfl) (List.mem_of_getElem? (i := 10) rfl) ⟨Nat.le_of_ble_eq_true rfl, Nat.le_of_ble_eq_true rfl, Nat.le_of_ble_eq_true rfl, Nat.le_of_ble_eq_true rfl⟩ (Nat.le_of_ble_eq_true rfl) dX5_gainTokens_49 ?_
        obtain ⟨hi, hf⟩ := gd_of hf
        refine g_iast C hW 1 8 rfl (f := (v1 10)) rfl (ib_in hi) (kX4_w10 g a1 q1_14 v1 (upd (v1 10) (Int32.toNatClampNeg x1) (if (((v1 10) (Int32.toNatClampNeg x1)) + ((v0 9) (Int32.toNatClampNeg x1))) < ((v0 10) (Int32.toNatClampNeg x1)) then (((v1 10) (Int32.toNatClampNeg x1)) + ((v0 9) (Int32.toNatClampNeg x1))) else ((v0 10) (Int32.toNatClampNeg x1))))) (ch' := [kX3 g a0 v0, kX4 g a1 q1_14 (st v1 10 (upd (v1 10) (Int32.toNatClampNeg x1) (if (((v1 10) (Int32.toNatClampNeg x1)) + ((v0 9) (Int32.toNatClampNeg x1))) < ((v0 10) (Int32.toNatClampNeg x1)) then (((v1 10) (Int32.toNatClampNeg x1)) + ((v0 9) (Int32.toNatClampNeg x1))) else ((v0 10) (Int32.toNatClampNeg x1))))), kX5 g a2 (a0 0) (a1 0) v2]) rfl dX5_gainTokens_52 (fun H locs hW => ?_)
        refine lv_iinc (v := (x1 + 1)) (lv' := [(1, .int (x1 + 1)), (0, .ref (a2 0))]) hx hb dX5_gainTokens_53 hl (k := 1) rfl (by first | rfl | decide) (by decide) rfl (fun ls hl => ?_)
        refine lv_goto (tgt := 2) hx hb dX5_gainTokens_56 (by decide) ?_
        exact ih _ _ H locs ls hf hW (lv_sub hl [1, 0] rfl)
  rw [fX5_gainTokens] at hf
  refine lv_iconst (v := (0 : Int32)) hx hb dX5_gainTokens_0 (by decide) ?_
  refine lv_istore_n (lv' := [(1, .int (0 : Int32)), (0, .ref (a2 0))]) hx hb dX5_gainTokens_1 rfl hl (by decide) rfl (fun ls hl => ?_)
  refine L2 _ (fun x1_1 v1_1 H locs ls hf hW hl => ?_) N (0 : Int32) v1 H locs ls hf hW (lv_sub hl [1, 0] rfl)
  obtain rfl := Option.some.inj hf
  subst hQ
  exact g_vret C hr hk0 hW rfl rfl dX5_gainTokens_59
def fX5_askInPlaces_L2 (N : Nat) (k : Int32 → MM → Option (MM)) (v0 : MM) (v2 : MM) : Nat → Int32 → MM → Option (MM)
  | 0, _, _ => none
  | n + 1, x1, v1 => (if (v0 0 0) ≤ x1 then k x1 v1 else ((fX3_isPlaceToAsk N x1 (v1 0 0) v0).bind (fun y1 => (if y1 = 0 then fX5_askInPlaces_L2 N k v0 v2 n (x1 + 1) v1 else (if ib x1 3 = true then (if (v1 0 0) < ((v1 4) (Int32.toNatClampNeg x1)) then fX5_askInPlaces_L2 N k v0 v2 n (x1 + 1) v1 else (if ib x1 3 = true then (if ((v1 3) (Int32.toNatClampNeg x1)) = (1 : Int32) then (if ib x1 3 = true then (if ib x1 3 = true then (if ib x1 3 = true then (if ib x1 3 = true then fX5_askInPlaces_L2 N k v0 v2 n (x1 + 1) (st (st (st v1 5 (upd (v1 5) (Int32.toNatClampNeg x1) (1 : Int32))) 7 (upd (v1 7) (Int32.toNatClampNeg x1) (((v1 7) (Int32.toNatClampNeg x1)) + (1 : Int32)))) 4 (upd (v1 4) (Int32.toNatClampNeg x1) (((v1 0 0) + (v0 3 0)) + (1 : Int32)))) else none) else none) else none) else none) else fX5_askInPlaces_L2 N k v0 v2 n (x1 + 1) v1) else none)) else none)))))
def fX5_askInPlaces (N : Nat) (v0 : MM) (v1 : MM) (v2 : MM) : Option (MM) := (fX5_askInPlaces_L2 N (fun (x1_2 : Int32) (v1_2 : MM) => some v1_2) v0 v2 N (0 : Int32) v1)
set_option maxHeartbeats 4000000 in
set_option maxRecDepth 100000 in
theorem ct_X5_askInPlaces (g : GT) (l : Launch) (N : Nat) (a0 : Nat → Nat) (a1 : Nat → Nat) (a2 : Nat → Nat) (q1_14 : Nat) (v0 : MM) (v1 : MM) (v2 : MM) {y : MM} (hf : fX5_askInPlaces N v0 v1 v2 = some y) : ct g l yX5_askInPlaces wsX5_askInPlaces (rmk 1 23) [.ref (a2 0)] [kX3 g a0 v0, kX4 g a1 q1_14 v1, kX5 g a2 (a0 0) (a1 0) v2] none [kX3 g a0 v0, kX4 g a1 q1_14 y, kX5 g a2 (a0 0) (a1 0) v2] := by
  refine ct_of (cc := cX5_askInPlaces) (maxL := 3) (ret := none) (by decide) rfl (Nat.le_of_ble_eq_true rfl) ?_
  intro p e s m args below meth c A ls C hr hk0 hA hW hl
  have hx := C.1.1
  have hb := C.1.2.1
  replace hl : lv_has ls 3 [(0, .ref (a2 0))] := hl
  obtain ⟨Q, hQ⟩ : ∃ Q, Q = MQ below (ctQ g A none [kX3 g a0 v0, kX4 g a1 q1_14 y, kX5 g a2 (a0 0) (a1 0) v2]) args s 0 0 A := ⟨_, rfl⟩
  rw [← hQ]
  obtain ⟨H, hH⟩ : ∃ H, H = s.heap := ⟨_, rfl⟩
  obtain ⟨locs, hL⟩ : ∃ locs : List Loc, locs = [] := ⟨_, rfl⟩
  replace hW : wd g A s.heap [kX3 g a0 v0, kX4 g a1 q1_14 v1, kX5 g a2 (a0 0) (a1 0) v2] H locs := by rw [hH, hL]; exact hW
  suffices hG : W p l e (rmk 1 23) s m args below meth c H locs 0 0 Q (F0 m 0 ls []) by
    rw [hH, hL] at hG; exact hG
  clear hH hL
  have inX3 : ∀ w ∈ wsX30, w ∈ wsX5_askInPlaces := fun _ h => List.mem_cons_of_mem _ (List.mem_append_left _ (List.mem_append_right _ (h)))
  have inX4 : ∀ w ∈ wsX40, w ∈ wsX5_askInPlaces := fun _ h => List.mem_cons_of_mem _ (List.mem_append_right _ (h))
  have inX5 : ∀ w ∈ wsX50, w ∈ wsX5_askInPlaces := fun _ h => List.mem_cons_of_mem _ (List.mem_append_left _ (List.mem_append_left _ (List.mem_append_right _ (h))))
  have L2 : ∀ (k : Int32 → MM → Option (MM)) (hk : ∀ (x1 : Int32) (v1 : MM) (H : Heap) (locs : List Loc) (ls : Array Slot), k x1 v1 = some y → wd g A s.heap [kX3 g a0 v0, kX4 g a1 q1_14 v1, kX5 g a2 (a0 0) (a1 0) v2] H locs → lv_has ls 3 [(0, .ref (a2 0)), (1, .int x1)] → W p l e (rmk 1 23) s m args below meth c H locs 0 0 Q (F0 m 128 ls [])) (n : Nat) (x1 : Int32) (v1 : MM) (H : Heap) (locs : List Loc) (ls : Array Slot), fX5_askInPlaces_L2 N k v0 v2 n x1 v1 = some y → wd g A s.heap [kX3 g a0 v0, kX4 g a1 q1_14 v1, kX5 g a2 (a0 0) (a1 0) v2] H locs → lv_has ls 3 [(0, .ref (a2 0)), (1, .int x1)] → W p l e (rmk 1 23) s m args below meth c H locs 0 0 Q (F0 m 2 ls []) := by
    intro k hk n
    induction n with
    | zero => intro x1 v1 H locs ls hf; rw [fX5_askInPlaces_L2] at hf; cases hf
    | succ n ih =>
      intro x1 v1 H locs ls hf hW hl
      rw [fX5_askInPlaces_L2] at hf
      refine lv_iload_n hx hb dX5_askInPlaces_2 rfl (lv_at hl 1 rfl) ?_
      refine lv_aload_n hx hb dX5_askInPlaces_3 rfl (lv_at hl 0 rfl) ?_
      refine g_get C hW inX5 2 rfl rfl rfl 0 (by decide) (List.mem_of_getElem? (i := 1) rfl) (v := .ref (a0 0)) rfl dX5_askInPlaces_4 ?_
      refine g_get C hW inX3 0 rfl rfl rfl 0 (by decide) (List.mem_of_getElem? (i := 2) rfl) (v := .int (v0 0 0)) rfl dX5_askInPlaces_7 ?_
      refine lv_icmp_ge (tgt := 128) hx hb dX5_askInPlaces_10 (by decide) (fun h => ?_) (fun h => ?_)
      · replace hf := (if_pos h).symm.trans hf
        exact hk _ _ H locs ls hf hW (lv_sub hl [0, 1] rfl)
      · replace hf := (if_neg h).symm.trans hf
        refine lv_aload_n hx hb dX5_askInPlaces_13 rfl (lv_at hl 0 rfl) ?_
        refine g_get C hW inX5 2 rfl rfl rfl 0 (by decide) (List.mem_of_getElem? (i := 1) rfl) (v := .ref (a0 0)) rfl dX5_askInPlaces_14 ?_
        refine lv_iload_n hx hb dX5_askInPlaces_17 rfl (lv_at hl 1 rfl) ?_
        refine lv_aload_n hx hb dX5_askInPlaces_18 rfl (lv_at hl 0 rfl) ?_
        refine g_get C hW inX5 2 rfl rfl rfl 1 (by decide) (List.mem_of_getElem? (i := 3) rfl) (v := .ref (a1 0)) rfl dX5_askInPlaces_19 ?_
        refine g_get C hW inX4 1 rfl rfl rfl 0 (by decide) (List.mem_of_getElem? (i := 4) rfl) (v := .int (v1 0 0)) rfl dX5_askInPlaces_22 ?_
        obtain ⟨y1, hc, hf⟩ := bd_of hf
        refine g_cV (Cn := RX3) C (ct_X3_isPlaceToAsk g l N a0 x1 (v1 0 0) v0 hc) gX5_askInPlaces_X3_isPlaceToAsk rfl 2 (by decide +kernel) ⟨rfl, rfl, ⟨Nat.le_of_ble_eq_true rfl, Nat.le_of_ble_eq_true rfl⟩, Nat.le_of_ble_eq_true rfl, Nat.le_of_ble_eq_true rfl⟩ rfl hl (Nat.le_of_ble_eq_true rfl) dX5_askInPlaces_25 rfl hW hA [0] rfl rfl rfl (ch' := [kX3 g a0 v0, kX4 g a1 q1_14 v1, kX5 g a2 (a0 0) (a1 0) v2]) rfl 0 rfl rfl rfl (fun H locs hW => ?_)
        refine lv_if_eq (tgt := 54) hx hb dX5_askInPlaces_28 (by decide) (fun h => ?_) (fun h => ?_)
        · replace hf := (if_pos h).symm.trans hf
          refine lv_iconst (v := (0 : Int32)) hx hb dX5_askInPlaces_54 (by decide) ?_
          refine lv_istore_n (lv' := [(2, .int (0 : Int32)), (0, .ref (a2 0)), (1, .int x1)]) hx hb dX5_askInPlaces_55 rfl hl (by decide) rfl (fun ls hl => ?_)
          refine lv_iload_n hx hb dX5_askInPlaces_56 rfl (lv_at hl 0 rfl) ?_
          refine lv_if_eq (tgt := 122) hx hb dX5_askInPlaces_57 (by decide) (fun _ => ?_) (fun h => absurd h (by decide))
          refine lv_iinc (v := (x1 + 1)) (lv' := [(1, .int (x1 + 1)), (2, .int (0 : Int32)), (0, .ref (a2 0))]) hx hb dX5_askInPlaces_122 hl (k := 2) rfl (by first | rfl | decide) (by decide) rfl (fun ls hl => ?_)
          refine lv_goto (tgt := 2) hx hb dX5_askInPlaces_125 (by decide) ?_
          exact ih _ _ H locs ls hf hW (lv_sub hl [2, 0] rfl)
        · replace hf := (if_neg h).symm.trans hf
          refine lv_aload_n hx hb dX5_askInPlaces_31 rfl (lv_at hl 0 rfl) ?_
          refine g_get C hW inX5 2 rfl rfl rfl 1 (by decide) (List.mem_of_getElem? (i := 3) rfl) (v := .ref (a1 0)) rfl dX5_askInPlaces_32 ?_
          refine g_get C hW inX4 1 rfl rfl rfl 0 (by decide) (List.mem_of_getElem? (i := 4) rfl) (v := .int (v1 0 0)) rfl dX5_askInPlaces_35 ?_
          refine lv_aload_n hx hb dX5_askInPlaces_38 rfl (lv_at hl 0 rfl) ?_
          refine g_get C hW inX5 2 rfl rfl rfl 1 (by decide) (List.mem_of_getElem? (i := 3) rfl) (v := .ref (a1 0)) rfl dX5_askInPlaces_39 ?_
          refine g_get C hW inX4 1 rfl rfl rfl 4 (by decide) (List.mem_of_getElem? (i := 5) rfl) (v := .ref (a1 2)) rfl dX5_askInPlaces_42 ?_
          refine lv_iload_n hx hb dX5_askInPlaces_45 rfl (lv_at hl 1 rfl) ?_
          obtain ⟨hi, hf⟩ := gd_of hf
          refine g_iald C hW 1 2 rfl (f := (v1 4)) rfl (ib_in hi) dX5_askInPlaces_46 ?_
          refine lv_icmp_lt (tgt := 54) hx hb dX5_askInPlaces_47 (by decide) (fun h => ?_) (fun h => ?_)
          · replace hf := (if_pos h).symm.trans hf
            refine lv_iconst (v := (0 : Int32)) hx hb dX5_askInPlaces_54 (by decide) ?_
            refine lv_istore_n (lv' := [(2, .int (0 : Int32)), (0, .ref (a2 0)), (1, .int x1)]) hx hb dX5_askInPlaces_55 rfl hl (by decide) rfl (fun ls hl => ?_)
            refine lv_iload_n hx hb dX5_askInPlaces_56 rfl (lv_at hl 0 rfl) ?_
            refine lv_if_eq (tgt := 122) hx hb dX5_askInPlaces_57 (by decide) (fun _ => ?_) (fun h => absurd h (by decide))
            refine lv_iinc (v := (x1 + 1)) (lv' := [(1, .int (x1 + 1)), (2, .int (0 : Int32)), (0, .ref (a2 0))]) hx hb dX5_askInPlaces_122 hl (k := 2) rfl (by first | rfl | decide) (by decide) rfl (fun ls hl => ?_)
            refine lv_goto (tgt := 2) hx hb dX5_askInPlaces_125 (by decide) ?_
            exact ih _ _ H locs ls hf hW (lv_sub hl [2, 0] rfl)
          · replace hf := (if_neg h).symm.trans hf
            refine lv_iconst (v := (1 : Int32)) hx hb dX5_askInPlaces_50 (by decide) ?_
            refine lv_goto (tgt := 55) hx hb dX5_askInPlaces_51 (by decide) ?_
            refine lv_istore_n (lv' := [(2, .int (1 : Int32)), (0, .ref (a2 0)), (1, .int x1)]) hx hb dX5_askInPlaces_55 rfl hl (by decide) rfl (fun ls hl => ?_)
            refine lv_iload_n hx hb dX5_askInPlaces_56 rfl (lv_at hl 0 rfl) ?_
            refine lv_if_eq (tgt := 122) hx hb dX5_askInPlaces_57 (by decide) (fun h => absurd h (by decide)) (fun _ => ?_)
            refine lv_aload_n hx hb dX5_askInPlaces_60 rfl (lv_at hl 1 rfl) ?_
            refine g_get C hW inX5 2 rfl rfl rfl 1 (by decide) (List.mem_of_getElem? (i := 3) rfl) (v := .ref (a1 0)) rfl dX5_askInPlaces_61 ?_
            refine g_get C hW inX4 1 rfl rfl rfl 3 (by decide) (List.mem_of_getElem? (i := 6) rfl) (v := .ref (a1 1)) rfl dX5_askInPlaces_64 ?_
            refine lv_iload_n hx hb dX5_askInPlaces_67 rfl (lv_at hl 2 rfl) ?_
            obtain ⟨hi, hf⟩ := gd_of hf
            refine g_iald C hW 1 1 rfl (f := (v1 3)) rfl (ib_in hi) dX5_askInPlaces_68 ?_
            refine lv_iconst (v := (1 : Int32)) hx hb dX5_askInPlaces_69 (by decide) ?_
            refine lv_icmp_ne (tgt := 122) hx hb dX5_askInPlaces_70 (by decide) (fun h => ?_) (fun h => ?_)
            · replace hf := (if_neg h).symm.trans hf
              refine lv_iinc (v := (x1 + 1)) (lv' := [(1, .int (x1 + 1)), (2, .int (1 : Int32)), (0, .ref (a2 0))]) hx hb dX5_askInPlaces_122 hl (k := 2) rfl (by first | rfl | decide) (by decide) rfl (fun ls hl => ?_)
              refine lv_goto (tgt := 2) hx hb dX5_askInPlaces_125 (by decide) ?_
              exact ih _ _ H locs ls hf hW (lv_sub hl [2, 0] rfl)
            · replace hf := (if_pos h).symm.trans hf
              refine lv_aload_n hx hb dX5_askInPlaces_73 rfl (lv_at hl 1 rfl) ?_
              refine g_get C hW inX5 2 rfl rfl rfl 1 (by decide) (List.mem_of_getElem? (i := 3) rfl) (v := .ref (a1 0)) rfl dX5_askInPlaces_74 ?_
              refine g_get C hW inX4 1 rfl rfl rfl 5 (by decide) (List.mem_of_getElem? (i := 7) rfl) (v := .ref (a1 3)) rfl dX5_askInPlaces_77 ?_
              refine lv_iload_n hx hb dX5_askInPlaces_80 rfl (lv_at hl 2 rfl) ?_
              refine lv_iconst (v := (1 : Int32)) hx hb dX5_askInPlaces_81 (by decide) ?_
              obtain ⟨hi, hf⟩ := gd_of hf
              refine g_iast C hW 1 3 rfl (f := (v1 5)) rfl (ib_in hi) (kX4_w5 g a1 q1_14 v1 (upd (v1 5) (Int32.toNatClampNeg x1) (1 : Int32))) (ch' := [kX3 g a0 v0, kX4 g a1 q1_14 (st v1 5 (upd (v1 5) (Int32.toNatClampNeg x1) (1 : Int32))), kX5 g a2 (a0 0) (a1 0) v2]) rfl dX5_askInPlaces_82 (fun H locs hW => ?_)
              refine lv_aload_n hx hb dX5_askInPlaces_83 rfl (lv_at hl 1 rfl) ?_
              refine g_get C hW inX5 2 rfl rfl rfl 1 (by decide) (List.mem_of_getElem? (i := 3) rfl) (v := .ref (a1 0)) rfl dX5_askInPlaces_84 ?_
              refine g_get C hW inX4 1 rfl rfl rfl 7 (by decide) (List.mem_of_getElem? (i := 8) rfl) (v := .ref (a1 5)) rfl dX5_askInPlaces_87 ?_
              refine lv_iload_n hx hb dX5_askInPlaces_90 rfl (lv_at hl 2 rfl) ?_
              refine lv_dup2_11 hx hb dX5_askInPlaces_91 rfl rfl ?_
              obtain ⟨hi, hf⟩ := gd_of hf
              refine g_iald C hW 1 5 rfl (f := (v1 7)) rfl (ib_in hi) dX5_askInPlaces_92 ?_
              refine lv_iconst (v := (1 : Int32)) hx hb dX5_askInPlaces_93 (by decide) ?_
              refine lv_iadd hx hb dX5_askInPlaces_94 ?_
              obtain ⟨hi, hf⟩ := gd_of hf
              refine g_iast C hW 1 5 rfl (f := (v1 7)) rfl (ib_in hi) (kX4_w7 g a1 q1_14 (st v1 5 (upd (v1 5) (Int32.toNatClampNeg x1) (1 : Int32))) (upd (v1 7) (Int32.toNatClampNeg x1) (((v1 7) (Int32.toNatClampNeg x1)) + (1 : Int32)))) (ch' := [kX3 g a0 v0, kX4 g a1 q1_14 (st (st v1 5 (upd (v1 5) (Int32.toNatClampNeg x1) (1 : Int32))) 7 (upd (v1 7) (Int32.toNatClampNeg x1) (((v1 7) (Int32.toNatClampNeg x1)) + (1 : Int32)))), kX5 g a2 (a0 0) (a1 0) v2]) rfl dX5_askInPlaces_95 (fun H locs hW => ?_)
              refine lv_aload_n hx hb dX5_askInPlaces_96 rfl (lv_at hl 1 rfl) ?_
              refine g_get C hW inX5 2 rfl rfl rfl 1 (by decide) (List.mem_of_getElem? (i := 3) rfl) (v := .ref (a1 0)) rfl dX5_askInPlaces_97 ?_
              refine g_get C hW inX4 1 rfl rfl rfl 4 (by decide) (List.mem_of_getElem? (i := 5) rfl) (v := .ref (a1 2)) rfl dX5_askInPlaces_100 ?_
              refine lv_iload_n hx hb dX5_askInPlaces_103 rfl (lv_at hl 2 rfl) ?_
              refine lv_aload_n hx hb dX5_askInPlaces_104 rfl (lv_at hl 1 rfl) ?_
              refine g_get C hW inX5 2 rfl rfl rfl 1 (by decide) (List.mem_of_getElem? (i := 3) rfl) (v := .ref (a1 0)) rfl dX5_askInPlaces_105 ?_
              refine g_get C hW inX4 1 rfl rfl rfl 0 (by decide) (List.mem_of_getElem? (i := 4) rfl) (v := .int (v1 0 0)) rfl dX5_askInPlaces_108 ?_
              refine lv_aload_n hx hb dX5_askInPlaces_111 rfl (lv_at hl 1 rfl) ?_
              refine g_get C hW inX5 2 rfl rfl rfl 0 (by decide) (List.mem_of_getElem? (i := 1) rfl) (v := .ref (a0 0)) rfl dX5_askInPlaces_112 ?_
              refine g_get C hW inX3 0 rfl rfl rfl 3 (by decide) (List.mem_of_getElem? (i := 9) rfl) (v := .int (v0 3 0)) rfl dX5_askInPlaces_115 ?_
              refine lv_iadd hx hb dX5_askInPlaces_118 ?_
              refine lv_iconst (v := (1 : Int32)) hx hb dX5_askInPlaces_119 (by decide) ?_
              refine lv_iadd hx hb dX5_askInPlaces_120 ?_
              obtain ⟨hi, hf⟩ := gd_of hf
              refine g_iast C hW 1 2 rfl (f := (v1 4)) rfl (ib_in hi) (kX4_w4 g a1 q1_14 (st (st v1 5 (upd (v1 5) (Int32.toNatClampNeg x1) (1 : Int32))) 7 (upd (v1 7) (Int32.toNatClampNeg x1) (((v1 7) (Int32.toNatClampNeg x1)) + (1 : Int32)))) (upd (v1 4) (Int32.toNatClampNeg x1) (((v1 0 0) + (v0 3 0)) + (1 : Int32)))) (ch' := [kX3 g a0 v0, kX4 g a1 q1_14 (st (st (st v1 5 (upd (v1 5) (Int32.toNatClampNeg x1) (1 : Int32))) 7 (upd (v1 7) (Int32.toNatClampNeg x1) (((v1 7) (Int32.toNatClampNeg x1)) + (1 : Int32)))) 4 (upd (v1 4) (Int32.toNatClampNeg x1) (((v1 0 0) + (v0 3 0)) + (1 : Int32)))), kX5 g a2 (a0 0) (a1 0) v2]) rfl dX5_askInPlaces_121 (fun H locs hW => ?_)
              refine lv_iinc (v := (x1 + 1)) (lv' := [(1, .int (x1 + 1)), (2, .int (1 : Int32)), (0, .ref (a2 0))]) hx hb dX5_askInPlaces_122 hl (k := 2) rfl (by first | rfl | decide) (by decide) rfl (fun ls hl => ?_)
              refine lv_goto (tgt := 2) hx hb dX5_askInPlaces_125 (by decide) ?_
              exact ih _ _ H locs ls hf hW (lv_sub hl [2, 0] rfl)
  rw [fX5_askInPlaces] at hf
  refine lv_iconst (v := (0 : Int32)) hx hb dX5_askInPlaces_0 (by decide) ?_
  refine lv_istore_n (lv' := [(1, .int (0 : Int32)), (0, .ref (a2 0))]) hx hb dX5_askInPlaces_1 rfl hl (by decide) rfl (fun ls hl => ?_)
  refine L2 _ (fun x1_2 v1_2 H locs ls hf hW hl => ?_) N (0 : Int32) v1 H locs ls hf hW (lv_sub hl [1, 0] rfl)
  obtain rfl := Option.some.inj hf
  subst hQ
  exact g_vret C hr hk0 hW rfl rfl dX5_askInPlaces_128
def fX5_takeGrant (N : Nat) (x1 : Int32) (v0 : MM) (v1 : MM) : Option (Int32 × MM × MM) := (if ib x1 3 = true then (if ((v0 6) (Int32.toNatClampNeg x1)) ≤ 0 then (if ib x1 3 = true then (if ib x1 3 = true then (if ib x1 3 = true then some ((if (v1 2 0) < (4 : Int32) then (v1 2 0) else (4 : Int32)), (st (st (st v0 5 (upd (v0 5) (Int32.toNatClampNeg x1) (0 : Int32))) 8 (upd (v0 8) (Int32.toNatClampNeg x1) (((v0 8) (Int32.toNatClampNeg x1)) + (if (v1 2 0) < (4 : Int32) then (v1 2 0) else (4 : Int32))))) 2 (fun _ => x1)), (st v1 2 (fun _ => ((v1 2 0) - (if (v1 2 0) < (4 : Int32) then (v1 2 0) else (4 : Int32)))))) else none) else none) else none) else (if ib x1 3 = true then (if ib x1 3 = true then (if ib x1 3 = true then (if ib x1 3 = true then some ((if (v1 2 0) < (((v0 6) (Int32.toNatClampNeg x1)) + (2 : Int32)) then (v1 2 0) else (((v0 6) (Int32.toNatClampNeg x1)) + (2 : Int32))), (st (st (st v0 5 (upd (v0 5) (Int32.toNatClampNeg x1) (0 : Int32))) 8 (upd (v0 8) (Int32.toNatClampNeg x1) (((v0 8) (Int32.toNatClampNeg x1)) + (if (v1 2 0) < (((v0 6) (Int32.toNatClampNeg x1)) + (2 : Int32)) then (v1 2 0) else (((v0 6) (Int32.toNatClampNeg x1)) + (2 : Int32)))))) 2 (fun _ => x1)), (st v1 2 (fun _ => ((v1 2 0) - (if (v1 2 0) < (((v0 6) (Int32.toNatClampNeg x1)) + (2 : Int32)) then (v1 2 0) else (((v0 6) (Int32.toNatClampNeg x1)) + (2 : Int32))))))) else none) else none) else none) else none)) else none)
set_option maxHeartbeats 4000000 in
set_option maxRecDepth 100000 in
theorem ct_X5_takeGrant (g : GT) (l : Launch) (N : Nat) (a0 : Nat → Nat) (a1 : Nat → Nat) (q1_14 : Nat) (q0 : Nat) (x1 : Int32) (v0 : MM) (v1 : MM) {y : Int32 × MM × MM} (hf : fX5_takeGrant N x1 v0 v1 = some y) : ct g l yX5_takeGrant wsX5_takeGrant (rmk 1 21) [.ref (a1 0), .int x1] [kX4 g a0 q1_14 v0, kX5 g a1 q0 (a0 0) v1] (some (.int y.1)) [kX4 g a0 q1_14 y.2.1, kX5 g a1 q0 (a0 0) y.2.2] := by
  refine ct_of (cc := cX5_takeGrant) (maxL := 4) (ret := (some .int)) (by decide) rfl (Nat.le_of_ble_eq_true rfl) ?_
  intro p e s m args below meth c A ls C hr hk0 hA hW hl
  have hx := C.1.1
  have hb := C.1.2.1
  replace hl : lv_has ls 4 [(0, .ref (a1 0)), (1, .int x1)] := hl
  obtain ⟨Q, hQ⟩ : ∃ Q, Q = MQ below (ctQ g A (some (.int y.1)) [kX4 g a0 q1_14 y.2.1, kX5 g a1 q0 (a0 0) y.2.2]) args s 0 0 A := ⟨_, rfl⟩
  rw [← hQ]
  obtain ⟨H, hH⟩ : ∃ H, H = s.heap := ⟨_, rfl⟩
  obtain ⟨locs, hL⟩ : ∃ locs : List Loc, locs = [] := ⟨_, rfl⟩
  replace hW : wd g A s.heap [kX4 g a0 q1_14 v0, kX5 g a1 q0 (a0 0) v1] H locs := by rw [hH, hL]; exact hW
  suffices hG : W p l e (rmk 1 21) s m args below meth c H locs 0 0 Q (F0 m 0 ls []) by
    rw [hH, hL] at hG; exact hG
  clear hH hL
  have inX4 : ∀ w ∈ wsX40, w ∈ wsX5_takeGrant := fun _ h => List.mem_cons_of_mem _ (List.mem_append_right _ (h))
  have inX5 : ∀ w ∈ wsX50, w ∈ wsX5_takeGrant := fun _ h => List.mem_cons_of_mem _ (List.mem_append_left _ (List.mem_append_right _ (h)))
  rw [fX5_takeGrant] at hf
  refine lv_aload_n hx hb dX5_takeGrant_0 rfl (lv_at hl 0 rfl) ?_
  refine g_get C hW inX5 1 rfl rfl rfl 1 (by decide) (List.mem_of_getElem? (i := 1) rfl) (v := .ref (a0 0)) rfl dX5_takeGrant_1 ?_
  refine g_get C hW inX4 0 rfl rfl rfl 6 (by decide) (List.mem_of_getElem? (i := 2) rfl) (v := .ref (a0 4)) rfl dX5_takeGrant_4 ?_
  refine lv_iload_n hx hb dX5_takeGrant_7 rfl (lv_at hl 1 rfl) ?_
  obtain ⟨hi, hf⟩ := gd_of hf
  refine g_iald C hW 0 4 rfl (f := (v0 6)) rfl (ib_in hi) dX5_takeGrant_8 ?_
  refine lv_if_le (tgt := 26) hx hb dX5_takeGrant_9 (by decide) (fun h => ?_) (fun h => ?_)
  · replace hf := (if_pos h).symm.trans hf
    refine lv_iconst (v := (4 : Int32)) hx hb dX5_takeGrant_26 (by decide) ?_
    refine lv_istore_n (lv' := [(2, .int (4 : Int32)), (0, .ref (a1 0)), (1, .int x1)]) hx hb dX5_takeGrant_27 rfl hl (by decide) rfl (fun ls hl => ?_)
    refine lv_iload_n hx hb dX5_takeGrant_28 rfl (lv_at hl 0 rfl) ?_
    refine lv_aload_n hx hb dX5_takeGrant_29 rfl (lv_at hl 1 rfl) ?_
    refine g_get C hW inX5 1 rfl rfl rfl 2 (by decide) (List.mem_of_getElem? (i := 3) rfl) (v := .int (v1 2 0)) rfl dX5_takeGrant_30 ?_
    refine g_mmin C hl (List.mem_of_getElem? (i := 4) rfl) (List.mem_of_getElem? (i := 5) rfl) (List.mem_of_getElem? (i := 6) rfl) (List.mem_of_getElem? (i := 7) rfl) ⟨Nat.le_of_ble_eq_true rfl, Nat.le_of_ble_eq_true rfl, Nat.le_of_ble_eq_true rfl, Nat.le_of_ble_eq_true rfl⟩ (Nat.le_of_ble_eq_true rfl) dX5_takeGrant_33 ?_
    refine lv_istore_n (lv' := [(3, .int (if (v1 2 0) < (4 : Int32) then (v1 2 0) else (4 : Int32))), (2, .int (4 : Int32)), (0, .ref (a1 0)), (1, .int x1)]) hx hb dX5_takeGrant_36 rfl hl (by decide) rfl (fun ls hl => ?_)
    refine lv_aload_n hx hb dX5_takeGrant_37 rfl (lv_at hl 2 rfl) ?_
    refine lv_dup hx hb dX5_takeGrant_38 rfl ?_
    refine g_get C hW inX5 1 rfl rfl rfl 2 (by decide) (List.mem_of_getElem? (i := 3) rfl) (v := .int (v1 2 0)) rfl dX5_takeGrant_39 ?_
    refine lv_iload_n hx hb dX5_takeGrant_42 rfl (lv_at hl 0 rfl) ?_
    refine lv_isub hx hb dX5_takeGrant_43 ?_
    refine g_put C hW inX5 tyX5_ok nmX5 1 rfl rfl rfl 2 (by decide) (List.mem_of_getElem? (i := 3) rfl) rfl rfl rfl rfl (kX5_s2 g a1 q0 (a0 0) v1 ((v1 2 0) - (if (v1 2 0) < (4 : Int32) then (v1 2 0) else (4 : Int32)))) (ch' := [kX4 g a0 q1_14 v0, kX5 g a1 q0 (a0 0) (st v1 2 (fun _ => ((v1 2 0) - (if (v1 2 0) < (4 : Int32) then (v1 2 0) else (4 : Int32)))))]) rfl dX5_takeGrant_44 (fun H locs hW => ?_)
    refine lv_aload_n hx hb dX5_takeGrant_47 rfl (lv_at hl 2 rfl) ?_
    refine g_get C hW inX5 1 rfl rfl rfl 1 (by decide) (List.mem_of_getElem? (i := 1) rfl) (v := .ref (a0 0)) rfl dX5_takeGrant_48 ?_
    refine g_get C hW inX4 0 rfl rfl rfl 5 (by decide) (List.mem_of_getElem? (i := 8) rfl) (v := .ref (a0 3)) rfl dX5_takeGrant_51 ?_
    refine lv_iload_n hx hb dX5_takeGrant_54 rfl (lv_at hl 3 rfl) ?_
    refine lv_iconst (v := (0 : Int32)) hx hb dX5_takeGrant_55 (by decide) ?_
    obtain ⟨hi, hf⟩ := gd_of hf
    refine g_iast C hW 0 3 rfl (f := (v0 5)) rfl (ib_in hi) (kX4_w5 g a0 q1_14 v0 (upd (v0 5) (Int32.toNatClampNeg x1) (0 : Int32))) (ch' := [kX4 g a0 q1_14 (st v0 5 (upd (v0 5) (Int32.toNatClampNeg x1) (0 : Int32))), kX5 g a1 q0 (a0 0) (st v1 2 (fun _ => ((v1 2 0) - (if (v1 2 0) < (4 : Int32) then (v1 2 0) else (4 : Int32)))))]) rfl dX5_takeGrant_56 (fun H locs hW => ?_)
    refine lv_aload_n hx hb dX5_takeGrant_57 rfl (lv_at hl 2 rfl) ?_
    refine g_get C hW inX5 1 rfl rfl rfl 1 (by decide) (List.mem_of_getElem? (i := 1) rfl) (v := .ref (a0 0)) rfl dX5_takeGrant_58 ?_
    refine g_get C hW inX4 0 rfl rfl rfl 8 (by decide) (List.mem_of_getElem? (i := 9) rfl) (v := .ref (a0 6)) rfl dX5_takeGrant_61 ?_
    refine lv_iload_n hx hb dX5_takeGrant_64 rfl (lv_at hl 3 rfl) ?_
    refine lv_dup2_11 hx hb dX5_takeGrant_65 rfl rfl ?_
    obtain ⟨hi, hf⟩ := gd_of hf
    refine g_iald C hW 0 6 rfl (f := (v0 8)) rfl (ib_in hi) dX5_takeGrant_66 ?_
    refine lv_iload_n hx hb dX5_takeGrant_67 rfl (lv_at hl 0 rfl) ?_
    refine lv_iadd hx hb dX5_takeGrant_68 ?_
    obtain ⟨hi, hf⟩ := gd_of hf
    refine g_iast C hW 0 6 rfl (f := (v0 8)) rfl (ib_in hi) (kX4_w8 g a0 q1_14 (st v0 5 (upd (v0 5) (Int32.toNatClampNeg x1) (0 : Int32))) (upd (v0 8) (Int32.toNatClampNeg x1) (((v0 8) (Int32.toNatClampNeg x1)) + (if (v1 2 0) < (4 : Int32) then (v1 2 0) else (4 : Int32))))) (ch' := [kX4 g a0 q1_14 (st (st v0 5 (upd (v0 5) (Int32.toNatClampNeg x1) (0 : Int32))) 8 (upd (v0 8) (Int32.toNatClampNeg x1) (((v0 8) (Int32.toNatClampNeg x1)) + (if (v1 2 0) < (4 : Int32) then (v1 2 0) else (4 : Int32))))), kX5 g a1 q0 (a0 0) (st v1 2 (fun _ => ((v1 2 0) - (if (v1 2 0) < (4 : Int32) then (v1 2 0) else (4 : Int32)))))]) rfl dX5_takeGrant_69 (fun H locs hW => ?_)
    refine lv_aload_n hx hb dX5_takeGrant_70 rfl (lv_at hl 2 rfl) ?_
    refine g_get C hW inX5 1 rfl rfl rfl 1 (by decide) (List.mem_of_getElem? (i := 1) rfl) (v := .ref (a0 0)) rfl dX5_takeGrant_71 ?_
    refine lv_iload_n hx hb dX5_takeGrant_74 rfl (lv_at hl 3 rfl) ?_
    refine g_put C hW inX4 tyX4_ok nmX4 0 rfl rfl rfl 2 (by decide) (List.mem_of_getElem? (i := 10) rfl) rfl rfl rfl rfl (kX4_s2 g a0 q1_14 (st (st v0 5 (upd (v0 5) (Int32.toNatClampNeg x1) (0 : Int32))) 8 (upd (v0 8) (Int32.toNatClampNeg x1) (((v0 8) (Int32.toNatClampNeg x1)) + (if (v1 2 0) < (4 : Int32) then (v1 2 0) else (4 : Int32))))) x1) (ch' := [kX4 g a0 q1_14 (st (st (st v0 5 (upd (v0 5) (Int32.toNatClampNeg x1) (0 : Int32))) 8 (upd (v0 8) (Int32.toNatClampNeg x1) (((v0 8) (Int32.toNatClampNeg x1)) + (if (v1 2 0) < (4 : Int32) then (v1 2 0) else (4 : Int32))))) 2 (fun _ => x1)), kX5 g a1 q0 (a0 0) (st v1 2 (fun _ => ((v1 2 0) - (if (v1 2 0) < (4 : Int32) then (v1 2 0) else (4 : Int32)))))]) rfl dX5_takeGrant_75 (fun H locs hW => ?_)
    refine lv_iload_n hx hb dX5_takeGrant_78 rfl (lv_at hl 0 rfl) ?_
    obtain rfl := Option.some.inj hf
    subst hQ
    exact g_iret C hr hk0 hW rfl rfl dX5_takeGrant_79
  · replace hf := (if_neg h).symm.trans hf
    refine lv_aload_n hx hb dX5_takeGrant_12 rfl (lv_at hl 0 rfl) ?_
    refine g_get C hW inX5 1 rfl rfl rfl 1 (by decide) (List.mem_of_getElem? (i := 1) rfl) (v := .ref (a0 0)) rfl dX5_takeGrant_13 ?_
    refine g_get C hW inX4 0 rfl rfl rfl 6 (by decide) (List.mem_of_getElem? (i := 2) rfl) (v := .ref (a0 4)) rfl dX5_takeGrant_16 ?_
    refine lv_iload_n hx hb dX5_takeGrant_19 rfl (lv_at hl 1 rfl) ?_
    obtain ⟨hi, hf⟩ := gd_of hf
    refine g_iald C hW 0 4 rfl (f := (v0 6)) rfl (ib_in hi) dX5_takeGrant_20 ?_
    refine lv_iconst (v := (2 : Int32)) hx hb dX5_takeGrant_21 (by decide) ?_
    refine lv_iadd hx hb dX5_takeGrant_22 ?_
    refine lv_goto (tgt := 27) hx hb dX5_takeGrant_23 (by decide) ?_
    refine lv_istore_n (lv' := [(2, .int (((v0 6) (Int32.toNatClampNeg x1)) + (2 : Int32))), (0, .ref (a1 0)), (1, .int x1)]) hx hb dX5_takeGrant_27 rfl hl (by decide) rfl (fun ls hl => ?_)
    refine lv_iload_n hx hb dX5_takeGrant_28 rfl (lv_at hl 0 rfl) ?_
    refine lv_aload_n hx hb dX5_takeGrant_29 rfl (lv_at hl 1 rfl) ?_
    refine g_get C hW inX5 1 rfl rfl rfl 2 (by decide) (List.mem_of_getElem? (i := 3) rfl) (v := .int (v1 2 0)) rfl dX5_takeGrant_30 ?_
    refine g_mmin C hl (List.mem_of_getElem? (i := 4) rfl) (List.mem_of_getElem? (i := 5) rfl) (List.mem_of_getElem? (i := 6) rfl) (List.mem_of_getElem? (i := 7) rfl) ⟨Nat.le_of_ble_eq_true rfl, Nat.le_of_ble_eq_true rfl, Nat.le_of_ble_eq_true rfl, Nat.le_of_ble_eq_true rfl⟩ (Nat.le_of_ble_eq_true rfl) dX5_takeGrant_33 ?_
    refine lv_istore_n (lv' := [(3, .int (if (v1 2 0) < (((v0 6) (Int32.toNatClampNeg x1)) + (2 : Int32)) then (v1 2 0) else (((v0 6) (Int32.toNatClampNeg x1)) + (2 : Int32)))), (2, .int (((v0 6) (Int32.toNatClampNeg x1)) + (2 : Int32))), (0, .ref (a1 0)), (1, .int x1)]) hx hb dX5_takeGrant_36 rfl hl (by decide) rfl (fun ls hl => ?_)
    refine lv_aload_n hx hb dX5_takeGrant_37 rfl (lv_at hl 2 rfl) ?_
    refine lv_dup hx hb dX5_takeGrant_38 rfl ?_
    refine g_get C hW inX5 1 rfl rfl rfl 2 (by decide) (List.mem_of_getElem? (i := 3) rfl) (v := .int (v1 2 0)) rfl dX5_takeGrant_39 ?_
    refine lv_iload_n hx hb dX5_takeGrant_42 rfl (lv_at hl 0 rfl) ?_
    refine lv_isub hx hb dX5_takeGrant_43 ?_
    refine g_put C hW inX5 tyX5_ok nmX5 1 rfl rfl rfl 2 (by decide) (List.mem_of_getElem? (i := 3) rfl) rfl rfl rfl rfl (kX5_s2 g a1 q0 (a0 0) v1 ((v1 2 0) - (if (v1 2 0) < (((v0 6) (Int32.toNatClampNeg x1)) + (2 : Int32)) then (v1 2 0) else (((v0 6) (Int32.toNatClampNeg x1)) + (2 : Int32))))) (ch' := [kX4 g a0 q1_14 v0, kX5 g a1 q0 (a0 0) (st v1 2 (fun _ => ((v1 2 0) - (if (v1 2 0) < (((v0 6) (Int32.toNatClampNeg x1)) + (2 : Int32)) then (v1 2 0) else (((v0 6) (Int32.toNatClampNeg x1)) + (2 : Int32))))))]) rfl dX5_takeGrant_44 (fun H locs hW => ?_)
    refine lv_aload_n hx hb dX5_takeGrant_47 rfl (lv_at hl 2 rfl) ?_
    refine g_get C hW inX5 1 rfl rfl rfl 1 (by decide) (List.mem_of_getElem? (i := 1) rfl) (v := .ref (a0 0)) rfl dX5_takeGrant_48 ?_
    refine g_get C hW inX4 0 rfl rfl rfl 5 (by decide) (List.mem_of_getElem? (i := 8) rfl) (v := .ref (a0 3)) rfl dX5_takeGrant_51 ?_
    refine lv_iload_n hx hb dX5_takeGrant_54 rfl (lv_at hl 3 rfl) ?_
    refine lv_iconst (v := (0 : Int32)) hx hb dX5_takeGrant_55 (by decide) ?_
    obtain ⟨hi, hf⟩ := gd_of hf
    refine g_iast C hW 0 3 rfl (f := (v0 5)) rfl (ib_in hi) (kX4_w5 g a0 q1_14 v0 (upd (v0 5) (Int32.toNatClampNeg x1) (0 : Int32))) (ch' := [kX4 g a0 q1_14 (st v0 5 (upd (v0 5) (Int32.toNatClampNeg x1) (0 : Int32))), kX5 g a1 q0 (a0 0) (st v1 2 (fun _ => ((v1 2 0) - (if (v1 2 0) < (((v0 6) (Int32.toNatClampNeg x1)) + (2 : Int32)) then (v1 2 0) else (((v0 6) (Int32.toNatClampNeg x1)) + (2 : Int32))))))]) rfl dX5_takeGrant_56 (fun H locs hW => ?_)
    refine lv_aload_n hx hb dX5_takeGrant_57 rfl (lv_at hl 2 rfl) ?_
    refine g_get C hW inX5 1 rfl rfl rfl 1 (by decide) (List.mem_of_getElem? (i := 1) rfl) (v := .ref (a0 0)) rfl dX5_takeGrant_58 ?_
    refine g_get C hW inX4 0 rfl rfl rfl 8 (by decide) (List.mem_of_getElem? (i := 9) rfl) (v := .ref (a0 6)) rfl dX5_takeGrant_61 ?_
    refine lv_iload_n hx hb dX5_takeGrant_64 rfl (lv_at hl 3 rfl) ?_
    refine lv_dup2_11 hx hb dX5_takeGrant_65 rfl rfl ?_
    obtain ⟨hi, hf⟩ := gd_of hf
    refine g_iald C hW 0 6 rfl (f := (v0 8)) rfl (ib_in hi) dX5_takeGrant_66 ?_
    refine lv_iload_n hx hb dX5_takeGrant_67 rfl (lv_at hl 0 rfl) ?_
    refine lv_iadd hx hb dX5_takeGrant_68 ?_
    obtain ⟨hi, hf⟩ := gd_of hf
    refine g_iast C hW 0 6 rfl (f := (v0 8)) rfl (ib_in hi) (kX4_w8 g a0 q1_14 (st v0 5 (upd (v0 5) (Int32.toNatClampNeg x1) (0 : Int32))) (upd (v0 8) (Int32.toNatClampNeg x1) (((v0 8) (Int32.toNatClampNeg x1)) + (if (v1 2 0) < (((v0 6) (Int32.toNatClampNeg x1)) + (2 : Int32)) then (v1 2 0) else (((v0 6) (Int32.toNatClampNeg x1)) + (2 : Int32)))))) (ch' := [kX4 g a0 q1_14 (st (st v0 5 (upd (v0 5) (Int32.toNatClampNeg x1) (0 : Int32))) 8 (upd (v0 8) (Int32.toNatClampNeg x1) (((v0 8) (Int32.toNatClampNeg x1)) + (if (v1 2 0) < (((v0 6) (Int32.toNatClampNeg x1)) + (2 : Int32)) then (v1 2 0) else (((v0 6) (Int32.toNatClampNeg x1)) + (2 : Int32)))))), kX5 g a1 q0 (a0 0) (st v1 2 (fun _ => ((v1 2 0) - (if (v1 2 0) < (((v0 6) (Int32.toNatClampNeg x1)) + (2 : Int32)) then (v1 2 0) else (((v0 6) (Int32.toNatClampNeg x1)) + (2 : Int32))))))]) rfl dX5_takeGrant_69 (fun H locs hW => ?_)
    refine lv_aload_n hx hb dX5_takeGrant_70 rfl (lv_at hl 2 rfl) ?_
    refine g_get C hW inX5 1 rfl rfl rfl 1 (by decide) (List.mem_of_getElem? (i := 1) rfl) (v := .ref (a0 0)) rfl dX5_takeGrant_71 ?_
    refine lv_iload_n hx hb dX5_takeGrant_74 rfl (lv_at hl 3 rfl) ?_
    refine g_put C hW inX4 tyX4_ok nmX4 0 rfl rfl rfl 2 (by decide) (List.mem_of_getElem? (i := 10) rfl) rfl rfl rfl rfl (kX4_s2 g a0 q1_14 (st (st v0 5 (upd (v0 5) (Int32.toNatClampNeg x1) (0 : Int32))) 8 (upd (v0 8) (Int32.toNatClampNeg x1) (((v0 8) (Int32.toNatClampNeg x1)) + (if (v1 2 0) < (((v0 6) (Int32.toNatClampNeg x1)) + (2 : Int32)) then (v1 2 0) else (((v0 6) (Int32.toNatClampNeg x1)) + (2 : Int32)))))) x1) (ch' := [kX4 g a0 q1_14 (st (st (st v0 5 (upd (v0 5) (Int32.toNatClampNeg x1) (0 : Int32))) 8 (upd (v0 8) (Int32.toNatClampNeg x1) (((v0 8) (Int32.toNatClampNeg x1)) + (if (v1 2 0) < (((v0 6) (Int32.toNatClampNeg x1)) + (2 : Int32)) then (v1 2 0) else (((v0 6) (Int32.toNatClampNeg x1)) + (2 : Int32)))))) 2 (fun _ => x1)), kX5 g a1 q0 (a0 0) (st v1 2 (fun _ => ((v1 2 0) - (if (v1 2 0) < (((v0 6) (Int32.toNatClampNeg x1)) + (2 : Int32)) then (v1 2 0) else (((v0 6) (Int32.toNatClampNeg x1)) + (2 : Int32))))))]) rfl dX5_takeGrant_75 (fun H locs hW => ?_)
    refine lv_iload_n hx hb dX5_takeGrant_78 rfl (lv_at hl 0 rfl) ?_
    obtain rfl := Option.some.inj hf
    subst hQ
    exact g_iret C hr hk0 hW rfl rfl dX5_takeGrant_79
def fX5_packLetters_L16 (N : Nat) (k : Int32 → Int32 → MM → MM → Option (Int32 × MM × MM)) (x1 : Int32) (x2 : Int32) (x3 : Int32) (x4 : Int32) (x6 : Int32) (v0 : MM) (v3 : MM) : Nat → Int32 → Int32 → MM → MM → Option (Int32 × MM × MM)
  | 0, _, _, _, _ => none
  | n + 1, x5, x7, v1, v2 => (if (v0 1 0) ≤ x7 then k x5 x7 v1 v2 else (if ib x7 6 = true then (if ((v0 7) (Int32.toNatClampNeg x7)) = x1 then (if ib x7 6 = true then (if ((v0 8) (Int32.toNatClampNeg x7)) = x6 then (if ib x7 6 = true then (if x4 = 0 then (if ib x7 6 = true then (if ib x7 6 = true then ((fX0_putLetters N x2 x7 (if x5 < ((v1 9) (Int32.toNatClampNeg x7)) then x5 else ((v1 9) (Int32.toNatClampNeg x7))) v2).bind (fun y1 => fX5_packLetters_L16 N k x1 x2 x3 x4 x6 v0 v3 n (x5 - (if x5 < ((v1 9) (Int32.toNatClampNeg x7)) then x5 else ((v1 9) (Int32.toNatClampNeg x7)))) (x7 + 1) (st v1 9 (upd (v1 9) (Int32.toNatClampNeg x7) (((v1 9) (Int32.toNatClampNeg x7)) - (if x5 < ((v1 9) (Int32.toNatClampNeg x7)) then x5 else ((v1 9) (Int32.toNatClampNeg x7)))))) y1)) else none) else none) else (if ib x7 6 = true then (if ib x7 6 = true then (if ib x7 6 = true then (if ib x7 6 = true then (if ib x7 6 = true then ((fX0_putLetters N x2 x7 (if ((v1 10) (Int32.toNatClampNeg x7)) < (if x5 < ((v1 9) (Int32.toNatClampNeg x7)) then x5 else ((v1 9) (Int32.toNatClampNeg x7))) then ((v1 10) (Int32.toNatClampNeg x7)) else (if x5 < ((v1 9) (Int32.toNatClampNeg x7)) then x5 else ((v1 9) (Int32.toNatClampNeg x7)))) v2).bind (fun y2 => fX5_packLetters_L16 N k x1 x2 x3 x4 x6 v0 v3 n (x5 - (if ((v1 10) (Int32.toNatClampNeg x7)) < (if x5 < ((v1 9) (Int32.toNatClampNeg x7)) then x5 else ((v1 9) (Int32.toNatClampNeg x7))) then ((v1 10) (Int32.toNatClampNeg x7)) else (if x5 < ((v1 9) (Int32.toNatClampNeg x7)) then x5 else ((v1 9) (Int32.toNatClampNeg x7))))) (x7 + 1) (st (st v1 10 (upd (v1 10) (Int32.toNatClampNeg x7) (((v1 10) (Int32.toNatClampNeg x7)) - (if ((v1 10) (Int32.toNatClampNeg x7)) < (if x5 < ((v1 9) (Int32.toNatClampNeg x7)) then x5 else ((v1 9) (Int32.toNatClampNeg x7))) then ((v1 10) (Int32.toNatClampNeg x7)) else (if x5 < ((v1 9) (Int32.toNatClampNeg x7)) then x5 else ((v1 9) (Int32.toNatClampNeg x7))))))) 9 (upd (v1 9) (Int32.toNatClampNeg x7) (((v1 9) (Int32.toNatClampNeg x7)) - (if ((v1 10) (Int32.toNatClampNeg x7)) < (if x5 < ((v1 9) (Int32.toNatClampNeg x7)) then x5 else ((v1 9) (Int32.toNatClampNeg x7))) then ((v1 10) (Int32.toNatClampNeg x7)) else (if x5 < ((v1 9) (Int32.toNatClampNeg x7)) then x5 else ((v1 9) (Int32.toNatClampNeg x7))))))) y2)) else none) else none) else none) else none) else none)) else none) else fX5_packLetters_L16 N k x1 x2 x3 x4 x6 v0 v3 n x5 (x7 + 1) v1 v2) else none) else fX5_packLetters_L16 N k x1 x2 x3 x4 x6 v0 v3 n x5 (x7 + 1) v1 v2) else none))
def fX5_packLetters_L6 (N : Nat) (k : Int32 → Int32 → MM → MM → Option (Int32 × MM × MM)) (x1 : Int32) (x2 : Int32) (x3 : Int32) (x4 : Int32) (v0 : MM) (v3 : MM) : Nat → Int32 → Int32 → MM → MM → Option (Int32 × MM × MM)
  | 0, _, _, _, _ => none
  | n + 1, x5, x6, v1, v2 => (if (9 : Int32) < x6 then k x5 x6 v1 v2 else (fX5_packLetters_L16 N (fun (x5_3 : Int32) (x7_3 : Int32) (v1_3 : MM) (v2_3 : MM) => fX5_packLetters_L6 N k x1 x2 x3 x4 v0 v3 n x5_3 (x6 + 1) v1_3 v2_3) x1 x2 x3 x4 x6 v0 v3 N x5 (0 : Int32) v1 v2))
def fX5_packLetters (N : Nat) (x1 : Int32) (x2 : Int32) (x3 : Int32) (x4 : Int32) (v0 : MM) (v1 : MM) (v2 : MM) (v3 : MM) : Option (Int32 × MM × MM) := (fX5_packLetters_L6 N (fun (x5_4 : Int32) (x6_4 : Int32) (v1_4 : MM) (v2_4 : MM) => some (x5_4, v1_4, v2_4)) x1 x2 x3 x4 v0 v3 N x3 (0 : Int32) v1 v2)
set_option maxHeartbeats 4000000 in
set_option maxRecDepth 100000 in
theorem ct_X5_packLetters (g : GT) (l : Launch) (N : Nat) (a0 : Nat → Nat) (a1 : Nat → Nat) (a2 : Nat → Nat) (a3 : Nat → Nat) (x1 : Int32) (x2 : Int32) (x3 : Int32) (x4 : Int32) (v0 : MM) (v1 : MM) (v2 : MM) (v3 : MM) {y : Int32 × MM × MM} (hf : fX5_packLetters N x1 x2 x3 x4 v0 v1 v2 v3 = some y) : ct g l yX5_packLetters wsX5_packLetters (rmk 1 24) [.ref (a3 0), .int x1, .int x2, .int x3, .int x4] [kX3 g a0 v0, kX4 g a1 (a2 0) v1, kX0 g a2 v2, kX5 g a3 (a0 0) (a1 0) v3] (some (.int y.1)) [kX3 g a0 v0, kX4 g a1 (a2 0) y.2.1, kX0 g a2 y.2.2, kX5 g a3 (a0 0) (a1 0) v3] := by
  refine ct_of (cc := cX5_packLetters) (maxL := 9) (ret := (some .int)) (by decide) rfl (Nat.le_of_ble_eq_true rfl) ?_
  intro p e s m args below meth c A ls C hr hk0 hA hW hl
  have hx := C.1.1
  have hb := C.1.2.1
  replace hl : lv_has ls 9 [(0, .ref (a3 0)), (1, .int x1), (2, .int x2), (3, .int x3), (4, .int x4)] := hl
  obtain ⟨Q, hQ⟩ : ∃ Q, Q = MQ below (ctQ g A (some (.int y.1)) [kX3 g a0 v0, kX4 g a1 (a2 0) y.2.1, kX0 g a2 y.2.2, kX5 g a3 (a0 0) (a1 0) v3]) args s 0 0 A := ⟨_, rfl⟩
  rw [← hQ]
  obtain ⟨H, hH⟩ : ∃ H, H = s.heap := ⟨_, rfl⟩
  obtain ⟨locs, hL⟩ : ∃ locs : List Loc, locs = [] := ⟨_, rfl⟩
  replace hW : wd g A s.heap [kX3 g a0 v0, kX4 g a1 (a2 0) v1, kX0 g a2 v2, kX5 g a3 (a0 0) (a1 0) v3] H locs := by rw [hH, hL]; exact hW
  suffices hG : W p l e (rmk 1 24) s m args below meth c H locs 0 0 Q (F0 m 0 ls []) by
    rw [hH, hL] at hG; exact hG
  clear hH hL
  have inX3 : ∀ w ∈ wsX30, w ∈ wsX5_packLetters := fun _ h => List.mem_cons_of_mem _ (List.mem_append_left _ (List.mem_append_left _ (List.mem_append_right _ (h))))
  have inX4 : ∀ w ∈ wsX40, w ∈ wsX5_packLetters := fun _ h => List.mem_cons_of_mem _ (List.mem_append_left _ (List.mem_append_right _ (h)))
  have inX5 : ∀ w ∈ wsX50, w ∈ wsX5_packLetters := fun _ h => List.mem_cons_of_mem _ (List.mem_append_left _ (List.mem_append_left _ (List.mem_append_left _ (List.mem_append_right _ (h)))))
  have L16 : ∀ (x1 : Int32) (x2 : Int32) (x3 : Int32) (x4 : Int32) (x6 : Int32) (k : Int32 → Int32 → MM → MM → Option (Int32 × MM × MM)) (hk : ∀ (x5 : Int32) (x7 : Int32) (v1 : MM) (v2 : MM) (H : Heap) (locs : List Loc) (ls : Array Slot), k x5 x7 v1 v2 = some y → wd g A s.heap [kX3 g a0 v0, kX4 g a1 (a2 0) v1, kX0 g a2 v2, kX5 g a3 (a0 0) (a1 0) v3] H locs → lv_has ls 9 [(0, .ref (a3 0)), (1, .int x1), (2, .int x2), (3, .int x3), (4, .int x4), (5, .int x5), (6, .int x6), (7, .int x7)] → W p l e (rmk 1 24) s m args below meth c H locs 0 0 Q (F0 m 157 ls [])) (n : Nat) (x5 : Int32) (x7 : Int32) (v1 : MM) (v2 : MM) (H : Heap) (locs : List Loc) (ls : Array Slot), fX5_packLetters_L16 N k x1 x2 x3 x4 x6 v0 v3 n x5 x7 v1 v2 = some y → wd g A s.heap [kX3 g a0 v0, kX4 g a1 (a2 0) v1, kX0 g a2 v2, kX5 g a3 (a0 0) (a1 0) v3] H locs → lv_has ls 9 [(0, .ref (a3 0)), (1, .int x1), (2, .int x2), (3, .int x3), (4, .int x4), (5, .int x5), (6, .int x6), (7, .int x7)] → W p l e (rmk 1 24) s m args below meth c H locs 0 0 Q (F0 m 16 ls []) := by
    intro x1 x2 x3 x4 x6 k hk n
    induction n with
    | zero => intro x5 x7 v1 v2 H locs ls hf; rw [fX5_packLetters_L16] at hf; cases hf
    | succ n ih =>
      intro x5 x7 v1 v2 H locs ls hf hW hl
      rw [fX5_packLetters_L16] at hf
      refine lv_iload hx hb dX5_packLetters_16 (lv_at hl 7 rfl) ?_
      refine lv_aload_n hx hb dX5_packLetters_18 rfl (lv_at hl 0 rfl) ?_
      refine g_get C hW inX5 3 rfl rfl rfl 0 (by decide) (List.mem_of_getElem? (i := 1) rfl) (v := .ref (a0 0)) rfl dX5_packLetters_19 ?_
      refine g_get C hW inX3 0 rfl rfl rfl 1 (by decide) (List.mem_of_getElem? (i := 2) rfl) (v := .int (v0 1 0)) rfl dX5_packLetters_22 ?_
      refine lv_icmp_ge (tgt := 157) hx hb dX5_packLetters_25 (by decide) (fun h => ?_) (fun h => ?_)
      · replace hf := (if_pos h).symm.trans hf
        exact hk _ _ _ _ H locs ls hf hW (lv_sub hl [0, 1, 2, 3, 4, 5, 6, 7] rfl)
      · replace hf := (if_neg h).symm.trans hf
        refine lv_aload_n hx hb dX5_packLetters_28 rfl (lv_at hl 0 rfl) ?_
        refine g_get C hW inX5 3 rfl rfl rfl 0 (by decide) (List.mem_of_getElem? (i := 1) rfl) (v := .ref (a0 0)) rfl dX5_packLetters_29 ?_
        refine g_get C hW inX3 0 rfl rfl rfl 7 (by decide) (List.mem_of_getElem? (i := 3) rfl) (v := .ref (a0 2)) rfl dX5_packLetters_32 ?_
        refine lv_iload hx hb dX5_packLetters_35 (lv_at hl 7 rfl) ?_
        obtain ⟨hi, hf⟩ := gd_of hf
        refine g_iald C hW 0 2 rfl (f := (v0 7)) rfl (ib_in hi) dX5_packLetters_37 ?_
        refine lv_iload_n hx hb dX5_packLetters_38 rfl (lv_at hl 1 rfl) ?_
        refine lv_icmp_ne (tgt := 151) hx hb dX5_packLetters_39 (by decide) (fun h => ?_) (fun h => ?_)
        · replace hf := (if_neg h).symm.trans hf
          refine lv_iinc (v := (x7 + 1)) (lv' := [(7, .int (x7 + 1)), (0, .ref (a3 0)), (1, .int x1), (2, .int x2), (3, .int x3), (4, .int x4), (5, .int x5), (6, .int x6)]) hx hb dX5_packLetters_151 hl (k := 7) rfl (by first | rfl | decide) (by decide) rfl (fun ls hl => ?_)
          refine lv_goto (tgt := 16) hx hb dX5_packLetters_154 (by decide) ?_
          exact ih _ _ _ _ H locs ls hf hW (lv_sub hl [1, 2, 3, 4, 5, 6, 7, 0] rfl)
        · replace hf := (if_pos h).symm.trans hf
          refine lv_aload_n hx hb dX5_packLetters_42 rfl (lv_at hl 0 rfl) ?_
          refine g_get C hW inX5 3 rfl rfl rfl 0 (by decide) (List.mem_of_getElem? (i := 1) rfl) (v := .ref (a0 0)) rfl dX5_packLetters_43 ?_
          refine g_get C hW inX3 0 rfl rfl rfl 8 (by decide) (List.mem_of_getElem? (i := 4) rfl) (v := .ref (a0 3)) rfl dX5_packLetters_46 ?_
          refine lv_iload hx hb dX5_packLetters_49 (lv_at hl 7 rfl) ?_
          obtain ⟨hi, hf⟩ := gd_of hf
          refine g_iald C hW 0 3 rfl (f := (v0 8)) rfl (ib_in hi) dX5_packLetters_51 ?_
          refine lv_iload hx hb dX5_packLetters_52 (lv_at hl 6 rfl) ?_
          refine lv_icmp_eq (tgt := 60) hx hb dX5_packLetters_54 (by decide) (fun h => ?_) (fun h => ?_)
          · replace hf := (if_pos h).symm.trans hf
            refine lv_aload_n hx hb dX5_packLetters_60 rfl (lv_at hl 0 rfl) ?_
            refine g_get C hW inX5 3 rfl rfl rfl 1 (by decide) (List.mem_of_getElem? (i := 5) rfl) (v := .ref (a1 0)) rfl dX5_packLetters_61 ?_
            refine g_get C hW inX4 1 rfl rfl rfl 9 (by decide) (List.mem_of_getElem? (i := 6) rfl) (v := .ref (a1 7)) rfl dX5_packLetters_64 ?_
            refine lv_iload hx hb dX5_packLetters_67 (lv_at hl 7 rfl) ?_
            obtain ⟨hi, hf⟩ := gd_of hf
            refine g_iald C hW 1 7 rfl (f := (v1 9)) rfl (ib_in hi) dX5_packLetters_69 ?_
            refine lv_iload hx hb dX5_packLetters_70 (lv_at hl 5 rfl) ?_
            refine g_mmin C hl (List.mem_of_getElem? (i := 7) rfl) (List.mem_of_getElem? (i := 8) rfl) (List.mem_of_getElem? (i := 9) rfl) (List.mem_of_getElem? (i := 10) rfl) ⟨Nat.le_of_ble_eq_true rfl, Nat.le_of_ble_eq_true rfl, Nat.le_of_ble_eq_true rfl, Nat.le_of_ble_eq_true rfl⟩ (Nat.le_of_ble_eq_true rfl) dX5_packLetters_72 ?_
            refine lv_istore (lv' := [(8, .int (if x5 < ((v1 9) (Int32.toNatClampNeg x7)) then x5 else ((v1 9) (Int32.toNatClampNeg x7)))), (0, .ref (a3 0)), (1, .int x1), (2, .int x2), (3, .int x3), (4, .int x4), (5, .int x5), (6, .int x6), (7, .int x7)]) hx hb dX5_packLetters_75 hl (by decide) rfl (fun ls hl => ?_)
            refine lv_iload hx hb dX5_packLetters_77 (lv_at hl 5 rfl) ?_
            refine lv_if_eq (tgt := 114) hx hb dX5_packLetters_79 (by decide) (fun h => ?_) (fun h => ?_)
            · replace hf := (if_pos h).symm.trans hf
              refine lv_aload_n hx hb dX5_packLetters_114 rfl (lv_at hl 1 rfl) ?_
              refine g_get C hW inX5 3 rfl rfl rfl 1 (by decide) (List.mem_of_getElem? (i := 5) rfl) (v := .ref (a1 0)) rfl dX5_packLetters_115 ?_
              refine g_get C hW inX4 1 rfl rfl rfl 9 (by decide) (List.mem_of_getElem? (i := 6) rfl) (v := .ref (a1 7)) rfl dX5_packLetters_118 ?_
              refine lv_iload hx hb dX5_packLetters_121 (lv_at hl 8 rfl) ?_
              refine lv_dup2_11 hx hb dX5_packLetters_123 rfl rfl ?_
              obtain ⟨hi, hf⟩ := gd_of hf
              refine g_iald C hW 1 7 rfl (f := (v1 9)) rfl (ib_in hi) dX5_packLetters_124 ?_
              refine lv_iload hx hb dX5_packLetters_125 (lv_at hl 0 rfl) ?_
              refine lv_isub hx hb dX5_packLetters_127 ?_
              obtain ⟨hi, hf⟩ := gd_of hf
              refine g_iast C hW 1 7 rfl (f := (v1 9)) rfl (ib_in hi) (kX4_w9 g a1 (a2 0) v1 (upd (v1 9) (Int32.toNatClampNeg x7) (((v1 9) (Int32.toNatClampNeg x7)) - (if x5 < ((v1 9) (Int32.toNatClampNeg x7)) then x5 else ((v1 9) (Int32.toNatClampNeg x7)))))) (ch' := [kX3 g a0 v0, kX4 g a1 (a2 0) (st v1 9 (upd (v1 9) (Int32.toNatClampNeg x7) (((v1 9) (Int32.toNatClampNeg x7)) - (if x5 < ((v1 9) (Int32.toNatClampNeg x7)) then x5 else ((v1 9) (Int32.toNatClampNeg x7)))))), kX0 g a2 v2, kX5 g a3 (a0 0) (a1 0) v3]) rfl dX5_packLetters_128 (fun H locs hW => ?_)
              refine lv_aload_n hx hb dX5_packLetters_129 rfl (lv_at hl 1 rfl) ?_
              refine g_get C hW inX5 3 rfl rfl rfl 1 (by decide) (List.mem_of_getElem? (i := 5) rfl) (v := .ref (a1 0)) rfl dX5_packLetters_130 ?_
              refine g_get C hW inX4 1 rfl rfl rfl 14 (by decide) (List.mem_of_getElem? (i := 12) rfl) (v := .ref (a2 0)) rfl dX5_packLetters_133 ?_
              refine lv_iload_n hx hb dX5_packLetters_136 rfl (lv_at hl 3 rfl) ?_
              refine lv_iload hx hb dX5_packLetters_137 (lv_at hl 8 rfl) ?_
              refine lv_iload hx hb dX5_packLetters_139 (lv_at hl 0 rfl) ?_
              obtain ⟨y1, hc, hf⟩ := bd_of hf
              refine g_cVv (Cn := RX0) C (ct_X0_putLetters g l N a2 x2 x7 (if x5 < ((v1 9) (Int32.toNatClampNeg x7)) then x5 else ((v1 9) (Int32.toNatClampNeg x7))) v2 hc) gX5_packLetters_X0_putLetters rfl 3 (by decide +kernel) ⟨rfl, rfl, ⟨Nat.le_of_ble_eq_true rfl, Nat.le_of_ble_eq_true rfl⟩, Nat.le_of_ble_eq_true rfl, Nat.le_of_ble_eq_true rfl⟩ rfl hl (Nat.le_of_ble_eq_true rfl) dX5_packLetters_141 rfl hW hA [2] rfl rfl rfl (ch' := [kX3 g a0 v0, kX4 g a1 (a2 0) (st v1 9 (upd (v1 9) (Int32.toNatClampNeg x7) (((v1 9) (Int32.toNatClampNeg x7)) - (if x5 < ((v1 9) (Int32.toNatClampNeg x7)) then x5 else ((v1 9) (Int32.toNatClampNeg x7)))))), kX0 g a2 y1, kX5 g a3 (a0 0) (a1 0) v3]) rfl 2 rfl rfl rfl (fun H locs hW => ?_)
              refine lv_iload hx hb dX5_packLetters_144 (lv_at hl 6 rfl) ?_
              refine lv_iload hx hb dX5_packLetters_146 (lv_at hl 0 rfl) ?_
              refine lv_isub hx hb dX5_packLetters_148 ?_
              refine lv_istore (lv' := [(5, .int (x5 - (if x5 < ((v1 9) (Int32.toNatClampNeg x7)) then x5 else ((v1 9) (Int32.toNatClampNeg x7))))), (8, .int (if x5 < ((v1 9) (Int32.toNatClampNeg x7)) then x5 else ((v1 9) (Int32.toNatClampNeg x7)))), (0, .ref (a3 0)), (1, .int x1), (2, .int x2), (3, .int x3), (4, .int x4), (6, .int x6), (7, .int x7)]) hx hb dX5_packLetters_149 hl (by decide) rfl (fun ls hl => ?_)
              refine lv_iinc (v := (x7 + 1)) (lv' := [(7, .int (x7 + 1)), (5, .int (x5 - (if x5 < ((v1 9) (Int32.toNatClampNeg x7)) then x5 else ((v1 9) (Int32.toNatClampNeg x7))))), (8, .int (if x5 < ((v1 9) (Int32.toNatClampNeg x7)) then x5 else ((v1 9) (Int32.toNatClampNeg x7)))), (0, .ref (a3 0)), (1, .int x1), (2, .int x2), (3, .int x3), (4, .int x4), (6, .int x6)]) hx hb dX5_packLetters_151 hl (k := 8) rfl (by first | rfl | decide) (by decide) rfl (fun ls hl => ?_)
              refine lv_goto (tgt := 16) hx hb dX5_packLetters_154 (by decide) ?_
              exact ih _ _ _ _ H locs ls hf hW (lv_sub hl [3, 4, 5, 6, 7, 1, 8, 0] rfl)
            · replace hf := (if_neg h).symm.trans hf
              refine lv_iload hx hb dX5_packLetters_82 (lv_at hl 0 rfl) ?_
              refine lv_aload_n hx hb dX5_packLetters_84 rfl (lv_at hl 1 rfl) ?_
              refine g_get C hW inX5 3 rfl rfl rfl 1 (by decide) (List.mem_of_getElem? (i := 5) rfl) (v := .ref (a1 0)) rfl dX5_packLetters_85 ?_
              refine g_get C hW inX4 1 rfl rfl rfl 10 (by decide) (List.mem_of_getElem? (i := 11) rfl) (v := .ref (a1 8)) rfl dX5_packLetters_88 ?_
              refine lv_iload hx hb dX5_packLetters_91 (lv_at hl 8 rfl) ?_
              obtain ⟨hi, hf⟩ := gd_of hf
              refine g_iald C hW 1 8 rfl (f := (v1 10)) rfl (ib_in hi) dX5_packLetters_93 ?_
              refine g_mmin C hl (List.mem_of_getElem? (i := 7) rfl) (List.mem_of_getElem? (i := 8) rfl) (List.mem_of_getElem? (i := 9) rfl) (List.mem_of_getElem? (i := 10) rfl) ⟨Nat.le_of_ble_eq_true rfl, Nat.le_of_ble_eq_true rfl, Nat.le_of_ble_eq_true rfl, Nat.le_of_ble_eq_true rfl⟩ (Nat.le_of_ble_eq_true rfl) dX5_packLetters_94 ?_
              refine lv_istore (lv' := [(8, .int (if ((v1 10) (Int32.toNatClampNeg x7)) < (if x5 < ((v1 9) (Int32.toNatClampNeg x7)) then x5 else ((v1 9) (Int32.toNatClampNeg x7))) then ((v1 10) (Int32.toNatClampNeg x7)) else (if x5 < ((v1 9) (Int32.toNatClampNeg x7)) then x5 else ((v1 9) (Int32.toNatClampNeg x7))))), (0, .ref (a3 0)), (1, .int x1), (2, .int x2), (3, .int x3), (4, .int x4), (5, .int x5), (6, .int x6), (7, .int x7)]) hx hb dX5_packLetters_97 hl (by decide) rfl (fun ls hl => ?_)
              refine lv_aload_n hx hb dX5_packLetters_99 rfl (lv_at hl 1 rfl) ?_
              refine g_get C hW inX5 3 rfl rfl rfl 1 (by decide) (List.mem_of_getElem? (i := 5) rfl) (v := .ref (a1 0)) rfl dX5_packLetters_100 ?_
              refine g_get C hW inX4 1 rfl rfl rfl 10 (by decide) (List.mem_of_getElem? (i := 11) rfl) (v := .ref (a1 8)) rfl dX5_packLetters_103 ?_
              refine lv_iload hx hb dX5_packLetters_106 (lv_at hl 8 rfl) ?_
              refine lv_dup2_11 hx hb dX5_packLetters_108 rfl rfl ?_
              obtain ⟨hi, hf⟩ := gd_of hf
              refine g_iald C hW 1 8 rfl (f := (v1 10)) rfl (ib_in hi) dX5_packLetters_109 ?_
              refine lv_iload hx hb dX5_packLetters_110 (lv_at hl 0 rfl) ?_
              refine lv_isub hx hb dX5_packLetters_112 ?_
              obtain ⟨hi, hf⟩ := gd_of hf
              refine g_iast C hW 1 8 rfl (f := (v1 10)) rfl (ib_in hi) (kX4_w10 g a1 (a2 0) v1 (upd (v1 10) (Int32.toNatClampNeg x7) (((v1 10) (Int32.toNatClampNeg x7)) - (if ((v1 10) (Int32.toNatClampNeg x7)) < (if x5 < ((v1 9) (Int32.toNatClampNeg x7)) then x5 else ((v1 9) (Int32.toNatClampNeg x7))) then ((v1 10) (Int32.toNatClampNeg x7)) else (if x5 < ((v1 9) (Int32.toNatClampNeg x7)) then x5 else ((v1 9) (Int32.toNatClampNeg x7))))))) (ch' := [kX3 g a0 v0, kX4 g a1 (a2 0) (st v1 10 (upd (v1 10) (Int32.toNatClampNeg x7) (((v1 10) (Int32.toNatClampNeg x7)) - (if ((v1 10) (Int32.toNatClampNeg x7)) < (if x5 < ((v1 9) (Int32.toNatClampNeg x7)) then x5 else ((v1 9) (Int32.toNatClampNeg x7))) then ((v1 10) (Int32.toNatClampNeg x7)) else (if x5 < ((v1 9) (Int32.toNatClampNeg x7)) then x5 else ((v1 9) (Int32.toNatClampNeg x7))))))), kX0 g a2 v2, kX5 g a3 (a0 0) (a1 0) v3]) rfl dX5_packLetters_113 (fun H locs hW => ?_)
              refine lv_aload_n hx hb dX5_packLetters_114 rfl (lv_at hl 1 rfl) ?_
              refine g_get C hW inX5 3 rfl rfl rfl 1 (by decide) (List.mem_of_getElem? (i := 5) rfl) (v := .ref (a1 0)) rfl dX5_packLetters_115 ?_
              refine g_get C hW inX4 1 rfl rfl rfl 9 (by decide) (List.mem_of_getElem? (i := 6) rfl) (v := .ref (a1 7)) rfl dX5_packLetters_118 ?_
              refine lv_iload hx hb dX5_packLetters_121 (lv_at hl 8 rfl) ?_
              refine lv_dup2_11 hx hb dX5_packLetters_123 rfl rfl ?_
              obtain ⟨hi, hf⟩ := gd_of hf
              refine g_iald C hW 1 7 rfl (f := (v1 9)) rfl (ib_in hi) dX5_packLetters_124 ?_
              refine lv_iload hx hb dX5_packLetters_125 (lv_at hl 0 rfl) ?_
              refine lv_isub hx hb dX5_packLetters_127 ?_
              obtain ⟨hi, hf⟩ := gd_of hf
              refine g_iast C hW 1 7 rfl (f := (v1 9)) rfl (ib_in hi) (kX4_w9 g a1 (a2 0) (st v1 10 (upd (v1 10) (Int32.toNatClampNeg x7) (((v1 10) (Int32.toNatClampNeg x7)) - (if ((v1 10) (Int32.toNatClampNeg x7)) < (if x5 < ((v1 9) (Int32.toNatClampNeg x7)) then x5 else ((v1 9) (Int32.toNatClampNeg x7))) then ((v1 10) (Int32.toNatClampNeg x7)) else (if x5 < ((v1 9) (Int32.toNatClampNeg x7)) then x5 else ((v1 9) (Int32.toNatClampNeg x7))))))) (upd (v1 9) (Int32.toNatClampNeg x7) (((v1 9) (Int32.toNatClampNeg x7)) - (if ((v1 10) (Int32.toNatClampNeg x7)) < (if x5 < ((v1 9) (Int32.toNatClampNeg x7)) then x5 else ((v1 9) (Int32.toNatClampNeg x7))) then ((v1 10) (Int32.toNatClampNeg x7)) else (if x5 < ((v1 9) (Int32.toNatClampNeg x7)) then x5 else ((v1 9) (Int32.toNatClampNeg x7))))))) (ch' := [kX3 g a0 v0, kX4 g a1 (a2 0) (st (st v1 10 (upd (v1 10) (Int32.toNatClampNeg x7) (((v1 10) (Int32.toNatClampNeg x7)) - (if ((v1 10) (Int32.toNatClampNeg x7)) < (if x5 < ((v1 9) (Int32.toNatClampNeg x7)) then x5 else ((v1 9) (Int32.toNatClampNeg x7))) then ((v1 10) (Int32.toNatClampNeg x7)) else (if x5 < ((v1 9) (Int32.toNatClampNeg x7)) then x5 else ((v1 9) (Int32.toNatClampNeg x7))))))) 9 (upd (v1 9) (Int32.toNatClampNeg x7) (((v1 9) (Int32.toNatClampNeg x7)) - (if ((v1 10) (Int32.toNatClampNeg x7)) < (if x5 < ((v1 9) (Int32.toNatClampNeg x7)) then x5 else ((v1 9) (Int32.toNatClampNeg x7))) then ((v1 10) (Int32.toNatClampNeg x7)) else (if x5 < ((v1 9) (Int32.toNatClampNeg x7)) then x5 else ((v1 9) (Int32.toNatClampNeg x7))))))), kX0 g a2 v2, kX5 g a3 (a0 0) (a1 0) v3]) rfl dX5_packLetters_128 (fun H locs hW => ?_)
              refine lv_aload_n hx hb dX5_packLetters_129 rfl (lv_at hl 1 rfl) ?_
              refine g_get C hW inX5 3 rfl rfl rfl 1 (by decide) (List.mem_of_getElem? (i := 5) rfl) (v := .ref (a1 0)) rfl dX5_packLetters_130 ?_
              refine g_get C hW inX4 1 rfl rfl rfl 14 (by decide) (List.mem_of_getElem? (i := 12) rfl) (v := .ref (a2 0)) rfl dX5_packLetters_133 ?_
              refine lv_iload_n hx hb dX5_packLetters_136 rfl (lv_at hl 3 rfl) ?_
              refine lv_iload hx hb dX5_packLetters_137 (lv_at hl 8 rfl) ?_
              refine lv_iload hx hb dX5_packLetters_139 (lv_at hl 0 rfl) ?_
              obtain ⟨y2, hc, hf⟩ := bd_of hf
              refine g_cVv (Cn := RX0) C (ct_X0_putLetters g l N a2 x2 x7 (if ((v1 10) (Int32.toNatClampNeg x7)) < (if x5 < ((v1 9) (Int32.toNatClampNeg x7)) then x5 else ((v1 9) (Int32.toNatClampNeg x7))) then ((v1 10) (Int32.toNatClampNeg x7)) else (if x5 < ((v1 9) (Int32.toNatClampNeg x7)) then x5 else ((v1 9) (Int32.toNatClampNeg x7)))) v2 hc) gX5_packLetters_X0_putLetters rfl 3 (by decide +kernel) ⟨rfl, rfl, ⟨Nat.le_of_ble_eq_true rfl, Nat.le_of_ble_eq_true rfl⟩, Nat.le_of_ble_eq_true rfl, Nat.le_of_ble_eq_true rfl⟩ rfl hl (Nat.le_of_ble_eq_true rfl) dX5_packLetters_141 rfl hW hA [2] rfl rfl rfl (ch' := [kX3 g a0 v0, kX4 g a1 (a2 0) (st (st v1 10 (upd (v1 10) (Int32.toNatClampNeg x7) (((v1 10) (Int32.toNatClampNeg x7)) - (if ((v1 10) (Int32.toNatClampNeg x7)) < (if x5 < ((v1 9) (Int32.toNatClampNeg x7)) then x5 else ((v1 9) (Int32.toNatClampNeg x7))) then ((v1 10) (Int32.toNatClampNeg x7)) else (if x5 < ((v1 9) (Int32.toNatClampNeg x7)) then x5 else ((v1 9) (Int32.toNatClampNeg x7))))))) 9 (upd (v1 9) (Int32.toNatClampNeg x7) (((v1 9) (Int32.toNatClampNeg x7)) - (if ((v1 10) (Int32.toNatClampNeg x7)) < (if x5 < ((v1 9) (Int32.toNatClampNeg x7)) then x5 else ((v1 9) (Int32.toNatClampNeg x7))) then ((v1 10) (Int32.toNatClampNeg x7)) else (if x5 < ((v1 9) (Int32.toNatClampNeg x7)) then x5 else ((v1 9) (Int32.toNatClampNeg x7))))))), kX0 g a2 y2, kX5 g a3 (a0 0) (a1 0) v3]) rfl 2 rfl rfl rfl (fun H locs hW => ?_)
              refine lv_iload hx hb dX5_packLetters_144 (lv_at hl 6 rfl) ?_
              refine lv_iload hx hb dX5_packLetters_146 (lv_at hl 0 rfl) ?_
              refine lv_isub hx hb dX5_packLetters_148 ?_
              refine lv_istore (lv' := [(5, .int (x5 - (if ((v1 10) (Int32.toNatClampNeg x7)) < (if x5 < ((v1 9) (Int32.toNatClampNeg x7)) then x5 else ((v1 9) (Int32.toNatClampNeg x7))) then ((v1 10) (Int32.toNatClampNeg x7)) else (if x5 < ((v1 9) (Int32.toNatClampNeg x7)) then x5 else ((v1 9) (Int32.toNatClampNeg x7)))))), (8, .int (if ((v1 10) (Int32.toNatClampNeg x7)) < (if x5 < ((v1 9) (Int32.toNatClampNeg x7)) then x5 else ((v1 9) (Int32.toNatClampNeg x7))) then ((v1 10) (Int32.toNatClampNeg x7)) else (if x5 < ((v1 9) (Int32.toNatClampNeg x7)) then x5 else ((v1 9) (Int32.toNatClampNeg x7))))), (0, .ref (a3 0)), (1, .int x1), (2, .int x2), (3, .int x3), (4, .int x4), (6, .int x6), (7, .int x7)]) hx hb dX5_packLetters_149 hl (by decide) rfl (fun ls hl => ?_)
              refine lv_iinc (v := (x7 + 1)) (lv' := [(7, .int (x7 + 1)), (5, .int (x5 - (if ((v1 10) (Int32.toNatClampNeg x7)) < (if x5 < ((v1 9) (Int32.toNatClampNeg x7)) then x5 else ((v1 9) (Int32.toNatClampNeg x7))) then ((v1 10) (Int32.toNatClampNeg x7)) else (if x5 < ((v1 9) (Int32.toNatClampNeg x7)) then x5 else ((v1 9) (Int32.toNatClampNeg x7)))))), (8, .int (if ((v1 10) (Int32.toNatClampNeg x7)) < (if x5 < ((v1 9) (Int32.toNatClampNeg x7)) then x5 else ((v1 9) (Int32.toNatClampNeg x7))) then ((v1 10) (Int32.toNatClampNeg x7)) else (if x5 < ((v1 9) (Int32.toNatClampNeg x7)) then x5 else ((v1 9) (Int32.toNatClampNeg x7))))), (0, .ref (a3 0)), (1, .int x1), (2, .int x2), (3, .int x3), (4, .int x4), (6, .int x6)]) hx hb dX5_packLetters_151 hl (k := 8) rfl (by first | rfl | decide) (by decide) rfl (fun ls hl => ?_)
              refine lv_goto (tgt := 16) hx hb dX5_packLetters_154 (by decide) ?_
              exact ih _ _ _ _ H locs ls hf hW (lv_sub hl [3, 4, 5, 6, 7, 1, 8, 0] rfl)
          · replace hf := (if_neg h).symm.trans hf
            refine lv_goto (tgt := 151) hx hb dX5_packLetters_57 (by decide) ?_
            refine lv_iinc (v := (x7 + 1)) (lv' := [(7, .int (x7 + 1)), (0, .ref (a3 0)), (1, .int x1), (2, .int x2), (3, .int x3), (4, .int x4), (5, .int x5), (6, .int x6)]) hx hb dX5_packLetters_151 hl (k := 7) rfl (by first | rfl | decide) (by decide) rfl (fun ls hl => ?_)
            refine lv_goto (tgt := 16) hx hb dX5_packLetters_154 (by decide) ?_
            exact ih _ _ _ _ H locs ls hf hW (lv_sub hl [1, 2, 3, 4, 5, 6, 7, 0] rfl)
  have L6 : ∀ (x1 : Int32) (x2 : Int32) (x3 : Int32) (x4 : Int32) (k : Int32 → Int32 → MM → MM → Option (Int32 × MM × MM)) (hk : ∀ (x5 : Int32) (x6 : Int32) (v1 : MM) (v2 : MM) (H : Heap) (locs : List Loc) (ls : Array Slot), k x5 x6 v1 v2 = some y → wd g A s.heap [kX3 g a0 v0, kX4 g a1 (a2 0) v1, kX0 g a2 v2, kX5 g a3 (a0 0) (a1 0) v3] H locs → lv_has ls 9 [(0, .ref (a3 0)), (1, .int x1), (2, .int x2), (3, .int x3), (4, .int x4), (5, .int x5), (6, .int x6)] → W p l e (rmk 1 24) s m args below meth c H locs 0 0 Q (F0 m 163 ls [])) (n : Nat) (x5 : Int32) (x6 : Int32) (v1 : MM) (v2 : MM) (H : Heap) (locs : List Loc) (ls : Array Slot), fX5_packLetters_L6 N k x1 x2 x3 x4 v0 v3 n x5 x6 v1 v2 = some y → wd g A s.heap [kX3 g a0 v0, kX4 g a1 (a2 0) v1, kX0 g a2 v2, kX5 g a3 (a0 0) (a1 0) v3] H locs → lv_has ls 9 [(0, .ref (a3 0)), (1, .int x1), (2, .int x2), (3, .int x3), (4, .int x4), (5, .int x5), (6, .int x6)] → W p l e (rmk 1 24) s m args below meth c H locs 0 0 Q (F0 m 6 ls []) := by
    intro x1 x2 x3 x4 k hk n
    induction n with
    | zero => intro x5 x6 v1 v2 H locs ls hf; rw [fX5_packLetters_L6] at hf; cases hf
    | succ n ih =>
      intro x5 x6 v1 v2 H locs ls hf hW hl
      rw [fX5_packLetters_L6] at hf
      refine lv_iload hx hb dX5_packLetters_6 (lv_at hl 6 rfl) ?_
      refine lv_bipush (v := (9 : Int32)) hx hb dX5_packLetters_8 (by decide) ?_
      refine lv_icmp_gt (tgt := 163) hx hb dX5_packLetters_10 (by decide) (fun h => ?_) (fun h => ?_)
      · replace hf := (if_pos h).symm.trans hf
        exact hk _ _ _ _ H locs ls hf hW (lv_sub hl [0, 1, 2, 3, 4, 5, 6] rfl)
      · replace hf := (if_neg h).symm.trans hf
        refine lv_iconst (v := (0 : Int32)) hx hb dX5_packLetters_13 (by decide) ?_
        refine lv_istore (lv' := [(7, .int (0 : Int32)), (0, .ref (a3 0)), (1, .int x1), (2, .int x2), (3, .int x3), (4, .int x4), (5, .int x5), (6, .int x6)]) hx hb dX5_packLetters_14 hl (by decide) rfl (fun ls hl => ?_)
        refine L16 x1 x2 x3 x4 x6 _ (fun x5_3 x7_3 v1_3 v2_3 H locs ls hf hW hl => ?_) N x5 (0 : Int32) v1 v2 H locs ls hf hW (lv_sub hl [1, 2, 3, 4, 5, 6, 7, 0] rfl)
        refine lv_iinc (v := (x6 + 1)) (lv' := [(6, .int (x6 + 1)), (0, .ref (a3 0)), (1, .int x1), (2, .int x2), (3, .int x3), (4, .int x4), (5, .int x5_3), (7, .int x7_3)]) hx hb dX5_packLetters_157 hl (k := 6) rfl (by first | rfl | decide) (by decide) rfl (fun ls hl => ?_)
        refine lv_goto (tgt := 6) hx hb dX5_packLetters_160 (by decide) ?_
        exact ih _ _ _ _ H locs ls hf hW (lv_sub hl [1, 2, 3, 4, 5, 6, 0] rfl)
  rw [fX5_packLetters] at hf
  refine lv_iload_n hx hb dX5_packLetters_0 rfl (lv_at hl 3 rfl) ?_
  refine lv_istore (lv' := [(5, .int x3), (0, .ref (a3 0)), (1, .int x1), (2, .int x2), (3, .int x3), (4, .int x4)]) hx hb dX5_packLetters_1 hl (by decide) rfl (fun ls hl => ?_)
  refine lv_iconst (v := (0 : Int32)) hx hb dX5_packLetters_3 (by decide) ?_
  refine lv_istore (lv' := [(6, .int (0 : Int32)), (5, .int x3), (0, .ref (a3 0)), (1, .int x1), (2, .int x2), (3, .int x3), (4, .int x4)]) hx hb dX5_packLetters_4 hl (by decide) rfl (fun ls hl => ?_)
  refine L6 x1 x2 x3 x4 _ (fun x5_4 x6_4 v1_4 v2_4 H locs ls hf hW hl => ?_) N x3 (0 : Int32) v1 v2 H locs ls hf hW (lv_sub hl [2, 3, 4, 5, 6, 1, 0] rfl)
  refine lv_iload hx hb dX5_packLetters_163 (lv_at hl 5 rfl) ?_
  obtain rfl := Option.some.inj hf
  subst hQ
  exact g_iret C hr hk0 hW rfl rfl dX5_packLetters_165
