def fX6_add (N : Nat) (x1 : Int32) (v0 : MM) : Option (Int32 × MM) := (if (v0 1 0) < (120 : Int32) then (if ib (v0 1 0) 120 = true then some ((1 : Int32), (st (st v0 0 (upd (v0 0) (Int32.toNatClampNeg (v0 1 0)) (vp_nar .char (((x1).toUInt32 % 65536).toInt32)))) 1 (fun _ => ((v0 1 0) + (1 : Int32))))) else none) else some ((0 : Int32), v0))
set_option maxHeartbeats 4000000 in
set_option maxRecDepth 100000 in
theorem ct_X6_add (g : GT) (l : Launch) (N : Nat) (a0 : Nat → Nat) (x1 : Int32) (v0 : MM) {y : Int32 × MM} (hf : fX6_add N x1 v0 = some y) : ct g l yX6_add wsX6_add (rmk 0 0) [.ref (a0 0), .int x1] [kX6 g a0 v0] (some (.int y.1)) [kX6 g a0 y.2] := by
  refine ct_of (cc := cX6_add) (maxL := 2) (ret := (some .boolean)) (by decide) rfl (Nat.le_of_ble_eq_true rfl) ?_
  intro p e s m args below meth c A ls C hr hk0 hA hW hl
  have hx := C.1.1
  have hb := C.1.2.1
  replace hl : lv_has ls 2 [(0, .ref (a0 0)), (1, .int x1)] := hl
  obtain ⟨Q, hQ⟩ : ∃ Q, Q = MQ below (ctQ g A (some (.int y.1)) [kX6 g a0 y.2]) args s 0 0 A := ⟨_, rfl⟩
  rw [← hQ]
  obtain ⟨H, hH⟩ : ∃ H, H = s.heap := ⟨_, rfl⟩
  obtain ⟨locs, hL⟩ : ∃ locs : List Loc, locs = [] := ⟨_, rfl⟩
  replace hW : wd g A s.heap [kX6 g a0 v0] H locs := by rw [hH, hL]; exact hW
  suffices hG : W p l e (rmk 0 0) s m args below meth c H locs 0 0 Q (F0 m 0 ls []) by
    rw [hH, hL] at hG; exact hG
  clear hH hL
  have inX6 : ∀ w ∈ wsX60, w ∈ wsX6_add := fun _ h => List.mem_cons_of_mem _ (List.mem_append_right _ (h))
  rw [fX6_add] at hf
  refine lv_aload_n hx hb dX6_add_0 rfl (lv_at hl 0 rfl) ?_
  refine g_get C hW inX6 0 rfl rfl rfl 1 (by decide) (List.mem_of_getElem? (i := 1) rfl) (v := .int (v0 1 0)) rfl dX6_add_1 ?_
  refine lv_bipush (v := (120 : Int32)) hx hb dX6_add_4 (by decide) ?_
  refine lv_icmp_lt (tgt := 11) hx hb dX6_add_6 (by decide) (fun h => ?_) (fun h => ?_)
  · replace hf := (if_pos h).symm.trans hf
    refine lv_aload_n hx hb dX6_add_11 rfl (lv_at hl 0 rfl) ?_
    refine g_get C hW inX6 0 rfl rfl rfl 0 (by decide) (List.mem_of_getElem? (i := 2) rfl) (v := .ref (a0 1)) rfl dX6_add_12 ?_
    refine lv_aload_n hx hb dX6_add_15 rfl (lv_at hl 0 rfl) ?_
    refine g_get C hW inX6 0 rfl rfl rfl 1 (by decide) (List.mem_of_getElem? (i := 1) rfl) (v := .int (v0 1 0)) rfl dX6_add_16 ?_
    refine lv_iload_n hx hb dX6_add_19 rfl (lv_at hl 1 rfl) ?_
    refine lv_i2c (v := ((x1).toUInt32 % 65536).toInt32) hx hb dX6_add_20 rfl ?_
    obtain ⟨hi, hf⟩ := gd_of hf
    refine g_cast C hW 0 1 rfl (f := (v0 0)) rfl (ib_in hi) (kX6_w0 g a0 v0 (upd (v0 0) (Int32.toNatClampNeg (v0 1 0)) (vp_nar .char (((x1).toUInt32 % 65536).toInt32)))) (ch' := [kX6 g a0 (st v0 0 (upd (v0 0) (Int32.toNatClampNeg (v0 1 0)) (vp_nar .char (((x1).toUInt32 % 65536).toInt32))))]) rfl dX6_add_21 (fun H locs hW => ?_)
    refine lv_aload_n hx hb dX6_add_22 rfl (lv_at hl 0 rfl) ?_
    refine lv_dup hx hb dX6_add_23 rfl ?_
    refine g_get C hW inX6 0 rfl rfl rfl 1 (by decide) (List.mem_of_getElem? (i := 1) rfl) (v := .int (v0 1 0)) rfl dX6_add_24 ?_
    refine lv_iconst (v := (1 : Int32)) hx hb dX6_add_27 (by decide) ?_
    refine lv_iadd hx hb dX6_add_28 ?_
    refine g_put C hW inX6 tyX6_ok nmX6 0 rfl rfl rfl 1 (by decide) (List.mem_of_getElem? (i := 1) rfl) rfl rfl rfl rfl (kX6_s1 g a0 (st v0 0 (upd (v0 0) (Int32.toNatClampNeg (v0 1 0)) (vp_nar .char (((x1).toUInt32 % 65536).toInt32)))) ((v0 1 0) + (1 : Int32))) (ch' := [kX6 g a0 (st (st v0 0 (upd (v0 0) (Int32.toNatClampNeg (v0 1 0)) (vp_nar .char (((x1).toUInt32 % 65536).toInt32)))) 1 (fun _ => ((v0 1 0) + (1 : Int32))))]) rfl dX6_add_29 (fun H locs hW => ?_)
    refine lv_iconst (v := (1 : Int32)) hx hb dX6_add_32 (by decide) ?_
    obtain rfl := Option.some.inj hf
    subst hQ
    exact g_zret C hr hk0 hW rfl rfl rfl dX6_add_33
  · replace hf := (if_neg h).symm.trans hf
    refine lv_iconst (v := (0 : Int32)) hx hb dX6_add_9 (by decide) ?_
    obtain rfl := Option.some.inj hf
    subst hQ
    exact g_zret C hr hk0 hW rfl rfl rfl dX6_add_10
def fX6_empty (N : Nat) (v0 : MM) : Option (Int32 × MM) := some ((v0 1 0), (st v0 1 (fun _ => (0 : Int32))))
set_option maxHeartbeats 4000000 in
set_option maxRecDepth 100000 in
theorem ct_X6_empty (g : GT) (l : Launch) (N : Nat) (a0 : Nat → Nat) (v0 : MM) {y : Int32 × MM} (hf : fX6_empty N v0 = some y) : ct g l yX6_empty wsX6_empty (rmk 0 0) [.ref (a0 0)] [kX6 g a0 v0] (some (.int y.1)) [kX6 g a0 y.2] := by
  refine ct_of (cc := cX6_empty) (maxL := 2) (ret := (some .int)) (by decide) rfl (Nat.le_of_ble_eq_true rfl) ?_
  intro p e s m args below meth c A ls C hr hk0 hA hW hl
  have hx := C.1.1
  have hb := C.1.2.1
  replace hl : lv_has ls 2 [(0, .ref (a0 0))] := hl
  obtain ⟨Q, hQ⟩ : ∃ Q, Q = MQ below (ctQ g A (some (.int y.1)) [kX6 g a0 y.2]) args s 0 0 A := ⟨_, rfl⟩
  rw [← hQ]
  obtain ⟨H, hH⟩ : ∃ H, H = s.heap := ⟨_, rfl⟩
  obtain ⟨locs, hL⟩ : ∃ locs : List Loc, locs = [] := ⟨_, rfl⟩
  replace hW : wd g A s.heap [kX6 g a0 v0] H locs := by rw [hH, hL]; exact hW
  suffices hG : W p l e (rmk 0 0) s m args below meth c H locs 0 0 Q (F0 m 0 ls []) by
    rw [hH, hL] at hG; exact hG
  clear hH hL
  have inX6 : ∀ w ∈ wsX60, w ∈ wsX6_empty := fun _ h => List.mem_cons_of_mem _ (List.mem_append_right _ (h))
  rw [fX6_empty] at hf
  refine lv_aload_n hx hb dX6_empty_0 rfl (lv_at hl 0 rfl) ?_
  refine g_get C hW inX6 0 rfl rfl rfl 1 (by decide) (List.mem_of_getElem? (i := 1) rfl) (v := .int (v0 1 0)) rfl dX6_empty_1 ?_
  refine lv_istore_n (lv' := [(1, .int (v0 1 0)), (0, .ref (a0 0))]) hx hb dX6_empty_4 rfl hl (by decide) rfl (fun ls hl => ?_)
  refine lv_aload_n hx hb dX6_empty_5 rfl (lv_at hl 1 rfl) ?_
  refine lv_iconst (v := (0 : Int32)) hx hb dX6_empty_6 (by decide) ?_
  refine g_put C hW inX6 tyX6_ok nmX6 0 rfl rfl rfl 1 (by decide) (List.mem_of_getElem? (i := 1) rfl) rfl rfl rfl rfl (kX6_s1 g a0 v0 (0 : Int32)) (ch' := [kX6 g a0 (st v0 1 (fun _ => (0 : Int32)))]) rfl dX6_empty_7 (fun H locs hW => ?_)
  refine lv_iload_n hx hb dX6_empty_10 rfl (lv_at hl 0 rfl) ?_
  obtain rfl := Option.some.inj hf
  subst hQ
  exact g_iret C hr hk0 hW rfl rfl dX6_empty_11
def fX6_letterAt (N : Nat) (x1 : Int32) (v0 : MM) : Option (Int32) := (if x1 < 0 then some (0 : Int32) else (if (v0 1 0) ≤ x1 then some (0 : Int32) else (if (120 : Int32) ≤ x1 then some (0 : Int32) else (if ib x1 120 = true then (if cb ((v0 0) (Int32.toNatClampNeg x1)) = true then some ((v0 0) (Int32.toNatClampNeg x1)) else none) else none))))
set_option maxHeartbeats 4000000 in
set_option maxRecDepth 100000 in
theorem ct_X6_letterAt (g : GT) (l : Launch) (N : Nat) (a0 : Nat → Nat) (x1 : Int32) (v0 : MM) {y : Int32} (hf : fX6_letterAt N x1 v0 = some y) : ct g l yX6_letterAt wsX6_letterAt (rmk 0 0) [.ref (a0 0), .int x1] [kX6 g a0 v0] (some (.int y)) [kX6 g a0 v0] := by
  refine ct_of (cc := cX6_letterAt) (maxL := 2) (ret := (some .char)) (by decide) rfl (Nat.le_of_ble_eq_true rfl) ?_
  intro p e s m args below meth c A ls C hr hk0 hA hW hl
  have hx := C.1.1
  have hb := C.1.2.1
  replace hl : lv_has ls 2 [(0, .ref (a0 0)), (1, .int x1)] := hl
  obtain ⟨Q, hQ⟩ : ∃ Q, Q = MQ below (ctQ g A (some (.int y)) [kX6 g a0 v0]) args s 0 0 A := ⟨_, rfl⟩
  rw [← hQ]
  obtain ⟨H, hH⟩ : ∃ H, H = s.heap := ⟨_, rfl⟩
  obtain ⟨locs, hL⟩ : ∃ locs : List Loc, locs = [] := ⟨_, rfl⟩
  replace hW : wd g A s.heap [kX6 g a0 v0] H locs := by rw [hH, hL]; exact hW
  suffices hG : W p l e (rmk 0 0) s m args below meth c H locs 0 0 Q (F0 m 0 ls []) by
    rw [hH, hL] at hG; exact hG
  clear hH hL
  have inX6 : ∀ w ∈ wsX60, w ∈ wsX6_letterAt := fun _ h => List.mem_cons_of_mem _ (List.mem_append_right _ (h))
  rw [fX6_letterAt] at hf
  refine lv_iload_n hx hb dX6_letterAt_0 rfl (lv_at hl 1 rfl) ?_
  refine lv_if_lt (tgt := 27) hx hb dX6_letterAt_1 (by decide) (fun h => ?_) (fun h => ?_)
  · replace hf := (if_pos h).symm.trans hf
    refine lv_iconst (v := (0 : Int32)) hx hb dX6_letterAt_27 (by decide) ?_
    obtain rfl := Option.some.inj hf
    subst hQ
    exact g_zret C hr hk0 hW (by decide) rfl rfl dX6_letterAt_28
  · replace hf := (if_neg h).symm.trans hf
    refine lv_iload_n hx hb dX6_letterAt_4 rfl (lv_at hl 1 rfl) ?_
    refine lv_aload_n hx hb dX6_letterAt_5 rfl (lv_at hl 0 rfl) ?_
    refine g_get C hW inX6 0 rfl rfl rfl 1 (by decide) (List.mem_of_getElem? (i := 1) rfl) (v := .int (v0 1 0)) rfl dX6_letterAt_6 ?_
    refine lv_icmp_ge (tgt := 27) hx hb dX6_letterAt_9 (by decide) (fun h => ?_) (fun h => ?_)
    · replace hf := (if_pos h).symm.trans hf
      refine lv_iconst (v := (0 : Int32)) hx hb dX6_letterAt_27 (by decide) ?_
      obtain rfl := Option.some.inj hf
      subst hQ
      exact g_zret C hr hk0 hW (by decide) rfl rfl dX6_letterAt_28
    · replace hf := (if_neg h).symm.trans hf
      refine lv_iload_n hx hb dX6_letterAt_12 rfl (lv_at hl 1 rfl) ?_
      refine lv_bipush (v := (120 : Int32)) hx hb dX6_letterAt_13 (by decide) ?_
      refine lv_icmp_ge (tgt := 27) hx hb dX6_letterAt_15 (by decide) (fun h => ?_) (fun h => ?_)
      · replace hf := (if_pos h).symm.trans hf
        refine lv_iconst (v := (0 : Int32)) hx hb dX6_letterAt_27 (by decide) ?_
        obtain rfl := Option.some.inj hf
        subst hQ
        exact g_zret C hr hk0 hW (by decide) rfl rfl dX6_letterAt_28
      · replace hf := (if_neg h).symm.trans hf
        refine lv_aload_n hx hb dX6_letterAt_18 rfl (lv_at hl 0 rfl) ?_
        refine g_get C hW inX6 0 rfl rfl rfl 0 (by decide) (List.mem_of_getElem? (i := 2) rfl) (v := .ref (a0 1)) rfl dX6_letterAt_19 ?_
        refine lv_iload_n hx hb dX6_letterAt_22 rfl (lv_at hl 1 rfl) ?_
        obtain ⟨hi, hf⟩ := gd_of hf
        refine g_cald C hW 0 1 rfl (f := (v0 0)) rfl (ib_in hi) dX6_letterAt_23 ?_
        refine lv_goto (tgt := 28) hx hb dX6_letterAt_24 (by decide) ?_
        obtain ⟨hi, hf⟩ := gd_of hf
        obtain rfl := Option.some.inj hf
        subst hQ
        exact g_zret C hr hk0 hW (cb_nar hi) rfl rfl dX6_letterAt_28
def fX6_isDigit (N : Nat) (x0 : Int32) : Option (Int32) := (if x0 < (48 : Int32) then some (0 : Int32) else (if (57 : Int32) < x0 then some (0 : Int32) else some (1 : Int32)))
set_option maxHeartbeats 4000000 in
set_option maxRecDepth 100000 in
theorem ct_X6_isDigit (g : GT) (l : Launch) (N : Nat) (x0 : Int32) {y : Int32} (hf : fX6_isDigit N x0 = some y) : ct g l yX6_isDigit wsX6_isDigit (rmk 0 0) [.int x0] [] (some (.int y)) [] := by
  refine ct_of (cc := cX6_isDigit) (maxL := 1) (ret := (some .boolean)) (by decide) rfl (Nat.le_of_ble_eq_true rfl) ?_
  intro p e s m args below meth c A ls C hr hk0 hA hW hl
  have hx := C.1.1
  have hb := C.1.2.1
  replace hl : lv_has ls 1 [(0, .int x0)] := hl
  obtain ⟨Q, hQ⟩ : ∃ Q, Q = MQ below (ctQ g A (some (.int y)) []) args s 0 0 A := ⟨_, rfl⟩
  rw [← hQ]
  obtain ⟨H, hH⟩ : ∃ H, H = s.heap := ⟨_, rfl⟩
  obtain ⟨locs, hL⟩ : ∃ locs : List Loc, locs = [] := ⟨_, rfl⟩
  replace hW : wd g A s.heap [] H locs := by rw [hH, hL]; exact hW
  suffices hG : W p l e (rmk 0 0) s m args below meth c H locs 0 0 Q (F0 m 0 ls []) by
    rw [hH, hL] at hG; exact hG
  clear hH hL
  rw [fX6_isDigit] at hf
  refine lv_iload_n hx hb dX6_isDigit_0 rfl (lv_at hl 0 rfl) ?_
  refine lv_bipush (v := (48 : Int32)) hx hb dX6_isDigit_1 (by decide) ?_
  refine lv_icmp_lt (tgt := 16) hx hb dX6_isDigit_3 (by decide) (fun h => ?_) (fun h => ?_)
  · replace hf := (if_pos h).symm.trans hf
    refine lv_iconst (v := (0 : Int32)) hx hb dX6_isDigit_16 (by decide) ?_
    obtain rfl := Option.some.inj hf
    subst hQ
    exact g_zret C hr hk0 hW rfl rfl rfl dX6_isDigit_17
  · replace hf := (if_neg h).symm.trans hf
    refine lv_iload_n hx hb dX6_isDigit_6 rfl (lv_at hl 0 rfl) ?_
    refine lv_bipush (v := (57 : Int32)) hx hb dX6_isDigit_7 (by decide) ?_
    refine lv_icmp_gt (tgt := 16) hx hb dX6_isDigit_9 (by decide) (fun h => ?_) (fun h => ?_)
    · replace hf := (if_pos h).symm.trans hf
      refine lv_iconst (v := (0 : Int32)) hx hb dX6_isDigit_16 (by decide) ?_
      obtain rfl := Option.some.inj hf
      subst hQ
      exact g_zret C hr hk0 hW rfl rfl rfl dX6_isDigit_17
    · replace hf := (if_neg h).symm.trans hf
      refine lv_iconst (v := (1 : Int32)) hx hb dX6_isDigit_12 (by decide) ?_
      refine lv_goto (tgt := 17) hx hb dX6_isDigit_13 (by decide) ?_
      obtain rfl := Option.some.inj hf
      subst hQ
      exact g_zret C hr hk0 hW rfl rfl rfl dX6_isDigit_17
def fX6_isSign (N : Nat) (x0 : Int32) : Option (Int32) := (if x0 = (116 : Int32) then some (1 : Int32) else (if x0 = (99 : Int32) then some (1 : Int32) else (if x0 = (115 : Int32) then some (1 : Int32) else (if x0 = (98 : Int32) then some (1 : Int32) else (if x0 = (114 : Int32) then some (1 : Int32) else (if x0 = (59 : Int32) then some (1 : Int32) else some (0 : Int32)))))))
set_option maxHeartbeats 4000000 in
set_option maxRecDepth 100000 in
theorem ct_X6_isSign (g : GT) (l : Launch) (N : Nat) (x0 : Int32) {y : Int32} (hf : fX6_isSign N x0 = some y) : ct g l yX6_isSign wsX6_isSign (rmk 0 0) [.int x0] [] (some (.int y)) [] := by
  refine ct_of (cc := cX6_isSign) (maxL := 1) (ret := (some .boolean)) (by decide) rfl (Nat.le_of_ble_eq_true rfl) ?_
  intro p e s m args below meth c A ls C hr hk0 hA hW hl
  have hx := C.1.1
  have hb := C.1.2.1
  replace hl : lv_has ls 1 [(0, .int x0)] := hl
  obtain ⟨Q, hQ⟩ : ∃ Q, Q = MQ below (ctQ g A (some (.int y)) []) args s 0 0 A := ⟨_, rfl⟩
  rw [← hQ]
  obtain ⟨H, hH⟩ : ∃ H, H = s.heap := ⟨_, rfl⟩
  obtain ⟨locs, hL⟩ : ∃ locs : List Loc, locs = [] := ⟨_, rfl⟩
  replace hW : wd g A s.heap [] H locs := by rw [hH, hL]; exact hW
  suffices hG : W p l e (rmk 0 0) s m args below meth c H locs 0 0 Q (F0 m 0 ls []) by
    rw [hH, hL] at hG; exact hG
  clear hH hL
  rw [fX6_isSign] at hf
  refine lv_iload_n hx hb dX6_isSign_0 rfl (lv_at hl 0 rfl) ?_
  refine lv_bipush (v := (116 : Int32)) hx hb dX6_isSign_1 (by decide) ?_
  refine lv_icmp_eq (tgt := 36) hx hb dX6_isSign_3 (by decide) (fun h => ?_) (fun h => ?_)
  · replace hf := (if_pos h).symm.trans hf
    refine lv_iconst (v := (1 : Int32)) hx hb dX6_isSign_36 (by decide) ?_
    refine lv_goto (tgt := 41) hx hb dX6_isSign_37 (by decide) ?_
    obtain rfl := Option.some.inj hf
    subst hQ
    exact g_zret C hr hk0 hW rfl rfl rfl dX6_isSign_41
  · replace hf := (if_neg h).symm.trans hf
    refine lv_iload_n hx hb dX6_isSign_6 rfl (lv_at hl 0 rfl) ?_
    refine lv_bipush (v := (99 : Int32)) hx hb dX6_isSign_7 (by decide) ?_
    refine lv_icmp_eq (tgt := 36) hx hb dX6_isSign_9 (by decide) (fun h => ?_) (fun h => ?_)
    · replace hf := (if_pos h).symm.trans hf
      refine lv_iconst (v := (1 : Int32)) hx hb dX6_isSign_36 (by decide) ?_
      refine lv_goto (tgt := 41) hx hb dX6_isSign_37 (by decide) ?_
      obtain rfl := Option.some.inj hf
      subst hQ
      exact g_zret C hr hk0 hW rfl rfl rfl dX6_isSign_41
    · replace hf := (if_neg h).symm.trans hf
      refine lv_iload_n hx hb dX6_isSign_12 rfl (lv_at hl 0 rfl) ?_
      refine lv_bipush (v := (115 : Int32)) hx hb dX6_isSign_13 (by decide) ?_
      refine lv_icmp_eq (tgt := 36) hx hb dX6_isSign_15 (by decide) (fun h => ?_) (fun h => ?_)
      · replace hf := (if_pos h).symm.trans hf
        refine lv_iconst (v := (1 : Int32)) hx hb dX6_isSign_36 (by decide) ?_
        refine lv_goto (tgt := 41) hx hb dX6_isSign_37 (by decide) ?_
        obtain rfl := Option.some.inj hf
        subst hQ
        exact g_zret C hr hk0 hW rfl rfl rfl dX6_isSign_41
      · replace hf := (if_neg h).symm.trans hf
        refine lv_iload_n hx hb dX6_isSign_18 rfl (lv_at hl 0 rfl) ?_
        refine lv_bipush (v := (98 : Int32)) hx hb dX6_isSign_19 (by decide) ?_
        refine lv_icmp_eq (tgt := 36) hx hb dX6_isSign_21 (by decide) (fun h => ?_) (fun h => ?_)
        · replace hf := (if_pos h).symm.trans hf
          refine lv_iconst (v := (1 : Int32)) hx hb dX6_isSign_36 (by decide) ?_
          refine lv_goto (tgt := 41) hx hb dX6_isSign_37 (by decide) ?_
          obtain rfl := Option.some.inj hf
          subst hQ
          exact g_zret C hr hk0 hW rfl rfl rfl dX6_isSign_41
        · replace hf := (if_neg h).symm.trans hf
          refine lv_iload_n hx hb dX6_isSign_24 rfl (lv_at hl 0 rfl) ?_
          refine lv_bipush (v := (114 : Int32)) hx hb dX6_isSign_25 (by decide) ?_
          refine lv_icmp_eq (tgt := 36) hx hb dX6_isSign_27 (by decide) (fun h => ?_) (fun h => ?_)
          · replace hf := (if_pos h).symm.trans hf
            refine lv_iconst (v := (1 : Int32)) hx hb dX6_isSign_36 (by decide) ?_
            refine lv_goto (tgt := 41) hx hb dX6_isSign_37 (by decide) ?_
            obtain rfl := Option.some.inj hf
            subst hQ
            exact g_zret C hr hk0 hW rfl rfl rfl dX6_isSign_41
          · replace hf := (if_neg h).symm.trans hf
            refine lv_iload_n hx hb dX6_isSign_30 rfl (lv_at hl 0 rfl) ?_
            refine lv_bipush (v := (59 : Int32)) hx hb dX6_isSign_31 (by decide) ?_
            refine lv_icmp_ne (tgt := 40) hx hb dX6_isSign_33 (by decide) (fun h => ?_) (fun h => ?_)
            · replace hf := (if_neg h).symm.trans hf
              refine lv_iconst (v := (0 : Int32)) hx hb dX6_isSign_40 (by decide) ?_
              obtain rfl := Option.some.inj hf
              subst hQ
              exact g_zret C hr hk0 hW rfl rfl rfl dX6_isSign_41
            · replace hf := (if_pos h).symm.trans hf
              refine lv_iconst (v := (1 : Int32)) hx hb dX6_isSign_36 (by decide) ?_
              refine lv_goto (tgt := 41) hx hb dX6_isSign_37 (by decide) ?_
              obtain rfl := Option.some.inj hf
              subst hQ
              exact g_zret C hr hk0 hW rfl rfl rfl dX6_isSign_41
def fX6_nextNumber_L7 (N : Nat) (k : Int32 → MM → Option (MM)) : Nat → Int32 → MM → Option (MM)
  | 0, _, _ => none
  | n + 1, x1, v0 => (if (v0 1 0) ≤ (v0 2 0) then k x1 v0 else ((fX6_letterAt N (v0 2 0) v0).bind (fun y1 => ((fX6_isDigit N y1).bind (fun y2 => (if y2 = 0 then k x1 v0 else (if x1 = 0 then ((fX6_letterAt N (v0 2 0) v0).bind (fun y3 => fX6_nextNumber_L7 N k n (0 : Int32) (st (st v0 5 (fun _ => (if ((((v0 5 0) * (10 : Int32)) + y3) - (48 : Int32)) < (100 : Int32) then ((((v0 5 0) * (10 : Int32)) + y3) - (48 : Int32)) else (100 : Int32)))) 2 (fun _ => ((v0 2 0) + (1 : Int32)))))) else (if (v0 2 0) = (v0 3 0) then ((fX6_letterAt N (v0 2 0) v0).bind (fun y4 => fX6_nextNumber_L7 N k n (1 : Int32) (st (st v0 5 (fun _ => (if ((((v0 5 0) * (10 : Int32)) + y4) - (48 : Int32)) < (100 : Int32) then ((((v0 5 0) * (10 : Int32)) + y4) - (48 : Int32)) else (100 : Int32)))) 2 (fun _ => ((v0 2 0) + (1 : Int32)))))) else (if (v0 5 0) ≤ 0 then ((fX6_letterAt N (v0 2 0) v0).bind (fun y5 => fX6_nextNumber_L7 N k n (0 : Int32) (st (st v0 5 (fun _ => (if ((((v0 5 0) * (10 : Int32)) + y5) - (48 : Int32)) < (100 : Int32) then ((((v0 5 0) * (10 : Int32)) + y5) - (48 : Int32)) else (100 : Int32)))) 2 (fun _ => ((v0 2 0) + (1 : Int32)))))) else ((fX6_letterAt N (v0 2 0) v0).bind (fun y6 => fX6_nextNumber_L7 N k n (1 : Int32) (st (st v0 5 (fun _ => (if ((((v0 5 0) * (10 : Int32)) + y6) - (48 : Int32)) < (100 : Int32) then ((((v0 5 0) * (10 : Int32)) + y6) - (48 : Int32)) else (100 : Int32)))) 2 (fun _ => ((v0 2 0) + (1 : Int32)))))))))))))))
def fX6_nextNumber (N : Nat) (v0 : MM) : Option (MM) := (fX6_nextNumber_L7 N (fun (x1_7 : Int32) (v0_7 : MM) => (if x1_7 = 0 then some (st v0_7 4 (fun _ => (63 : Int32))) else (if (99 : Int32) < (v0_7 5 0) then some (st v0_7 4 (fun _ => (63 : Int32))) else some (st v0_7 4 (fun _ => (48 : Int32)))))) N (1 : Int32) (st v0 5 (fun _ => (0 : Int32))))
set_option maxHeartbeats 4000000 in
set_option maxRecDepth 100000 in
theorem ct_X6_nextNumber (g : GT) (l : Launch) (N : Nat) (a0 : Nat → Nat) (v0 : MM) {y : MM} (hf : fX6_nextNumber N v0 = some y) : ct g l yX6_nextNumber wsX6_nextNumber (rmk 1 21) [.ref (a0 0)] [kX6 g a0 v0] none [kX6 g a0 y] := by
  refine ct_of (cc := cX6_nextNumber) (maxL := 2) (ret := none) (by decide) rfl (Nat.le_of_ble_eq_true rfl) ?_
  intro p e s m args below meth c A ls C hr hk0 hA hW hl
  have hx := C.1.1
  have hb := C.1.2.1
  replace hl : lv_has ls 2 [(0, .ref (a0 0))] := hl
  obtain ⟨Q, hQ⟩ : ∃ Q, Q = MQ below (ctQ g A none [kX6 g a0 y]) args s 0 0 A := ⟨_, rfl⟩
  rw [← hQ]
  obtain ⟨H, hH⟩ : ∃ H, H = s.heap := ⟨_, rfl⟩
  obtain ⟨locs, hL⟩ : ∃ locs : List Loc, locs = [] := ⟨_, rfl⟩
  replace hW : wd g A s.heap [kX6 g a0 v0] H locs := by rw [hH, hL]; exact hW
  suffices hG : W p l e (rmk 1 21) s m args below meth c H locs 0 0 Q (F0 m 0 ls []) by
    rw [hH, hL] at hG; exact hG
  clear hH hL
  have inX6 : ∀ w ∈ wsX60, w ∈ wsX6_nextNumber := fun _ h => List.mem_cons_of_mem _ (List.mem_append_right _ (h))
  have L7 : ∀ (k : Int32 → MM → Option (MM)) (hk : ∀ (x1 : Int32) (v0 : MM) (H : Heap) (locs : List Loc) (ls : Array Slot), k x1 v0 = some y → wd g A s.heap [kX6 g a0 v0] H locs → lv_has ls 2 [(0, .ref (a0 0)), (1, .int x1)] → W p l e (rmk 1 21) s m args below meth c H locs 0 0 Q (F0 m 101 ls [])) (n : Nat) (x1 : Int32) (v0 : MM) (H : Heap) (locs : List Loc) (ls : Array Slot), fX6_nextNumber_L7 N k n x1 v0 = some y → wd g A s.heap [kX6 g a0 v0] H locs → lv_has ls 2 [(0, .ref (a0 0)), (1, .int x1)] → W p l e (rmk 1 21) s m args below meth c H locs 0 0 Q (F0 m 7 ls []) := by
    intro k hk n
    induction n with
    | zero => intro x1 v0 H locs ls hf; rw [fX6_nextNumber_L7] at hf; cases hf
    | succ n ih =>
      intro x1 v0 H locs ls hf hW hl
      rw [fX6_nextNumber_L7] at hf
      refine lv_aload_n hx hb dX6_nextNumber_7 rfl (lv_at hl 0 rfl) ?_
      refine g_get C hW inX6 0 rfl rfl rfl 2 (by decide) (List.mem_of_getElem? (i := 2) rfl) (v := .int (v0 2 0)) rfl dX6_nextNumber_8 ?_
      refine lv_aload_n hx hb dX6_nextNumber_11 rfl (lv_at hl 0 rfl) ?_
      refine g_get C hW inX6 0 rfl rfl rfl 1 (by decide) (List.mem_of_getElem? (i := 3) rfl) (v := .int (v0 1 0)) rfl dX6_nextNumber_12 ?_
      refine lv_icmp_ge (tgt := 101) hx hb dX6_nextNumber_15 (by decide) (fun h => ?_) (fun h => ?_)
      · replace hf := (if_pos h).symm.trans hf
        exact hk _ _ H locs ls hf hW (lv_sub hl [0, 1] rfl)
      · replace hf := (if_neg h).symm.trans hf
        refine lv_aload_n hx hb dX6_nextNumber_18 rfl (lv_at hl 0 rfl) ?_
        refine lv_aload_n hx hb dX6_nextNumber_19 rfl (lv_at hl 0 rfl) ?_
        refine g_get C hW inX6 0 rfl rfl rfl 2 (by decide) (List.mem_of_getElem? (i := 2) rfl) (v := .int (v0 2 0)) rfl dX6_nextNumber_20 ?_
        obtain ⟨y1, hc, hf⟩ := bd_of hf
        refine g_cV (Cn := RX6) C (ct_X6_letterAt g l N a0 (v0 2 0) v0 hc) gX6_nextNumber_X6_letterAt rfl 1 (by decide +kernel) ⟨rfl, rfl, ⟨Nat.le_of_ble_eq_true rfl, Nat.le_of_ble_eq_true rfl⟩, Nat.le_of_ble_eq_true rfl, Nat.le_of_ble_eq_true rfl⟩ rfl hl (Nat.le_of_ble_eq_true rfl) dX6_nextNumber_23 rfl hW hA [0] rfl rfl rfl (ch' := [kX6 g a0 v0]) rfl 0 rfl rfl rfl (fun H locs hW => ?_)
        obtain ⟨y2, hc, hf⟩ := bd_of hf
        refine g_cS C (ct_X6_isDigit g l N y1 hc) gX6_nextNumber_X6_isDigit rfl 1 (by decide +kernel) ⟨rfl, rfl, ⟨Nat.le_of_ble_eq_true rfl, Nat.le_of_ble_eq_true rfl⟩, Nat.le_of_ble_eq_true rfl, Nat.le_of_ble_eq_true rfl⟩ rfl hl (Nat.le_of_ble_eq_true rfl) dX6_nextNumber_26 rfl hW hA [] rfl rfl rfl (ch' := [kX6 g a0 v0]) rfl (fun H locs hW => ?_)
        refine lv_if_eq (tgt := 101) hx hb dX6_nextNumber_29 (by decide) (fun h => ?_) (fun h => ?_)
        · replace hf := (if_pos h).symm.trans hf
          exact hk _ _ H locs ls hf hW (lv_sub hl [0, 1] rfl)
        · replace hf := (if_neg h).symm.trans hf
          refine lv_iload_n hx hb dX6_nextNumber_32 rfl (lv_at hl 1 rfl) ?_
          refine lv_if_eq (tgt := 58) hx hb dX6_nextNumber_33 (by decide) (fun h => ?_) (fun h => ?_)
          · replace hf := (if_pos h).symm.trans hf
            refine lv_iconst (v := (0 : Int32)) hx hb dX6_nextNumber_58 (by decide) ?_
            refine lv_istore_n (lv' := [(1, .int (0 : Int32)), (0, .ref (a0 0))]) hx hb dX6_nextNumber_59 rfl hl (by decide) rfl (fun ls hl => ?_)
            refine lv_aload_n hx hb dX6_nextNumber_60 rfl (lv_at hl 1 rfl) ?_
            refine lv_bipush (v := (100 : Int32)) hx hb dX6_nextNumber_61 (by decide) ?_
            refine lv_aload_n hx hb dX6_nextNumber_63 rfl (lv_at hl 1 rfl) ?_
            refine g_get C hW inX6 0 rfl rfl rfl 5 (by decide) (List.mem_of_getElem? (i := 1) rfl) (v := .int (v0 5 0)) rfl dX6_nextNumber_64 ?_
            refine lv_bipush (v := (10 : Int32)) hx hb dX6_nextNumber_67 (by decide) ?_
            refine lv_imul hx hb dX6_nextNumber_69 ?_
            refine lv_aload_n hx hb dX6_nextNumber_70 rfl (lv_at hl 1 rfl) ?_
            refine lv_aload_n hx hb dX6_nextNumber_71 rfl (lv_at hl 1 rfl) ?_
            refine g_get C hW inX6 0 rfl rfl rfl 2 (by decide) (List.mem_of_getElem? (i := 2) rfl) (v := .int (v0 2 0)) rfl dX6_nextNumber_72 ?_
            obtain ⟨y3, hc, hf⟩ := bd_of hf
            refine g_cV (Cn := RX6) C (ct_X6_letterAt g l N a0 (v0 2 0) v0 hc) gX6_nextNumber_X6_letterAt rfl 1 (by decide +kernel) ⟨rfl, rfl, ⟨Nat.le_of_ble_eq_true rfl, Nat.le_of_ble_eq_true rfl⟩, Nat.le_of_ble_eq_true rfl, Nat.le_of_ble_eq_true rfl⟩ rfl hl (Nat.le_of_ble_eq_true rfl) dX6_nextNumber_75 rfl hW hA [0] rfl rfl rfl (ch' := [kX6 g a0 v0]) rfl 0 rfl rfl rfl (fun H locs hW => ?_)
            refine lv_iadd hx hb dX6_nextNumber_78 ?_
            refine lv_bipush (v := (48 : Int32)) hx hb dX6_nextNumber_79 (by decide) ?_
            refine lv_isub hx hb dX6_nextNumber_81 ?_
            refine g_mmin C hl (List.mem_of_getElem? (i := 5) rfl) (List.mem_of_getElem? (i := 6) rfl) (List.mem_of_getElem? (i := 7) rfl) (List.mem_of_getElem? (i := 8) rfl) ⟨Nat.le_of_ble_eq_true rfl, Nat.le_of_ble_eq_true rfl, Nat.le_of_ble_eq_true rfl, Nat.le_of_ble_eq_true rfl⟩ (Nat.le_of_ble_eq_true rfl) dX6_nextNumber_82 ?_
            refine g_put C hW inX6 tyX6_ok nmX6 0 rfl rfl rfl 5 (by decide) (List.mem_of_getElem? (i := 1) rfl) rfl rfl rfl rfl (kX6_s5 g a0 v0 (if ((((v0 5 0) * (10 : Int32)) + y3) - (48 : Int32)) < (100 : Int32) then ((((v0 5 0) * (10 : Int32)) + y3) - (48 : Int32)) else (100 : Int32))) (ch' := [kX6 g a0 (st v0 5 (fun _ => (if ((((v0 5 0) * (10 : Int32)) + y3) - (48 : Int32)) < (100 : Int32) then ((((v0 5 0) * (10 : Int32)) + y3) - (48 : Int32)) else (100 : Int32))))]) rfl dX6_nextNumber_85 (fun H locs hW => ?_)
            refine lv_aload_n hx hb dX6_nextNumber_88 rfl (lv_at hl 1 rfl) ?_
            refine lv_dup hx hb dX6_nextNumber_89 rfl ?_
            refine g_get C hW inX6 0 rfl rfl rfl 2 (by decide) (List.mem_of_getElem? (i := 2) rfl) (v := .int (v0 2 0)) rfl dX6_nextNumber_90 ?_
            refine lv_iconst (v := (1 : Int32)) hx hb dX6_nextNumber_93 (by decide) ?_
            refine lv_iadd hx hb dX6_nextNumber_94 ?_
            refine g_put C hW inX6 tyX6_ok nmX6 0 rfl rfl rfl 2 (by decide) (List.mem_of_getElem? (i := 2) rfl) rfl rfl rfl rfl (kX6_s2 g a0 (st v0 5 (fun _ => (if ((((v0 5 0) * (10 : Int32)) + y3) - (48 : Int32)) < (100 : Int32) then ((((v0 5 0) * (10 : Int32)) + y3) - (48 : Int32)) else (100 : Int32)))) ((v0 2 0) + (1 : Int32))) (ch' := [kX6 g a0 (st (st v0 5 (fun _ => (if ((((v0 5 0) * (10 : Int32)) + y3) - (48 : Int32)) < (100 : Int32) then ((((v0 5 0) * (10 : Int32)) + y3) - (48 : Int32)) else (100 : Int32)))) 2 (fun _ => ((v0 2 0) + (1 : Int32))))]) rfl dX6_nextNumber_95 (fun H locs hW => ?_)
            refine lv_goto (tgt := 7) hx hb dX6_nextNumber_98 (by decide) ?_
            exact ih _ _ H locs ls hf hW (lv_sub hl [1, 0] rfl)
          · replace hf := (if_neg h).symm.trans hf
            refine lv_aload_n hx hb dX6_nextNumber_36 rfl (lv_at hl 0 rfl) ?_
            refine g_get C hW inX6 0 rfl rfl rfl 2 (by decide) (List.mem_of_getElem? (i := 2) rfl) (v := .int (v0 2 0)) rfl dX6_nextNumber_37 ?_
            refine lv_aload_n hx hb dX6_nextNumber_40 rfl (lv_at hl 0 rfl) ?_
            refine g_get C hW inX6 0 rfl rfl rfl 3 (by decide) (List.mem_of_getElem? (i := 4) rfl) (v := .int (v0 3 0)) rfl dX6_nextNumber_41 ?_
            refine lv_icmp_eq (tgt := 54) hx hb dX6_nextNumber_44 (by decide) (fun h => ?_) (fun h => ?_)
            · replace hf := (if_pos h).symm.trans hf
              refine lv_iconst (v := (1 : Int32)) hx hb dX6_nextNumber_54 (by decide) ?_
              refine lv_goto (tgt := 59) hx hb dX6_nextNumber_55 (by decide) ?_
              refine lv_istore_n (lv' := [(1, .int (1 : Int32)), (0, .ref (a0 0))]) hx hb dX6_nextNumber_59 rfl hl (by decide) rfl (fun ls hl => ?_)
              refine lv_aload_n hx hb dX6_nextNumber_60 rfl (lv_at hl 1 rfl) ?_
              refine lv_bipush (v := (100 : Int32)) hx hb dX6_nextNumber_61 (by decide) ?_
              refine lv_aload_n hx hb dX6_nextNumber_63 rfl (lv_at hl 1 rfl) ?_
              refine g_get C hW inX6 0 rfl rfl rfl 5 (by decide) (List.mem_of_getElem? (i := 1) rfl) (v := .int (v0 5 0)) rfl dX6_nextNumber_64 ?_
              refine lv_bipush (v := (10 : Int32)) hx hb dX6_nextNumber_67 (by decide) ?_
              refine lv_imul hx hb dX6_nextNumber_69 ?_
              refine lv_aload_n hx hb dX6_nextNumber_70 rfl (lv_at hl 1 rfl) ?_
              refine lv_aload_n hx hb dX6_nextNumber_71 rfl (lv_at hl 1 rfl) ?_
              refine g_get C hW inX6 0 rfl rfl rfl 2 (by decide) (List.mem_of_getElem? (i := 2) rfl) (v := .int (v0 2 0)) rfl dX6_nextNumber_72 ?_
              obtain ⟨y4, hc, hf⟩ := bd_of hf
              refine g_cV (Cn := RX6) C (ct_X6_letterAt g l N a0 (v0 2 0) v0 hc) gX6_nextNumber_X6_letterAt rfl 1 (by decide +kernel) ⟨rfl, rfl, ⟨Nat.le_of_ble_eq_true rfl, Nat.le_of_ble_eq_true rfl⟩, Nat.le_of_ble_eq_true rfl, Nat.le_of_ble_eq_true rfl⟩ rfl hl (Nat.le_of_ble_eq_true rfl) dX6_nextNumber_75 rfl hW hA [0] rfl rfl rfl (ch' := [kX6 g a0 v0]) rfl 0 rfl rfl rfl (fun H locs hW => ?_)
              refine lv_iadd hx hb dX6_nextNumber_78 ?_
              refine lv_bipush (v := (48 : Int32)) hx hb dX6_nextNumber_79 (by decide) ?_
              refine lv_isub hx hb dX6_nextNumber_81 ?_
              refine g_mmin C hl (List.mem_of_getElem? (i := 5) rfl) (List.mem_of_getElem? (i := 6) rfl) (List.mem_of_getElem? (i := 7) rfl) (List.mem_of_getElem? (i := 8) rfl) ⟨Nat.le_of_ble_eq_true rfl, Nat.le_of_ble_eq_true rfl, Nat.le_of_ble_eq_true rfl, Nat.le_of_ble_eq_true rfl⟩ (Nat.le_of_ble_eq_true rfl) dX6_nextNumber_82 ?_
              refine g_put C hW inX6 tyX6_ok nmX6 0 rfl rfl rfl 5 (by decide) (List.mem_of_getElem? (i := 1) rfl) rfl rfl rfl rfl (kX6_s5 g a0 v0 (if ((((v0 5 0) * (10 : Int32)) + y4) - (48 : Int32)) < (100 : Int32) then ((((v0 5 0) * (10 : Int32)) + y4) - (48 : Int32)) else (100 : Int32))) (ch' := [kX6 g a0 (st v0 5 (fun _ => (if ((((v0 5 0) * (10 : Int32)) + y4) - (48 : Int32)) < (100 : Int32) then ((((v0 5 0) * (10 : Int32)) + y4) - (48 : Int32)) else (100 : Int32))))]) rfl dX6_nextNumber_85 (fun H locs hW => ?_)
              refine lv_aload_n hx hb dX6_nextNumber_88 rfl (lv_at hl 1 rfl) ?_
              refine lv_dup hx hb dX6_nextNumber_89 rfl ?_
              refine g_get C hW inX6 0 rfl rfl rfl 2 (by decide) (List.mem_of_getElem? (i := 2) rfl) (v := .int (v0 2 0)) rfl dX6_nextNumber_90 ?_
              refine lv_iconst (v := (1 : Int32)) hx hb dX6_nextNumber_93 (by decide) ?_
              refine lv_iadd hx hb dX6_nextNumber_94 ?_
              refine g_put C hW inX6 tyX6_ok nmX6 0 rfl rfl rfl 2 (by decide) (List.mem_of_getElem? (i := 2) rfl) rfl rfl rfl rfl (kX6_s2 g a0 (st v0 5 (fun _ => (if ((((v0 5 0) * (10 : Int32)) + y4) - (48 : Int32)) < (100 : Int32) then ((((v0 5 0) * (10 : Int32)) + y4) - (48 : Int32)) else (100 : Int32)))) ((v0 2 0) + (1 : Int32))) (ch' := [kX6 g a0 (st (st v0 5 (fun _ => (if ((((v0 5 0) * (10 : Int32)) + y4) - (48 : Int32)) < (100 : Int32) then ((((v0 5 0) * (10 : Int32)) + y4) - (48 : Int32)) else (100 : Int32)))) 2 (fun _ => ((v0 2 0) + (1 : Int32))))]) rfl dX6_nextNumber_95 (fun H locs hW => ?_)
              refine lv_goto (tgt := 7) hx hb dX6_nextNumber_98 (by decide) ?_
              exact ih _ _ H locs ls hf hW (lv_sub hl [1, 0] rfl)
            · replace hf := (if_neg h).symm.trans hf
              refine lv_aload_n hx hb dX6_nextNumber_47 rfl (lv_at hl 0 rfl) ?_
              refine g_get C hW inX6 0 rfl rfl rfl 5 (by decide) (List.mem_of_getElem? (i := 1) rfl) (v := .int (v0 5 0)) rfl dX6_nextNumber_48 ?_
              refine lv_if_le (tgt := 58) hx hb dX6_nextNumber_51 (by decide) (fun h => ?_) (fun h => ?_)
              · replace hf := (if_pos h).symm.trans hf
                refine lv_iconst (v := (0 : Int32)) hx hb dX6_nextNumber_58 (by decide) ?_
                refine lv_istore_n (lv' := [(1, .int (0 : Int32)), (0, .ref (a0 0))]) hx hb dX6_nextNumber_59 rfl hl (by decide) rfl (fun ls hl => ?_)
                refine lv_aload_n hx hb dX6_nextNumber_60 rfl (lv_at hl 1 rfl) ?_
                refine lv_bipush (v := (100 : Int32)) hx hb dX6_nextNumber_61 (by decide) ?_
                refine lv_aload_n hx hb dX6_nextNumber_63 rfl (lv_at hl 1 rfl) ?_
                refine g_get C hW inX6 0 rfl rfl rfl 5 (by decide) (List.mem_of_getElem? (i := 1) rfl) (v := .int (v0 5 0)) rfl dX6_nextNumber_64 ?_
                refine lv_bipush (v := (10 : Int32)) hx hb dX6_nextNumber_67 (by decide) ?_
                refine lv_imul hx hb dX6_nextNumber_69 ?_
                refine lv_aload_n hx hb dX6_nextNumber_70 rfl (lv_at hl 1 rfl) ?_
                refine lv_aload_n hx hb dX6_nextNumber_71 rfl (lv_at hl 1 rfl) ?_
                refine g_get C hW inX6 0 rfl rfl rfl 2 (by decide) (List.mem_of_getElem? (i := 2) rfl) (v := .int (v0 2 0)) rfl dX6_nextNumber_72 ?_
                obtain ⟨y5, hc, hf⟩ := bd_of hf
                refine g_cV (Cn := RX6) C (ct_X6_letterAt g l N a0 (v0 2 0) v0 hc) gX6_nextNumber_X6_letterAt rfl 1 (by decide +kernel) ⟨rfl, rfl, ⟨Nat.le_of_ble_eq_true rfl, Nat.le_of_ble_eq_true rfl⟩, Nat.le_of_ble_eq_true rfl, Nat.le_of_ble_eq_true rfl⟩ rfl hl (Nat.le_of_ble_eq_true rfl) dX6_nextNumber_75 rfl hW hA [0] rfl rfl rfl (ch' := [kX6 g a0 v0]) rfl 0 rfl rfl rfl (fun H locs hW => ?_)
                refine lv_iadd hx hb dX6_nextNumber_78 ?_
                refine lv_bipush (v := (48 : Int32)) hx hb dX6_nextNumber_79 (by decide) ?_
                refine lv_isub hx hb dX6_nextNumber_81 ?_
                refine g_mmin C hl (List.mem_of_getElem? (i := 5) rfl) (List.mem_of_getElem? (i := 6) rfl) (List.mem_of_getElem? (i := 7) rfl) (List.mem_of_getElem? (i := 8) rfl) ⟨Nat.le_of_ble_eq_true rfl, Nat.le_of_ble_eq_true rfl, Nat.le_of_ble_eq_true rfl, Nat.le_of_ble_eq_true rfl⟩ (Nat.le_of_ble_eq_true rfl) dX6_nextNumber_82 ?_
                refine g_put C hW inX6 tyX6_ok nmX6 0 rfl rfl rfl 5 (by decide) (List.mem_of_getElem? (i := 1) rfl) rfl rfl rfl rfl (kX6_s5 g a0 v0 (if ((((v0 5 0) * (10 : Int32)) + y5) - (48 : Int32)) < (100 : Int32) then ((((v0 5 0) * (10 : Int32)) + y5) - (48 : Int32)) else (100 : Int32))) (ch' := [kX6 g a0 (st v0 5 (fun _ => (if ((((v0 5 0) * (10 : Int32)) + y5) - (48 : Int32)) < (100 : Int32) then ((((v0 5 0) * (10 : Int32)) + y5) - (48 : Int32)) else (100 : Int32))))]) rfl dX6_nextNumber_85 (fun H locs hW => ?_)
                refine lv_aload_n hx hb dX6_nextNumber_88 rfl (lv_at hl 1 rfl) ?_
                refine lv_dup hx hb dX6_nextNumber_89 rfl ?_
                refine g_get C hW inX6 0 rfl rfl rfl 2 (by decide) (List.mem_of_getElem? (i := 2) rfl) (v := .int (v0 2 0)) rfl dX6_nextNumber_90 ?_
                refine lv_iconst (v := (1 : Int32)) hx hb dX6_nextNumber_93 (by decide) ?_
                refine lv_iadd hx hb dX6_nextNumber_94 ?_
                refine g_put C hW inX6 tyX6_ok nmX6 0 rfl rfl rfl 2 (by decide) (List.mem_of_getElem? (i := 2) rfl) rfl rfl rfl rfl (kX6_s2 g a0 (st v0 5 (fun _ => (if ((((v0 5 0) * (10 : Int32)) + y5) - (48 : Int32)) < (100 : Int32) then ((((v0 5 0) * (10 : Int32)) + y5) - (48 : Int32)) else (100 : Int32)))) ((v0 2 0) + (1 : Int32))) (ch' := [kX6 g a0 (st (st v0 5 (fun _ => (if ((((v0 5 0) * (10 : Int32)) + y5) - (48 : Int32)) < (100 : Int32) then ((((v0 5 0) * (10 : Int32)) + y5) - (48 : Int32)) else (100 : Int32)))) 2 (fun _ => ((v0 2 0) + (1 : Int32))))]) rfl dX6_nextNumber_95 (fun H locs hW => ?_)
                refine lv_goto (tgt := 7) hx hb dX6_nextNumber_98 (by decide) ?_
                exact ih _ _ H locs ls hf hW (lv_sub hl [1, 0] rfl)
              · replace hf := (if_neg h).symm.trans hf
                refine lv_iconst (v := (1 : Int32)) hx hb dX6_nextNumber_54 (by decide) ?_
                refine lv_goto (tgt := 59) hx hb dX6_nextNumber_55 (by decide) ?_
                refine lv_istore_n (lv' := [(1, .int (1 : Int32)), (0, .ref (a0 0))]) hx hb dX6_nextNumber_59 rfl hl (by decide) rfl (fun ls hl => ?_)
                refine lv_aload_n hx hb dX6_nextNumber_60 rfl (lv_at hl 1 rfl) ?_
                refine lv_bipush (v := (100 : Int32)) hx hb dX6_nextNumber_61 (by decide) ?_
                refine lv_aload_n hx hb dX6_nextNumber_63 rfl (lv_at hl 1 rfl) ?_
                refine g_get C hW inX6 0 rfl rfl rfl 5 (by decide) (List.mem_of_getElem? (i := 1) rfl) (v := .int (v0 5 0)) rfl dX6_nextNumber_64 ?_
                refine lv_bipush (v := (10 : Int32)) hx hb dX6_nextNumber_67 (by decide) ?_
                refine lv_imul hx hb dX6_nextNumber_69 ?_
                refine lv_aload_n hx hb dX6_nextNumber_70 rfl (lv_at hl 1 rfl) ?_
                refine lv_aload_n hx hb dX6_nextNumber_71 rfl (lv_at hl 1 rfl) ?_
                refine g_get C hW inX6 0 rfl rfl rfl 2 (by decide) (List.mem_of_getElem? (i := 2) rfl) (v := .int (v0 2 0)) rfl dX6_nextNumber_72 ?_
                obtain ⟨y6, hc, hf⟩ := bd_of hf
                refine g_cV (Cn := RX6) C (ct_X6_letterAt g l N a0 (v0 2 0) v0 hc) gX6_nextNumber_X6_letterAt rfl 1 (by decide +kernel) ⟨rfl, rfl, ⟨Nat.le_of_ble_eq_true rfl, Nat.le_of_ble_eq_true rfl⟩, Nat.le_of_ble_eq_true rfl, Nat.le_of_ble_eq_true rfl⟩ rfl hl (Nat.le_of_ble_eq_true rfl) dX6_nextNumber_75 rfl hW hA [0] rfl rfl rfl (ch' := [kX6 g a0 v0]) rfl 0 rfl rfl rfl (fun H locs hW => ?_)
                refine lv_iadd hx hb dX6_nextNumber_78 ?_
                refine lv_bipush (v := (48 : Int32)) hx hb dX6_nextNumber_79 (by decide) ?_
                refine lv_isub hx hb dX6_nextNumber_81 ?_
                refine g_mmin C hl (List.mem_of_getElem? (i := 5) rfl) (List.mem_of_getElem? (i := 6) rfl) (List.mem_of_getElem? (i := 7) rfl) (List.mem_of_getElem? (i := 8) rfl) ⟨Nat.le_of_ble_eq_true rfl, Nat.le_of_ble_eq_true rfl, Nat.le_of_ble_eq_true rfl, Nat.le_of_ble_eq_true rfl⟩ (Nat.le_of_ble_eq_true rfl) dX6_nextNumber_82 ?_
                refine g_put C hW inX6 tyX6_ok nmX6 0 rfl rfl rfl 5 (by decide) (List.mem_of_getElem? (i := 1) rfl) rfl rfl rfl rfl (kX6_s5 g a0 v0 (if ((((v0 5 0) * (10 : Int32)) + y6) - (48 : Int32)) < (100 : Int32) then ((((v0 5 0) * (10 : Int32)) + y6) - (48 : Int32)) else (100 : Int32))) (ch' := [kX6 g a0 (st v0 5 (fun _ => (if ((((v0 5 0) * (10 : Int32)) + y6) - (48 : Int32)) < (100 : Int32) then ((((v0 5 0) * (10 : Int32)) + y6) - (48 : Int32)) else (100 : Int32))))]) rfl dX6_nextNumber_85 (fun H locs hW => ?_)
                refine lv_aload_n hx hb dX6_nextNumber_88 rfl (lv_at hl 1 rfl) ?_
                refine lv_dup hx hb dX6_nextNumber_89 rfl ?_
                refine g_get C hW inX6 0 rfl rfl rfl 2 (by decide) (List.mem_of_getElem? (i := 2) rfl) (v := .int (v0 2 0)) rfl dX6_nextNumber_90 ?_
                refine lv_iconst (v := (1 : Int32)) hx hb dX6_nextNumber_93 (by decide) ?_
                refine lv_iadd hx hb dX6_nextNumber_94 ?_
                refine g_put C hW inX6 tyX6_ok nmX6 0 rfl rfl rfl 2 (by decide) (List.mem_of_getElem? (i := 2) rfl) rfl rfl rfl rfl (kX6_s2 g a0 (st v0 5 (fun _ => (if ((((v0 5 0) * (10 : Int32)) + y6) - (48 : Int32)) < (100 : Int32) then ((((v0 5 0) * (10 : Int32)) + y6) - (48 : Int32)) else (100 : Int32)))) ((v0 2 0) + (1 : Int32))) (ch' := [kX6 g a0 (st (st v0 5 (fun _ => (if ((((v0 5 0) * (10 : Int32)) + y6) - (48 : Int32)) < (100 : Int32) then ((((v0 5 0) * (10 : Int32)) + y6) - (48 : Int32)) else (100 : Int32)))) 2 (fun _ => ((v0 2 0) + (1 : Int32))))]) rfl dX6_nextNumber_95 (fun H locs hW => ?_)
                refine lv_goto (tgt := 7) hx hb dX6_nextNumber_98 (by decide) ?_
                exact ih _ _ H locs ls hf hW (lv_sub hl [1, 0] rfl)
  rw [fX6_nextNumber] at hf
  refine lv_iconst (v := (1 : Int32)) hx hb dX6_nextNumber_0 (by decide) ?_
  refine lv_istore_n (lv' := [(1, .int (1 : Int32)), (0, .ref (a0 0))]) hx hb dX6_nextNumber_1 rfl hl (by decide) rfl (fun ls hl => ?_)
  refine lv_aload_n hx hb dX6_nextNumber_2 rfl (lv_at hl 1 rfl) ?_
  refine lv_iconst (v := (0 : Int32)) hx hb dX6_nextNumber_3 (by decide) ?_
  refine g_put C hW inX6 tyX6_ok nmX6 0 rfl rfl rfl 5 (by decide) (List.mem_of_getElem? (i := 1) rfl) rfl rfl rfl rfl (kX6_s5 g a0 v0 (0 : Int32)) (ch' := [kX6 g a0 (st v0 5 (fun _ => (0 : Int32)))]) rfl dX6_nextNumber_4 (fun H locs hW => ?_)
  refine L7 _ (fun x1_7 v0_7 H locs ls hf hW hl => ?_) N (1 : Int32) (st v0 5 (fun _ => (0 : Int32))) H locs ls hf hW (lv_sub hl [1, 0] rfl)
  refine lv_aload_n hx hb dX6_nextNumber_101 rfl (lv_at hl 0 rfl) ?_
  refine lv_iload_n hx hb dX6_nextNumber_102 rfl (lv_at hl 1 rfl) ?_
  refine lv_if_eq (tgt := 120) hx hb dX6_nextNumber_103 (by decide) (fun h => ?_) (fun h => ?_)
  · replace hf := (if_pos h).symm.trans hf
    refine lv_bipush (v := (63 : Int32)) hx hb dX6_nextNumber_120 (by decide) ?_
    refine g_put C hW inX6 tyX6_ok nmX6 0 rfl rfl rfl 4 (by decide) (List.mem_of_getElem? (i := 9) rfl) rfl rfl rfl rfl (kX6_s4 g a0 v0_7 (63 : Int32)) (ch' := [kX6 g a0 (st v0_7 4 (fun _ => (63 : Int32)))]) rfl dX6_nextNumber_122 (fun H locs hW => ?_)
    obtain rfl := Option.some.inj hf
    subst hQ
    exact g_vret C hr hk0 hW rfl rfl dX6_nextNumber_125
  · replace hf := (if_neg h).symm.trans hf
    refine lv_aload_n hx hb dX6_nextNumber_106 rfl (lv_at hl 0 rfl) ?_
    refine g_get C hW inX6 0 rfl rfl rfl 5 (by decide) (List.mem_of_getElem? (i := 1) rfl) (v := .int (v0_7 5 0)) rfl dX6_nextNumber_107 ?_
    refine lv_bipush (v := (99 : Int32)) hx hb dX6_nextNumber_110 (by decide) ?_
    refine lv_icmp_gt (tgt := 120) hx hb dX6_nextNumber_112 (by decide) (fun h => ?_) (fun h => ?_)
    · replace hf := (if_pos h).symm.trans hf
      refine lv_bipush (v := (63 : Int32)) hx hb dX6_nextNumber_120 (by decide) ?_
      refine g_put C hW inX6 tyX6_ok nmX6 0 rfl rfl rfl 4 (by decide) (List.mem_of_getElem? (i := 9) rfl) rfl rfl rfl rfl (kX6_s4 g a0 v0_7 (63 : Int32)) (ch' := [kX6 g a0 (st v0_7 4 (fun _ => (63 : Int32)))]) rfl dX6_nextNumber_122 (fun H locs hW => ?_)
      obtain rfl := Option.some.inj hf
      subst hQ
      exact g_vret C hr hk0 hW rfl rfl dX6_nextNumber_125
    · replace hf := (if_neg h).symm.trans hf
      refine lv_bipush (v := (48 : Int32)) hx hb dX6_nextNumber_115 (by decide) ?_
      refine lv_goto (tgt := 122) hx hb dX6_nextNumber_117 (by decide) ?_
      refine g_put C hW inX6 tyX6_ok nmX6 0 rfl rfl rfl 4 (by decide) (List.mem_of_getElem? (i := 9) rfl) rfl rfl rfl rfl (kX6_s4 g a0 v0_7 (48 : Int32)) (ch' := [kX6 g a0 (st v0_7 4 (fun _ => (48 : Int32)))]) rfl dX6_nextNumber_122 (fun H locs hW => ?_)
      obtain rfl := Option.some.inj hf
      subst hQ
      exact g_vret C hr hk0 hW rfl rfl dX6_nextNumber_125
def fX6_nextToken_L0 (N : Nat) (k : MM → Option (MM)) : Nat → MM → Option (MM)
  | 0, _ => none
  | n + 1, v0 => (if (v0 1 0) ≤ (v0 2 0) then k v0 else ((fX6_letterAt N (v0 2 0) v0).bind (fun y1 => (if y1 = (32 : Int32) then fX6_nextToken_L0 N k n (st v0 2 (fun _ => ((v0 2 0) + (1 : Int32)))) else k v0))))
def fX6_nextToken (N : Nat) (v0 : MM) : Option (MM) := (fX6_nextToken_L0 N (fun (v0_2 : MM) => ((fX6_letterAt N (v0_2 2 0) (st v0_2 3 (fun _ => (v0_2 2 0)))).bind (fun y3 => ((fX6_isDigit N y3).bind (fun y4 => (if y4 = 0 then (if (v0_2 2 0) < (v0_2 1 0) then ((fX6_isSign N y3).bind (fun y5 => (if y5 = 0 then some (st (st (st v0_2 3 (fun _ => (v0_2 2 0))) 4 (fun _ => (63 : Int32))) 2 (fun _ => ((v0_2 2 0) + (1 : Int32)))) else some (st (st (st v0_2 3 (fun _ => (v0_2 2 0))) 4 (fun _ => y3)) 2 (fun _ => ((v0_2 2 0) + (1 : Int32))))))) else some (st (st v0_2 3 (fun _ => (v0_2 2 0))) 4 (fun _ => (46 : Int32)))) else ((fX6_nextNumber N (st v0_2 3 (fun _ => (v0_2 2 0)))).bind (fun y6 => some y6)))))))) N v0)
set_option maxHeartbeats 4000000 in
set_option maxRecDepth 100000 in
theorem ct_X6_nextToken (g : GT) (l : Launch) (N : Nat) (a0 : Nat → Nat) (v0 : MM) {y : MM} (hf : fX6_nextToken N v0 = some y) : ct g l yX6_nextToken wsX6_nextToken (rmk 2 42) [.ref (a0 0)] [kX6 g a0 v0] none [kX6 g a0 y] := by
  refine ct_of (cc := cX6_nextToken) (maxL := 2) (ret := none) (by decide) rfl (Nat.le_of_ble_eq_true rfl) ?_
  intro p e s m args below meth c A ls C hr hk0 hA hW hl
  have hx := C.1.1
  have hb := C.1.2.1
  replace hl : lv_has ls 2 [(0, .ref (a0 0))] := hl
  obtain ⟨Q, hQ⟩ : ∃ Q, Q = MQ below (ctQ g A none [kX6 g a0 y]) args s 0 0 A := ⟨_, rfl⟩
  rw [← hQ]
  obtain ⟨H, hH⟩ : ∃ H, H = s.heap := ⟨_, rfl⟩
  obtain ⟨locs, hL⟩ : ∃ locs : List Loc, locs = [] := ⟨_, rfl⟩
  replace hW : wd g A s.heap [kX6 g a0 v0] H locs := by rw [hH, hL]; exact hW
  suffices hG : W p l e (rmk 2 42) s m args below meth c H locs 0 0 Q (F0 m 0 ls []) by
    rw [hH, hL] at hG; exact hG
  clear hH hL
  have inX6 : ∀ w ∈ wsX60, w ∈ wsX6_nextToken := fun _ h => List.mem_cons_of_mem _ (List.mem_append_right _ (h))
  have L0 : ∀ (k : MM → Option (MM)) (hk : ∀ (v0 : MM) (H : Heap) (locs : List Loc) (ls : Array Slot), k v0 = some y → wd g A s.heap [kX6 g a0 v0] H locs → lv_has ls 2 [(0, .ref (a0 0))] → W p l e (rmk 2 42) s m args below meth c H locs 0 0 Q (F0 m 37 ls [])) (n : Nat) (v0 : MM) (H : Heap) (locs : List Loc) (ls : Array Slot), fX6_nextToken_L0 N k n v0 = some y → wd g A s.heap [kX6 g a0 v0] H locs → lv_has ls 2 [(0, .ref (a0 0))] → W p l e (rmk 2 42) s m args below meth c H locs 0 0 Q (F0 m 0 ls []) := by
    intro k hk n
    induction n with
    | zero => intro v0 H locs ls hf; rw [fX6_nextToken_L0] at hf; cases hf
    | succ n ih =>
      intro v0 H locs ls hf hW hl
      rw [fX6_nextToken_L0] at hf
      refine lv_aload_n hx hb dX6_nextToken_0 rfl (lv_at hl 0 rfl) ?_
      refine g_get C hW inX6 0 rfl rfl rfl 2 (by decide) (List.mem_of_getElem? (i := 1) rfl) (v := .int (v0 2 0)) rfl dX6_nextToken_1 ?_
      refine lv_aload_n hx hb dX6_nextToken_4 rfl (lv_at hl 0 rfl) ?_
      refine g_get C hW inX6 0 rfl rfl rfl 1 (by decide) (List.mem_of_getElem? (i := 2) rfl) (v := .int (v0 1 0)) rfl dX6_nextToken_5 ?_
      refine lv_icmp_ge (tgt := 37) hx hb dX6_nextToken_8 (by decide) (fun h => ?_) (fun h => ?_)
      · replace hf := (if_pos h).symm.trans hf
        exact hk _ H locs ls hf hW (lv_sub hl [0] rfl)
      · replace hf := (if_neg h).symm.trans hf
        refine lv_aload_n hx hb dX6_nextToken_11 rfl (lv_at hl 0 rfl) ?_
        refine lv_aload_n hx hb dX6_nextToken_12 rfl (lv_at hl 0 rfl) ?_
        refine g_get C hW inX6 0 rfl rfl rfl 2 (by decide) (List.mem_of_getElem? (i := 1) rfl) (v := .int (v0 2 0)) rfl dX6_nextToken_13 ?_
        obtain ⟨y1, hc, hf⟩ := bd_of hf
        refine g_cV (Cn := RX6) C (ct_X6_letterAt g l N a0 (v0 2 0) v0 hc) gX6_nextToken_X6_letterAt rfl 1 (by decide +kernel) ⟨rfl, rfl, ⟨Nat.le_of_ble_eq_true rfl, Nat.le_of_ble_eq_true rfl⟩, Nat.le_of_ble_eq_true rfl, Nat.le_of_ble_eq_true rfl⟩ rfl hl (Nat.le_of_ble_eq_true rfl) dX6_nextToken_16 rfl hW hA [0] rfl rfl rfl (ch' := [kX6 g a0 v0]) rfl 0 rfl rfl rfl (fun H locs hW => ?_)
        refine lv_bipush (v := (32 : Int32)) hx hb dX6_nextToken_19 (by decide) ?_
        refine lv_icmp_ne (tgt := 37) hx hb dX6_nextToken_21 (by decide) (fun h => ?_) (fun h => ?_)
        · replace hf := (if_neg h).symm.trans hf
          exact hk _ H locs ls hf hW (lv_sub hl [0] rfl)
        · replace hf := (if_pos h).symm.trans hf
          refine lv_aload_n hx hb dX6_nextToken_24 rfl (lv_at hl 0 rfl) ?_
          refine lv_dup hx hb dX6_nextToken_25 rfl ?_
          refine g_get C hW inX6 0 rfl rfl rfl 2 (by decide) (List.mem_of_getElem? (i := 1) rfl) (v := .int (v0 2 0)) rfl dX6_nextToken_26 ?_
          refine lv_iconst (v := (1 : Int32)) hx hb dX6_nextToken_29 (by decide) ?_
          refine lv_iadd hx hb dX6_nextToken_30 ?_
          refine g_put C hW inX6 tyX6_ok nmX6 0 rfl rfl rfl 2 (by decide) (List.mem_of_getElem? (i := 1) rfl) rfl rfl rfl rfl (kX6_s2 g a0 v0 ((v0 2 0) + (1 : Int32))) (ch' := [kX6 g a0 (st v0 2 (fun _ => ((v0 2 0) + (1 : Int32))))]) rfl dX6_nextToken_31 (fun H locs hW => ?_)
          refine lv_goto (tgt := 0) hx hb dX6_nextToken_34 (by decide) ?_
          exact ih _ H locs ls hf hW (lv_sub hl [0] rfl)
  rw [fX6_nextToken] at hf
  refine L0 _ (fun v0_2 H locs ls hf hW hl => ?_) N v0 H locs ls hf hW (lv_sub hl [0] rfl)
  refine lv_aload_n hx hb dX6_nextToken_37 rfl (lv_at hl 0 rfl) ?_
  refine lv_aload_n hx hb dX6_nextToken_38 rfl (lv_at hl 0 rfl) ?_
  refine g_get C hW inX6 0 rfl rfl rfl 2 (by decide) (List.mem_of_getElem? (i := 1) rfl) (v := .int (v0_2 2 0)) rfl dX6_nextToken_39 ?_
  refine g_put C hW inX6 tyX6_ok nmX6 0 rfl rfl rfl 3 (by decide) (List.mem_of_getElem? (i := 3) rfl) rfl rfl rfl rfl (kX6_s3 g a0 v0_2 (v0_2 2 0)) (ch' := [kX6 g a0 (st v0_2 3 (fun _ => (v0_2 2 0)))]) rfl dX6_nextToken_42 (fun H locs hW => ?_)
  refine lv_aload_n hx hb dX6_nextToken_45 rfl (lv_at hl 0 rfl) ?_
  refine lv_aload_n hx hb dX6_nextToken_46 rfl (lv_at hl 0 rfl) ?_
  refine g_get C hW inX6 0 rfl rfl rfl 2 (by decide) (List.mem_of_getElem? (i := 1) rfl) (v := .int (v0_2 2 0)) rfl dX6_nextToken_47 ?_
  obtain ⟨y3, hc, hf⟩ := bd_of hf
  refine g_cV (Cn := RX6) C (ct_X6_letterAt g l N a0 (v0_2 2 0) (st v0_2 3 (fun _ => (v0_2 2 0))) hc) gX6_nextToken_X6_letterAt rfl 1 (by decide +kernel) ⟨rfl, rfl, ⟨Nat.le_of_ble_eq_true rfl, Nat.le_of_ble_eq_true rfl⟩, Nat.le_of_ble_eq_true rfl, Nat.le_of_ble_eq_true rfl⟩ rfl hl (Nat.le_of_ble_eq_true rfl) dX6_nextToken_50 rfl hW hA [0] rfl rfl rfl (ch' := [kX6 g a0 (st v0_2 3 (fun _ => (v0_2 2 0)))]) rfl 0 rfl rfl rfl (fun H locs hW => ?_)
  refine lv_istore_n (lv' := [(1, .int y3), (0, .ref (a0 0))]) hx hb dX6_nextToken_53 rfl hl (by decide) rfl (fun ls hl => ?_)
  refine lv_iload_n hx hb dX6_nextToken_54 rfl (lv_at hl 0 rfl) ?_
  obtain ⟨y4, hc, hf⟩ := bd_of hf
  refine g_cS C (ct_X6_isDigit g l N y3 hc) gX6_nextToken_X6_isDigit rfl 1 (by decide +kernel) ⟨rfl, rfl, ⟨Nat.le_of_ble_eq_true rfl, Nat.le_of_ble_eq_true rfl⟩, Nat.le_of_ble_eq_true rfl, Nat.le_of_ble_eq_true rfl⟩ rfl hl (Nat.le_of_ble_eq_true rfl) dX6_nextToken_55 rfl hW hA [] rfl rfl rfl (ch' := [kX6 g a0 (st v0_2 3 (fun _ => (v0_2 2 0)))]) rfl (fun H locs hW => ?_)
  refine lv_if_eq (tgt := 66) hx hb dX6_nextToken_58 (by decide) (fun h => ?_) (fun h => ?_)
  · replace hf := (if_pos h).symm.trans hf
    refine lv_aload_n hx hb dX6_nextToken_66 rfl (lv_at hl 1 rfl) ?_
    refine g_get C hW inX6 0 rfl rfl rfl 2 (by decide) (List.mem_of_getElem? (i := 1) rfl) (v := .int (v0_2 2 0)) rfl dX6_nextToken_67 ?_
    refine lv_aload_n hx hb dX6_nextToken_70 rfl (lv_at hl 1 rfl) ?_
    refine g_get C hW inX6 0 rfl rfl rfl 1 (by decide) (List.mem_of_getElem? (i := 2) rfl) (v := .int (v0_2 1 0)) rfl dX6_nextToken_71 ?_
    refine lv_icmp_lt (tgt := 84) hx hb dX6_nextToken_74 (by decide) (fun h => ?_) (fun h => ?_)
    · replace hf := (if_pos h).symm.trans hf
      refine lv_aload_n hx hb dX6_nextToken_84 rfl (lv_at hl 1 rfl) ?_
      refine lv_iload_n hx hb dX6_nextToken_85 rfl (lv_at hl 0 rfl) ?_
      obtain ⟨y5, hc, hf⟩ := bd_of hf
      refine g_cS C (ct_X6_isSign g l N y3 hc) gX6_nextToken_X6_isSign rfl 1 (by decide +kernel) ⟨rfl, rfl, ⟨Nat.le_of_ble_eq_true rfl, Nat.le_of_ble_eq_true rfl⟩, Nat.le_of_ble_eq_true rfl, Nat.le_of_ble_eq_true rfl⟩ rfl hl (Nat.le_of_ble_eq_true rfl) dX6_nextToken_86 rfl hW hA [] rfl rfl rfl (ch' := [kX6 g a0 (st v0_2 3 (fun _ => (v0_2 2 0)))]) rfl (fun H locs hW => ?_)
      refine lv_if_eq (tgt := 96) hx hb dX6_nextToken_89 (by decide) (fun h => ?_) (fun h => ?_)
      · replace hf := (if_pos h).symm.trans hf
        refine lv_bipush (v := (63 : Int32)) hx hb dX6_nextToken_96 (by decide) ?_
        refine g_put C hW inX6 tyX6_ok nmX6 0 rfl rfl rfl 4 (by decide) (List.mem_of_getElem? (i := 4) rfl) rfl rfl rfl rfl (kX6_s4 g a0 (st v0_2 3 (fun _ => (v0_2 2 0))) (63 : Int32)) (ch' := [kX6 g a0 (st (st v0_2 3 (fun _ => (v0_2 2 0))) 4 (fun _ => (63 : Int32)))]) rfl dX6_nextToken_98 (fun H locs hW => ?_)
        refine lv_aload_n hx hb dX6_nextToken_101 rfl (lv_at hl 1 rfl) ?_
        refine lv_dup hx hb dX6_nextToken_102 rfl ?_
        refine g_get C hW inX6 0 rfl rfl rfl 2 (by decide) (List.mem_of_getElem? (i := 1) rfl) (v := .int (v0_2 2 0)) rfl dX6_nextToken_103 ?_
        refine lv_iconst (v := (1 : Int32)) hx hb dX6_nextToken_106 (by decide) ?_
        refine lv_iadd hx hb dX6_nextToken_107 ?_
        refine g_put C hW inX6 tyX6_ok nmX6 0 rfl rfl rfl 2 (by decide) (List.mem_of_getElem? (i := 1) rfl) rfl rfl rfl rfl (kX6_s2 g a0 (st (st v0_2 3 (fun _ => (v0_2 2 0))) 4 (fun _ => (63 : Int32))) ((v0_2 2 0) + (1 : Int32))) (ch' := [kX6 g a0 (st (st (st v0_2 3 (fun _ => (v0_2 2 0))) 4 (fun _ => (63 : Int32))) 2 (fun _ => ((v0_2 2 0) + (1 : Int32))))]) rfl dX6_nextToken_108 (fun H locs hW => ?_)
        obtain rfl := Option.some.inj hf
        subst hQ
        exact g_vret C hr hk0 hW rfl rfl dX6_nextToken_111
      · replace hf := (if_neg h).symm.trans hf
        refine lv_iload_n hx hb dX6_nextToken_92 rfl (lv_at hl 0 rfl) ?_
        refine lv_goto (tgt := 98) hx hb dX6_nextToken_93 (by decide) ?_
        refine g_put C hW inX6 tyX6_ok nmX6 0 rfl rfl rfl 4 (by decide) (List.mem_of_getElem? (i := 4) rfl) rfl rfl rfl rfl (kX6_s4 g a0 (st v0_2 3 (fun _ => (v0_2 2 0))) y3) (ch' := [kX6 g a0 (st (st v0_2 3 (fun _ => (v0_2 2 0))) 4 (fun _ => y3))]) rfl dX6_nextToken_98 (fun H locs hW => ?_)
        refine lv_aload_n hx hb dX6_nextToken_101 rfl (lv_at hl 1 rfl) ?_
        refine lv_dup hx hb dX6_nextToken_102 rfl ?_
        refine g_get C hW inX6 0 rfl rfl rfl 2 (by decide) (List.mem_of_getElem? (i := 1) rfl) (v := .int (v0_2 2 0)) rfl dX6_nextToken_103 ?_
        refine lv_iconst (v := (1 : Int32)) hx hb dX6_nextToken_106 (by decide) ?_
        refine lv_iadd hx hb dX6_nextToken_107 ?_
        refine g_put C hW inX6 tyX6_ok nmX6 0 rfl rfl rfl 2 (by decide) (List.mem_of_getElem? (i := 1) rfl) rfl rfl rfl rfl (kX6_s2 g a0 (st (st v0_2 3 (fun _ => (v0_2 2 0))) 4 (fun _ => y3)) ((v0_2 2 0) + (1 : Int32))) (ch' := [kX6 g a0 (st (st (st v0_2 3 (fun _ => (v0_2 2 0))) 4 (fun _ => y3)) 2 (fun _ => ((v0_2 2 0) + (1 : Int32))))]) rfl dX6_nextToken_108 (fun H locs hW => ?_)
        obtain rfl := Option.some.inj hf
        subst hQ
        exact g_vret C hr hk0 hW rfl rfl dX6_nextToken_111
    · replace hf := (if_neg h).symm.trans hf
      refine lv_aload_n hx hb dX6_nextToken_77 rfl (lv_at hl 1 rfl) ?_
      refine lv_bipush (v := (46 : Int32)) hx hb dX6_nextToken_78 (by decide) ?_
      refine g_put C hW inX6 tyX6_ok nmX6 0 rfl rfl rfl 4 (by decide) (List.mem_of_getElem? (i := 4) rfl) rfl rfl rfl rfl (kX6_s4 g a0 (st v0_2 3 (fun _ => (v0_2 2 0))) (46 : Int32)) (ch' := [kX6 g a0 (st (st v0_2 3 (fun _ => (v0_2 2 0))) 4 (fun _ => (46 : Int32)))]) rfl dX6_nextToken_80 (fun H locs hW => ?_)
      obtain rfl := Option.some.inj hf
      subst hQ
      exact g_vret C hr hk0 hW rfl rfl dX6_nextToken_83
  · replace hf := (if_neg h).symm.trans hf
    refine lv_aload_n hx hb dX6_nextToken_61 rfl (lv_at hl 1 rfl) ?_
    obtain ⟨y6, hc, hf⟩ := bd_of hf
    refine g_cVv (Cn := RX6) C (ct_X6_nextNumber g l N a0 (st v0_2 3 (fun _ => (v0_2 2 0))) hc) gX6_nextToken_X6_nextNumber rfl 0 (by decide +kernel) ⟨rfl, rfl, ⟨Nat.le_of_ble_eq_true rfl, Nat.le_of_ble_eq_true rfl⟩, Nat.le_of_ble_eq_true rfl, Nat.le_of_ble_eq_true rfl⟩ rfl hl (Nat.le_of_ble_eq_true rfl) dX6_nextToken_62 rfl hW hA [0] rfl rfl rfl (ch' := [kX6 g a0 y6]) rfl 0 rfl rfl rfl (fun H locs hW => ?_)
    obtain rfl := Option.some.inj hf
    subst hQ
    exact g_vret C hr hk0 hW rfl rfl dX6_nextToken_65
def fX6_readNumber (N : Nat) (x1 : Int32) (x2 : Int32) (v0 : MM) : Option (Int32 × MM) := ((fX6_nextToken N v0).bind (fun y1 => (if (y1 4 0) = (48 : Int32) then (if (y1 5 0) < x1 then some ((0 : Int32), y1) else (if x2 < (y1 5 0) then some ((0 : Int32), y1) else some ((1 : Int32), y1))) else some ((0 : Int32), y1))))
set_option maxHeartbeats 4000000 in
set_option maxRecDepth 100000 in
theorem ct_X6_readNumber (g : GT) (l : Launch) (N : Nat) (a0 : Nat → Nat) (x1 : Int32) (x2 : Int32) (v0 : MM) {y : Int32 × MM} (hf : fX6_readNumber N x1 x2 v0 = some y) : ct g l yX6_readNumber wsX6_readNumber (rmk 3 63) [.ref (a0 0), .int x1, .int x2] [kX6 g a0 v0] (some (.int y.1)) [kX6 g a0 y.2] := by
  refine ct_of (cc := cX6_readNumber) (maxL := 3) (ret := (some .boolean)) (by decide) rfl (Nat.le_of_ble_eq_true rfl) ?_
  intro p e s m args below meth c A ls C hr hk0 hA hW hl
  have hx := C.1.1
  have hb := C.1.2.1
  replace hl : lv_has ls 3 [(0, .ref (a0 0)), (1, .int x1), (2, .int x2)] := hl
  obtain ⟨Q, hQ⟩ : ∃ Q, Q = MQ below (ctQ g A (some (.int y.1)) [kX6 g a0 y.2]) args s 0 0 A := ⟨_, rfl⟩
  rw [← hQ]
  obtain ⟨H, hH⟩ : ∃ H, H = s.heap := ⟨_, rfl⟩
  obtain ⟨locs, hL⟩ : ∃ locs : List Loc, locs = [] := ⟨_, rfl⟩
  replace hW : wd g A s.heap [kX6 g a0 v0] H locs := by rw [hH, hL]; exact hW
  suffices hG : W p l e (rmk 3 63) s m args below meth c H locs 0 0 Q (F0 m 0 ls []) by
    rw [hH, hL] at hG; exact hG
  clear hH hL
  have inX6 : ∀ w ∈ wsX60, w ∈ wsX6_readNumber := fun _ h => List.mem_cons_of_mem _ (List.mem_append_right _ (h))
  rw [fX6_readNumber] at hf
  refine lv_aload_n hx hb dX6_readNumber_0 rfl (lv_at hl 0 rfl) ?_
  obtain ⟨y1, hc, hf⟩ := bd_of hf
  refine g_cVv (Cn := RX6) C (ct_X6_nextToken g l N a0 v0 hc) gX6_readNumber_X6_nextToken rfl 0 (by decide +kernel) ⟨rfl, rfl, ⟨Nat.le_of_ble_eq_true rfl, Nat.le_of_ble_eq_true rfl⟩, Nat.le_of_ble_eq_true rfl, Nat.le_of_ble_eq_true rfl⟩ rfl hl (Nat.le_of_ble_eq_true rfl) dX6_readNumber_1 rfl hW hA [0] rfl rfl rfl (ch' := [kX6 g a0 y1]) rfl 0 rfl rfl rfl (fun H locs hW => ?_)
  refine lv_aload_n hx hb dX6_readNumber_4 rfl (lv_at hl 0 rfl) ?_
  refine g_get C hW inX6 0 rfl rfl rfl 4 (by decide) (List.mem_of_getElem? (i := 1) rfl) (v := .int (y1 4 0)) rfl dX6_readNumber_5 ?_
  refine lv_bipush (v := (48 : Int32)) hx hb dX6_readNumber_8 (by decide) ?_
  refine lv_icmp_ne (tgt := 33) hx hb dX6_readNumber_10 (by decide) (fun h => ?_) (fun h => ?_)
  · replace hf := (if_neg h).symm.trans hf
    refine lv_iconst (v := (0 : Int32)) hx hb dX6_readNumber_33 (by decide) ?_
    obtain rfl := Option.some.inj hf
    subst hQ
    exact g_zret C hr hk0 hW rfl rfl rfl dX6_readNumber_34
  · replace hf := (if_pos h).symm.trans hf
    refine lv_aload_n hx hb dX6_readNumber_13 rfl (lv_at hl 0 rfl) ?_
    refine g_get C hW inX6 0 rfl rfl rfl 5 (by decide) (List.mem_of_getElem? (i := 2) rfl) (v := .int (y1 5 0)) rfl dX6_readNumber_14 ?_
    refine lv_iload_n hx hb dX6_readNumber_17 rfl (lv_at hl 1 rfl) ?_
    refine lv_icmp_lt (tgt := 33) hx hb dX6_readNumber_18 (by decide) (fun h => ?_) (fun h => ?_)
    · replace hf := (if_pos h).symm.trans hf
      refine lv_iconst (v := (0 : Int32)) hx hb dX6_readNumber_33 (by decide) ?_
      obtain rfl := Option.some.inj hf
      subst hQ
      exact g_zret C hr hk0 hW rfl rfl rfl dX6_readNumber_34
    · replace hf := (if_neg h).symm.trans hf
      refine lv_aload_n hx hb dX6_readNumber_21 rfl (lv_at hl 0 rfl) ?_
      refine g_get C hW inX6 0 rfl rfl rfl 5 (by decide) (List.mem_of_getElem? (i := 2) rfl) (v := .int (y1 5 0)) rfl dX6_readNumber_22 ?_
      refine lv_iload_n hx hb dX6_readNumber_25 rfl (lv_at hl 2 rfl) ?_
      refine lv_icmp_gt (tgt := 33) hx hb dX6_readNumber_26 (by decide) (fun h => ?_) (fun h => ?_)
      · replace hf := (if_pos h).symm.trans hf
        refine lv_iconst (v := (0 : Int32)) hx hb dX6_readNumber_33 (by decide) ?_
        obtain rfl := Option.some.inj hf
        subst hQ
        exact g_zret C hr hk0 hW rfl rfl rfl dX6_readNumber_34
      · replace hf := (if_neg h).symm.trans hf
        refine lv_iconst (v := (1 : Int32)) hx hb dX6_readNumber_29 (by decide) ?_
        refine lv_goto (tgt := 34) hx hb dX6_readNumber_30 (by decide) ?_
        obtain rfl := Option.some.inj hf
        subst hQ
        exact g_zret C hr hk0 hW rfl rfl rfl dX6_readNumber_34
def fX6_readEnd (N : Nat) (v0 : MM) : Option (Int32 × MM) := ((fX6_nextToken N v0).bind (fun y1 => (if (y1 4 0) = (59 : Int32) then some ((1 : Int32), y1) else some ((0 : Int32), y1))))
set_option maxHeartbeats 4000000 in
set_option maxRecDepth 100000 in
theorem ct_X6_readEnd (g : GT) (l : Launch) (N : Nat) (a0 : Nat → Nat) (v0 : MM) {y : Int32 × MM} (hf : fX6_readEnd N v0 = some y) : ct g l yX6_readEnd wsX6_readEnd (rmk 3 63) [.ref (a0 0)] [kX6 g a0 v0] (some (.int y.1)) [kX6 g a0 y.2] := by
  refine ct_of (cc := cX6_readEnd) (maxL := 1) (ret := (some .boolean)) (by decide) rfl (Nat.le_of_ble_eq_true rfl) ?_
  intro p e s m args below meth c A ls C hr hk0 hA hW hl
  have hx := C.1.1
  have hb := C.1.2.1
  replace hl : lv_has ls 1 [(0, .ref (a0 0))] := hl
  obtain ⟨Q, hQ⟩ : ∃ Q, Q = MQ below (ctQ g A (some (.int y.1)) [kX6 g a0 y.2]) args s 0 0 A := ⟨_, rfl⟩
  rw [← hQ]
  obtain ⟨H, hH⟩ : ∃ H, H = s.heap := ⟨_, rfl⟩
  obtain ⟨locs, hL⟩ : ∃ locs : List Loc, locs = [] := ⟨_, rfl⟩
  replace hW : wd g A s.heap [kX6 g a0 v0] H locs := by rw [hH, hL]; exact hW
  suffices hG : W p l e (rmk 3 63) s m args below meth c H locs 0 0 Q (F0 m 0 ls []) by
    rw [hH, hL] at hG; exact hG
  clear hH hL
  have inX6 : ∀ w ∈ wsX60, w ∈ wsX6_readEnd := fun _ h => List.mem_cons_of_mem _ (List.mem_append_right _ (h))
  rw [fX6_readEnd] at hf
  refine lv_aload_n hx hb dX6_readEnd_0 rfl (lv_at hl 0 rfl) ?_
  obtain ⟨y1, hc, hf⟩ := bd_of hf
  refine g_cVv (Cn := RX6) C (ct_X6_nextToken g l N a0 v0 hc) gX6_readEnd_X6_nextToken rfl 0 (by decide +kernel) ⟨rfl, rfl, ⟨Nat.le_of_ble_eq_true rfl, Nat.le_of_ble_eq_true rfl⟩, Nat.le_of_ble_eq_true rfl, Nat.le_of_ble_eq_true rfl⟩ rfl hl (Nat.le_of_ble_eq_true rfl) dX6_readEnd_1 rfl hW hA [0] rfl rfl rfl (ch' := [kX6 g a0 y1]) rfl 0 rfl rfl rfl (fun H locs hW => ?_)
  refine lv_aload_n hx hb dX6_readEnd_4 rfl (lv_at hl 0 rfl) ?_
  refine g_get C hW inX6 0 rfl rfl rfl 4 (by decide) (List.mem_of_getElem? (i := 1) rfl) (v := .int (y1 4 0)) rfl dX6_readEnd_5 ?_
  refine lv_bipush (v := (59 : Int32)) hx hb dX6_readEnd_8 (by decide) ?_
  refine lv_icmp_ne (tgt := 17) hx hb dX6_readEnd_10 (by decide) (fun h => ?_) (fun h => ?_)
  · replace hf := (if_neg h).symm.trans hf
    refine lv_iconst (v := (0 : Int32)) hx hb dX6_readEnd_17 (by decide) ?_
    obtain rfl := Option.some.inj hf
    subst hQ
    exact g_zret C hr hk0 hW rfl rfl rfl dX6_readEnd_18
  · replace hf := (if_pos h).symm.trans hf
    refine lv_iconst (v := (1 : Int32)) hx hb dX6_readEnd_13 (by decide) ?_
    refine lv_goto (tgt := 18) hx hb dX6_readEnd_14 (by decide) ?_
    obtain rfl := Option.some.inj hf
    subst hQ
    exact g_zret C hr hk0 hW rfl rfl rfl dX6_readEnd_18
def fX6_readBackAndTries (N : Nat) (v0 : MM) (v1 : MM) : Option (Int32 × MM × MM) := ((fX6_readNumber N (1 : Int32) (6 : Int32) v0).bind (fun y1 => (if y1.1 = 0 then some ((0 : Int32), y1.2, v1) else ((fX6_readNumber N (1 : Int32) (4 : Int32) y1.2).bind (fun y2 => (if y2.1 = 0 then some ((0 : Int32), y2.2, (st v1 4 (fun _ => (y1.2 5 0)))) else some ((1 : Int32), y2.2, (st (st v1 4 (fun _ => (y1.2 5 0))) 5 (fun _ => (y2.2 5 0))))))))))
set_option maxHeartbeats 4000000 in
set_option maxRecDepth 100000 in
theorem ct_X6_readBackAndTries (g : GT) (l : Launch) (N : Nat) (a0 : Nat → Nat) (a1 : Nat → Nat) (v0 : MM) (v1 : MM) {y : Int32 × MM × MM} (hf : fX6_readBackAndTries N v0 v1 = some y) : ct g l yX6_readBackAndTries wsX6_readBackAndTries (rmk 4 85) [.ref (a0 0), .ref (a1 0)] [kX6 g a0 v0, kX3 g a1 v1] (some (.int y.1)) [kX6 g a0 y.2.1, kX3 g a1 y.2.2] := by
  refine ct_of (cc := cX6_readBackAndTries) (maxL := 2) (ret := (some .boolean)) (by decide) rfl (Nat.le_of_ble_eq_true rfl) ?_
  intro p e s m args below meth c A ls C hr hk0 hA hW hl
  have hx := C.1.1
  have hb := C.1.2.1
  replace hl : lv_has ls 2 [(0, .ref (a0 0)), (1, .ref (a1 0))] := hl
  obtain ⟨Q, hQ⟩ : ∃ Q, Q = MQ below (ctQ g A (some (.int y.1)) [kX6 g a0 y.2.1, kX3 g a1 y.2.2]) args s 0 0 A := ⟨_, rfl⟩
  rw [← hQ]
  obtain ⟨H, hH⟩ : ∃ H, H = s.heap := ⟨_, rfl⟩
  obtain ⟨locs, hL⟩ : ∃ locs : List Loc, locs = [] := ⟨_, rfl⟩
  replace hW : wd g A s.heap [kX6 g a0 v0, kX3 g a1 v1] H locs := by rw [hH, hL]; exact hW
  suffices hG : W p l e (rmk 4 85) s m args below meth c H locs 0 0 Q (F0 m 0 ls []) by
    rw [hH, hL] at hG; exact hG
  clear hH hL
  have inX3 : ∀ w ∈ wsX30, w ∈ wsX6_readBackAndTries := fun _ h => List.mem_cons_of_mem _ (List.mem_append_right _ (h))
  have inX6 : ∀ w ∈ wsX60, w ∈ wsX6_readBackAndTries := fun _ h => List.mem_cons_of_mem _ (List.mem_append_left _ (List.mem_append_right _ (h)))
  rw [fX6_readBackAndTries] at hf
  refine lv_aload_n hx hb dX6_readBackAndTries_0 rfl (lv_at hl 0 rfl) ?_
  refine lv_iconst (v := (1 : Int32)) hx hb dX6_readBackAndTries_1 (by decide) ?_
  refine lv_bipush (v := (6 : Int32)) hx hb dX6_readBackAndTries_2 (by decide) ?_
  obtain ⟨y1, hc, hf⟩ := bd_of hf
  refine g_cV (Cn := RX6) C (ct_X6_readNumber g l N a0 (1 : Int32) (6 : Int32) v0 hc) gX6_readBackAndTries_X6_readNumber rfl 2 (by decide +kernel) ⟨rfl, rfl, ⟨Nat.le_of_ble_eq_true rfl, Nat.le_of_ble_eq_true rfl⟩, Nat.le_of_ble_eq_true rfl, Nat.le_of_ble_eq_true rfl⟩ rfl hl (Nat.le_of_ble_eq_true rfl) dX6_readBackAndTries_4 rfl hW hA [0] rfl rfl rfl (ch' := [kX6 g a0 y1.2, kX3 g a1 v1]) rfl 0 rfl rfl rfl (fun H locs hW => ?_)
  refine lv_if_ne (tgt := 12) hx hb dX6_readBackAndTries_7 (by decide) (fun h => ?_) (fun h => ?_)
  · replace hf := (if_neg h).symm.trans hf
    refine lv_aload_n hx hb dX6_readBackAndTries_12 rfl (lv_at hl 1 rfl) ?_
    refine lv_aload_n hx hb dX6_readBackAndTries_13 rfl (lv_at hl 0 rfl) ?_
    refine g_get C hW inX6 0 rfl rfl rfl 5 (by decide) (List.mem_of_getElem? (i := 1) rfl) (v := .int (y1.2 5 0)) rfl dX6_readBackAndTries_14 ?_
    refine g_put C hW inX3 tyX3_ok nmX3 1 rfl rfl rfl 4 (by decide) (List.mem_of_getElem? (i := 2) rfl) rfl rfl rfl rfl (kX3_s4 g a1 v1 (y1.2 5 0)) (ch' := [kX6 g a0 y1.2, kX3 g a1 (st v1 4 (fun _ => (y1.2 5 0)))]) rfl dX6_readBackAndTries_17 (fun H locs hW => ?_)
    refine lv_aload_n hx hb dX6_readBackAndTries_20 rfl (lv_at hl 0 rfl) ?_
    refine lv_iconst (v := (1 : Int32)) hx hb dX6_readBackAndTries_21 (by decide) ?_
    refine lv_iconst (v := (4 : Int32)) hx hb dX6_readBackAndTries_22 (by decide) ?_
    obtain ⟨y2, hc, hf⟩ := bd_of hf
    refine g_cV (Cn := RX6) C (ct_X6_readNumber g l N a0 (1 : Int32) (4 : Int32) y1.2 hc) gX6_readBackAndTries_X6_readNumber rfl 2 (by decide +kernel) ⟨rfl, rfl, ⟨Nat.le_of_ble_eq_true rfl, Nat.le_of_ble_eq_true rfl⟩, Nat.le_of_ble_eq_true rfl, Nat.le_of_ble_eq_true rfl⟩ rfl hl (Nat.le_of_ble_eq_true rfl) dX6_readBackAndTries_23 rfl hW hA [0] rfl rfl rfl (ch' := [kX6 g a0 y2.2, kX3 g a1 (st v1 4 (fun _ => (y1.2 5 0)))]) rfl 0 rfl rfl rfl (fun H locs hW => ?_)
    refine lv_if_ne (tgt := 31) hx hb dX6_readBackAndTries_26 (by decide) (fun h => ?_) (fun h => ?_)
    · replace hf := (if_neg h).symm.trans hf
      refine lv_aload_n hx hb dX6_readBackAndTries_31 rfl (lv_at hl 1 rfl) ?_
      refine lv_aload_n hx hb dX6_readBackAndTries_32 rfl (lv_at hl 0 rfl) ?_
      refine g_get C hW inX6 0 rfl rfl rfl 5 (by decide) (List.mem_of_getElem? (i := 1) rfl) (v := .int (y2.2 5 0)) rfl dX6_readBackAndTries_33 ?_
      refine g_put C hW inX3 tyX3_ok nmX3 1 rfl rfl rfl 5 (by decide) (List.mem_of_getElem? (i := 3) rfl) rfl rfl rfl rfl (kX3_s5 g a1 (st v1 4 (fun _ => (y1.2 5 0))) (y2.2 5 0)) (ch' := [kX6 g a0 y2.2, kX3 g a1 (st (st v1 4 (fun _ => (y1.2 5 0))) 5 (fun _ => (y2.2 5 0)))]) rfl dX6_readBackAndTries_36 (fun H locs hW => ?_)
      refine lv_iconst (v := (1 : Int32)) hx hb dX6_readBackAndTries_39 (by decide) ?_
      obtain rfl := Option.some.inj hf
      subst hQ
      exact g_zret C hr hk0 hW rfl rfl rfl dX6_readBackAndTries_40
    · replace hf := (if_pos h).symm.trans hf
      refine lv_iconst (v := (0 : Int32)) hx hb dX6_readBackAndTries_29 (by decide) ?_
      obtain rfl := Option.some.inj hf
      subst hQ
      exact g_zret C hr hk0 hW rfl rfl rfl dX6_readBackAndTries_30
  · replace hf := (if_pos h).symm.trans hf
    refine lv_iconst (v := (0 : Int32)) hx hb dX6_readBackAndTries_10 (by decide) ?_
    obtain rfl := Option.some.inj hf
    subst hQ
    exact g_zret C hr hk0 hW rfl rfl rfl dX6_readBackAndTries_11
def fX6_readBan (N : Nat) (v0 : MM) (v1 : MM) : Option (Int32 × MM × MM) := ((fX6_readNumber N (0 : Int32) (9 : Int32) v0).bind (fun y1 => (if y1.1 = 0 then some ((0 : Int32), y1.2, v1) else some ((1 : Int32), y1.2, (st v1 3 (fun _ => (y1.2 5 0)))))))
set_option maxHeartbeats 4000000 in
set_option maxRecDepth 100000 in
theorem ct_X6_readBan (g : GT) (l : Launch) (N : Nat) (a0 : Nat → Nat) (a1 : Nat → Nat) (v0 : MM) (v1 : MM) {y : Int32 × MM × MM} (hf : fX6_readBan N v0 v1 = some y) : ct g l yX6_readBan wsX6_readBan (rmk 4 85) [.ref (a0 0), .ref (a1 0)] [kX6 g a0 v0, kX3 g a1 v1] (some (.int y.1)) [kX6 g a0 y.2.1, kX3 g a1 y.2.2] := by
  refine ct_of (cc := cX6_readBan) (maxL := 2) (ret := (some .boolean)) (by decide) rfl (Nat.le_of_ble_eq_true rfl) ?_
  intro p e s m args below meth c A ls C hr hk0 hA hW hl
  have hx := C.1.1
  have hb := C.1.2.1
  replace hl : lv_has ls 2 [(0, .ref (a0 0)), (1, .ref (a1 0))] := hl
  obtain ⟨Q, hQ⟩ : ∃ Q, Q = MQ below (ctQ g A (some (.int y.1)) [kX6 g a0 y.2.1, kX3 g a1 y.2.2]) args s 0 0 A := ⟨_, rfl⟩
  rw [← hQ]
  obtain ⟨H, hH⟩ : ∃ H, H = s.heap := ⟨_, rfl⟩
  obtain ⟨locs, hL⟩ : ∃ locs : List Loc, locs = [] := ⟨_, rfl⟩
  replace hW : wd g A s.heap [kX6 g a0 v0, kX3 g a1 v1] H locs := by rw [hH, hL]; exact hW
  suffices hG : W p l e (rmk 4 85) s m args below meth c H locs 0 0 Q (F0 m 0 ls []) by
    rw [hH, hL] at hG; exact hG
  clear hH hL
  have inX3 : ∀ w ∈ wsX30, w ∈ wsX6_readBan := fun _ h => List.mem_cons_of_mem _ (List.mem_append_right _ (h))
  have inX6 : ∀ w ∈ wsX60, w ∈ wsX6_readBan := fun _ h => List.mem_cons_of_mem _ (List.mem_append_left _ (List.mem_append_right _ (h)))
  rw [fX6_readBan] at hf
  refine lv_aload_n hx hb dX6_readBan_0 rfl (lv_at hl 0 rfl) ?_
  refine lv_iconst (v := (0 : Int32)) hx hb dX6_readBan_1 (by decide) ?_
  refine lv_bipush (v := (9 : Int32)) hx hb dX6_readBan_2 (by decide) ?_
  obtain ⟨y1, hc, hf⟩ := bd_of hf
  refine g_cV (Cn := RX6) C (ct_X6_readNumber g l N a0 (0 : Int32) (9 : Int32) v0 hc) gX6_readBan_X6_readNumber rfl 2 (by decide +kernel) ⟨rfl, rfl, ⟨Nat.le_of_ble_eq_true rfl, Nat.le_of_ble_eq_true rfl⟩, Nat.le_of_ble_eq_true rfl, Nat.le_of_ble_eq_true rfl⟩ rfl hl (Nat.le_of_ble_eq_true rfl) dX6_readBan_4 rfl hW hA [0] rfl rfl rfl (ch' := [kX6 g a0 y1.2, kX3 g a1 v1]) rfl 0 rfl rfl rfl (fun H locs hW => ?_)
  refine lv_if_ne (tgt := 12) hx hb dX6_readBan_7 (by decide) (fun h => ?_) (fun h => ?_)
  · replace hf := (if_neg h).symm.trans hf
    refine lv_aload_n hx hb dX6_readBan_12 rfl (lv_at hl 1 rfl) ?_
    refine lv_aload_n hx hb dX6_readBan_13 rfl (lv_at hl 0 rfl) ?_
    refine g_get C hW inX6 0 rfl rfl rfl 5 (by decide) (List.mem_of_getElem? (i := 1) rfl) (v := .int (y1.2 5 0)) rfl dX6_readBan_14 ?_
    refine g_put C hW inX3 tyX3_ok nmX3 1 rfl rfl rfl 3 (by decide) (List.mem_of_getElem? (i := 2) rfl) rfl rfl rfl rfl (kX3_s3 g a1 v1 (y1.2 5 0)) (ch' := [kX6 g a0 y1.2, kX3 g a1 (st v1 3 (fun _ => (y1.2 5 0)))]) rfl dX6_readBan_17 (fun H locs hW => ?_)
    refine lv_iconst (v := (1 : Int32)) hx hb dX6_readBan_20 (by decide) ?_
    obtain rfl := Option.some.inj hf
    subst hQ
    exact g_zret C hr hk0 hW rfl rfl rfl dX6_readBan_21
  · replace hf := (if_pos h).symm.trans hf
    refine lv_iconst (v := (0 : Int32)) hx hb dX6_readBan_10 (by decide) ?_
    obtain rfl := Option.some.inj hf
    subst hQ
    exact g_zret C hr hk0 hW rfl rfl rfl dX6_readBan_11
def fX6_readRoom (N : Nat) (v0 : MM) (v1 : MM) : Option (Int32 × MM × MM) := ((fX6_readNumber N (0 : Int32) (60 : Int32) v0).bind (fun y1 => (if y1.1 = 0 then some ((0 : Int32), y1.2, v1) else some ((1 : Int32), y1.2, (st v1 2 (fun _ => (y1.2 5 0)))))))
set_option maxHeartbeats 4000000 in
set_option maxRecDepth 100000 in
theorem ct_X6_readRoom (g : GT) (l : Launch) (N : Nat) (a0 : Nat → Nat) (a1 : Nat → Nat) (v0 : MM) (v1 : MM) {y : Int32 × MM × MM} (hf : fX6_readRoom N v0 v1 = some y) : ct g l yX6_readRoom wsX6_readRoom (rmk 4 85) [.ref (a0 0), .ref (a1 0)] [kX6 g a0 v0, kX3 g a1 v1] (some (.int y.1)) [kX6 g a0 y.2.1, kX3 g a1 y.2.2] := by
  refine ct_of (cc := cX6_readRoom) (maxL := 2) (ret := (some .boolean)) (by decide) rfl (Nat.le_of_ble_eq_true rfl) ?_
  intro p e s m args below meth c A ls C hr hk0 hA hW hl
  have hx := C.1.1
  have hb := C.1.2.1
  replace hl : lv_has ls 2 [(0, .ref (a0 0)), (1, .ref (a1 0))] := hl
  obtain ⟨Q, hQ⟩ : ∃ Q, Q = MQ below (ctQ g A (some (.int y.1)) [kX6 g a0 y.2.1, kX3 g a1 y.2.2]) args s 0 0 A := ⟨_, rfl⟩
  rw [← hQ]
  obtain ⟨H, hH⟩ : ∃ H, H = s.heap := ⟨_, rfl⟩
  obtain ⟨locs, hL⟩ : ∃ locs : List Loc, locs = [] := ⟨_, rfl⟩
  replace hW : wd g A s.heap [kX6 g a0 v0, kX3 g a1 v1] H locs := by rw [hH, hL]; exact hW
  suffices hG : W p l e (rmk 4 85) s m args below meth c H locs 0 0 Q (F0 m 0 ls []) by
    rw [hH, hL] at hG; exact hG
  clear hH hL
  have inX3 : ∀ w ∈ wsX30, w ∈ wsX6_readRoom := fun _ h => List.mem_cons_of_mem _ (List.mem_append_right _ (h))
  have inX6 : ∀ w ∈ wsX60, w ∈ wsX6_readRoom := fun _ h => List.mem_cons_of_mem _ (List.mem_append_left _ (List.mem_append_right _ (h)))
  rw [fX6_readRoom] at hf
  refine lv_aload_n hx hb dX6_readRoom_0 rfl (lv_at hl 0 rfl) ?_
  refine lv_iconst (v := (0 : Int32)) hx hb dX6_readRoom_1 (by decide) ?_
  refine lv_bipush (v := (60 : Int32)) hx hb dX6_readRoom_2 (by decide) ?_
  obtain ⟨y1, hc, hf⟩ := bd_of hf
  refine g_cV (Cn := RX6) C (ct_X6_readNumber g l N a0 (0 : Int32) (60 : Int32) v0 hc) gX6_readRoom_X6_readNumber rfl 2 (by decide +kernel) ⟨rfl, rfl, ⟨Nat.le_of_ble_eq_true rfl, Nat.le_of_ble_eq_true rfl⟩, Nat.le_of_ble_eq_true rfl, Nat.le_of_ble_eq_true rfl⟩ rfl hl (Nat.le_of_ble_eq_true rfl) dX6_readRoom_4 rfl hW hA [0] rfl rfl rfl (ch' := [kX6 g a0 y1.2, kX3 g a1 v1]) rfl 0 rfl rfl rfl (fun H locs hW => ?_)
  refine lv_if_ne (tgt := 12) hx hb dX6_readRoom_7 (by decide) (fun h => ?_) (fun h => ?_)
  · replace hf := (if_neg h).symm.trans hf
    refine lv_aload_n hx hb dX6_readRoom_12 rfl (lv_at hl 1 rfl) ?_
    refine lv_aload_n hx hb dX6_readRoom_13 rfl (lv_at hl 0 rfl) ?_
    refine g_get C hW inX6 0 rfl rfl rfl 5 (by decide) (List.mem_of_getElem? (i := 1) rfl) (v := .int (y1.2 5 0)) rfl dX6_readRoom_14 ?_
    refine g_put C hW inX3 tyX3_ok nmX3 1 rfl rfl rfl 2 (by decide) (List.mem_of_getElem? (i := 2) rfl) rfl rfl rfl rfl (kX3_s2 g a1 v1 (y1.2 5 0)) (ch' := [kX6 g a0 y1.2, kX3 g a1 (st v1 2 (fun _ => (y1.2 5 0)))]) rfl dX6_readRoom_17 (fun H locs hW => ?_)
    refine lv_iconst (v := (1 : Int32)) hx hb dX6_readRoom_20 (by decide) ?_
    obtain rfl := Option.some.inj hf
    subst hQ
    exact g_zret C hr hk0 hW rfl rfl rfl dX6_readRoom_21
  · replace hf := (if_pos h).symm.trans hf
    refine lv_iconst (v := (0 : Int32)) hx hb dX6_readRoom_10 (by decide) ?_
    obtain rfl := Option.some.inj hf
    subst hQ
    exact g_zret C hr hk0 hW rfl rfl rfl dX6_readRoom_11
def fX6_readClass (N : Nat) (v0 : MM) (v1 : MM) : Option (Int32 × MM × MM) := (if (6 : Int32) ≤ (v1 1 0) then some ((0 : Int32), v0, v1) else ((fX6_readNumber N (0 : Int32) ((v1 0 0) - (1 : Int32)) v0).bind (fun y1 => (if y1.1 = 0 then some ((0 : Int32), y1.2, v1) else (if ib (v1 1 0) 6 = true then ((fX6_readNumber N (0 : Int32) (9 : Int32) y1.2).bind (fun y2 => (if y2.1 = 0 then some ((0 : Int32), y2.2, (st v1 7 (upd (v1 7) (Int32.toNatClampNeg (v1 1 0)) (y1.2 5 0)))) else (if ib (v1 1 0) 6 = true then ((fX6_readNumber N (0 : Int32) (20 : Int32) y2.2).bind (fun y3 => (if y3.1 = 0 then some ((0 : Int32), y3.2, (st (st v1 7 (upd (v1 7) (Int32.toNatClampNeg (v1 1 0)) (y1.2 5 0))) 8 (upd (v1 8) (Int32.toNatClampNeg (v1 1 0)) (y2.2 5 0)))) else (if ib (v1 1 0) 6 = true then ((fX6_readNumber N (0 : Int32) (60 : Int32) y3.2).bind (fun y4 => (if y4.1 = 0 then some ((0 : Int32), y4.2, (st (st (st v1 7 (upd (v1 7) (Int32.toNatClampNeg (v1 1 0)) (y1.2 5 0))) 8 (upd (v1 8) (Int32.toNatClampNeg (v1 1 0)) (y2.2 5 0))) 9 (upd (v1 9) (Int32.toNatClampNeg (v1 1 0)) (y3.2 5 0)))) else (if ib (v1 1 0) 6 = true then some ((1 : Int32), y4.2, (st (st (st (st (st v1 7 (upd (v1 7) (Int32.toNatClampNeg (v1 1 0)) (y1.2 5 0))) 8 (upd (v1 8) (Int32.toNatClampNeg (v1 1 0)) (y2.2 5 0))) 9 (upd (v1 9) (Int32.toNatClampNeg (v1 1 0)) (y3.2 5 0))) 10 (upd (v1 10) (Int32.toNatClampNeg (v1 1 0)) (y4.2 5 0))) 1 (fun _ => ((v1 1 0) + (1 : Int32))))) else none)))) else none)))) else none)))) else none)))))
set_option maxHeartbeats 4000000 in
set_option maxRecDepth 100000 in
theorem ct_X6_readClass (g : GT) (l : Launch) (N : Nat) (a0 : Nat → Nat) (a1 : Nat → Nat) (v0 : MM) (v1 : MM) {y : Int32 × MM × MM} (hf : fX6_readClass N v0 v1 = some y) : ct g l yX6_readClass wsX6_readClass (rmk 4 85) [.ref (a0 0), .ref (a1 0)] [kX6 g a0 v0, kX3 g a1 v1] (some (.int y.1)) [kX6 g a0 y.2.1, kX3 g a1 y.2.2] := by
  refine ct_of (cc := cX6_readClass) (maxL := 3) (ret := (some .boolean)) (by decide) rfl (Nat.le_of_ble_eq_true rfl) ?_
  intro p e s m args below meth c A ls C hr hk0 hA hW hl
  have hx := C.1.1
  have hb := C.1.2.1
  replace hl : lv_has ls 3 [(0, .ref (a0 0)), (1, .ref (a1 0))] := hl
  obtain ⟨Q, hQ⟩ : ∃ Q, Q = MQ below (ctQ g A (some (.int y.1)) [kX6 g a0 y.2.1, kX3 g a1 y.2.2]) args s 0 0 A := ⟨_, rfl⟩
  rw [← hQ]
  obtain ⟨H, hH⟩ : ∃ H, H = s.heap := ⟨_, rfl⟩
  obtain ⟨locs, hL⟩ : ∃ locs : List Loc, locs = [] := ⟨_, rfl⟩
  replace hW : wd g A s.heap [kX6 g a0 v0, kX3 g a1 v1] H locs := by rw [hH, hL]; exact hW
  suffices hG : W p l e (rmk 4 85) s m args below meth c H locs 0 0 Q (F0 m 0 ls []) by
    rw [hH, hL] at hG; exact hG
  clear hH hL
  have inX3 : ∀ w ∈ wsX30, w ∈ wsX6_readClass := fun _ h => List.mem_cons_of_mem _ (List.mem_append_left _ (List.mem_append_right _ (h)))
  have inX6 : ∀ w ∈ wsX60, w ∈ wsX6_readClass := fun _ h => List.mem_cons_of_mem _ (List.mem_append_right _ (h))
  rw [fX6_readClass] at hf
  refine lv_aload_n hx hb dX6_readClass_0 rfl (lv_at hl 1 rfl) ?_
  refine g_get C hW inX3 1 rfl rfl rfl 1 (by decide) (List.mem_of_getElem? (i := 1) rfl) (v := .int (v1 1 0)) rfl dX6_readClass_1 ?_
  refine lv_istore_n (lv' := [(2, .int (v1 1 0)), (0, .ref (a0 0)), (1, .ref (a1 0))]) hx hb dX6_readClass_4 rfl hl (by decide) rfl (fun ls hl => ?_)
  refine lv_iload_n hx hb dX6_readClass_5 rfl (lv_at hl 0 rfl) ?_
  refine lv_bipush (v := (6 : Int32)) hx hb dX6_readClass_6 (by decide) ?_
  refine lv_icmp_ge (tgt := 25) hx hb dX6_readClass_8 (by decide) (fun h => ?_) (fun h => ?_)
  · replace hf := (if_pos h).symm.trans hf
    refine lv_iconst (v := (0 : Int32)) hx hb dX6_readClass_25 (by decide) ?_
    obtain rfl := Option.some.inj hf
    subst hQ
    exact g_zret C hr hk0 hW rfl rfl rfl dX6_readClass_26
  · replace hf := (if_neg h).symm.trans hf
    refine lv_aload_n hx hb dX6_readClass_11 rfl (lv_at hl 1 rfl) ?_
    refine lv_iconst (v := (0 : Int32)) hx hb dX6_readClass_12 (by decide) ?_
    refine lv_aload_n hx hb dX6_readClass_13 rfl (lv_at hl 2 rfl) ?_
    refine g_get C hW inX3 1 rfl rfl rfl 0 (by decide) (List.mem_of_getElem? (i := 2) rfl) (v := .int (v1 0 0)) rfl dX6_readClass_14 ?_
    refine lv_iconst (v := (1 : Int32)) hx hb dX6_readClass_17 (by decide) ?_
    refine lv_isub hx hb dX6_readClass_18 ?_
    obtain ⟨y1, hc, hf⟩ := bd_of hf
    refine g_cV (Cn := RX6) C (ct_X6_readNumber g l N a0 (0 : Int32) ((v1 0 0) - (1 : Int32)) v0 hc) gX6_readClass_X6_readNumber rfl 2 (by decide +kernel) ⟨rfl, rfl, ⟨Nat.le_of_ble_eq_true rfl, Nat.le_of_ble_eq_true rfl⟩, Nat.le_of_ble_eq_true rfl, Nat.le_of_ble_eq_true rfl⟩ rfl hl (Nat.le_of_ble_eq_true rfl) dX6_readClass_19 rfl hW hA [0] rfl rfl rfl (ch' := [kX6 g a0 y1.2, kX3 g a1 v1]) rfl 0 rfl rfl rfl (fun H locs hW => ?_)
    refine lv_if_ne (tgt := 27) hx hb dX6_readClass_22 (by decide) (fun h => ?_) (fun h => ?_)
    · replace hf := (if_neg h).symm.trans hf
      refine lv_aload_n hx hb dX6_readClass_27 rfl (lv_at hl 2 rfl) ?_
      refine g_get C hW inX3 1 rfl rfl rfl 7 (by decide) (List.mem_of_getElem? (i := 3) rfl) (v := .ref (a1 2)) rfl dX6_readClass_28 ?_
      refine lv_iload_n hx hb dX6_readClass_31 rfl (lv_at hl 0 rfl) ?_
      refine lv_aload_n hx hb dX6_readClass_32 rfl (lv_at hl 1 rfl) ?_
      refine g_get C hW inX6 0 rfl rfl rfl 5 (by decide) (List.mem_of_getElem? (i := 4) rfl) (v := .int (y1.2 5 0)) rfl dX6_readClass_33 ?_
      obtain ⟨hi, hf⟩ := gd_of hf
      refine g_iast C hW 1 2 rfl (f := (v1 7)) rfl (ib_in hi) (kX3_w7 g a1 v1 (upd (v1 7) (Int32.toNatClampNeg (v1 1 0)) (y1.2 5 0))) (ch' := [kX6 g a0 y1.2, kX3 g a1 (st v1 7 (upd (v1 7) (Int32.toNatClampNeg (v1 1 0)) (y1.2 5 0)))]) rfl dX6_readClass_36 (fun H locs hW => ?_)
      refine lv_aload_n hx hb dX6_readClass_37 rfl (lv_at hl 1 rfl) ?_
      refine lv_iconst (v := (0 : Int32)) hx hb dX6_readClass_38 (by decide) ?_
      refine lv_bipush (v := (9 : Int32)) hx hb dX6_readClass_39 (by decide) ?_
      obtain ⟨y2, hc, hf⟩ := bd_of hf
      refine g_cV (Cn := RX6) C (ct_X6_readNumber g l N a0 (0 : Int32) (9 : Int32) y1.2 hc) gX6_readClass_X6_readNumber rfl 2 (by decide +kernel) ⟨rfl, rfl, ⟨Nat.le_of_ble_eq_true rfl, Nat.le_of_ble_eq_true rfl⟩, Nat.le_of_ble_eq_true rfl, Nat.le_of_ble_eq_true rfl⟩ rfl hl (Nat.le_of_ble_eq_true rfl) dX6_readClass_41 rfl hW hA [0] rfl rfl rfl (ch' := [kX6 g a0 y2.2, kX3 g a1 (st v1 7 (upd (v1 7) (Int32.toNatClampNeg (v1 1 0)) (y1.2 5 0)))]) rfl 0 rfl rfl rfl (fun H locs hW => ?_)
      refine lv_if_ne (tgt := 49) hx hb dX6_readClass_44 (by decide) (fun h => ?_) (fun h => ?_)
      · replace hf := (if_neg h).symm.trans hf
        refine lv_aload_n hx hb dX6_readClass_49 rfl (lv_at hl 2 rfl) ?_
        refine g_get C hW inX3 1 rfl rfl rfl 8 (by decide) (List.mem_of_getElem? (i := 5) rfl) (v := .ref (a1 3)) rfl dX6_readClass_50 ?_
        refine lv_iload_n hx hb dX6_readClass_53 rfl (lv_at hl 0 rfl) ?_
        refine lv_aload_n hx hb dX6_readClass_54 rfl (lv_at hl 1 rfl) ?_
        refine g_get C hW inX6 0 rfl rfl rfl 5 (by decide) (List.mem_of_getElem? (i := 4) rfl) (v := .int (y2.2 5 0)) rfl dX6_readClass_55 ?_
        obtain ⟨hi, hf⟩ := gd_of hf
        refine g_iast C hW 1 3 rfl (f := (v1 8)) rfl (ib_in hi) (kX3_w8 g a1 (st v1 7 (upd (v1 7) (Int32.toNatClampNeg (v1 1 0)) (y1.2 5 0))) (upd (v1 8) (Int32.toNatClampNeg (v1 1 0)) (y2.2 5 0))) (ch' := [kX6 g a0 y2.2, kX3 g a1 (st (st v1 7 (upd (v1 7) (Int32.toNatClampNeg (v1 1 0)) (y1.2 5 0))) 8 (upd (v1 8) (Int32.toNatClampNeg (v1 1 0)) (y2.2 5 0)))]) rfl dX6_readClass_58 (fun H locs hW => ?_)
        refine lv_aload_n hx hb dX6_readClass_59 rfl (lv_at hl 1 rfl) ?_
        refine lv_iconst (v := (0 : Int32)) hx hb dX6_readClass_60 (by decide) ?_
        refine lv_bipush (v := (20 : Int32)) hx hb dX6_readClass_61 (by decide) ?_
        obtain ⟨y3, hc, hf⟩ := bd_of hf
        refine g_cV (Cn := RX6) C (ct_X6_readNumber g l N a0 (0 : Int32) (20 : Int32) y2.2 hc) gX6_readClass_X6_readNumber rfl 2 (by decide +kernel) ⟨rfl, rfl, ⟨Nat.le_of_ble_eq_true rfl, Nat.le_of_ble_eq_true rfl⟩, Nat.le_of_ble_eq_true rfl, Nat.le_of_ble_eq_true rfl⟩ rfl hl (Nat.le_of_ble_eq_true rfl) dX6_readClass_63 rfl hW hA [0] rfl rfl rfl (ch' := [kX6 g a0 y3.2, kX3 g a1 (st (st v1 7 (upd (v1 7) (Int32.toNatClampNeg (v1 1 0)) (y1.2 5 0))) 8 (upd (v1 8) (Int32.toNatClampNeg (v1 1 0)) (y2.2 5 0)))]) rfl 0 rfl rfl rfl (fun H locs hW => ?_)
        refine lv_if_ne (tgt := 71) hx hb dX6_readClass_66 (by decide) (fun h => ?_) (fun h => ?_)
        · replace hf := (if_neg h).symm.trans hf
          refine lv_aload_n hx hb dX6_readClass_71 rfl (lv_at hl 2 rfl) ?_
          refine g_get C hW inX3 1 rfl rfl rfl 9 (by decide) (List.mem_of_getElem? (i := 6) rfl) (v := .ref (a1 4)) rfl dX6_readClass_72 ?_
          refine lv_iload_n hx hb dX6_readClass_75 rfl (lv_at hl 0 rfl) ?_
          refine lv_aload_n hx hb dX6_readClass_76 rfl (lv_at hl 1 rfl) ?_
          refine g_get C hW inX6 0 rfl rfl rfl 5 (by decide) (List.mem_of_getElem? (i := 4) rfl) (v := .int (y3.2 5 0)) rfl dX6_readClass_77 ?_
          obtain ⟨hi, hf⟩ := gd_of hf
          refine g_iast C hW 1 4 rfl (f := (v1 9)) rfl (ib_in hi) (kX3_w9 g a1 (st (st v1 7 (upd (v1 7) (Int32.toNatClampNeg (v1 1 0)) (y1.2 5 0))) 8 (upd (v1 8) (Int32.toNatClampNeg (v1 1 0)) (y2.2 5 0))) (upd (v1 9) (Int32.toNatClampNeg (v1 1 0)) (y3.2 5 0))) (ch' := [kX6 g a0 y3.2, kX3 g a1 (st (st (st v1 7 (upd (v1 7) (Int32.toNatClampNeg (v1 1 0)) (y1.2 5 0))) 8 (upd (v1 8) (Int32.toNatClampNeg (v1 1 0)) (y2.2 5 0))) 9 (upd (v1 9) (Int32.toNatClampNeg (v1 1 0)) (y3.2 5 0)))]) rfl dX6_readClass_80 (fun H locs hW => ?_)
          refine lv_aload_n hx hb dX6_readClass_81 rfl (lv_at hl 1 rfl) ?_
          refine lv_iconst (v := (0 : Int32)) hx hb dX6_readClass_82 (by decide) ?_
          refine lv_bipush (v := (60 : Int32)) hx hb dX6_readClass_83 (by decide) ?_
          obtain ⟨y4, hc, hf⟩ := bd_of hf
          refine g_cV (Cn := RX6) C (ct_X6_readNumber g l N a0 (0 : Int32) (60 : Int32) y3.2 hc) gX6_readClass_X6_readNumber rfl 2 (by decide +kernel) ⟨rfl, rfl, ⟨Nat.le_of_ble_eq_true rfl, Nat.le_of_ble_eq_true rfl⟩, Nat.le_of_ble_eq_true rfl, Nat.le_of_ble_eq_true rfl⟩ rfl hl (Nat.le_of_ble_eq_true rfl) dX6_readClass_85 rfl hW hA [0] rfl rfl rfl (ch' := [kX6 g a0 y4.2, kX3 g a1 (st (st (st v1 7 (upd (v1 7) (Int32.toNatClampNeg (v1 1 0)) (y1.2 5 0))) 8 (upd (v1 8) (Int32.toNatClampNeg (v1 1 0)) (y2.2 5 0))) 9 (upd (v1 9) (Int32.toNatClampNeg (v1 1 0)) (y3.2 5 0)))]) rfl 0 rfl rfl rfl (fun H locs hW => ?_)
          refine lv_if_ne (tgt := 93) hx hb dX6_readClass_88 (by decide) (fun h => ?_) (fun h => ?_)
          · replace hf := (if_neg h).symm.trans hf
            refine lv_aload_n hx hb dX6_readClass_93 rfl (lv_at hl 2 rfl) ?_
            refine g_get C hW inX3 1 rfl rfl rfl 10 (by decide) (List.mem_of_getElem? (i := 7) rfl) (v := .ref (a1 5)) rfl dX6_readClass_94 ?_
            refine lv_iload_n hx hb dX6_readClass_97 rfl (lv_at hl 0 rfl) ?_
            refine lv_aload_n hx hb dX6_readClass_98 rfl (lv_at hl 1 rfl) ?_
            refine g_get C hW inX6 0 rfl rfl rfl 5 (by decide) (List.mem_of_getElem? (i := 4) rfl) (v := .int (y4.2 5 0)) rfl dX6_readClass_99 ?_
            obtain ⟨hi, hf⟩ := gd_of hf
            refine g_iast C hW 1 5 rfl (f := (v1 10)) rfl (ib_in hi) (kX3_w10 g a1 (st (st (st v1 7 (upd (v1 7) (Int32.toNatClampNeg (v1 1 0)) (y1.2 5 0))) 8 (upd (v1 8) (Int32.toNatClampNeg (v1 1 0)) (y2.2 5 0))) 9 (upd (v1 9) (Int32.toNatClampNeg (v1 1 0)) (y3.2 5 0))) (upd (v1 10) (Int32.toNatClampNeg (v1 1 0)) (y4.2 5 0))) (ch' := [kX6 g a0 y4.2, kX3 g a1 (st (st (st (st v1 7 (upd (v1 7) (Int32.toNatClampNeg (v1 1 0)) (y1.2 5 0))) 8 (upd (v1 8) (Int32.toNatClampNeg (v1 1 0)) (y2.2 5 0))) 9 (upd (v1 9) (Int32.toNatClampNeg (v1 1 0)) (y3.2 5 0))) 10 (upd (v1 10) (Int32.toNatClampNeg (v1 1 0)) (y4.2 5 0)))]) rfl dX6_readClass_102 (fun H locs hW => ?_)
            refine lv_aload_n hx hb dX6_readClass_103 rfl (lv_at hl 2 rfl) ?_
            refine lv_iload_n hx hb dX6_readClass_104 rfl (lv_at hl 0 rfl) ?_
            refine lv_iconst (v := (1 : Int32)) hx hb dX6_readClass_105 (by decide) ?_
            refine lv_iadd hx hb dX6_readClass_106 ?_
            refine g_put C hW inX3 tyX3_ok nmX3 1 rfl rfl rfl 1 (by decide) (List.mem_of_getElem? (i := 1) rfl) rfl rfl rfl rfl (kX3_s1 g a1 (st (st (st (st v1 7 (upd (v1 7) (Int32.toNatClampNeg (v1 1 0)) (y1.2 5 0))) 8 (upd (v1 8) (Int32.toNatClampNeg (v1 1 0)) (y2.2 5 0))) 9 (upd (v1 9) (Int32.toNatClampNeg (v1 1 0)) (y3.2 5 0))) 10 (upd (v1 10) (Int32.toNatClampNeg (v1 1 0)) (y4.2 5 0))) ((v1 1 0) + (1 : Int32))) (ch' := [kX6 g a0 y4.2, kX3 g a1 (st (st (st (st (st v1 7 (upd (v1 7) (Int32.toNatClampNeg (v1 1 0)) (y1.2 5 0))) 8 (upd (v1 8) (Int32.toNatClampNeg (v1 1 0)) (y2.2 5 0))) 9 (upd (v1 9) (Int32.toNatClampNeg (v1 1 0)) (y3.2 5 0))) 10 (upd (v1 10) (Int32.toNatClampNeg (v1 1 0)) (y4.2 5 0))) 1 (fun _ => ((v1 1 0) + (1 : Int32))))]) rfl dX6_readClass_107 (fun H locs hW => ?_)
            refine lv_iconst (v := (1 : Int32)) hx hb dX6_readClass_110 (by decide) ?_
            obtain rfl := Option.some.inj hf
            subst hQ
            exact g_zret C hr hk0 hW rfl rfl rfl dX6_readClass_111
          · replace hf := (if_pos h).symm.trans hf
            refine lv_iconst (v := (0 : Int32)) hx hb dX6_readClass_91 (by decide) ?_
            obtain rfl := Option.some.inj hf
            subst hQ
            exact g_zret C hr hk0 hW rfl rfl rfl dX6_readClass_92
        · replace hf := (if_pos h).symm.trans hf
          refine lv_iconst (v := (0 : Int32)) hx hb dX6_readClass_69 (by decide) ?_
          obtain rfl := Option.some.inj hf
          subst hQ
          exact g_zret C hr hk0 hW rfl rfl rfl dX6_readClass_70
      · replace hf := (if_pos h).symm.trans hf
        refine lv_iconst (v := (0 : Int32)) hx hb dX6_readClass_47 (by decide) ?_
        obtain rfl := Option.some.inj hf
        subst hQ
        exact g_zret C hr hk0 hW rfl rfl rfl dX6_readClass_48
    · replace hf := (if_pos h).symm.trans hf
      refine lv_iconst (v := (0 : Int32)) hx hb dX6_readClass_25 (by decide) ?_
      obtain rfl := Option.some.inj hf
      subst hQ
      exact g_zret C hr hk0 hW rfl rfl rfl dX6_readClass_26
def fX6_readTerminal (N : Nat) (v0 : MM) (v1 : MM) : Option (Int32 × MM × MM) := (if (3 : Int32) ≤ (v1 0 0) then some ((0 : Int32), v0, v1) else ((fX6_readNumber N (1 : Int32) (9 : Int32) v0).bind (fun y1 => (if y1.1 = 0 then some ((0 : Int32), y1.2, v1) else (if ib (v1 0 0) 3 = true then some ((1 : Int32), y1.2, (st (st v1 6 (upd (v1 6) (Int32.toNatClampNeg (v1 0 0)) (y1.2 5 0))) 0 (fun _ => ((v1 0 0) + (1 : Int32))))) else none)))))
set_option maxHeartbeats 4000000 in
set_option maxRecDepth 100000 in
theorem ct_X6_readTerminal (g : GT) (l : Launch) (N : Nat) (a0 : Nat → Nat) (a1 : Nat → Nat) (v0 : MM) (v1 : MM) {y : Int32 × MM × MM} (hf : fX6_readTerminal N v0 v1 = some y) : ct g l yX6_readTerminal wsX6_readTerminal (rmk 4 85) [.ref (a0 0), .ref (a1 0)] [kX6 g a0 v0, kX3 g a1 v1] (some (.int y.1)) [kX6 g a0 y.2.1, kX3 g a1 y.2.2] := by
  refine ct_of (cc := cX6_readTerminal) (maxL := 3) (ret := (some .boolean)) (by decide) rfl (Nat.le_of_ble_eq_true rfl) ?_
  intro p e s m args below meth c A ls C hr hk0 hA hW hl
  have hx := C.1.1
  have hb := C.1.2.1
  replace hl : lv_has ls 3 [(0, .ref (a0 0)), (1, .ref (a1 0))] := hl
  obtain ⟨Q, hQ⟩ : ∃ Q, Q = MQ below (ctQ g A (some (.int y.1)) [kX6 g a0 y.2.1, kX3 g a1 y.2.2]) args s 0 0 A := ⟨_, rfl⟩
  rw [← hQ]
  obtain ⟨H, hH⟩ : ∃ H, H = s.heap := ⟨_, rfl⟩
  obtain ⟨locs, hL⟩ : ∃ locs : List Loc, locs = [] := ⟨_, rfl⟩
  replace hW : wd g A s.heap [kX6 g a0 v0, kX3 g a1 v1] H locs := by rw [hH, hL]; exact hW
  suffices hG : W p l e (rmk 4 85) s m args below meth c H locs 0 0 Q (F0 m 0 ls []) by
    rw [hH, hL] at hG; exact hG
  clear hH hL
  have inX3 : ∀ w ∈ wsX30, w ∈ wsX6_readTerminal := fun _ h => List.mem_cons_of_mem _ (List.mem_append_left _ (List.mem_append_right _ (h)))
  have inX6 : ∀ w ∈ wsX60, w ∈ wsX6_readTerminal := fun _ h => List.mem_cons_of_mem _ (List.mem_append_right _ (h))
  rw [fX6_readTerminal] at hf
  refine lv_aload_n hx hb dX6_readTerminal_0 rfl (lv_at hl 1 rfl) ?_
  refine g_get C hW inX3 1 rfl rfl rfl 0 (by decide) (List.mem_of_getElem? (i := 1) rfl) (v := .int (v1 0 0)) rfl dX6_readTerminal_1 ?_
  refine lv_istore_n (lv' := [(2, .int (v1 0 0)), (0, .ref (a0 0)), (1, .ref (a1 0))]) hx hb dX6_readTerminal_4 rfl hl (by decide) rfl (fun ls hl => ?_)
  refine lv_iload_n hx hb dX6_readTerminal_5 rfl (lv_at hl 0 rfl) ?_
  refine lv_iconst (v := (3 : Int32)) hx hb dX6_readTerminal_6 (by decide) ?_
  refine lv_icmp_ge (tgt := 20) hx hb dX6_readTerminal_7 (by decide) (fun h => ?_) (fun h => ?_)
  · replace hf := (if_pos h).symm.trans hf
    refine lv_iconst (v := (0 : Int32)) hx hb dX6_readTerminal_20 (by decide) ?_
    obtain rfl := Option.some.inj hf
    subst hQ
    exact g_zret C hr hk0 hW rfl rfl rfl dX6_readTerminal_21
  · replace hf := (if_neg h).symm.trans hf
    refine lv_aload_n hx hb dX6_readTerminal_10 rfl (lv_at hl 1 rfl) ?_
    refine lv_iconst (v := (1 : Int32)) hx hb dX6_readTerminal_11 (by decide) ?_
    refine lv_bipush (v := (9 : Int32)) hx hb dX6_readTerminal_12 (by decide) ?_
    obtain ⟨y1, hc, hf⟩ := bd_of hf
    refine g_cV (Cn := RX6) C (ct_X6_readNumber g l N a0 (1 : Int32) (9 : Int32) v0 hc) gX6_readTerminal_X6_readNumber rfl 2 (by decide +kernel) ⟨rfl, rfl, ⟨Nat.le_of_ble_eq_true rfl, Nat.le_of_ble_eq_true rfl⟩, Nat.le_of_ble_eq_true rfl, Nat.le_of_ble_eq_true rfl⟩ rfl hl (Nat.le_of_ble_eq_true rfl) dX6_readTerminal_14 rfl hW hA [0] rfl rfl rfl (ch' := [kX6 g a0 y1.2, kX3 g a1 v1]) rfl 0 rfl rfl rfl (fun H locs hW => ?_)
    refine lv_if_ne (tgt := 22) hx hb dX6_readTerminal_17 (by decide) (fun h => ?_) (fun h => ?_)
    · replace hf := (if_neg h).symm.trans hf
      refine lv_aload_n hx hb dX6_readTerminal_22 rfl (lv_at hl 2 rfl) ?_
      refine g_get C hW inX3 1 rfl rfl rfl 6 (by decide) (List.mem_of_getElem? (i := 2) rfl) (v := .ref (a1 1)) rfl dX6_readTerminal_23 ?_
      refine lv_iload_n hx hb dX6_readTerminal_26 rfl (lv_at hl 0 rfl) ?_
      refine lv_aload_n hx hb dX6_readTerminal_27 rfl (lv_at hl 1 rfl) ?_
      refine g_get C hW inX6 0 rfl rfl rfl 5 (by decide) (List.mem_of_getElem? (i := 3) rfl) (v := .int (y1.2 5 0)) rfl dX6_readTerminal_28 ?_
      obtain ⟨hi, hf⟩ := gd_of hf
      refine g_iast C hW 1 1 rfl (f := (v1 6)) rfl (ib_in hi) (kX3_w6 g a1 v1 (upd (v1 6) (Int32.toNatClampNeg (v1 0 0)) (y1.2 5 0))) (ch' := [kX6 g a0 y1.2, kX3 g a1 (st v1 6 (upd (v1 6) (Int32.toNatClampNeg (v1 0 0)) (y1.2 5 0)))]) rfl dX6_readTerminal_31 (fun H locs hW => ?_)
      refine lv_aload_n hx hb dX6_readTerminal_32 rfl (lv_at hl 2 rfl) ?_
      refine lv_iload_n hx hb dX6_readTerminal_33 rfl (lv_at hl 0 rfl) ?_
      refine lv_iconst (v := (1 : Int32)) hx hb dX6_readTerminal_34 (by decide) ?_
      refine lv_iadd hx hb dX6_readTerminal_35 ?_
      refine g_put C hW inX3 tyX3_ok nmX3 1 rfl rfl rfl 0 (by decide) (List.mem_of_getElem? (i := 1) rfl) rfl rfl rfl rfl (kX3_s0 g a1 (st v1 6 (upd (v1 6) (Int32.toNatClampNeg (v1 0 0)) (y1.2 5 0))) ((v1 0 0) + (1 : Int32))) (ch' := [kX6 g a0 y1.2, kX3 g a1 (st (st v1 6 (upd (v1 6) (Int32.toNatClampNeg (v1 0 0)) (y1.2 5 0))) 0 (fun _ => ((v1 0 0) + (1 : Int32))))]) rfl dX6_readTerminal_36 (fun H locs hW => ?_)
      refine lv_iconst (v := (1 : Int32)) hx hb dX6_readTerminal_39 (by decide) ?_
      obtain rfl := Option.some.inj hf
      subst hQ
      exact g_zret C hr hk0 hW rfl rfl rfl dX6_readTerminal_40
    · replace hf := (if_pos h).symm.trans hf
      refine lv_iconst (v := (0 : Int32)) hx hb dX6_readTerminal_20 (by decide) ?_
      obtain rfl := Option.some.inj hf
      subst hQ
      exact g_zret C hr hk0 hW rfl rfl rfl dX6_readTerminal_21
def fX6_readInto_L11 (N : Nat) (k : Int32 → MM → MM → Option (Int32 × MM × MM)) : Nat → Int32 → MM → MM → Option (Int32 × MM × MM)
  | 0, _, _, _ => none
  | n + 1, x2, v0, v1 => (if (120 : Int32) < x2 then k x2 v0 v1 else ((fX6_nextToken N v0).bind (fun y2 => (if (y2 4 0) = (46 : Int32) then some (x2, y2, v1) else (if (y2 4 0) = (98 : Int32) then ((fX6_readBan N y2 v1).bind (fun y3 => (if y3.1 = 0 then some (((-10 : Int32) - (y3.2.1 3 0)), y3.2.1, y3.2.2) else ((fX6_readEnd N y3.2.1).bind (fun y4 => (if y4.1 = 0 then some (((-10 : Int32) - (y4.2 3 0)), y4.2, y3.2.2) else fX6_readInto_L11 N k n (x2 + 1) y4.2 y3.2.2)))))) else (if (y2 4 0) = (99 : Int32) then ((fX6_readClass N y2 v1).bind (fun y5 => (if y5.1 = 0 then some (((-10 : Int32) - (y5.2.1 3 0)), y5.2.1, y5.2.2) else ((fX6_readEnd N y5.2.1).bind (fun y6 => (if y6.1 = 0 then some (((-10 : Int32) - (y6.2 3 0)), y6.2, y5.2.2) else fX6_readInto_L11 N k n (x2 + 1) y6.2 y5.2.2)))))) else (if (y2 4 0) = (114 : Int32) then ((fX6_readBackAndTries N y2 v1).bind (fun y7 => (if y7.1 = 0 then some (((-10 : Int32) - (y7.2.1 3 0)), y7.2.1, y7.2.2) else ((fX6_readEnd N y7.2.1).bind (fun y8 => (if y8.1 = 0 then some (((-10 : Int32) - (y8.2 3 0)), y8.2, y7.2.2) else fX6_readInto_L11 N k n (x2 + 1) y8.2 y7.2.2)))))) else (if (y2 4 0) = (115 : Int32) then ((fX6_readRoom N y2 v1).bind (fun y9 => (if y9.1 = 0 then some (((-10 : Int32) - (y9.2.1 3 0)), y9.2.1, y9.2.2) else ((fX6_readEnd N y9.2.1).bind (fun y10 => (if y10.1 = 0 then some (((-10 : Int32) - (y10.2 3 0)), y10.2, y9.2.2) else fX6_readInto_L11 N k n (x2 + 1) y10.2 y9.2.2)))))) else (if (y2 4 0) = (116 : Int32) then ((fX6_readTerminal N y2 v1).bind (fun y11 => (if y11.1 = 0 then some (((-10 : Int32) - (y11.2.1 3 0)), y11.2.1, y11.2.2) else ((fX6_readEnd N y11.2.1).bind (fun y12 => (if y12.1 = 0 then some (((-10 : Int32) - (y12.2 3 0)), y12.2, y11.2.2) else fX6_readInto_L11 N k n (x2 + 1) y12.2 y11.2.2)))))) else some (((-10 : Int32) - (y2 3 0)), y2, v1))))))))))
def fX6_readInto (N : Nat) (v0 : MM) (v1 : MM) : Option (Int32 × MM × MM) := ((fX3_begin N v1).bind (fun y1 => (fX6_readInto_L11 N (fun (x2_13 : Int32) (v0_13 : MM) (v1_13 : MM) => some (((-10 : Int32) - (v0_13 3 0)), v0_13, v1_13)) N (0 : Int32) (st v0 2 (fun _ => (0 : Int32))) y1)))
set_option maxHeartbeats 4000000 in
set_option maxRecDepth 100000 in
theorem ct_X6_readInto (g : GT) (l : Launch) (N : Nat) (a0 : Nat → Nat) (a1 : Nat → Nat) (v0 : MM) (v1 : MM) {y : Int32 × MM × MM} (hf : fX6_readInto N v0 v1 = some y) : ct g l yX6_readInto wsX6_readInto (rmk 5 107) [.ref (a0 0), .ref (a1 0)] [kX6 g a0 v0, kX3 g a1 v1] (some (.int y.1)) [kX6 g a0 y.2.1, kX3 g a1 y.2.2] := by
  refine ct_of (cc := cX6_readInto) (maxL := 4) (ret := (some .int)) (by decide) rfl (Nat.le_of_ble_eq_true rfl) ?_
  intro p e s m args below meth c A ls C hr hk0 hA hW hl
  have hx := C.1.1
  have hb := C.1.2.1
  replace hl : lv_has ls 4 [(0, .ref (a0 0)), (1, .ref (a1 0))] := hl
  obtain ⟨Q, hQ⟩ : ∃ Q, Q = MQ below (ctQ g A (some (.int y.1)) [kX6 g a0 y.2.1, kX3 g a1 y.2.2]) args s 0 0 A := ⟨_, rfl⟩
  rw [← hQ]
  obtain ⟨H, hH⟩ : ∃ H, H = s.heap := ⟨_, rfl⟩
  obtain ⟨locs, hL⟩ : ∃ locs : List Loc, locs = [] := ⟨_, rfl⟩
  replace hW : wd g A s.heap [kX6 g a0 v0, kX3 g a1 v1] H locs := by rw [hH, hL]; exact hW
  suffices hG : W p l e (rmk 5 107) s m args below meth c H locs 0 0 Q (F0 m 0 ls []) by
    rw [hH, hL] at hG; exact hG
  clear hH hL
  have inX6 : ∀ w ∈ wsX60, w ∈ wsX6_readInto := fun _ h => List.mem_cons_of_mem _ (List.mem_append_left _ (List.mem_append_right _ (h)))
  have L11 : ∀ (k : Int32 → MM → MM → Option (Int32 × MM × MM)) (hk : ∀ (x2 : Int32) (v0 : MM) (v1 : MM) (H : Heap) (locs : List Loc) (ls : Array Slot), k x2 v0 v1 = some y → wd g A s.heap [kX6 g a0 v0, kX3 g a1 v1] H locs → lv_has ls 4 [(0, .ref (a0 0)), (1, .ref (a1 0)), (2, .int x2)] → W p l e (rmk 5 107) s m args below meth c H locs 0 0 Q (F0 m 156 ls [])) (n : Nat) (x2 : Int32) (v0 : MM) (v1 : MM) (H : Heap) (locs : List Loc) (ls : Array Slot), fX6_readInto_L11 N k n x2 v0 v1 = some y → wd g A s.heap [kX6 g a0 v0, kX3 g a1 v1] H locs → lv_has ls 4 [(0, .ref (a0 0)), (1, .ref (a1 0)), (2, .int x2)] → W p l e (rmk 5 107) s m args below meth c H locs 0 0 Q (F0 m 11 ls []) := by
    intro k hk n
    induction n with
    | zero => intro x2 v0 v1 H locs ls hf; rw [fX6_readInto_L11] at hf; cases hf
    | succ n ih =>
      intro x2 v0 v1 H locs ls hf hW hl
      rw [fX6_readInto_L11] at hf
      refine lv_iload_n hx hb dX6_readInto_11 rfl (lv_at hl 2 rfl) ?_
      refine lv_bipush (v := (120 : Int32)) hx hb dX6_readInto_12 (by decide) ?_
      refine lv_icmp_gt (tgt := 156) hx hb dX6_readInto_14 (by decide) (fun h => ?_) (fun h => ?_)
      · replace hf := (if_pos h).symm.trans hf
        exact hk _ _ _ H locs ls hf hW (lv_sub hl [0, 1, 2] rfl)
      · replace hf := (if_neg h).symm.trans hf
        refine lv_aload_n hx hb dX6_readInto_17 rfl (lv_at hl 0 rfl) ?_
        obtain ⟨y2, hc, hf⟩ := bd_of hf
        refine g_cVv (Cn := RX6) C (ct_X6_nextToken g l N a0 v0 hc) gX6_readInto_X6_nextToken rfl 0 (by decide +kernel) ⟨rfl, rfl, ⟨Nat.le_of_ble_eq_true rfl, Nat.le_of_ble_eq_true rfl⟩, Nat.le_of_ble_eq_true rfl, Nat.le_of_ble_eq_true rfl⟩ rfl hl (Nat.le_of_ble_eq_true rfl) dX6_readInto_18 rfl hW hA [0] rfl rfl rfl (ch' := [kX6 g a0 y2, kX3 g a1 v1]) rfl 0 rfl rfl rfl (fun H locs hW => ?_)
        refine lv_iconst (v := (0 : Int32)) hx hb dX6_readInto_21 (by decide) ?_
        refine lv_istore_n (lv' := [(3, .int (0 : Int32)), (0, .ref (a0 0)), (1, .ref (a1 0)), (2, .int x2)]) hx hb dX6_readInto_22 rfl hl (by decide) rfl (fun ls hl => ?_)
        refine lv_aload_n hx hb dX6_readInto_23 rfl (lv_at hl 1 rfl) ?_
        refine g_get C hW inX6 0 rfl rfl rfl 4 (by decide) (List.mem_of_getElem? (i := 2) rfl) (v := .int (y2 4 0)) rfl dX6_readInto_24 ?_
        rcases Decidable.em ((y2 4 0) = (46 : Int32)) with h46 | h46
        · replace hf := (if_pos h46).symm.trans hf
          refine lv_lookup (off := 57) hx hb dX6_readInto_27 (by decide) (by rw [h46]; decide) (tgt := 84) (by decide) ?_
          refine lv_iload_n hx hb dX6_readInto_84 rfl (lv_at hl 3 rfl) ?_
          obtain rfl := Option.some.inj hf
          subst hQ
          exact g_iret C hr hk0 hW rfl rfl dX6_readInto_85
        replace hf := (if_neg h46).symm.trans hf
        rcases Decidable.em ((y2 4 0) = (98 : Int32)) with h98 | h98
        · replace hf := (if_pos h98).symm.trans hf
          refine lv_lookup (off := 86) hx hb dX6_readInto_27 (by decide) (by rw [h98]; decide) (tgt := 113) (by decide) ?_
          refine lv_aload_n hx hb dX6_readInto_113 rfl (lv_at hl 1 rfl) ?_
          refine lv_aload_n hx hb dX6_readInto_114 rfl (lv_at hl 2 rfl) ?_
          obtain ⟨y3, hc, hf⟩ := bd_of hf
          refine g_cV (Cn := RX6) C (ct_X6_readBan g l N a0 a1 y2 v1 hc) gX6_readInto_X6_readBan rfl 1 (by decide +kernel) ⟨rfl, rfl, ⟨Nat.le_of_ble_eq_true rfl, Nat.le_of_ble_eq_true rfl⟩, Nat.le_of_ble_eq_true rfl, Nat.le_of_ble_eq_true rfl⟩ rfl hl (Nat.le_of_ble_eq_true rfl) dX6_readInto_115 rfl hW hA [0, 1] rfl rfl rfl (ch' := [kX6 g a0 y3.2.1, kX3 g a1 y3.2.2]) rfl 0 rfl rfl rfl (fun H locs hW => ?_)
          refine lv_istore_n (lv' := [(3, .int y3.1), (0, .ref (a0 0)), (1, .ref (a1 0)), (2, .int x2)]) hx hb dX6_readInto_118 rfl hl (by decide) rfl (fun ls hl => ?_)
          refine lv_goto (tgt := 131) hx hb dX6_readInto_119 (by decide) ?_
          refine lv_iload_n hx hb dX6_readInto_131 rfl (lv_at hl 0 rfl) ?_
          refine lv_if_eq (tgt := 142) hx hb dX6_readInto_132 (by decide) (fun h => ?_) (fun h => ?_)
          · replace hf := (if_pos h).symm.trans hf
            refine lv_bipush (v := (-10 : Int32)) hx hb dX6_readInto_142 (by decide) ?_
            refine lv_aload_n hx hb dX6_readInto_144 rfl (lv_at hl 1 rfl) ?_
            refine g_get C hW inX6 0 rfl rfl rfl 3 (by decide) (List.mem_of_getElem? (i := 3) rfl) (v := .int (y3.2.1 3 0)) rfl dX6_readInto_145 ?_
            refine lv_isub hx hb dX6_readInto_148 ?_
            obtain rfl := Option.some.inj hf
            subst hQ
            exact g_iret C hr hk0 hW rfl rfl dX6_readInto_149
          · replace hf := (if_neg h).symm.trans hf
            refine lv_aload_n hx hb dX6_readInto_135 rfl (lv_at hl 1 rfl) ?_
            obtain ⟨y4, hc, hf⟩ := bd_of hf
            refine g_cV (Cn := RX6) C (ct_X6_readEnd g l N a0 y3.2.1 hc) gX6_readInto_X6_readEnd rfl 0 (by decide +kernel) ⟨rfl, rfl, ⟨Nat.le_of_ble_eq_true rfl, Nat.le_of_ble_eq_true rfl⟩, Nat.le_of_ble_eq_true rfl, Nat.le_of_ble_eq_true rfl⟩ rfl hl (Nat.le_of_ble_eq_true rfl) dX6_readInto_136 rfl hW hA [0] rfl rfl rfl (ch' := [kX6 g a0 y4.2, kX3 g a1 y3.2.2]) rfl 0 rfl rfl rfl (fun H locs hW => ?_)
            refine lv_if_ne (tgt := 150) hx hb dX6_readInto_139 (by decide) (fun h => ?_) (fun h => ?_)
            · replace hf := (if_neg h).symm.trans hf
              refine lv_iinc (v := (x2 + 1)) (lv' := [(2, .int (x2 + 1)), (3, .int y3.1), (0, .ref (a0 0)), (1, .ref (a1 0))]) hx hb dX6_readInto_150 hl (k := 3) rfl (by first | rfl | decide) (by decide) rfl (fun ls hl => ?_)
              refine lv_goto (tgt := 11) hx hb dX6_readInto_153 (by decide) ?_
              exact ih _ _ _ H locs ls hf hW (lv_sub hl [2, 3, 0] rfl)
            · replace hf := (if_pos h).symm.trans hf
              refine lv_bipush (v := (-10 : Int32)) hx hb dX6_readInto_142 (by decide) ?_
              refine lv_aload_n hx hb dX6_readInto_144 rfl (lv_at hl 1 rfl) ?_
              refine g_get C hW inX6 0 rfl rfl rfl 3 (by decide) (List.mem_of_getElem? (i := 3) rfl) (v := .int (y4.2 3 0)) rfl dX6_readInto_145 ?_
              refine lv_isub hx hb dX6_readInto_148 ?_
              obtain rfl := Option.some.inj hf
              subst hQ
              exact g_iret C hr hk0 hW rfl rfl dX6_readInto_149
        replace hf := (if_neg h98).symm.trans hf
        rcases Decidable.em ((y2 4 0) = (99 : Int32)) with h99 | h99
        · replace hf := (if_pos h99).symm.trans hf
          refine lv_lookup (off := 68) hx hb dX6_readInto_27 (by decide) (by rw [h99]; decide) (tgt := 95) (by decide) ?_
          refine lv_aload_n hx hb dX6_readInto_95 rfl (lv_at hl 1 rfl) ?_
          refine lv_aload_n hx hb dX6_readInto_96 rfl (lv_at hl 2 rfl) ?_
          obtain ⟨y5, hc, hf⟩ := bd_of hf
          refine g_cV (Cn := RX6) C (ct_X6_readClass g l N a0 a1 y2 v1 hc) gX6_readInto_X6_readClass rfl 1 (by decide +kernel) ⟨rfl, rfl, ⟨Nat.le_of_ble_eq_true rfl, Nat.le_of_ble_eq_true rfl⟩, Nat.le_of_ble_eq_true rfl, Nat.le_of_ble_eq_true rfl⟩ rfl hl (Nat.le_of_ble_eq_true rfl) dX6_readInto_97 rfl hW hA [0, 1] rfl rfl rfl (ch' := [kX6 g a0 y5.2.1, kX3 g a1 y5.2.2]) rfl 0 rfl rfl rfl (fun H locs hW => ?_)
          refine lv_istore_n (lv' := [(3, .int y5.1), (0, .ref (a0 0)), (1, .ref (a1 0)), (2, .int x2)]) hx hb dX6_readInto_100 rfl hl (by decide) rfl (fun ls hl => ?_)
          refine lv_goto (tgt := 131) hx hb dX6_readInto_101 (by decide) ?_
          refine lv_iload_n hx hb dX6_readInto_131 rfl (lv_at hl 0 rfl) ?_
          refine lv_if_eq (tgt := 142) hx hb dX6_readInto_132 (by decide) (fun h => ?_) (fun h => ?_)
          · replace hf := (if_pos h).symm.trans hf
            refine lv_bipush (v := (-10 : Int32)) hx hb dX6_readInto_142 (by decide) ?_
            refine lv_aload_n hx hb dX6_readInto_144 rfl (lv_at hl 1 rfl) ?_
            refine g_get C hW inX6 0 rfl rfl rfl 3 (by decide) (List.mem_of_getElem? (i := 3) rfl) (v := .int (y5.2.1 3 0)) rfl dX6_readInto_145 ?_
            refine lv_isub hx hb dX6_readInto_148 ?_
            obtain rfl := Option.some.inj hf
            subst hQ
            exact g_iret C hr hk0 hW rfl rfl dX6_readInto_149
          · replace hf := (if_neg h).symm.trans hf
            refine lv_aload_n hx hb dX6_readInto_135 rfl (lv_at hl 1 rfl) ?_
            obtain ⟨y6, hc, hf⟩ := bd_of hf
            refine g_cV (Cn := RX6) C (ct_X6_readEnd g l N a0 y5.2.1 hc) gX6_readInto_X6_readEnd rfl 0 (by decide +kernel) ⟨rfl, rfl, ⟨Nat.le_of_ble_eq_true rfl, Nat.le_of_ble_eq_true rfl⟩, Nat.le_of_ble_eq_true rfl, Nat.le_of_ble_eq_true rfl⟩ rfl hl (Nat.le_of_ble_eq_true rfl) dX6_readInto_136 rfl hW hA [0] rfl rfl rfl (ch' := [kX6 g a0 y6.2, kX3 g a1 y5.2.2]) rfl 0 rfl rfl rfl (fun H locs hW => ?_)
            refine lv_if_ne (tgt := 150) hx hb dX6_readInto_139 (by decide) (fun h => ?_) (fun h => ?_)
            · replace hf := (if_neg h).symm.trans hf
              refine lv_iinc (v := (x2 + 1)) (lv' := [(2, .int (x2 + 1)), (3, .int y5.1), (0, .ref (a0 0)), (1, .ref (a1 0))]) hx hb dX6_readInto_150 hl (k := 3) rfl (by first | rfl | decide) (by decide) rfl (fun ls hl => ?_)
              refine lv_goto (tgt := 11) hx hb dX6_readInto_153 (by decide) ?_
              exact ih _ _ _ H locs ls hf hW (lv_sub hl [2, 3, 0] rfl)
            · replace hf := (if_pos h).symm.trans hf
              refine lv_bipush (v := (-10 : Int32)) hx hb dX6_readInto_142 (by decide) ?_
              refine lv_aload_n hx hb dX6_readInto_144 rfl (lv_at hl 1 rfl) ?_
              refine g_get C hW inX6 0 rfl rfl rfl 3 (by decide) (List.mem_of_getElem? (i := 3) rfl) (v := .int (y6.2 3 0)) rfl dX6_readInto_145 ?_
              refine lv_isub hx hb dX6_readInto_148 ?_
              obtain rfl := Option.some.inj hf
              subst hQ
              exact g_iret C hr hk0 hW rfl rfl dX6_readInto_149
        replace hf := (if_neg h99).symm.trans hf
        rcases Decidable.em ((y2 4 0) = (114 : Int32)) with h114 | h114
        · replace hf := (if_pos h114).symm.trans hf
          refine lv_lookup (off := 95) hx hb dX6_readInto_27 (by decide) (by rw [h114]; decide) (tgt := 122) (by decide) ?_
          refine lv_aload_n hx hb dX6_readInto_122 rfl (lv_at hl 1 rfl) ?_
          refine lv_aload_n hx hb dX6_readInto_123 rfl (lv_at hl 2 rfl) ?_
          obtain ⟨y7, hc, hf⟩ := bd_of hf
          refine g_cV (Cn := RX6) C (ct_X6_readBackAndTries g l N a0 a1 y2 v1 hc) gX6_readInto_X6_readBackAndTries rfl 1 (by decide +kernel) ⟨rfl, rfl, ⟨Nat.le_of_ble_eq_true rfl, Nat.le_of_ble_eq_true rfl⟩, Nat.le_of_ble_eq_true rfl, Nat.le_of_ble_eq_true rfl⟩ rfl hl (Nat.le_of_ble_eq_true rfl) dX6_readInto_124 rfl hW hA [0, 1] rfl rfl rfl (ch' := [kX6 g a0 y7.2.1, kX3 g a1 y7.2.2]) rfl 0 rfl rfl rfl (fun H locs hW => ?_)
          refine lv_istore_n (lv' := [(3, .int y7.1), (0, .ref (a0 0)), (1, .ref (a1 0)), (2, .int x2)]) hx hb dX6_readInto_127 rfl hl (by decide) rfl (fun ls hl => ?_)
          refine lv_goto (tgt := 131) hx hb dX6_readInto_128 (by decide) ?_
          refine lv_iload_n hx hb dX6_readInto_131 rfl (lv_at hl 0 rfl) ?_
          refine lv_if_eq (tgt := 142) hx hb dX6_readInto_132 (by decide) (fun h => ?_) (fun h => ?_)
          · replace hf := (if_pos h).symm.trans hf
            refine lv_bipush (v := (-10 : Int32)) hx hb dX6_readInto_142 (by decide) ?_
            refine lv_aload_n hx hb dX6_readInto_144 rfl (lv_at hl 1 rfl) ?_
            refine g_get C hW inX6 0 rfl rfl rfl 3 (by decide) (List.mem_of_getElem? (i := 3) rfl) (v := .int (y7.2.1 3 0)) rfl dX6_readInto_145 ?_
            refine lv_isub hx hb dX6_readInto_148 ?_
            obtain rfl := Option.some.inj hf
            subst hQ
            exact g_iret C hr hk0 hW rfl rfl dX6_readInto_149
          · replace hf := (if_neg h).symm.trans hf
            refine lv_aload_n hx hb dX6_readInto_135 rfl (lv_at hl 1 rfl) ?_
            obtain ⟨y8, hc, hf⟩ := bd_of hf
            refine g_cV (Cn := RX6) C (ct_X6_readEnd g l N a0 y7.2.1 hc) gX6_readInto_X6_readEnd rfl 0 (by decide +kernel) ⟨rfl, rfl, ⟨Nat.le_of_ble_eq_true rfl, Nat.le_of_ble_eq_true rfl⟩, Nat.le_of_ble_eq_true rfl, Nat.le_of_ble_eq_true rfl⟩ rfl hl (Nat.le_of_ble_eq_true rfl) dX6_readInto_136 rfl hW hA [0] rfl rfl rfl (ch' := [kX6 g a0 y8.2, kX3 g a1 y7.2.2]) rfl 0 rfl rfl rfl (fun H locs hW => ?_)
            refine lv_if_ne (tgt := 150) hx hb dX6_readInto_139 (by decide) (fun h => ?_) (fun h => ?_)
            · replace hf := (if_neg h).symm.trans hf
              refine lv_iinc (v := (x2 + 1)) (lv' := [(2, .int (x2 + 1)), (3, .int y7.1), (0, .ref (a0 0)), (1, .ref (a1 0))]) hx hb dX6_readInto_150 hl (k := 3) rfl (by first | rfl | decide) (by decide) rfl (fun ls hl => ?_)
              refine lv_goto (tgt := 11) hx hb dX6_readInto_153 (by decide) ?_
              exact ih _ _ _ H locs ls hf hW (lv_sub hl [2, 3, 0] rfl)
            · replace hf := (if_pos h).symm.trans hf
              refine lv_bipush (v := (-10 : Int32)) hx hb dX6_readInto_142 (by decide) ?_
              refine lv_aload_n hx hb dX6_readInto_144 rfl (lv_at hl 1 rfl) ?_
              refine g_get C hW inX6 0 rfl rfl rfl 3 (by decide) (List.mem_of_getElem? (i := 3) rfl) (v := .int (y8.2 3 0)) rfl dX6_readInto_145 ?_
              refine lv_isub hx hb dX6_readInto_148 ?_
              obtain rfl := Option.some.inj hf
              subst hQ
              exact g_iret C hr hk0 hW rfl rfl dX6_readInto_149
        replace hf := (if_neg h114).symm.trans hf
        rcases Decidable.em ((y2 4 0) = (115 : Int32)) with h115 | h115
        · replace hf := (if_pos h115).symm.trans hf
          refine lv_lookup (off := 77) hx hb dX6_readInto_27 (by decide) (by rw [h115]; decide) (tgt := 104) (by decide) ?_
          refine lv_aload_n hx hb dX6_readInto_104 rfl (lv_at hl 1 rfl) ?_
          refine lv_aload_n hx hb dX6_readInto_105 rfl (lv_at hl 2 rfl) ?_
          obtain ⟨y9, hc, hf⟩ := bd_of hf
          refine g_cV (Cn := RX6) C (ct_X6_readRoom g l N a0 a1 y2 v1 hc) gX6_readInto_X6_readRoom rfl 1 (by decide +kernel) ⟨rfl, rfl, ⟨Nat.le_of_ble_eq_true rfl, Nat.le_of_ble_eq_true rfl⟩, Nat.le_of_ble_eq_true rfl, Nat.le_of_ble_eq_true rfl⟩ rfl hl (Nat.le_of_ble_eq_true rfl) dX6_readInto_106 rfl hW hA [0, 1] rfl rfl rfl (ch' := [kX6 g a0 y9.2.1, kX3 g a1 y9.2.2]) rfl 0 rfl rfl rfl (fun H locs hW => ?_)
          refine lv_istore_n (lv' := [(3, .int y9.1), (0, .ref (a0 0)), (1, .ref (a1 0)), (2, .int x2)]) hx hb dX6_readInto_109 rfl hl (by decide) rfl (fun ls hl => ?_)
          refine lv_goto (tgt := 131) hx hb dX6_readInto_110 (by decide) ?_
          refine lv_iload_n hx hb dX6_readInto_131 rfl (lv_at hl 0 rfl) ?_
          refine lv_if_eq (tgt := 142) hx hb dX6_readInto_132 (by decide) (fun h => ?_) (fun h => ?_)
          · replace hf := (if_pos h).symm.trans hf
            refine lv_bipush (v := (-10 : Int32)) hx hb dX6_readInto_142 (by decide) ?_
            refine lv_aload_n hx hb dX6_readInto_144 rfl (lv_at hl 1 rfl) ?_
            refine g_get C hW inX6 0 rfl rfl rfl 3 (by decide) (List.mem_of_getElem? (i := 3) rfl) (v := .int (y9.2.1 3 0)) rfl dX6_readInto_145 ?_
            refine lv_isub hx hb dX6_readInto_148 ?_
            obtain rfl := Option.some.inj hf
            subst hQ
            exact g_iret C hr hk0 hW rfl rfl dX6_readInto_149
          · replace hf := (if_neg h).symm.trans hf
            refine lv_aload_n hx hb dX6_readInto_135 rfl (lv_at hl 1 rfl) ?_
            obtain ⟨y10, hc, hf⟩ := bd_of hf
            refine g_cV (Cn := RX6) C (ct_X6_readEnd g l N a0 y9.2.1 hc) gX6_readInto_X6_readEnd rfl 0 (by decide +kernel) ⟨rfl, rfl, ⟨Nat.le_of_ble_eq_true rfl, Nat.le_of_ble_eq_true rfl⟩, Nat.le_of_ble_eq_true rfl, Nat.le_of_ble_eq_true rfl⟩ rfl hl (Nat.le_of_ble_eq_true rfl) dX6_readInto_136 rfl hW hA [0] rfl rfl rfl (ch' := [kX6 g a0 y10.2, kX3 g a1 y9.2.2]) rfl 0 rfl rfl rfl (fun H locs hW => ?_)
            refine lv_if_ne (tgt := 150) hx hb dX6_readInto_139 (by decide) (fun h => ?_) (fun h => ?_)
            · replace hf := (if_neg h).symm.trans hf
              refine lv_iinc (v := (x2 + 1)) (lv' := [(2, .int (x2 + 1)), (3, .int y9.1), (0, .ref (a0 0)), (1, .ref (a1 0))]) hx hb dX6_readInto_150 hl (k := 3) rfl (by first | rfl | decide) (by decide) rfl (fun ls hl => ?_)
              refine lv_goto (tgt := 11) hx hb dX6_readInto_153 (by decide) ?_
              exact ih _ _ _ H locs ls hf hW (lv_sub hl [2, 3, 0] rfl)
            · replace hf := (if_pos h).symm.trans hf
              refine lv_bipush (v := (-10 : Int32)) hx hb dX6_readInto_142 (by decide) ?_
              refine lv_aload_n hx hb dX6_readInto_144 rfl (lv_at hl 1 rfl) ?_
              refine g_get C hW inX6 0 rfl rfl rfl 3 (by decide) (List.mem_of_getElem? (i := 3) rfl) (v := .int (y10.2 3 0)) rfl dX6_readInto_145 ?_
              refine lv_isub hx hb dX6_readInto_148 ?_
              obtain rfl := Option.some.inj hf
              subst hQ
              exact g_iret C hr hk0 hW rfl rfl dX6_readInto_149
        replace hf := (if_neg h115).symm.trans hf
        rcases Decidable.em ((y2 4 0) = (116 : Int32)) with h116 | h116
        · replace hf := (if_pos h116).symm.trans hf
          refine lv_lookup (off := 59) hx hb dX6_readInto_27 (by decide) (by rw [h116]; decide) (tgt := 86) (by decide) ?_
          refine lv_aload_n hx hb dX6_readInto_86 rfl (lv_at hl 1 rfl) ?_
          refine lv_aload_n hx hb dX6_readInto_87 rfl (lv_at hl 2 rfl) ?_
          obtain ⟨y11, hc, hf⟩ := bd_of hf
          refine g_cV (Cn := RX6) C (ct_X6_readTerminal g l N a0 a1 y2 v1 hc) gX6_readInto_X6_readTerminal rfl 1 (by decide +kernel) ⟨rfl, rfl, ⟨Nat.le_of_ble_eq_true rfl, Nat.le_of_ble_eq_true rfl⟩, Nat.le_of_ble_eq_true rfl, Nat.le_of_ble_eq_true rfl⟩ rfl hl (Nat.le_of_ble_eq_true rfl) dX6_readInto_88 rfl hW hA [0, 1] rfl rfl rfl (ch' := [kX6 g a0 y11.2.1, kX3 g a1 y11.2.2]) rfl 0 rfl rfl rfl (fun H locs hW => ?_)
          refine lv_istore_n (lv' := [(3, .int y11.1), (0, .ref (a0 0)), (1, .ref (a1 0)), (2, .int x2)]) hx hb dX6_readInto_91 rfl hl (by decide) rfl (fun ls hl => ?_)
          refine lv_goto (tgt := 131) hx hb dX6_readInto_92 (by decide) ?_
          refine lv_iload_n hx hb dX6_readInto_131 rfl (lv_at hl 0 rfl) ?_
          refine lv_if_eq (tgt := 142) hx hb dX6_readInto_132 (by decide) (fun h => ?_) (fun h => ?_)
          · replace hf := (if_pos h).symm.trans hf
            refine lv_bipush (v := (-10 : Int32)) hx hb dX6_readInto_142 (by decide) ?_
            refine lv_aload_n hx hb dX6_readInto_144 rfl (lv_at hl 1 rfl) ?_
            refine g_get C hW inX6 0 rfl rfl rfl 3 (by decide) (List.mem_of_getElem? (i := 3) rfl) (v := .int (y11.2.1 3 0)) rfl dX6_readInto_145 ?_
            refine lv_isub hx hb dX6_readInto_148 ?_
            obtain rfl := Option.some.inj hf
            subst hQ
            exact g_iret C hr hk0 hW rfl rfl dX6_readInto_149
          · replace hf := (if_neg h).symm.trans hf
            refine lv_aload_n hx hb dX6_readInto_135 rfl (lv_at hl 1 rfl) ?_
            obtain ⟨y12, hc, hf⟩ := bd_of hf
            refine g_cV (Cn := RX6) C (ct_X6_readEnd g l N a0 y11.2.1 hc) gX6_readInto_X6_readEnd rfl 0 (by decide +kernel) ⟨rfl, rfl, ⟨Nat.le_of_ble_eq_true rfl, Nat.le_of_ble_eq_true rfl⟩, Nat.le_of_ble_eq_true rfl, Nat.le_of_ble_eq_true rfl⟩ rfl hl (Nat.le_of_ble_eq_true rfl) dX6_readInto_136 rfl hW hA [0] rfl rfl rfl (ch' := [kX6 g a0 y12.2, kX3 g a1 y11.2.2]) rfl 0 rfl rfl rfl (fun H locs hW => ?_)
            refine lv_if_ne (tgt := 150) hx hb dX6_readInto_139 (by decide) (fun h => ?_) (fun h => ?_)
            · replace hf := (if_neg h).symm.trans hf
              refine lv_iinc (v := (x2 + 1)) (lv' := [(2, .int (x2 + 1)), (3, .int y11.1), (0, .ref (a0 0)), (1, .ref (a1 0))]) hx hb dX6_readInto_150 hl (k := 3) rfl (by first | rfl | decide) (by decide) rfl (fun ls hl => ?_)
              refine lv_goto (tgt := 11) hx hb dX6_readInto_153 (by decide) ?_
              exact ih _ _ _ H locs ls hf hW (lv_sub hl [2, 3, 0] rfl)
            · replace hf := (if_pos h).symm.trans hf
              refine lv_bipush (v := (-10 : Int32)) hx hb dX6_readInto_142 (by decide) ?_
              refine lv_aload_n hx hb dX6_readInto_144 rfl (lv_at hl 1 rfl) ?_
              refine g_get C hW inX6 0 rfl rfl rfl 3 (by decide) (List.mem_of_getElem? (i := 3) rfl) (v := .int (y12.2 3 0)) rfl dX6_readInto_145 ?_
              refine lv_isub hx hb dX6_readInto_148 ?_
              obtain rfl := Option.some.inj hf
              subst hQ
              exact g_iret C hr hk0 hW rfl rfl dX6_readInto_149
        replace hf := (if_neg h116).symm.trans hf
        refine lv_lookup (off := 104) hx hb dX6_readInto_27 (by decide) (by show Op.lookupswitch.offset _ _ _ = _; rw [lv_osw h46 (show (46 : Int32).toInt = 46 by decide)]; rw [lv_osw h98 (show (98 : Int32).toInt = 98 by decide)]; rw [lv_osw h99 (show (99 : Int32).toInt = 99 by decide)]; rw [lv_osw h114 (show (114 : Int32).toInt = 114 by decide)]; rw [lv_osw h115 (show (115 : Int32).toInt = 115 by decide)]; rw [lv_osw h116 (show (116 : Int32).toInt = 116 by decide)]; rfl) (tgt := 131) (by decide) ?_
        refine lv_iload_n hx hb dX6_readInto_131 rfl (lv_at hl 0 rfl) ?_
        refine lv_if_eq (tgt := 142) hx hb dX6_readInto_132 (by decide) (fun _ => ?_) (fun h => absurd h (by decide))
        refine lv_bipush (v := (-10 : Int32)) hx hb dX6_readInto_142 (by decide) ?_
        refine lv_aload_n hx hb dX6_readInto_144 rfl (lv_at hl 1 rfl) ?_
        refine g_get C hW inX6 0 rfl rfl rfl 3 (by decide) (List.mem_of_getElem? (i := 3) rfl) (v := .int (y2 3 0)) rfl dX6_readInto_145 ?_
        refine lv_isub hx hb dX6_readInto_148 ?_
        obtain rfl := Option.some.inj hf
        subst hQ
        exact g_iret C hr hk0 hW rfl rfl dX6_readInto_149
  rw [fX6_readInto] at hf
  refine lv_aload_n hx hb dX6_readInto_0 rfl (lv_at hl 1 rfl) ?_
  obtain ⟨y1, hc, hf⟩ := bd_of hf
  refine g_cVv (Cn := RX3) C (ct_X3_begin g l N a1 v1 hc) gX6_readInto_X3_begin rfl 0 (by decide +kernel) ⟨rfl, rfl, ⟨Nat.le_of_ble_eq_true rfl, Nat.le_of_ble_eq_true rfl⟩, Nat.le_of_ble_eq_true rfl, Nat.le_of_ble_eq_true rfl⟩ rfl hl (Nat.le_of_ble_eq_true rfl) dX6_readInto_1 rfl hW hA [1] rfl rfl rfl (ch' := [kX6 g a0 v0, kX3 g a1 y1]) rfl 1 rfl rfl rfl (fun H locs hW => ?_)
  refine lv_aload_n hx hb dX6_readInto_4 rfl (lv_at hl 0 rfl) ?_
  refine lv_iconst (v := (0 : Int32)) hx hb dX6_readInto_5 (by decide) ?_
  refine g_put C hW inX6 tyX6_ok nmX6 0 rfl rfl rfl 2 (by decide) (List.mem_of_getElem? (i := 1) rfl) rfl rfl rfl rfl (kX6_s2 g a0 v0 (0 : Int32)) (ch' := [kX6 g a0 (st v0 2 (fun _ => (0 : Int32))), kX3 g a1 y1]) rfl dX6_readInto_6 (fun H locs hW => ?_)
  refine lv_iconst (v := (0 : Int32)) hx hb dX6_readInto_9 (by decide) ?_
  refine lv_istore_n (lv' := [(2, .int (0 : Int32)), (0, .ref (a0 0)), (1, .ref (a1 0))]) hx hb dX6_readInto_10 rfl hl (by decide) rfl (fun ls hl => ?_)
  refine L11 _ (fun x2_13 v0_13 v1_13 H locs ls hf hW hl => ?_) N (0 : Int32) (st v0 2 (fun _ => (0 : Int32))) y1 H locs ls hf hW (lv_sub hl [1, 2, 0] rfl)
  refine lv_bipush (v := (-10 : Int32)) hx hb dX6_readInto_156 (by decide) ?_
  refine lv_aload_n hx hb dX6_readInto_158 rfl (lv_at hl 0 rfl) ?_
  refine g_get C hW inX6 0 rfl rfl rfl 3 (by decide) (List.mem_of_getElem? (i := 3) rfl) (v := .int (v0_13 3 0)) rfl dX6_readInto_159 ?_
  refine lv_isub hx hb dX6_readInto_162 ?_
  obtain rfl := Option.some.inj hf
  subst hQ
  exact g_iret C hr hk0 hW rfl rfl dX6_readInto_163
