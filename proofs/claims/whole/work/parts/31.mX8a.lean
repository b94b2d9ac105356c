def fX8_in (N : Nat) (x0 : Int32) (x1 : Int32) (x2 : Int32) : Option (Int32) := (if x0 < x1 then some (0 : Int32) else (if x2 < x0 then some (0 : Int32) else some (1 : Int32)))
set_option maxHeartbeats 4000000 in
set_option maxRecDepth 100000 in
theorem ct_X8_in (g : GT) (l : Launch) (N : Nat) (x0 : Int32) (x1 : Int32) (x2 : Int32) {y : Int32} (hf : fX8_in N x0 x1 x2 = some y) : ct g l yX8_in wsX8_in (rmk 0 0) [.int x0, .int x1, .int x2] [] (some (.int y)) [] := by
  refine ct_of (cc := cX8_in) (maxL := 3) (ret := (some .boolean)) (by decide) rfl (Nat.le_of_ble_eq_true rfl) ?_
  intro p e s m args below meth c A ls C hr hk0 hA hW hl
  have hx := C.1.1
  have hb := C.1.2.1
  replace hl : lv_has ls 3 [(0, .int x0), (1, .int x1), (2, .int x2)] := hl
  obtain ⟨Q, hQ⟩ : ∃ Q, Q = MQ below (ctQ g A (some (.int y)) []) args s 0 0 A := ⟨_, rfl⟩
  rw [← hQ]
  obtain ⟨H, hH⟩ : ∃ H, H = s.heap := ⟨_, rfl⟩
  obtain ⟨locs, hL⟩ : ∃ locs : List Loc, locs = [] := ⟨_, rfl⟩
  replace hW : wd g A s.heap [] H locs := by rw [hH, hL]; exact hW
  suffices hG : W p l e (rmk 0 0) s m args below meth c H locs 0 0 Q (F0 m 0 ls []) by
    rw [hH, hL] at hG; exact hG
  clear hH hL
  rw [fX8_in] at hf
  refine lv_iload_n hx hb dX8_in_0 rfl (lv_at hl 0 rfl) ?_
  refine lv_iload_n hx hb dX8_in_1 rfl (lv_at hl 1 rfl) ?_
  refine lv_icmp_lt (tgt := 14) hx hb dX8_in_2 (by decide) (fun h => ?_) (fun h => ?_)
  · replace hf := (if_pos h).symm.trans hf
    refine lv_iconst (v := (0 : Int32)) hx hb dX8_in_14 (by decide) ?_
    obtain rfl := Option.some.inj hf
    subst hQ
    exact g_zret C hr hk0 hW rfl rfl rfl dX8_in_15
  · replace hf := (if_neg h).symm.trans hf
    refine lv_iload_n hx hb dX8_in_5 rfl (lv_at hl 0 rfl) ?_
    refine lv_iload_n hx hb dX8_in_6 rfl (lv_at hl 2 rfl) ?_
    refine lv_icmp_gt (tgt := 14) hx hb dX8_in_7 (by decide) (fun h => ?_) (fun h => ?_)
    · replace hf := (if_pos h).symm.trans hf
      refine lv_iconst (v := (0 : Int32)) hx hb dX8_in_14 (by decide) ?_
      obtain rfl := Option.some.inj hf
      subst hQ
      exact g_zret C hr hk0 hW rfl rfl rfl dX8_in_15
    · replace hf := (if_neg h).symm.trans hf
      refine lv_iconst (v := (1 : Int32)) hx hb dX8_in_10 (by decide) ?_
      refine lv_goto (tgt := 15) hx hb dX8_in_11 (by decide) ?_
      obtain rfl := Option.some.inj hf
      subst hQ
      exact g_zret C hr hk0 hW rfl rfl rfl dX8_in_15
def fX8_less (N : Nat) (x0 : Int32) (x1 : Int32) : Option (Int32) := (if x1 ≤ x0 then some x1 else some x0)
set_option maxHeartbeats 4000000 in
set_option maxRecDepth 100000 in
theorem ct_X8_less (g : GT) (l : Launch) (N : Nat) (x0 : Int32) (x1 : Int32) {y : Int32} (hf : fX8_less N x0 x1 = some y) : ct g l yX8_less wsX8_less (rmk 0 0) [.int x0, .int x1] [] (some (.int y)) [] := by
  refine ct_of (cc := cX8_less) (maxL := 2) (ret := (some .int)) (by decide) rfl (Nat.le_of_ble_eq_true rfl) ?_
  intro p e s m args below meth c A ls C hr hk0 hA hW hl
  have hx := C.1.1
  have hb := C.1.2.1
  replace hl : lv_has ls 2 [(0, .int x0), (1, .int x1)] := hl
  obtain ⟨Q, hQ⟩ : ∃ Q, Q = MQ below (ctQ g A (some (.int y)) []) args s 0 0 A := ⟨_, rfl⟩
  rw [← hQ]
  obtain ⟨H, hH⟩ : ∃ H, H = s.heap := ⟨_, rfl⟩
  obtain ⟨locs, hL⟩ : ∃ locs : List Loc, locs = [] := ⟨_, rfl⟩
  replace hW : wd g A s.heap [] H locs := by rw [hH, hL]; exact hW
  suffices hG : W p l e (rmk 0 0) s m args below meth c H locs 0 0 Q (F0 m 0 ls []) by
    rw [hH, hL] at hG; exact hG
  clear hH hL
  rw [fX8_less] at hf
  refine lv_iload_n hx hb dX8_less_0 rfl (lv_at hl 0 rfl) ?_
  refine lv_iload_n hx hb dX8_less_1 rfl (lv_at hl 1 rfl) ?_
  refine lv_icmp_ge (tgt := 9) hx hb dX8_less_2 (by decide) (fun h => ?_) (fun h => ?_)
  · replace hf := (if_pos h).symm.trans hf
    refine lv_iload_n hx hb dX8_less_9 rfl (lv_at hl 1 rfl) ?_
    obtain rfl := Option.some.inj hf
    subst hQ
    exact g_iret C hr hk0 hW rfl rfl dX8_less_10
  · replace hf := (if_neg h).symm.trans hf
    refine lv_iload_n hx hb dX8_less_5 rfl (lv_at hl 0 rfl) ?_
    refine lv_goto (tgt := 10) hx hb dX8_less_6 (by decide) ?_
    obtain rfl := Option.some.inj hf
    subst hQ
    exact g_iret C hr hk0 hW rfl rfl dX8_less_10
def fX8_isTerminal (N : Nat) (x1 : Int32) (v0 : MM) : Option (Int32) := ((fX8_in N x1 (0 : Int32) ((v0 1 0) - (1 : Int32))).bind (fun y1 => (if zb y1 = true then some y1 else none)))
set_option maxHeartbeats 4000000 in
set_option maxRecDepth 100000 in
theorem ct_X8_isTerminal (g : GT) (l : Launch) (N : Nat) (a0 : Nat → Nat) (x1 : Int32) (v0 : MM) {y : Int32} (hf : fX8_isTerminal N x1 v0 = some y) : ct g l yX8_isTerminal wsX8_isTerminal (rmk 1 22) [.ref (a0 0), .int x1] [kX8 g a0 v0] (some (.int y)) [kX8 g a0 v0] := by
  refine ct_of (cc := cX8_isTerminal) (maxL := 2) (ret := (some .boolean)) (by decide) rfl (Nat.le_of_ble_eq_true rfl) ?_
  intro p e s m args below meth c A ls C hr hk0 hA hW hl
  have hx := C.1.1
  have hb := C.1.2.1
  replace hl : lv_has ls 2 [(0, .ref (a0 0)), (1, .int x1)] := hl
  obtain ⟨Q, hQ⟩ : ∃ Q, Q = MQ below (ctQ g A (some (.int y)) [kX8 g a0 v0]) args s 0 0 A := ⟨_, rfl⟩
  rw [← hQ]
  obtain ⟨H, hH⟩ : ∃ H, H = s.heap := ⟨_, rfl⟩
  obtain ⟨locs, hL⟩ : ∃ locs : List Loc, locs = [] := ⟨_, rfl⟩
  replace hW : wd g A s.heap [kX8 g a0 v0] H locs := by rw [hH, hL]; exact hW
  suffices hG : W p l e (rmk 1 22) s m args below meth c H locs 0 0 Q (F0 m 0 ls []) by
    rw [hH, hL] at hG; exact hG
  clear hH hL
  have inX8 : ∀ w ∈ wsX80, w ∈ wsX8_isTerminal := fun _ h => List.mem_cons_of_mem _ (List.mem_append_right _ (h))
  rw [fX8_isTerminal] at hf
  refine lv_iload_n hx hb dX8_isTerminal_0 rfl (lv_at hl 1 rfl) ?_
  refine lv_iconst (v := (0 : Int32)) hx hb dX8_isTerminal_1 (by decide) ?_
  refine lv_aload_n hx hb dX8_isTerminal_2 rfl (lv_at hl 0 rfl) ?_
  refine g_get C hW inX8 0 rfl rfl rfl 1 (by decide) (List.mem_of_getElem? (i := 1) rfl) (v := .int (v0 1 0)) rfl dX8_isTerminal_3 ?_
  refine lv_iconst (v := (1 : Int32)) hx hb dX8_isTerminal_6 (by decide) ?_
  refine lv_isub hx hb dX8_isTerminal_7 ?_
  obtain ⟨y1, hc, hf⟩ := bd_of hf
  refine g_cS C (ct_X8_in g l N x1 (0 : Int32) ((v0 1 0) - (1 : Int32)) hc) gX8_isTerminal_X8_in rfl 3 (by decide +kernel) ⟨rfl, rfl, ⟨Nat.le_of_ble_eq_true rfl, Nat.le_of_ble_eq_true rfl⟩, Nat.le_of_ble_eq_true rfl, Nat.le_of_ble_eq_true rfl⟩ rfl hl (Nat.le_of_ble_eq_true rfl) dX8_isTerminal_8 rfl hW hA [] rfl rfl rfl (ch' := [kX8 g a0 v0]) rfl (fun H locs hW => ?_)
  obtain ⟨hi, hf⟩ := gd_of hf
  obtain rfl := Option.some.inj hf
  subst hQ
  exact g_zret C hr hk0 hW (zb_nar hi) rfl rfl dX8_isTerminal_11
def fX8_isClass (N : Nat) (x1 : Int32) (v0 : MM) : Option (Int32) := ((fX8_in N x1 (0 : Int32) ((v0 2 0) - (1 : Int32))).bind (fun y1 => (if zb y1 = true then some y1 else none)))
set_option maxHeartbeats 4000000 in
set_option maxRecDepth 100000 in
theorem ct_X8_isClass (g : GT) (l : Launch) (N : Nat) (a0 : Nat → Nat) (x1 : Int32) (v0 : MM) {y : Int32} (hf : fX8_isClass N x1 v0 = some y) : ct g l yX8_isClass wsX8_isClass (rmk 1 22) [.ref (a0 0), .int x1] [kX8 g a0 v0] (some (.int y)) [kX8 g a0 v0] := by
  refine ct_of (cc := cX8_isClass) (maxL := 2) (ret := (some .boolean)) (by decide) rfl (Nat.le_of_ble_eq_true rfl) ?_
  intro p e s m args below meth c A ls C hr hk0 hA hW hl
  have hx := C.1.1
  have hb := C.1.2.1
  replace hl : lv_has ls 2 [(0, .ref (a0 0)), (1, .int x1)] := hl
  obtain ⟨Q, hQ⟩ : ∃ Q, Q = MQ below (ctQ g A (some (.int y)) [kX8 g a0 v0]) args s 0 0 A := ⟨_, rfl⟩
  rw [← hQ]
  obtain ⟨H, hH⟩ : ∃ H, H = s.heap := ⟨_, rfl⟩
  obtain ⟨locs, hL⟩ : ∃ locs : List Loc, locs = [] := ⟨_, rfl⟩
  replace hW : wd g A s.heap [kX8 g a0 v0] H locs := by rw [hH, hL]; exact hW
  suffices hG : W p l e (rmk 1 22) s m args below meth c H locs 0 0 Q (F0 m 0 ls []) by
    rw [hH, hL] at hG; exact hG
  clear hH hL
  have inX8 : ∀ w ∈ wsX80, w ∈ wsX8_isClass := fun _ h => List.mem_cons_of_mem _ (List.mem_append_right _ (h))
  rw [fX8_isClass] at hf
  refine lv_iload_n hx hb dX8_isClass_0 rfl (lv_at hl 1 rfl) ?_
  refine lv_iconst (v := (0 : Int32)) hx hb dX8_isClass_1 (by decide) ?_
  refine lv_aload_n hx hb dX8_isClass_2 rfl (lv_at hl 0 rfl) ?_
  refine g_get C hW inX8 0 rfl rfl rfl 2 (by decide) (List.mem_of_getElem? (i := 1) rfl) (v := .int (v0 2 0)) rfl dX8_isClass_3 ?_
  refine lv_iconst (v := (1 : Int32)) hx hb dX8_isClass_6 (by decide) ?_
  refine lv_isub hx hb dX8_isClass_7 ?_
  obtain ⟨y1, hc, hf⟩ := bd_of hf
  refine g_cS C (ct_X8_in g l N x1 (0 : Int32) ((v0 2 0) - (1 : Int32)) hc) gX8_isClass_X8_in rfl 3 (by decide +kernel) ⟨rfl, rfl, ⟨Nat.le_of_ble_eq_true rfl, Nat.le_of_ble_eq_true rfl⟩, Nat.le_of_ble_eq_true rfl, Nat.le_of_ble_eq_true rfl⟩ rfl hl (Nat.le_of_ble_eq_true rfl) dX8_isClass_8 rfl hW hA [] rfl rfl rfl (ch' := [kX8 g a0 v0]) rfl (fun H locs hW => ?_)
  obtain ⟨hi, hf⟩ := gd_of hf
  obtain rfl := Option.some.inj hf
  subst hQ
  exact g_zret C hr hk0 hW (zb_nar hi) rfl rfl dX8_isClass_11
def fX8_ofTerminal (N : Nat) (x0 : Int32) (x1 : Int32) : Option (Int32) := some (((4 : Int32) + ((13 : Int32) * x0)) + x1)
set_option maxHeartbeats 4000000 in
set_option maxRecDepth 100000 in
theorem ct_X8_ofTerminal (g : GT) (l : Launch) (N : Nat) (x0 : Int32) (x1 : Int32) {y : Int32} (hf : fX8_ofTerminal N x0 x1 = some y) : ct g l yX8_ofTerminal wsX8_ofTerminal (rmk 0 0) [.int x0, .int x1] [] (some (.int y)) [] := by
  refine ct_of (cc := cX8_ofTerminal) (maxL := 2) (ret := (some .int)) (by decide) rfl (Nat.le_of_ble_eq_true rfl) ?_
  intro p e s m args below meth c A ls C hr hk0 hA hW hl
  have hx := C.1.1
  have hb := C.1.2.1
  replace hl : lv_has ls 2 [(0, .int x0), (1, .int x1)] := hl
  obtain ⟨Q, hQ⟩ : ∃ Q, Q = MQ below (ctQ g A (some (.int y)) []) args s 0 0 A := ⟨_, rfl⟩
  rw [← hQ]
  obtain ⟨H, hH⟩ : ∃ H, H = s.heap := ⟨_, rfl⟩
  obtain ⟨locs, hL⟩ : ∃ locs : List Loc, locs = [] := ⟨_, rfl⟩
  replace hW : wd g A s.heap [] H locs := by rw [hH, hL]; exact hW
  suffices hG : W p l e (rmk 0 0) s m args below meth c H locs 0 0 Q (F0 m 0 ls []) by
    rw [hH, hL] at hG; exact hG
  clear hH hL
  rw [fX8_ofTerminal] at hf
  refine lv_iconst (v := (4 : Int32)) hx hb dX8_ofTerminal_0 (by decide) ?_
  refine lv_bipush (v := (13 : Int32)) hx hb dX8_ofTerminal_1 (by decide) ?_
  refine lv_iload_n hx hb dX8_ofTerminal_3 rfl (lv_at hl 0 rfl) ?_
  refine lv_imul hx hb dX8_ofTerminal_4 ?_
  refine lv_iadd hx hb dX8_ofTerminal_5 ?_
  refine lv_iload_n hx hb dX8_ofTerminal_6 rfl (lv_at hl 1 rfl) ?_
  refine lv_iadd hx hb dX8_ofTerminal_7 ?_
  obtain rfl := Option.some.inj hf
  subst hQ
  exact g_iret C hr hk0 hW rfl rfl dX8_ofTerminal_8
def fX8_ofClass (N : Nat) (x0 : Int32) (x1 : Int32) : Option (Int32) := some (((43 : Int32) + ((4 : Int32) * x0)) + x1)
set_option maxHeartbeats 4000000 in
set_option maxRecDepth 100000 in
theorem ct_X8_ofClass (g : GT) (l : Launch) (N : Nat) (x0 : Int32) (x1 : Int32) {y : Int32} (hf : fX8_ofClass N x0 x1 = some y) : ct g l yX8_ofClass wsX8_ofClass (rmk 0 0) [.int x0, .int x1] [] (some (.int y)) [] := by
  refine ct_of (cc := cX8_ofClass) (maxL := 2) (ret := (some .int)) (by decide) rfl (Nat.le_of_ble_eq_true rfl) ?_
  intro p e s m args below meth c A ls C hr hk0 hA hW hl
  have hx := C.1.1
  have hb := C.1.2.1
  replace hl : lv_has ls 2 [(0, .int x0), (1, .int x1)] := hl
  obtain ⟨Q, hQ⟩ : ∃ Q, Q = MQ below (ctQ g A (some (.int y)) []) args s 0 0 A := ⟨_, rfl⟩
  rw [← hQ]
  obtain ⟨H, hH⟩ : ∃ H, H = s.heap := ⟨_, rfl⟩
  obtain ⟨locs, hL⟩ : ∃ locs : List Loc, locs = [] := ⟨_, rfl⟩
  replace hW : wd g A s.heap [] H locs := by rw [hH, hL]; exact hW
  suffices hG : W p l e (rmk 0 0) s m args below meth c H locs 0 0 Q (F0 m 0 ls []) by
    rw [hH, hL] at hG; exact hG
  clear hH hL
  rw [fX8_ofClass] at hf
  refine lv_bipush (v := (43 : Int32)) hx hb dX8_ofClass_0 (by decide) ?_
  refine lv_iconst (v := (4 : Int32)) hx hb dX8_ofClass_2 (by decide) ?_
  refine lv_iload_n hx hb dX8_ofClass_3 rfl (lv_at hl 0 rfl) ?_
  refine lv_imul hx hb dX8_ofClass_4 ?_
  refine lv_iadd hx hb dX8_ofClass_5 ?_
  refine lv_iload_n hx hb dX8_ofClass_6 rfl (lv_at hl 1 rfl) ?_
  refine lv_iadd hx hb dX8_ofClass_7 ?_
  obtain rfl := Option.some.inj hf
  subst hQ
  exact g_iret C hr hk0 hW rfl rfl dX8_ofClass_8
def fX8_ofBlock (N : Nat) (x0 : Int32) (x1 : Int32) : Option (Int32) := some (((67 : Int32) + ((10 : Int32) * x0)) + x1)
set_option maxHeartbeats 4000000 in
set_option maxRecDepth 100000 in
theorem ct_X8_ofBlock (g : GT) (l : Launch) (N : Nat) (x0 : Int32) (x1 : Int32) {y : Int32} (hf : fX8_ofBlock N x0 x1 = some y) : ct g l yX8_ofBlock wsX8_ofBlock (rmk 0 0) [.int x0, .int x1] [] (some (.int y)) [] := by
  refine ct_of (cc := cX8_ofBlock) (maxL := 2) (ret := (some .int)) (by decide) rfl (Nat.le_of_ble_eq_true rfl) ?_
  intro p e s m args below meth c A ls C hr hk0 hA hW hl
  have hx := C.1.1
  have hb := C.1.2.1
  replace hl : lv_has ls 2 [(0, .int x0), (1, .int x1)] := hl
  obtain ⟨Q, hQ⟩ : ∃ Q, Q = MQ below (ctQ g A (some (.int y)) []) args s 0 0 A := ⟨_, rfl⟩
  rw [← hQ]
  obtain ⟨H, hH⟩ : ∃ H, H = s.heap := ⟨_, rfl⟩
  obtain ⟨locs, hL⟩ : ∃ locs : List Loc, locs = [] := ⟨_, rfl⟩
  replace hW : wd g A s.heap [] H locs := by rw [hH, hL]; exact hW
  suffices hG : W p l e (rmk 0 0) s m args below meth c H locs 0 0 Q (F0 m 0 ls []) by
    rw [hH, hL] at hG; exact hG
  clear hH hL
  rw [fX8_ofBlock] at hf
  refine lv_bipush (v := (67 : Int32)) hx hb dX8_ofBlock_0 (by decide) ?_
  refine lv_bipush (v := (10 : Int32)) hx hb dX8_ofBlock_2 (by decide) ?_
  refine lv_iload_n hx hb dX8_ofBlock_4 rfl (lv_at hl 0 rfl) ?_
  refine lv_imul hx hb dX8_ofBlock_5 ?_
  refine lv_iadd hx hb dX8_ofBlock_6 ?_
  refine lv_iload_n hx hb dX8_ofBlock_7 rfl (lv_at hl 1 rfl) ?_
  refine lv_iadd hx hb dX8_ofBlock_8 ?_
  obtain rfl := Option.some.inj hf
  subst hQ
  exact g_iret C hr hk0 hW rfl rfl dX8_ofBlock_9
def fX8_type (N : Nat) (x1 : Int32) (v0 : MM) : Option (Int32 × MM) := ((fX8_in N x1 (0 : Int32) (255 : Int32)).bind (fun y1 => (if y1 = 0 then some ((-1 : Int32), (st v0 0 (fun _ => (0 : Int32)))) else (if (v0 25 0) = (120 : Int32) then some ((-3 : Int32), (st v0 0 (fun _ => (0 : Int32)))) else (if ib (v0 25 0) 120 = true then some (((v0 25 0) + (1 : Int32)), (st (st (st v0 0 (fun _ => (0 : Int32))) 26 (upd (v0 26) (Int32.toNatClampNeg (v0 25 0)) x1)) 25 (fun _ => ((v0 25 0) + (1 : Int32))))) else none)))))
set_option maxHeartbeats 4000000 in
set_option maxRecDepth 100000 in
theorem ct_X8_type (g : GT) (l : Launch) (N : Nat) (a0 : Nat → Nat) (x1 : Int32) (v0 : MM) {y : Int32 × MM} (hf : fX8_type N x1 v0 = some y) : ct g l yX8_type wsX8_type (rmk 1 22) [.ref (a0 0), .int x1] [kX8 g a0 v0] (some (.int y.1)) [kX8 g a0 y.2] := by
  refine ct_of (cc := cX8_type) (maxL := 2) (ret := (some .int)) (by decide) rfl (Nat.le_of_ble_eq_true rfl) ?_
  intro p e s m args below meth c A ls C hr hk0 hA hW hl
  have hx := C.1.1
  have hb := C.1.2.1
  replace hl : lv_has ls 2 [(0, .ref (a0 0)), (1, .int x1)] := hl
  obtain ⟨Q, hQ⟩ : ∃ Q, Q = MQ below (ctQ g A (some (.int y.1)) [kX8 g a0 y.2]) args s 0 0 A := ⟨_, rfl⟩
  rw [← hQ]
  obtain ⟨H, hH⟩ : ∃ H, H = s.heap := ⟨_, rfl⟩
  obtain ⟨locs, hL⟩ : ∃ locs : List Loc, locs = [] := ⟨_, rfl⟩
  replace hW : wd g A s.heap [kX8 g a0 v0] H locs := by rw [hH, hL]; exact hW
  suffices hG : W p l e (rmk 1 22) s m args below meth c H locs 0 0 Q (F0 m 0 ls []) by
    rw [hH, hL] at hG; exact hG
  clear hH hL
  have inX8 : ∀ w ∈ wsX80, w ∈ wsX8_type := fun _ h => List.mem_cons_of_mem _ (List.mem_append_right _ (h))
  rw [fX8_type] at hf
  refine lv_aload_n hx hb dX8_type_0 rfl (lv_at hl 0 rfl) ?_
  refine lv_iconst (v := (0 : Int32)) hx hb dX8_type_1 (by decide) ?_
  refine g_put C hW inX8 tyX8_ok nmX8 0 rfl rfl rfl 0 (by decide) (List.mem_of_getElem? (i := 1) rfl) rfl rfl rfl rfl (kX8_s0 g a0 v0 (0 : Int32)) (ch' := [kX8 g a0 (st v0 0 (fun _ => (0 : Int32)))]) rfl dX8_type_2 (fun H locs hW => ?_)
  refine lv_iload_n hx hb dX8_type_5 rfl (lv_at hl 1 rfl) ?_
  refine lv_iconst (v := (0 : Int32)) hx hb dX8_type_6 (by decide) ?_
  refine lv_sipush (v := (255 : Int32)) hx hb dX8_type_7 (by decide) ?_
  obtain ⟨y1, hc, hf⟩ := bd_of hf
  refine g_cS C (ct_X8_in g l N x1 (0 : Int32) (255 : Int32) hc) gX8_type_X8_in rfl 3 (by decide +kernel) ⟨rfl, rfl, ⟨Nat.le_of_ble_eq_true rfl, Nat.le_of_ble_eq_true rfl⟩, Nat.le_of_ble_eq_true rfl, Nat.le_of_ble_eq_true rfl⟩ rfl hl (Nat.le_of_ble_eq_true rfl) dX8_type_10 rfl hW hA [] rfl rfl rfl (ch' := [kX8 g a0 (st v0 0 (fun _ => (0 : Int32)))]) rfl (fun H locs hW => ?_)
  refine lv_if_ne (tgt := 18) hx hb dX8_type_13 (by decide) (fun h => ?_) (fun h => ?_)
  · replace hf := (if_neg h).symm.trans hf
    refine lv_aload_n hx hb dX8_type_18 rfl (lv_at hl 0 rfl) ?_
    refine g_get C hW inX8 0 rfl rfl rfl 25 (by decide) (List.mem_of_getElem? (i := 2) rfl) (v := .int (v0 25 0)) rfl dX8_type_19 ?_
    refine lv_bipush (v := (120 : Int32)) hx hb dX8_type_22 (by decide) ?_
    refine lv_icmp_ne (tgt := 30) hx hb dX8_type_24 (by decide) (fun h => ?_) (fun h => ?_)
    · replace hf := (if_neg h).symm.trans hf
      refine lv_aload_n hx hb dX8_type_30 rfl (lv_at hl 0 rfl) ?_
      refine g_get C hW inX8 0 rfl rfl rfl 26 (by decide) (List.mem_of_getElem? (i := 3) rfl) (v := .ref (a0 12)) rfl dX8_type_31 ?_
      refine lv_aload_n hx hb dX8_type_34 rfl (lv_at hl 0 rfl) ?_
      refine g_get C hW inX8 0 rfl rfl rfl 25 (by decide) (List.mem_of_getElem? (i := 2) rfl) (v := .int (v0 25 0)) rfl dX8_type_35 ?_
      refine lv_iload_n hx hb dX8_type_38 rfl (lv_at hl 1 rfl) ?_
      obtain ⟨hi, hf⟩ := gd_of hf
      refine g_iast C hW 0 12 rfl (f := (v0 26)) rfl (ib_in hi) (kX8_w26 g a0 (st v0 0 (fun _ => (0 : Int32))) (upd (v0 26) (Int32.toNatClampNeg (v0 25 0)) x1)) (ch' := [kX8 g a0 (st (st v0 0 (fun _ => (0 : Int32))) 26 (upd (v0 26) (Int32.toNatClampNeg (v0 25 0)) x1))]) rfl dX8_type_39 (fun H locs hW => ?_)
      refine lv_aload_n hx hb dX8_type_40 rfl (lv_at hl 0 rfl) ?_
      refine lv_dup hx hb dX8_type_41 rfl ?_
      refine g_get C hW inX8 0 rfl rfl rfl 25 (by decide) (List.mem_of_getElem? (i := 2) rfl) (v := .int (v0 25 0)) rfl dX8_type_42 ?_
      refine lv_iconst (v := (1 : Int32)) hx hb dX8_type_45 (by decide) ?_
      refine lv_iadd hx hb dX8_type_46 ?_
      refine g_put C hW inX8 tyX8_ok nmX8 0 rfl rfl rfl 25 (by decide) (List.mem_of_getElem? (i := 2) rfl) rfl rfl rfl rfl (kX8_s25 g a0 (st (st v0 0 (fun _ => (0 : Int32))) 26 (upd (v0 26) (Int32.toNatClampNeg (v0 25 0)) x1)) ((v0 25 0) + (1 : Int32))) (ch' := [kX8 g a0 (st (st (st v0 0 (fun _ => (0 : Int32))) 26 (upd (v0 26) (Int32.toNatClampNeg (v0 25 0)) x1)) 25 (fun _ => ((v0 25 0) + (1 : Int32))))]) rfl dX8_type_47 (fun H locs hW => ?_)
      refine lv_aload_n hx hb dX8_type_50 rfl (lv_at hl 0 rfl) ?_
      refine g_get C hW inX8 0 rfl rfl rfl 25 (by decide) (List.mem_of_getElem? (i := 2) rfl) (v := .int ((v0 25 0) + (1 : Int32))) rfl dX8_type_51 ?_
      obtain rfl := Option.some.inj hf
      subst hQ
      exact g_iret C hr hk0 hW rfl rfl dX8_type_54
    · replace hf := (if_pos h).symm.trans hf
      refine lv_bipush (v := (-3 : Int32)) hx hb dX8_type_27 (by decide) ?_
      obtain rfl := Option.some.inj hf
      subst hQ
      exact g_iret C hr hk0 hW rfl rfl dX8_type_29
  · replace hf := (if_pos h).symm.trans hf
    refine lv_iconst (v := (-1 : Int32)) hx hb dX8_type_16 (by decide) ?_
    obtain rfl := Option.some.inj hf
    subst hQ
    exact g_iret C hr hk0 hW rfl rfl dX8_type_17
def fX8_clear (N : Nat) (v0 : MM) : Option (Int32 × MM) := some ((v0 25 0), (st (st v0 0 (fun _ => (0 : Int32))) 25 (fun _ => (0 : Int32))))
set_option maxHeartbeats 4000000 in
set_option maxRecDepth 100000 in
theorem ct_X8_clear (g : GT) (l : Launch) (N : Nat) (a0 : Nat → Nat) (v0 : MM) {y : Int32 × MM} (hf : fX8_clear N v0 = some y) : ct g l yX8_clear wsX8_clear (rmk 0 0) [.ref (a0 0)] [kX8 g a0 v0] (some (.int y.1)) [kX8 g a0 y.2] := by
  refine ct_of (cc := cX8_clear) (maxL := 2) (ret := (some .int)) (by decide) rfl (Nat.le_of_ble_eq_true rfl) ?_
  intro p e s m args below meth c A ls C hr hk0 hA hW hl
  have hx := C.1.1
  have hb := C.1.2.1
  replace hl : lv_has ls 2 [(0, .ref (a0 0))] := hl
  obtain ⟨Q, hQ⟩ : ∃ Q, Q = MQ below (ctQ g A (some (.int y.1)) [kX8 g a0 y.2]) args s 0 0 A := ⟨_, rfl⟩
  rw [← hQ]
  obtain ⟨H, hH⟩ : ∃ H, H = s.heap := ⟨_, rfl⟩
  obtain ⟨locs, hL⟩ : ∃ locs : List Loc, locs = [] := ⟨_, rfl⟩
  replace hW : wd g A s.heap [kX8 g a0 v0] H locs := by rw [hH, hL]; exact hW
  suffices hG : W p l e (rmk 0 0) s m args below meth c H locs 0 0 Q (F0 m 0 ls []) by
    rw [hH, hL] at hG; exact hG
  clear hH hL
  have inX8 : ∀ w ∈ wsX80, w ∈ wsX8_clear := fun _ h => List.mem_cons_of_mem _ (List.mem_append_right _ (h))
  rw [fX8_clear] at hf
  refine lv_aload_n hx hb dX8_clear_0 rfl (lv_at hl 0 rfl) ?_
  refine lv_iconst (v := (0 : Int32)) hx hb dX8_clear_1 (by decide) ?_
  refine g_put C hW inX8 tyX8_ok nmX8 0 rfl rfl rfl 0 (by decide) (List.mem_of_getElem? (i := 1) rfl) rfl rfl rfl rfl (kX8_s0 g a0 v0 (0 : Int32)) (ch' := [kX8 g a0 (st v0 0 (fun _ => (0 : Int32)))]) rfl dX8_clear_2 (fun H locs hW => ?_)
  refine lv_aload_n hx hb dX8_clear_5 rfl (lv_at hl 0 rfl) ?_
  refine g_get C hW inX8 0 rfl rfl rfl 25 (by decide) (List.mem_of_getElem? (i := 2) rfl) (v := .int (v0 25 0)) rfl dX8_clear_6 ?_
  refine lv_istore_n (lv' := [(1, .int (v0 25 0)), (0, .ref (a0 0))]) hx hb dX8_clear_9 rfl hl (by decide) rfl (fun ls hl => ?_)
  refine lv_aload_n hx hb dX8_clear_10 rfl (lv_at hl 1 rfl) ?_
  refine lv_iconst (v := (0 : Int32)) hx hb dX8_clear_11 (by decide) ?_
  refine g_put C hW inX8 tyX8_ok nmX8 0 rfl rfl rfl 25 (by decide) (List.mem_of_getElem? (i := 2) rfl) rfl rfl rfl rfl (kX8_s25 g a0 (st v0 0 (fun _ => (0 : Int32))) (0 : Int32)) (ch' := [kX8 g a0 (st (st v0 0 (fun _ => (0 : Int32))) 25 (fun _ => (0 : Int32)))]) rfl dX8_clear_12 (fun H locs hW => ?_)
  refine lv_iload_n hx hb dX8_clear_15 rfl (lv_at hl 0 rfl) ?_
  obtain rfl := Option.some.inj hf
  subst hQ
  exact g_iret C hr hk0 hW rfl rfl dX8_clear_16
def fX8_isFigure (N : Nat) (x1 : Int32) (v0 : MM) : Option (Int32) := (if (v0 25 0) ≤ x1 then some (0 : Int32) else (if ib x1 120 = true then ((fX8_in N ((v0 26) (Int32.toNatClampNeg x1)) (48 : Int32) (57 : Int32)).bind (fun y1 => (if y1 = 0 then some (0 : Int32) else some (1 : Int32)))) else none))
set_option maxHeartbeats 4000000 in
set_option maxRecDepth 100000 in
theorem ct_X8_isFigure (g : GT) (l : Launch) (N : Nat) (a0 : Nat → Nat) (x1 : Int32) (v0 : MM) {y : Int32} (hf : fX8_isFigure N x1 v0 = some y) : ct g l yX8_isFigure wsX8_isFigure (rmk 1 22) [.ref (a0 0), .int x1] [kX8 g a0 v0] (some (.int y)) [kX8 g a0 v0] := by
  refine ct_of (cc := cX8_isFigure) (maxL := 2) (ret := (some .boolean)) (by decide) rfl (Nat.le_of_ble_eq_true rfl) ?_
  intro p e s m args below meth c A ls C hr hk0 hA hW hl
  have hx := C.1.1
  have hb := C.1.2.1
  replace hl : lv_has ls 2 [(0, .ref (a0 0)), (1, .int x1)] := hl
  obtain ⟨Q, hQ⟩ : ∃ Q, Q = MQ below (ctQ g A (some (.int y)) [kX8 g a0 v0]) args s 0 0 A := ⟨_, rfl⟩
  rw [← hQ]
  obtain ⟨H, hH⟩ : ∃ H, H = s.heap := ⟨_, rfl⟩
  obtain ⟨locs, hL⟩ : ∃ locs : List Loc, locs = [] := ⟨_, rfl⟩
  replace hW : wd g A s.heap [kX8 g a0 v0] H locs := by rw [hH, hL]; exact hW
  suffices hG : W p l e (rmk 1 22) s m args below meth c H locs 0 0 Q (F0 m 0 ls []) by
    rw [hH, hL] at hG; exact hG
  clear hH hL
  have inX8 : ∀ w ∈ wsX80, w ∈ wsX8_isFigure := fun _ h => List.mem_cons_of_mem _ (List.mem_append_right _ (h))
  rw [fX8_isFigure] at hf
  refine lv_iload_n hx hb dX8_isFigure_0 rfl (lv_at hl 1 rfl) ?_
  refine lv_aload_n hx hb dX8_isFigure_1 rfl (lv_at hl 0 rfl) ?_
  refine g_get C hW inX8 0 rfl rfl rfl 25 (by decide) (List.mem_of_getElem? (i := 1) rfl) (v := .int (v0 25 0)) rfl dX8_isFigure_2 ?_
  refine lv_icmp_ge (tgt := 28) hx hb dX8_isFigure_5 (by decide) (fun h => ?_) (fun h => ?_)
  · replace hf := (if_pos h).symm.trans hf
    refine lv_iconst (v := (0 : Int32)) hx hb dX8_isFigure_28 (by decide) ?_
    obtain rfl := Option.some.inj hf
    subst hQ
    exact g_zret C hr hk0 hW rfl rfl rfl dX8_isFigure_29
  · replace hf := (if_neg h).symm.trans hf
    refine lv_aload_n hx hb dX8_isFigure_8 rfl (lv_at hl 0 rfl) ?_
    refine g_get C hW inX8 0 rfl rfl rfl 26 (by decide) (List.mem_of_getElem? (i := 2) rfl) (v := .ref (a0 12)) rfl dX8_isFigure_9 ?_
    refine lv_iload_n hx hb dX8_isFigure_12 rfl (lv_at hl 1 rfl) ?_
    obtain ⟨hi, hf⟩ := gd_of hf
    refine g_iald C hW 0 12 rfl (f := (v0 26)) rfl (ib_in hi) dX8_isFigure_13 ?_
    refine lv_bipush (v := (48 : Int32)) hx hb dX8_isFigure_14 (by decide) ?_
    refine lv_bipush (v := (57 : Int32)) hx hb dX8_isFigure_16 (by decide) ?_
    obtain ⟨y1, hc, hf⟩ := bd_of hf
    refine g_cS C (ct_X8_in g l N ((v0 26) (Int32.toNatClampNeg x1)) (48 : Int32) (57 : Int32) hc) gX8_isFigure_X8_in rfl 3 (by decide +kernel) ⟨rfl, rfl, ⟨Nat.le_of_ble_eq_true rfl, Nat.le_of_ble_eq_true rfl⟩, Nat.le_of_ble_eq_true rfl, Nat.le_of_ble_eq_true rfl⟩ rfl hl (Nat.le_of_ble_eq_true rfl) dX8_isFigure_18 rfl hW hA [] rfl rfl rfl (ch' := [kX8 g a0 v0]) rfl (fun H locs hW => ?_)
    refine lv_if_eq (tgt := 28) hx hb dX8_isFigure_21 (by decide) (fun h => ?_) (fun h => ?_)
    · replace hf := (if_pos h).symm.trans hf
      refine lv_iconst (v := (0 : Int32)) hx hb dX8_isFigure_28 (by decide) ?_
      obtain rfl := Option.some.inj hf
      subst hQ
      exact g_zret C hr hk0 hW rfl rfl rfl dX8_isFigure_29
    · replace hf := (if_neg h).symm.trans hf
      refine lv_iconst (v := (1 : Int32)) hx hb dX8_isFigure_24 (by decide) ?_
      refine lv_goto (tgt := 29) hx hb dX8_isFigure_25 (by decide) ?_
      obtain rfl := Option.some.inj hf
      subst hQ
      exact g_zret C hr hk0 hW rfl rfl rfl dX8_isFigure_29
def fX8_takes_L0 (N : Nat) (k : MM → Option (MM)) : Nat → MM → Option (MM)
  | 0, _ => none
  | n + 1, v0 => (if (v0 25 0) ≤ (v0 27 0) then k v0 else (if ib (v0 27 0) 120 = true then (if ((v0 26) (Int32.toNatClampNeg (v0 27 0))) = (32 : Int32) then fX8_takes_L0 N k n (st v0 27 (fun _ => ((v0 27 0) + (1 : Int32)))) else k v0) else none))
def fX8_takes_L113 (N : Nat) (k : Int32 → MM → Option (MM)) : Nat → Int32 → MM → Option (MM)
  | 0, _, _ => none
  | n + 1, x1, v0 => ((fX8_isFigure N (v0 27 0) v0).bind (fun y3 => (if y3 = 0 then k x1 v0 else (if x1 ≤ (99 : Int32) then (if ib (v0 27 0) 120 = true then fX8_takes_L113 N k n ((((10 : Int32) * x1) + ((v0 26) (Int32.toNatClampNeg (v0 27 0)))) - (48 : Int32)) (st v0 27 (fun _ => ((v0 27 0) + (1 : Int32)))) else none) else fX8_takes_L113 N k n x1 (st v0 27 (fun _ => ((v0 27 0) + (1 : Int32))))))))
def fX8_takes (N : Nat) (v0 : MM) : Option (MM) := (fX8_takes_L0 N (fun (v0_1 : MM) => (if (v0_1 25 0) ≤ (v0_1 27 0) then ((fX8_isFigure N (v0_1 27 0) (st (st v0_1 28 (fun _ => (v0_1 27 0))) 29 (fun _ => (-1 : Int32)))).bind (fun y2 => (if y2 = 0 then (if (v0_1 25 0) ≤ (v0_1 27 0) then some (st (st (st v0_1 28 (fun _ => (v0_1 27 0))) 29 (fun _ => (-1 : Int32))) 27 (fun _ => ((v0_1 27 0) + (0 : Int32)))) else some (st (st (st v0_1 28 (fun _ => (v0_1 27 0))) 29 (fun _ => (-1 : Int32))) 27 (fun _ => ((v0_1 27 0) + (1 : Int32))))) else (fX8_takes_L113 N (fun (x1_4 : Int32) (v0_4 : MM) => (if (99 : Int32) < x1_4 then some (st v0_4 29 (fun _ => (2000 : Int32))) else (if ib (v0_4 28 0) 120 = true then (if ((v0_4 26) (Int32.toNatClampNeg (v0_4 28 0))) = (48 : Int32) then (if (v0_4 27 0) ≤ ((v0_4 28 0) + (1 : Int32)) then some (st v0_4 29 (fun _ => ((1000 : Int32) + x1_4))) else some (st v0_4 29 (fun _ => (2000 : Int32)))) else some (st v0_4 29 (fun _ => ((1000 : Int32) + x1_4)))) else none))) N (0 : Int32) (st (st v0_1 28 (fun _ => (v0_1 27 0))) 29 (fun _ => (-1 : Int32))))))) else (if ib (v0_1 27 0) 120 = true then ((fX8_isFigure N (v0_1 27 0) (st (st v0_1 28 (fun _ => (v0_1 27 0))) 29 (fun _ => ((v0_1 26) (Int32.toNatClampNeg (v0_1 27 0)))))).bind (fun y5 => (if y5 = 0 then (if (v0_1 25 0) ≤ (v0_1 27 0) then some (st (st (st v0_1 28 (fun _ => (v0_1 27 0))) 29 (fun _ => ((v0_1 26) (Int32.toNatClampNeg (v0_1 27 0))))) 27 (fun _ => ((v0_1 27 0) + (0 : Int32)))) else some (st (st (st v0_1 28 (fun _ => (v0_1 27 0))) 29 (fun _ => ((v0_1 26) (Int32.toNatClampNeg (v0_1 27 0))))) 27 (fun _ => ((v0_1 27 0) + (1 : Int32))))) else (fX8_takes_L113 N (fun (x1_6 : Int32) (v0_6 : MM) => (if (99 : Int32) < x1_6 then some (st v0_6 29 (fun _ => (2000 : Int32))) else (if ib (v0_6 28 0) 120 = true then (if ((v0_6 26) (Int32.toNatClampNeg (v0_6 28 0))) = (48 : Int32) then (if (v0_6 27 0) ≤ ((v0_6 28 0) + (1 : Int32)) then some (st v0_6 29 (fun _ => ((1000 : Int32) + x1_6))) else some (st v0_6 29 (fun _ => (2000 : Int32)))) else some (st v0_6 29 (fun _ => ((1000 : Int32) + x1_6)))) else none))) N (0 : Int32) (st (st v0_1 28 (fun _ => (v0_1 27 0))) 29 (fun _ => ((v0_1 26) (Int32.toNatClampNeg (v0_1 27 0))))))))) else none))) N v0)
set_option maxHeartbeats 4000000 in
set_option maxRecDepth 100000 in
theorem ct_X8_takes (g : GT) (l : Launch) (N : Nat) (a0 : Nat → Nat) (v0 : MM) {y : MM} (hf : fX8_takes N v0 = some y) : ct g l yX8_takes wsX8_takes (rmk 2 43) [.ref (a0 0)] [kX8 g a0 v0] none [kX8 g a0 y] := by
  refine ct_of (cc := cX8_takes) (maxL := 2) (ret := none) (by decide) rfl (Nat.le_of_ble_eq_true rfl) ?_
  intro p e s m args below meth c A ls C hr hk0 hA hW hl
  have hx := C.1.1
  have hb := C.1.2.1
  replace hl : lv_has ls 2 [(0, .ref (a0 0))] := hl
  obtain ⟨Q, hQ⟩ : ∃ Q, Q = MQ below (ctQ g A none [kX8 g a0 y]) args s 0 0 A := ⟨_, rfl⟩
  rw [← hQ]
  obtain ⟨H, hH⟩ : ∃ H, H = s.heap := ⟨_, rfl⟩
  obtain ⟨locs, hL⟩ : ∃ locs : List Loc, locs = [] := ⟨_, rfl⟩
  replace hW : wd g A s.heap [kX8 g a0 v0] H locs := by rw [hH, hL]; exact hW
  suffices hG : W p l e (rmk 2 43) s m args below meth c H locs 0 0 Q (F0 m 0 ls []) by
    rw [hH, hL] at hG; exact hG
  clear hH hL
  have inX8 : ∀ w ∈ wsX80, w ∈ wsX8_takes := fun _ h => List.mem_cons_of_mem _ (List.mem_append_right _ (h))
  have L0 : ∀ (k : MM → Option (MM)) (hk : ∀ (v0 : MM) (H : Heap) (locs : List Loc) (ls : Array Slot), k v0 = some y → wd g A s.heap [kX8 g a0 v0] H locs → lv_has ls 2 [(0, .ref (a0 0))] → W p l e (rmk 2 43) s m args below meth c H locs 0 0 Q (F0 m 38 ls [])) (n : Nat) (v0 : MM) (H : Heap) (locs : List Loc) (ls : Array Slot), fX8_takes_L0 N k n v0 = some y → wd g A s.heap [kX8 g a0 v0] H locs → lv_has ls 2 [(0, .ref (a0 0))] → W p l e (rmk 2 43) s m args below meth c H locs 0 0 Q (F0 m 0 ls []) := by
    intro k hk n
    induction n with
    | zero => intro v0 H locs ls hf; rw [fX8_takes_L0] at hf; cases hf
    | succ n ih =>
      intro v0 H locs ls hf hW hl
      rw [fX8_takes_L0] at hf
      refine lv_aload_n hx hb dX8_takes_0 rfl (lv_at hl 0 rfl) ?_
      refine g_get C hW inX8 0 rfl rfl rfl 27 (by decide) (List.mem_of_getElem? (i := 1) rfl) (v := .int (v0 27 0)) rfl dX8_takes_1 ?_
      refine lv_aload_n hx hb dX8_takes_4 rfl (lv_at hl 0 rfl) ?_
      refine g_get C hW inX8 0 rfl rfl rfl 25 (by decide) (List.mem_of_getElem? (i := 2) rfl) (v := .int (v0 25 0)) rfl dX8_takes_5 ?_
      refine lv_icmp_ge (tgt := 38) hx hb dX8_takes_8 (by decide) (fun h => ?_) (fun h => ?_)
      · replace hf := (if_pos h).symm.trans hf
        exact hk _ H locs ls hf hW (lv_sub hl [0] rfl)
      · replace hf := (if_neg h).symm.trans hf
        refine lv_aload_n hx hb dX8_takes_11 rfl (lv_at hl 0 rfl) ?_
        refine g_get C hW inX8 0 rfl rfl rfl 26 (by decide) (List.mem_of_getElem? (i := 3) rfl) (v := .ref (a0 12)) rfl dX8_takes_12 ?_
        refine lv_aload_n hx hb dX8_takes_15 rfl (lv_at hl 0 rfl) ?_
        refine g_get C hW inX8 0 rfl rfl rfl 27 (by decide) (List.mem_of_getElem? (i := 1) rfl) (v := .int (v0 27 0)) rfl dX8_takes_16 ?_
        obtain ⟨hi, hf⟩ := gd_of hf
        refine g_iald C hW 0 12 rfl (f := (v0 26)) rfl (ib_in hi) dX8_takes_19 ?_
        refine lv_bipush (v := (32 : Int32)) hx hb dX8_takes_20 (by decide) ?_
        refine lv_icmp_ne (tgt := 38) hx hb dX8_takes_22 (by decide) (fun h => ?_) (fun h => ?_)
        · replace hf := (if_neg h).symm.trans hf
          exact hk _ H locs ls hf hW (lv_sub hl [0] rfl)
        · replace hf := (if_pos h).symm.trans hf
          refine lv_aload_n hx hb dX8_takes_25 rfl (lv_at hl 0 rfl) ?_
          refine lv_dup hx hb dX8_takes_26 rfl ?_
          refine g_get C hW inX8 0 rfl rfl rfl 27 (by decide) (List.mem_of_getElem? (i := 1) rfl) (v := .int (v0 27 0)) rfl dX8_takes_27 ?_
          refine lv_iconst (v := (1 : Int32)) hx hb dX8_takes_30 (by decide) ?_
          refine lv_iadd hx hb dX8_takes_31 ?_
          refine g_put C hW inX8 tyX8_ok nmX8 0 rfl rfl rfl 27 (by decide) (List.mem_of_getElem? (i := 1) rfl) rfl rfl rfl rfl (kX8_s27 g a0 v0 ((v0 27 0) + (1 : Int32))) (ch' := [kX8 g a0 (st v0 27 (fun _ => ((v0 27 0) + (1 : Int32))))]) rfl dX8_takes_32 (fun H locs hW => ?_)
          refine lv_goto (tgt := 0) hx hb dX8_takes_35 (by decide) ?_
          exact ih _ H locs ls hf hW (lv_sub hl [0] rfl)
  have L113 : ∀ (k : Int32 → MM → Option (MM)) (hk : ∀ (x1 : Int32) (v0 : MM) (H : Heap) (locs : List Loc) (ls : Array Slot), k x1 v0 = some y → wd g A s.heap [kX8 g a0 v0] H locs → lv_has ls 2 [(0, .ref (a0 0)), (1, .int x1)] → W p l e (rmk 2 43) s m args below meth c H locs 0 0 Q (F0 m 165 ls [])) (n : Nat) (x1 : Int32) (v0 : MM) (H : Heap) (locs : List Loc) (ls : Array Slot), fX8_takes_L113 N k n x1 v0 = some y → wd g A s.heap [kX8 g a0 v0] H locs → lv_has ls 2 [(0, .ref (a0 0)), (1, .int x1)] → W p l e (rmk 2 43) s m args below meth c H locs 0 0 Q (F0 m 113 ls []) := by
    intro k hk n
    induction n with
    | zero => intro x1 v0 H locs ls hf; rw [fX8_takes_L113] at hf; cases hf
    | succ n ih =>
      intro x1 v0 H locs ls hf hW hl
      rw [fX8_takes_L113] at hf
      refine lv_aload_n hx hb dX8_takes_113 rfl (lv_at hl 0 rfl) ?_
      refine lv_aload_n hx hb dX8_takes_114 rfl (lv_at hl 0 rfl) ?_
      refine g_get C hW inX8 0 rfl rfl rfl 27 (by decide) (List.mem_of_getElem? (i := 1) rfl) (v := .int (v0 27 0)) rfl dX8_takes_115 ?_
      obtain ⟨y3, hc, hf⟩ := bd_of hf
      refine g_cV (Cn := RX8) C (ct_X8_isFigure g l N a0 (v0 27 0) v0 hc) gX8_takes_X8_isFigure rfl 1 (by decide +kernel) ⟨rfl, rfl, ⟨Nat.le_of_ble_eq_true rfl, Nat.le_of_ble_eq_true rfl⟩, Nat.le_of_ble_eq_true rfl, Nat.le_of_ble_eq_true rfl⟩ rfl hl (Nat.le_of_ble_eq_true rfl) dX8_takes_118 rfl hW hA [0] rfl rfl rfl (ch' := [kX8 g a0 v0]) rfl 0 rfl rfl rfl (fun H locs hW => ?_)
      refine lv_if_eq (tgt := 165) hx hb dX8_takes_121 (by decide) (fun h => ?_) (fun h => ?_)
      · replace hf := (if_pos h).symm.trans hf
        exact hk _ _ H locs ls hf hW (lv_sub hl [0, 1] rfl)
      · replace hf := (if_neg h).symm.trans hf
        refine lv_iload_n hx hb dX8_takes_124 rfl (lv_at hl 1 rfl) ?_
        refine lv_bipush (v := (99 : Int32)) hx hb dX8_takes_125 (by decide) ?_
        refine lv_icmp_le (tgt := 134) hx hb dX8_takes_127 (by decide) (fun h => ?_) (fun h => ?_)
        · replace hf := (if_pos h).symm.trans hf
          refine lv_bipush (v := (10 : Int32)) hx hb dX8_takes_134 (by decide) ?_
          refine lv_iload_n hx hb dX8_takes_136 rfl (lv_at hl 1 rfl) ?_
          refine lv_imul hx hb dX8_takes_137 ?_
          refine lv_aload_n hx hb dX8_takes_138 rfl (lv_at hl 0 rfl) ?_
          refine g_get C hW inX8 0 rfl rfl rfl 26 (by decide) (List.mem_of_getElem? (i := 3) rfl) (v := .ref (a0 12)) rfl dX8_takes_139 ?_
          refine lv_aload_n hx hb dX8_takes_142 rfl (lv_at hl 0 rfl) ?_
          refine g_get C hW inX8 0 rfl rfl rfl 27 (by decide) (List.mem_of_getElem? (i := 1) rfl) (v := .int (v0 27 0)) rfl dX8_takes_143 ?_
          obtain ⟨hi, hf⟩ := gd_of hf
          refine g_iald C hW 0 12 rfl (f := (v0 26)) rfl (ib_in hi) dX8_takes_146 ?_
          refine lv_iadd hx hb dX8_takes_147 ?_
          refine lv_bipush (v := (48 : Int32)) hx hb dX8_takes_148 (by decide) ?_
          refine lv_isub hx hb dX8_takes_150 ?_
          refine lv_istore_n (lv' := [(1, .int ((((10 : Int32) * x1) + ((v0 26) (Int32.toNatClampNeg (v0 27 0)))) - (48 : Int32))), (0, .ref (a0 0))]) hx hb dX8_takes_151 rfl hl (by decide) rfl (fun ls hl => ?_)
          refine lv_aload_n hx hb dX8_takes_152 rfl (lv_at hl 1 rfl) ?_
          refine lv_dup hx hb dX8_takes_153 rfl ?_
          refine g_get C hW inX8 0 rfl rfl rfl 27 (by decide) (List.mem_of_getElem? (i := 1) rfl) (v := .int (v0 27 0)) rfl dX8_takes_154 ?_
          refine lv_iconst (v := (1 : Int32)) hx hb dX8_takes_157 (by decide) ?_
          refine lv_iadd hx hb dX8_takes_158 ?_
          refine g_put C hW inX8 tyX8_ok nmX8 0 rfl rfl rfl 27 (by decide) (List.mem_of_getElem? (i := 1) rfl) rfl rfl rfl rfl (kX8_s27 g a0 v0 ((v0 27 0) + (1 : Int32))) (ch' := [kX8 g a0 (st v0 27 (fun _ => ((v0 27 0) + (1 : Int32))))]) rfl dX8_takes_159 (fun H locs hW => ?_)
          refine lv_goto (tgt := 113) hx hb dX8_takes_162 (by decide) ?_
          exact ih _ _ H locs ls hf hW (lv_sub hl [1, 0] rfl)
        · replace hf := (if_neg h).symm.trans hf
          refine lv_iload_n hx hb dX8_takes_130 rfl (lv_at hl 1 rfl) ?_
          refine lv_goto (tgt := 151) hx hb dX8_takes_131 (by decide) ?_
          refine lv_istore_n (lv' := [(1, .int x1), (0, .ref (a0 0))]) hx hb dX8_takes_151 rfl hl (by decide) rfl (fun ls hl => ?_)
          refine lv_aload_n hx hb dX8_takes_152 rfl (lv_at hl 1 rfl) ?_
          refine lv_dup hx hb dX8_takes_153 rfl ?_
          refine g_get C hW inX8 0 rfl rfl rfl 27 (by decide) (List.mem_of_getElem? (i := 1) rfl) (v := .int (v0 27 0)) rfl dX8_takes_154 ?_
          refine lv_iconst (v := (1 : Int32)) hx hb dX8_takes_157 (by decide) ?_
          refine lv_iadd hx hb dX8_takes_158 ?_
          refine g_put C hW inX8 tyX8_ok nmX8 0 rfl rfl rfl 27 (by decide) (List.mem_of_getElem? (i := 1) rfl) rfl rfl rfl rfl (kX8_s27 g a0 v0 ((v0 27 0) + (1 : Int32))) (ch' := [kX8 g a0 (st v0 27 (fun _ => ((v0 27 0) + (1 : Int32))))]) rfl dX8_takes_159 (fun H locs hW => ?_)
          refine lv_goto (tgt := 113) hx hb dX8_takes_162 (by decide) ?_
          exact ih _ _ H locs ls hf hW (lv_sub hl [1, 0] rfl)
  rw [fX8_takes] at hf
  refine L0 _ (fun v0_1 H locs ls hf hW hl => ?_) N v0 H locs ls hf hW (lv_sub hl [0] rfl)
  refine lv_aload_n hx hb dX8_takes_38 rfl (lv_at hl 0 rfl) ?_
  refine lv_aload_n hx hb dX8_takes_39 rfl (lv_at hl 0 rfl) ?_
  refine g_get C hW inX8 0 rfl rfl rfl 27 (by decide) (List.mem_of_getElem? (i := 1) rfl) (v := .int (v0_1 27 0)) rfl dX8_takes_40 ?_
  refine g_put C hW inX8 tyX8_ok nmX8 0 rfl rfl rfl 28 (by decide) (List.mem_of_getElem? (i := 4) rfl) rfl rfl rfl rfl (kX8_s28 g a0 v0_1 (v0_1 27 0)) (ch' := [kX8 g a0 (st v0_1 28 (fun _ => (v0_1 27 0)))]) rfl dX8_takes_43 (fun H locs hW => ?_)
  refine lv_aload_n hx hb dX8_takes_46 rfl (lv_at hl 0 rfl) ?_
  refine lv_aload_n hx hb dX8_takes_47 rfl (lv_at hl 0 rfl) ?_
  refine g_get C hW inX8 0 rfl rfl rfl 27 (by decide) (List.mem_of_getElem? (i := 1) rfl) (v := .int (v0_1 27 0)) rfl dX8_takes_48 ?_
  refine lv_aload_n hx hb dX8_takes_51 rfl (lv_at hl 0 rfl) ?_
  refine g_get C hW inX8 0 rfl rfl rfl 25 (by decide) (List.mem_of_getElem? (i := 2) rfl) (v := .int (v0_1 25 0)) rfl dX8_takes_52 ?_
  refine lv_icmp_ge (tgt := 70) hx hb dX8_takes_55 (by decide) (fun h => ?_) (fun h => ?_)
  · replace hf := (if_pos h).symm.trans hf
    refine lv_iconst (v := (-1 : Int32)) hx hb dX8_takes_70 (by decide) ?_
    refine g_put C hW inX8 tyX8_ok nmX8 0 rfl rfl rfl 29 (by decide) (List.mem_of_getElem? (i := 5) rfl) rfl rfl rfl rfl (kX8_s29 g a0 (st v0_1 28 (fun _ => (v0_1 27 0))) (-1 : Int32)) (ch' := [kX8 g a0 (st (st v0_1 28 (fun _ => (v0_1 27 0))) 29 (fun _ => (-1 : Int32)))]) rfl dX8_takes_71 (fun H locs hW => ?_)
    refine lv_aload_n hx hb dX8_takes_74 rfl (lv_at hl 0 rfl) ?_
    refine lv_aload_n hx hb dX8_takes_75 rfl (lv_at hl 0 rfl) ?_
    refine g_get C hW inX8 0 rfl rfl rfl 27 (by decide) (List.mem_of_getElem? (i := 1) rfl) (v := .int (v0_1 27 0)) rfl dX8_takes_76 ?_
    obtain ⟨y2, hc, hf⟩ := bd_of hf
    refine g_cV (Cn := RX8) C (ct_X8_isFigure g l N a0 (v0_1 27 0) (st (st v0_1 28 (fun _ => (v0_1 27 0))) 29 (fun _ => (-1 : Int32))) hc) gX8_takes_X8_isFigure rfl 1 (by decide +kernel) ⟨rfl, rfl, ⟨Nat.le_of_ble_eq_true rfl, Nat.le_of_ble_eq_true rfl⟩, Nat.le_of_ble_eq_true rfl, Nat.le_of_ble_eq_true rfl⟩ rfl hl (Nat.le_of_ble_eq_true rfl) dX8_takes_79 rfl hW hA [0] rfl rfl rfl (ch' := [kX8 g a0 (st (st v0_1 28 (fun _ => (v0_1 27 0))) 29 (fun _ => (-1 : Int32)))]) rfl 0 rfl rfl rfl (fun H locs hW => ?_)
    refine lv_if_ne (tgt := 111) hx hb dX8_takes_82 (by decide) (fun h => ?_) (fun h => ?_)
    · replace hf := (if_neg h).symm.trans hf
      refine lv_iconst (v := (0 : Int32)) hx hb dX8_takes_111 (by decide) ?_
      refine lv_istore_n (lv' := [(1, .int (0 : Int32)), (0, .ref (a0 0))]) hx hb dX8_takes_112 rfl hl (by decide) rfl (fun ls hl => ?_)
      refine L113 _ (fun x1_4 v0_4 H locs ls hf hW hl => ?_) N (0 : Int32) (st (st v0_1 28 (fun _ => (v0_1 27 0))) 29 (fun _ => (-1 : Int32))) H locs ls hf hW (lv_sub hl [1, 0] rfl)
      refine lv_aload_n hx hb dX8_takes_165 rfl (lv_at hl 0 rfl) ?_
      refine lv_iload_n hx hb dX8_takes_166 rfl (lv_at hl 1 rfl) ?_
      refine lv_bipush (v := (99 : Int32)) hx hb dX8_takes_167 (by decide) ?_
      refine lv_icmp_gt (tgt := 199) hx hb dX8_takes_169 (by decide) (fun h => ?_) (fun h => ?_)
      · replace hf := (if_pos h).symm.trans hf
        refine lv_sipush (v := (2000 : Int32)) hx hb dX8_takes_199 (by decide) ?_
        refine lv_goto (tgt := 210) hx hb dX8_takes_202 (by decide) ?_
        refine g_put C hW inX8 tyX8_ok nmX8 0 rfl rfl rfl 29 (by decide) (List.mem_of_getElem? (i := 5) rfl) rfl rfl rfl rfl (kX8_s29 g a0 v0_4 (2000 : Int32)) (ch' := [kX8 g a0 (st v0_4 29 (fun _ => (2000 : Int32)))]) rfl dX8_takes_210 (fun H locs hW => ?_)
        obtain rfl := Option.some.inj hf
        subst hQ
        exact g_vret C hr hk0 hW rfl rfl dX8_takes_213
      · replace hf := (if_neg h).symm.trans hf
        refine lv_aload_n hx hb dX8_takes_172 rfl (lv_at hl 0 rfl) ?_
        refine g_get C hW inX8 0 rfl rfl rfl 26 (by decide) (List.mem_of_getElem? (i := 3) rfl) (v := .ref (a0 12)) rfl dX8_takes_173 ?_
        refine lv_aload_n hx hb dX8_takes_176 rfl (lv_at hl 0 rfl) ?_
        refine g_get C hW inX8 0 rfl rfl rfl 28 (by decide) (List.mem_of_getElem? (i := 4) rfl) (v := .int (v0_4 28 0)) rfl dX8_takes_177 ?_
        obtain ⟨hi, hf⟩ := gd_of hf
        refine g_iald C hW 0 12 rfl (f := (v0_4 26)) rfl (ib_in hi) dX8_takes_180 ?_
        refine lv_bipush (v := (48 : Int32)) hx hb dX8_takes_181 (by decide) ?_
        refine lv_icmp_ne (tgt := 205) hx hb dX8_takes_183 (by decide) (fun h => ?_) (fun h => ?_)
        · replace hf := (if_neg h).symm.trans hf
          refine lv_sipush (v := (1000 : Int32)) hx hb dX8_takes_205 (by decide) ?_
          refine lv_iload_n hx hb dX8_takes_208 rfl (lv_at hl 1 rfl) ?_
          refine lv_iadd hx hb dX8_takes_209 ?_
          refine g_put C hW inX8 tyX8_ok nmX8 0 rfl rfl rfl 29 (by decide) (List.mem_of_getElem? (i := 5) rfl) rfl rfl rfl rfl (kX8_s29 g a0 v0_4 ((1000 : Int32) + x1_4)) (ch' := [kX8 g a0 (st v0_4 29 (fun _ => ((1000 : Int32) + x1_4)))]) rfl dX8_takes_210 (fun H locs hW => ?_)
          obtain rfl := Option.some.inj hf
          subst hQ
          exact g_vret C hr hk0 hW rfl rfl dX8_takes_213
        · replace hf := (if_pos h).symm.trans hf
          refine lv_aload_n hx hb dX8_takes_186 rfl (lv_at hl 0 rfl) ?_
          refine g_get C hW inX8 0 rfl rfl rfl 27 (by decide) (List.mem_of_getElem? (i := 1) rfl) (v := .int (v0_4 27 0)) rfl dX8_takes_187 ?_
          refine lv_aload_n hx hb dX8_takes_190 rfl (lv_at hl 0 rfl) ?_
          refine g_get C hW inX8 0 rfl rfl rfl 28 (by decide) (List.mem_of_getElem? (i := 4) rfl) (v := .int (v0_4 28 0)) rfl dX8_takes_191 ?_
          refine lv_iconst (v := (1 : Int32)) hx hb dX8_takes_194 (by decide) ?_
          refine lv_iadd hx hb dX8_takes_195 ?_
          refine lv_icmp_le (tgt := 205) hx hb dX8_takes_196 (by decide) (fun h => ?_) (fun h => ?_)
          · replace hf := (if_pos h).symm.trans hf
            refine lv_sipush (v := (1000 : Int32)) hx hb dX8_takes_205 (by decide) ?_
            refine lv_iload_n hx hb dX8_takes_208 rfl (lv_at hl 1 rfl) ?_
            refine lv_iadd hx hb dX8_takes_209 ?_
            refine g_put C hW inX8 tyX8_ok nmX8 0 rfl rfl rfl 29 (by decide) (List.mem_of_getElem? (i := 5) rfl) rfl rfl rfl rfl (kX8_s29 g a0 v0_4 ((1000 : Int32) + x1_4)) (ch' := [kX8 g a0 (st v0_4 29 (fun _ => ((1000 : Int32) + x1_4)))]) rfl dX8_takes_210 (fun H locs hW => ?_)
            obtain rfl := Option.some.inj hf
            subst hQ
            exact g_vret C hr hk0 hW rfl rfl dX8_takes_213
          · replace hf := (if_neg h).symm.trans hf
            refine lv_sipush (v := (2000 : Int32)) hx hb dX8_takes_199 (by decide) ?_
            refine lv_goto (tgt := 210) hx hb dX8_takes_202 (by decide) ?_
            refine g_put C hW inX8 tyX8_ok nmX8 0 rfl rfl rfl 29 (by decide) (List.mem_of_getElem? (i := 5) rfl) rfl rfl rfl rfl (kX8_s29 g a0 v0_4 (2000 : Int32)) (ch' := [kX8 g a0 (st v0_4 29 (fun _ => (2000 : Int32)))]) rfl dX8_takes_210 (fun H locs hW => ?_)
            obtain rfl := Option.some.inj hf
            subst hQ
            exact g_vret C hr hk0 hW rfl rfl dX8_takes_213
    · replace hf := (if_pos h).symm.trans hf
      refine lv_aload_n hx hb dX8_takes_85 rfl (lv_at hl 0 rfl) ?_
      refine lv_dup hx hb dX8_takes_86 rfl ?_
      refine g_get C hW inX8 0 rfl rfl rfl 27 (by decide) (List.mem_of_getElem? (i := 1) rfl) (v := .int (v0_1 27 0)) rfl dX8_takes_87 ?_
      refine lv_aload_n hx hb dX8_takes_90 rfl (lv_at hl 0 rfl) ?_
      refine g_get C hW inX8 0 rfl rfl rfl 27 (by decide) (List.mem_of_getElem? (i := 1) rfl) (v := .int (v0_1 27 0)) rfl dX8_takes_91 ?_
      refine lv_aload_n hx hb dX8_takes_94 rfl (lv_at hl 0 rfl) ?_
      refine g_get C hW inX8 0 rfl rfl rfl 25 (by decide) (List.mem_of_getElem? (i := 2) rfl) (v := .int (v0_1 25 0)) rfl dX8_takes_95 ?_
      refine lv_icmp_ge (tgt := 105) hx hb dX8_takes_98 (by decide) (fun h => ?_) (fun h => ?_)
      · replace hf := (if_pos h).symm.trans hf
        refine lv_iconst (v := (0 : Int32)) hx hb dX8_takes_105 (by decide) ?_
        refine lv_iadd hx hb dX8_takes_106 ?_
        refine g_put C hW inX8 tyX8_ok nmX8 0 rfl rfl rfl 27 (by decide) (List.mem_of_getElem? (i := 1) rfl) rfl rfl rfl rfl (kX8_s27 g a0 (st (st v0_1 28 (fun _ => (v0_1 27 0))) 29 (fun _ => (-1 : Int32))) ((v0_1 27 0) + (0 : Int32))) (ch' := [kX8 g a0 (st (st (st v0_1 28 (fun _ => (v0_1 27 0))) 29 (fun _ => (-1 : Int32))) 27 (fun _ => ((v0_1 27 0) + (0 : Int32))))]) rfl dX8_takes_107 (fun H locs hW => ?_)
        obtain rfl := Option.some.inj hf
        subst hQ
        exact g_vret C hr hk0 hW rfl rfl dX8_takes_110
      · replace hf := (if_neg h).symm.trans hf
        refine lv_iconst (v := (1 : Int32)) hx hb dX8_takes_101 (by decide) ?_
        refine lv_goto (tgt := 106) hx hb dX8_takes_102 (by decide) ?_
        refine lv_iadd hx hb dX8_takes_106 ?_
        refine g_put C hW inX8 tyX8_ok nmX8 0 rfl rfl rfl 27 (by decide) (List.mem_of_getElem? (i := 1) rfl) rfl rfl rfl rfl (kX8_s27 g a0 (st (st v0_1 28 (fun _ => (v0_1 27 0))) 29 (fun _ => (-1 : Int32))) ((v0_1 27 0) + (1 : Int32))) (ch' := [kX8 g a0 (st (st (st v0_1 28 (fun _ => (v0_1 27 0))) 29 (fun _ => (-1 : Int32))) 27 (fun _ => ((v0_1 27 0) + (1 : Int32))))]) rfl dX8_takes_107 (fun H locs hW => ?_)
        obtain rfl := Option.some.inj hf
        subst hQ
        exact g_vret C hr hk0 hW rfl rfl dX8_takes_110
  · replace hf := (if_neg h).symm.trans hf
    refine lv_aload_n hx hb dX8_takes_58 rfl (lv_at hl 0 rfl) ?_
    refine g_get C hW inX8 0 rfl rfl rfl 26 (by decide) (List.mem_of_getElem? (i := 3) rfl) (v := .ref (a0 12)) rfl dX8_takes_59 ?_
    refine lv_aload_n hx hb dX8_takes_62 rfl (lv_at hl 0 rfl) ?_
    refine g_get C hW inX8 0 rfl rfl rfl 27 (by decide) (List.mem_of_getElem? (i := 1) rfl) (v := .int (v0_1 27 0)) rfl dX8_takes_63 ?_
    obtain ⟨hi, hf⟩ := gd_of hf
    refine g_iald C hW 0 12 rfl (f := (v0_1 26)) rfl (ib_in hi) dX8_takes_66 ?_
    refine lv_goto (tgt := 71) hx hb dX8_takes_67 (by decide) ?_
    refine g_put C hW inX8 tyX8_ok nmX8 0 rfl rfl rfl 29 (by decide) (List.mem_of_getElem? (i := 5) rfl) rfl rfl rfl rfl (kX8_s29 g a0 (st v0_1 28 (fun _ => (v0_1 27 0))) ((v0_1 26) (Int32.toNatClampNeg (v0_1 27 0)))) (ch' := [kX8 g a0 (st (st v0_1 28 (fun _ => (v0_1 27 0))) 29 (fun _ => ((v0_1 26) (Int32.toNatClampNeg (v0_1 27 0)))))]) rfl dX8_takes_71 (fun H locs hW => ?_)
    refine lv_aload_n hx hb dX8_takes_74 rfl (lv_at hl 0 rfl) ?_
    refine lv_aload_n hx hb dX8_takes_75 rfl (lv_at hl 0 rfl) ?_
    refine g_get C hW inX8 0 rfl rfl rfl 27 (by decide) (List.mem_of_getElem? (i := 1) rfl) (v := .int (v0_1 27 0)) rfl dX8_takes_76 ?_
    obtain ⟨y5, hc, hf⟩ := bd_of hf
    refine g_cV (Cn := RX8) C (ct_X8_isFigure g l N a0 (v0_1 27 0) (st (st v0_1 28 (fun _ => (v0_1 27 0))) 29 (fun _ => ((v0_1 26) (Int32.toNatClampNeg (v0_1 27 0))))) hc) gX8_takes_X8_isFigure rfl 1 (by decide +kernel) ⟨rfl, rfl, ⟨Nat.le_of_ble_eq_true rfl, Nat.le_of_ble_eq_true rfl⟩, Nat.le_of_ble_eq_true rfl, Nat.le_of_ble_eq_true rfl⟩ rfl hl (Nat.le_of_ble_eq_true rfl) dX8_takes_79 rfl hW hA [0] rfl rfl rfl (ch' := [kX8 g a0 (st (st v0_1 28 (fun _ => (v0_1 27 0))) 29 (fun _ => ((v0_1 26) (Int32.toNatClampNeg (v0_1 27 0)))))]) rfl 0 rfl rfl rfl (fun H locs hW => ?_)
    refine lv_if_ne (tgt := 111) hx hb dX8_takes_82 (by decide) (fun h => ?_) (fun h => ?_)
    · replace hf := (if_neg h).symm.trans hf
      refine lv_iconst (v := (0 : Int32)) hx hb dX8_takes_111 (by decide) ?_
      refine lv_istore_n (lv' := [(1, .int (0 : Int32)), (0, .ref (a0 0))]) hx hb dX8_takes_112 rfl hl (by decide) rfl (fun ls hl => ?_)
      refine L113 _ (fun x1_6 v0_6 H locs ls hf hW hl => ?_) N (0 : Int32) (st (st v0_1 28 (fun _ => (v0_1 27 0))) 29 (fun _ => ((v0_1 26) (Int32.toNatClampNeg (v0_1 27 0))))) H locs ls hf hW (lv_sub hl [1, 0] rfl)
      refine lv_aload_n hx hb dX8_takes_165 rfl (lv_at hl 0 rfl) ?_
      refine lv_iload_n hx hb dX8_takes_166 rfl (lv_at hl 1 rfl) ?_
      refine lv_bipush (v := (99 : Int32)) hx hb dX8_takes_167 (by decide) ?_
      refine lv_icmp_gt (tgt := 199) hx hb dX8_takes_169 (by decide) (fun h => ?_) (fun h => ?_)
      · replace hf := (if_pos h).symm.trans hf
        refine lv_sipush (v := (2000 : Int32)) hx hb dX8_takes_199 (by decide) ?_
        refine lv_goto (tgt := 210) hx hb dX8_takes_202 (by decide) ?_
        refine g_put C hW inX8 tyX8_ok nmX8 0 rfl rfl rfl 29 (by decide) (List.mem_of_getElem? (i := 5) rfl) rfl rfl rfl rfl (kX8_s29 g a0 v0_6 (2000 : Int32)) (ch' := [kX8 g a0 (st v0_6 29 (fun _ => (2000 : Int32)))]) rfl dX8_takes_210 (fun H locs hW => ?_)
        obtain rfl := Option.some.inj hf
        subst hQ
        exact g_vret C hr hk0 hW rfl rfl dX8_takes_213
      · replace hf := (if_neg h).symm.trans hf
        refine lv_aload_n hx hb dX8_takes_172 rfl (lv_at hl 0 rfl) ?_
        refine g_get C hW inX8 0 rfl rfl rfl 26 (by decide) (List.mem_of_getElem? (i := 3) rfl) (v := .ref (a0 12)) rfl dX8_takes_173 ?_
        refine lv_aload_n hx hb dX8_takes_176 rfl (lv_at hl 0 rfl) ?_
        refine g_get C hW inX8 0 rfl rfl rfl 28 (by decide) (List.mem_of_getElem? (i := 4) rfl) (v := .int (v0_6 28 0)) rfl dX8_takes_177 ?_
        obtain ⟨hi, hf⟩ := gd_of hf
        refine g_iald C hW 0 12 rfl (f := (v0_6 26)) rfl (ib_in hi) dX8_takes_180 ?_
        refine lv_bipush (v := (48 : Int32)) hx hb dX8_takes_181 (by decide) ?_
        refine lv_icmp_ne (tgt := 205) hx hb dX8_takes_183 (by decide) (fun h => ?_) (fun h => ?_)
        · replace hf := (if_neg h).symm.trans hf
          refine lv_sipush (v := (1000 : Int32)) hx hb dX8_takes_205 (by decide) ?_
          refine lv_iload_n hx hb dX8_takes_208 rfl (lv_at hl 1 rfl) ?_
          refine lv_iadd hx hb dX8_takes_209 ?_
          refine g_put C hW inX8 tyX8_ok nmX8 0 rfl rfl rfl 29 (by decide) (List.mem_of_getElem? (i := 5) rfl) rfl rfl rfl rfl (kX8_s29 g a0 v0_6 ((1000 : Int32) + x1_6)) (ch' := [kX8 g a0 (st v0_6 29 (fun _ => ((1000 : Int32) + x1_6)))]) rfl dX8_takes_210 (fun H locs hW => ?_)
          obtain rfl := Option.some.inj hf
          subst hQ
          exact g_vret C hr hk0 hW rfl rfl dX8_takes_213
        · replace hf := (if_pos h).symm.trans hf
          refine lv_aload_n hx hb dX8_takes_186 rfl (lv_at hl 0 rfl) ?_
          refine g_get C hW inX8 0 rfl rfl rfl 27 (by decide) (List.mem_of_getElem? (i := 1) rfl) (v := .int (v0_6 27 0)) rfl dX8_takes_187 ?_
          refine lv_aload_n hx hb dX8_takes_190 rfl (lv_at hl 0 rfl) ?_
          refine g_get C hW inX8 0 rfl rfl rfl 28 (by decide) (List.mem_of_getElem? (i := 4) rfl) (v := .int (v0_6 28 0)) rfl dX8_takes_191 ?_
          refine lv_iconst (v := (1 : Int32)) hx hb dX8_takes_194 (by decide) ?_
          refine lv_iadd hx hb dX8_takes_195 ?_
          refine lv_icmp_le (tgt := 205) hx hb dX8_takes_196 (by decide) (fun h => ?_) (fun h => ?_)
          · replace hf := (if_pos h).symm.trans hf
            refine lv_sipush (v := (1000 : Int32)) hx hb dX8_takes_205 (by decide) ?_
            refine lv_iload_n hx hb dX8_takes_208 rfl (lv_at hl 1 rfl) ?_
            refine lv_iadd hx hb dX8_takes_209 ?_
            refine g_put C hW inX8 tyX8_ok nmX8 0 rfl rfl rfl 29 (by decide) (List.mem_of_getElem? (i := 5) rfl) rfl rfl rfl rfl (kX8_s29 g a0 v0_6 ((1000 : Int32) + x1_6)) (ch' := [kX8 g a0 (st v0_6 29 (fun _ => ((1000 : Int32) + x1_6)))]) rfl dX8_takes_210 (fun H locs hW => ?_)
            obtain rfl := Option.some.inj hf
            subst hQ
            exact g_vret C hr hk0 hW rfl rfl dX8_takes_213
          · replace hf := (if_neg h).symm.trans hf
            refine lv_sipush (v := (2000 : Int32)) hx hb dX8_takes_199 (by decide) ?_
            refine lv_goto (tgt := 210) hx hb dX8_takes_202 (by decide) ?_
            refine g_put C hW inX8 tyX8_ok nmX8 0 rfl rfl rfl 29 (by decide) (List.mem_of_getElem? (i := 5) rfl) rfl rfl rfl rfl (kX8_s29 g a0 v0_6 (2000 : Int32)) (ch' := [kX8 g a0 (st v0_6 29 (fun _ => (2000 : Int32)))]) rfl dX8_takes_210 (fun H locs hW => ?_)
            obtain rfl := Option.some.inj hf
            subst hQ
            exact g_vret C hr hk0 hW rfl rfl dX8_takes_213
    · replace hf := (if_pos h).symm.trans hf
      refine lv_aload_n hx hb dX8_takes_85 rfl (lv_at hl 0 rfl) ?_
      refine lv_dup hx hb dX8_takes_86 rfl ?_
      refine g_get C hW inX8 0 rfl rfl rfl 27 (by decide) (List.mem_of_getElem? (i := 1) rfl) (v := .int (v0_1 27 0)) rfl dX8_takes_87 ?_
      refine lv_aload_n hx hb dX8_takes_90 rfl (lv_at hl 0 rfl) ?_
      refine g_get C hW inX8 0 rfl rfl rfl 27 (by decide) (List.mem_of_getElem? (i := 1) rfl) (v := .int (v0_1 27 0)) rfl dX8_takes_91 ?_
      refine lv_aload_n hx hb dX8_takes_94 rfl (lv_at hl 0 rfl) ?_
      refine g_get C hW inX8 0 rfl rfl rfl 25 (by decide) (List.mem_of_getElem? (i := 2) rfl) (v := .int (v0_1 25 0)) rfl dX8_takes_95 ?_
      refine lv_icmp_ge (tgt := 105) hx hb dX8_takes_98 (by decide) (fun h => ?_) (fun h => ?_)
      · replace hf := (if_pos h).symm.trans hf
        refine lv_iconst (v := (0 : Int32)) hx hb dX8_takes_105 (by decide) ?_
        refine lv_iadd hx hb dX8_takes_106 ?_
        refine g_put C hW inX8 tyX8_ok nmX8 0 rfl rfl rfl 27 (by decide) (List.mem_of_getElem? (i := 1) rfl) rfl rfl rfl rfl (kX8_s27 g a0 (st (st v0_1 28 (fun _ => (v0_1 27 0))) 29 (fun _ => ((v0_1 26) (Int32.toNatClampNeg (v0_1 27 0))))) ((v0_1 27 0) + (0 : Int32))) (ch' := [kX8 g a0 (st (st (st v0_1 28 (fun _ => (v0_1 27 0))) 29 (fun _ => ((v0_1 26) (Int32.toNatClampNeg (v0_1 27 0))))) 27 (fun _ => ((v0_1 27 0) + (0 : Int32))))]) rfl dX8_takes_107 (fun H locs hW => ?_)
        obtain rfl := Option.some.inj hf
        subst hQ
        exact g_vret C hr hk0 hW rfl rfl dX8_takes_110
      · replace hf := (if_neg h).symm.trans hf
        refine lv_iconst (v := (1 : Int32)) hx hb dX8_takes_101 (by decide) ?_
        refine lv_goto (tgt := 106) hx hb dX8_takes_102 (by decide) ?_
        refine lv_iadd hx hb dX8_takes_106 ?_
        refine g_put C hW inX8 tyX8_ok nmX8 0 rfl rfl rfl 27 (by decide) (List.mem_of_getElem? (i := 1) rfl) rfl rfl rfl rfl (kX8_s27 g a0 (st (st v0_1 28 (fun _ => (v0_1 27 0))) 29 (fun _ => ((v0_1 26) (Int32.toNatClampNeg (v0_1 27 0))))) ((v0_1 27 0) + (1 : Int32))) (ch' := [kX8 g a0 (st (st (st v0_1 28 (fun _ => (v0_1 27 0))) 29 (fun _ => ((v0_1 26) (Int32.toNatClampNeg (v0_1 27 0))))) 27 (fun _ => ((v0_1 27 0) + (1 : Int32))))]) rfl dX8_takes_107 (fun H locs hW => ?_)
        obtain rfl := Option.some.inj hf
        subst hQ
        exact g_vret C hr hk0 hW rfl rfl dX8_takes_110
def fX8_reads (N : Nat) (x1 : Int32) (x2 : Int32) (v0 : MM) : Option (Int32 × MM) := ((fX8_takes N v0).bind (fun y1 => ((fX8_in N ((y1 29 0) - (1000 : Int32)) x1 x2).bind (fun y2 => (if zb y2 = true then some (y2, (st y1 30 (fun _ => ((y1 29 0) - (1000 : Int32))))) else none)))))
set_option maxHeartbeats 4000000 in
set_option maxRecDepth 100000 in
theorem ct_X8_reads (g : GT) (l : Launch) (N : Nat) (a0 : Nat → Nat) (x1 : Int32) (x2 : Int32) (v0 : MM) {y : Int32 × MM} (hf : fX8_reads N x1 x2 v0 = some y) : ct g l yX8_reads wsX8_reads (rmk 3 64) [.ref (a0 0), .int x1, .int x2] [kX8 g a0 v0] (some (.int y.1)) [kX8 g a0 y.2] := by
  refine ct_of (cc := cX8_reads) (maxL := 3) (ret := (some .boolean)) (by decide) rfl (Nat.le_of_ble_eq_true rfl) ?_
  intro p e s m args below meth c A ls C hr hk0 hA hW hl
  have hx := C.1.1
  have hb := C.1.2.1
  replace hl : lv_has ls 3 [(0, .ref (a0 0)), (1, .int x1), (2, .int x2)] := hl
  obtain ⟨Q, hQ⟩ : ∃ Q, Q = MQ below (ctQ g A (some (.int y.1)) [kX8 g a0 y.2]) args s 0 0 A := ⟨_, rfl⟩
  rw [← hQ]
  obtain ⟨H, hH⟩ : ∃ H, H = s.heap := ⟨_, rfl⟩
  obtain ⟨locs, hL⟩ : ∃ locs : List Loc, locs = [] := ⟨_, rfl⟩
  replace hW : wd g A s.heap [kX8 g a0 v0] H locs := by rw [hH, hL]; exact hW
  suffices hG : W p l e (rmk 3 64) s m args below meth c H locs 0 0 Q (F0 m 0 ls []) by
    rw [hH, hL] at hG; exact hG
  clear hH hL
  have inX8 : ∀ w ∈ wsX80, w ∈ wsX8_reads := fun _ h => List.mem_cons_of_mem _ (List.mem_append_right _ (h))
  rw [fX8_reads] at hf
  refine lv_aload_n hx hb dX8_reads_0 rfl (lv_at hl 0 rfl) ?_
  obtain ⟨y1, hc, hf⟩ := bd_of hf
  refine g_cVv (Cn := RX8) C (ct_X8_takes g l N a0 v0 hc) gX8_reads_X8_takes rfl 0 (by decide +kernel) ⟨rfl, rfl, ⟨Nat.le_of_ble_eq_true rfl, Nat.le_of_ble_eq_true rfl⟩, Nat.le_of_ble_eq_true rfl, Nat.le_of_ble_eq_true rfl⟩ rfl hl (Nat.le_of_ble_eq_true rfl) dX8_reads_1 rfl hW hA [0] rfl rfl rfl (ch' := [kX8 g a0 y1]) rfl 0 rfl rfl rfl (fun H locs hW => ?_)
  refine lv_aload_n hx hb dX8_reads_4 rfl (lv_at hl 0 rfl) ?_
  refine lv_aload_n hx hb dX8_reads_5 rfl (lv_at hl 0 rfl) ?_
  refine g_get C hW inX8 0 rfl rfl rfl 29 (by decide) (List.mem_of_getElem? (i := 1) rfl) (v := .int (y1 29 0)) rfl dX8_reads_6 ?_
  refine lv_sipush (v := (1000 : Int32)) hx hb dX8_reads_9 (by decide) ?_
  refine lv_isub hx hb dX8_reads_12 ?_
  refine g_put C hW inX8 tyX8_ok nmX8 0 rfl rfl rfl 30 (by decide) (List.mem_of_getElem? (i := 2) rfl) rfl rfl rfl rfl (kX8_s30 g a0 y1 ((y1 29 0) - (1000 : Int32))) (ch' := [kX8 g a0 (st y1 30 (fun _ => ((y1 29 0) - (1000 : Int32))))]) rfl dX8_reads_13 (fun H locs hW => ?_)
  refine lv_aload_n hx hb dX8_reads_16 rfl (lv_at hl 0 rfl) ?_
  refine g_get C hW inX8 0 rfl rfl rfl 30 (by decide) (List.mem_of_getElem? (i := 2) rfl) (v := .int ((y1 29 0) - (1000 : Int32))) rfl dX8_reads_17 ?_
  refine lv_iload_n hx hb dX8_reads_20 rfl (lv_at hl 1 rfl) ?_
  refine lv_iload_n hx hb dX8_reads_21 rfl (lv_at hl 2 rfl) ?_
  obtain ⟨y2, hc, hf⟩ := bd_of hf
  refine g_cS C (ct_X8_in g l N ((y1 29 0) - (1000 : Int32)) x1 x2 hc) gX8_reads_X8_in rfl 3 (by decide +kernel) ⟨rfl, rfl, ⟨Nat.le_of_ble_eq_true rfl, Nat.le_of_ble_eq_true rfl⟩, Nat.le_of_ble_eq_true rfl, Nat.le_of_ble_eq_true rfl⟩ rfl hl (Nat.le_of_ble_eq_true rfl) dX8_reads_22 rfl hW hA [] rfl rfl rfl (ch' := [kX8 g a0 (st y1 30 (fun _ => ((y1 29 0) - (1000 : Int32))))]) rfl (fun H locs hW => ?_)
  obtain ⟨hi, hf⟩ := gd_of hf
  obtain rfl := Option.some.inj hf
  subst hQ
  exact g_zret C hr hk0 hW (zb_nar hi) rfl rfl dX8_reads_25
def fX8_readsTerminal (N : Nat) (v0 : MM) : Option (Int32 × MM) := (if (v0 8 0) = (3 : Int32) then some ((0 : Int32), v0) else ((fX8_reads N (1 : Int32) (9 : Int32) v0).bind (fun y1 => (if y1.1 = 0 then some ((0 : Int32), y1.2) else (if ib (y1.2 8 0) 3 = true then some ((1 : Int32), (st (st y1.2 14 (upd (y1.2 14) (Int32.toNatClampNeg (y1.2 8 0)) (y1.2 30 0))) 8 (fun _ => ((y1.2 8 0) + (1 : Int32))))) else none)))))
set_option maxHeartbeats 4000000 in
set_option maxRecDepth 100000 in
theorem ct_X8_readsTerminal (g : GT) (l : Launch) (N : Nat) (a0 : Nat → Nat) (v0 : MM) {y : Int32 × MM} (hf : fX8_readsTerminal N v0 = some y) : ct g l yX8_readsTerminal wsX8_readsTerminal (rmk 4 86) [.ref (a0 0)] [kX8 g a0 v0] (some (.int y.1)) [kX8 g a0 y.2] := by
  refine ct_of (cc := cX8_readsTerminal) (maxL := 1) (ret := (some .boolean)) (by decide) rfl (Nat.le_of_ble_eq_true rfl) ?_
  intro p e s m args below meth c A ls C hr hk0 hA hW hl
  have hx := C.1.1
  have hb := C.1.2.1
  replace hl : lv_has ls 1 [(0, .ref (a0 0))] := hl
  obtain ⟨Q, hQ⟩ : ∃ Q, Q = MQ below (ctQ g A (some (.int y.1)) [kX8 g a0 y.2]) args s 0 0 A := ⟨_, rfl⟩
  rw [← hQ]
  obtain ⟨H, hH⟩ : ∃ H, H = s.heap := ⟨_, rfl⟩
  obtain ⟨locs, hL⟩ : ∃ locs : List Loc, locs = [] := ⟨_, rfl⟩
  replace hW : wd g A s.heap [kX8 g a0 v0] H locs := by rw [hH, hL]; exact hW
  suffices hG : W p l e (rmk 4 86) s m args below meth c H locs 0 0 Q (F0 m 0 ls []) by
    rw [hH, hL] at hG; exact hG
  clear hH hL
  have inX8 : ∀ w ∈ wsX80, w ∈ wsX8_readsTerminal := fun _ h => List.mem_cons_of_mem _ (List.mem_append_right _ (h))
  rw [fX8_readsTerminal] at hf
  refine lv_aload_n hx hb dX8_readsTerminal_0 rfl (lv_at hl 0 rfl) ?_
  refine g_get C hW inX8 0 rfl rfl rfl 8 (by decide) (List.mem_of_getElem? (i := 1) rfl) (v := .int (v0 8 0)) rfl dX8_readsTerminal_1 ?_
  refine lv_iconst (v := (3 : Int32)) hx hb dX8_readsTerminal_4 (by decide) ?_
  refine lv_icmp_eq (tgt := 18) hx hb dX8_readsTerminal_5 (by decide) (fun h => ?_) (fun h => ?_)
  · replace hf := (if_pos h).symm.trans hf
    refine lv_iconst (v := (0 : Int32)) hx hb dX8_readsTerminal_18 (by decide) ?_
    obtain rfl := Option.some.inj hf
    subst hQ
    exact g_zret C hr hk0 hW rfl rfl rfl dX8_readsTerminal_19
  · replace hf := (if_neg h).symm.trans hf
    refine lv_aload_n hx hb dX8_readsTerminal_8 rfl (lv_at hl 0 rfl) ?_
    refine lv_iconst (v := (1 : Int32)) hx hb dX8_readsTerminal_9 (by decide) ?_
    refine lv_bipush (v := (9 : Int32)) hx hb dX8_readsTerminal_10 (by decide) ?_
    obtain ⟨y1, hc, hf⟩ := bd_of hf
    refine g_cV (Cn := RX8) C (ct_X8_reads g l N a0 (1 : Int32) (9 : Int32) v0 hc) gX8_readsTerminal_X8_reads rfl 2 (by decide +kernel) ⟨rfl, rfl, ⟨Nat.le_of_ble_eq_true rfl, Nat.le_of_ble_eq_true rfl⟩, Nat.le_of_ble_eq_true rfl, Nat.le_of_ble_eq_true rfl⟩ rfl hl (Nat.le_of_ble_eq_true rfl) dX8_readsTerminal_12 rfl hW hA [0] rfl rfl rfl (ch' := [kX8 g a0 y1.2]) rfl 0 rfl rfl rfl (fun H locs hW => ?_)
    refine lv_if_ne (tgt := 20) hx hb dX8_readsTerminal_15 (by decide) (fun h => ?_) (fun h => ?_)
    · replace hf := (if_neg h).symm.trans hf
      refine lv_aload_n hx hb dX8_readsTerminal_20 rfl (lv_at hl 0 rfl) ?_
      refine g_get C hW inX8 0 rfl rfl rfl 14 (by decide) (List.mem_of_getElem? (i := 2) rfl) (v := .ref (a0 3)) rfl dX8_readsTerminal_21 ?_
      refine lv_aload_n hx hb dX8_readsTerminal_24 rfl (lv_at hl 0 rfl) ?_
      refine g_get C hW inX8 0 rfl rfl rfl 8 (by decide) (List.mem_of_getElem? (i := 1) rfl) (v := .int (y1.2 8 0)) rfl dX8_readsTerminal_25 ?_
      refine lv_aload_n hx hb dX8_readsTerminal_28 rfl (lv_at hl 0 rfl) ?_
      refine g_get C hW inX8 0 rfl rfl rfl 30 (by decide) (List.mem_of_getElem? (i := 3) rfl) (v := .int (y1.2 30 0)) rfl dX8_readsTerminal_29 ?_
      obtain ⟨hi, hf⟩ := gd_of hf
      refine g_iast C hW 0 3 rfl (f := (y1.2 14)) rfl (ib_in hi) (kX8_w14 g a0 y1.2 (upd (y1.2 14) (Int32.toNatClampNeg (y1.2 8 0)) (y1.2 30 0))) (ch' := [kX8 g a0 (st y1.2 14 (upd (y1.2 14) (Int32.toNatClampNeg (y1.2 8 0)) (y1.2 30 0)))]) rfl dX8_readsTerminal_32 (fun H locs hW => ?_)
      refine lv_aload_n hx hb dX8_readsTerminal_33 rfl (lv_at hl 0 rfl) ?_
      refine lv_dup hx hb dX8_readsTerminal_34 rfl ?_
      refine g_get C hW inX8 0 rfl rfl rfl 8 (by decide) (List.mem_of_getElem? (i := 1) rfl) (v := .int (y1.2 8 0)) rfl dX8_readsTerminal_35 ?_
      refine lv_iconst (v := (1 : Int32)) hx hb dX8_readsTerminal_38 (by decide) ?_
      refine lv_iadd hx hb dX8_readsTerminal_39 ?_
      refine g_put C hW inX8 tyX8_ok nmX8 0 rfl rfl rfl 8 (by decide) (List.mem_of_getElem? (i := 1) rfl) rfl rfl rfl rfl (kX8_s8 g a0 (st y1.2 14 (upd (y1.2 14) (Int32.toNatClampNeg (y1.2 8 0)) (y1.2 30 0))) ((y1.2 8 0) + (1 : Int32))) (ch' := [kX8 g a0 (st (st y1.2 14 (upd (y1.2 14) (Int32.toNatClampNeg (y1.2 8 0)) (y1.2 30 0))) 8 (fun _ => ((y1.2 8 0) + (1 : Int32))))]) rfl dX8_readsTerminal_40 (fun H locs hW => ?_)
      refine lv_iconst (v := (1 : Int32)) hx hb dX8_readsTerminal_43 (by decide) ?_
      obtain rfl := Option.some.inj hf
      subst hQ
      exact g_zret C hr hk0 hW rfl rfl rfl dX8_readsTerminal_44
    · replace hf := (if_pos h).symm.trans hf
      refine lv_iconst (v := (0 : Int32)) hx hb dX8_readsTerminal_18 (by decide) ?_
      obtain rfl := Option.some.inj hf
      subst hQ
      exact g_zret C hr hk0 hW rfl rfl rfl dX8_readsTerminal_19
def fX8_readsOne (N : Nat) (x1 : Int32) (x2 : Int32) (v0 : MM) : Option (Int32 × MM) := ((fX8_reads N (0 : Int32) x2 v0).bind (fun y1 => (if ib (((4 : Int32) * (y1.2 9 0)) + x1) 24 = true then (if zb y1.1 = true then some (y1.1, (st y1.2 15 (upd (y1.2 15) (Int32.toNatClampNeg (((4 : Int32) * (y1.2 9 0)) + x1)) (y1.2 30 0)))) else none) else none)))
set_option maxHeartbeats 4000000 in
set_option maxRecDepth 100000 in
theorem ct_X8_readsOne (g : GT) (l : Launch) (N : Nat) (a0 : Nat → Nat) (x1 : Int32) (x2 : Int32) (v0 : MM) {y : Int32 × MM} (hf : fX8_readsOne N x1 x2 v0 = some y) : ct g l yX8_readsOne wsX8_readsOne (rmk 4 86) [.ref (a0 0), .int x1, .int x2] [kX8 g a0 v0] (some (.int y.1)) [kX8 g a0 y.2] := by
  refine ct_of (cc := cX8_readsOne) (maxL := 4) (ret := (some .boolean)) (by decide) rfl (Nat.le_of_ble_eq_true rfl) ?_
  intro p e s m args below meth c A ls C hr hk0 hA hW hl
  have hx := C.1.1
  have hb := C.1.2.1
  replace hl : lv_has ls 4 [(0, .ref (a0 0)), (1, .int x1), (2, .int x2)] := hl
  obtain ⟨Q, hQ⟩ : ∃ Q, Q = MQ below (ctQ g A (some (.int y.1)) [kX8 g a0 y.2]) args s 0 0 A := ⟨_, rfl⟩
  rw [← hQ]
  obtain ⟨H, hH⟩ : ∃ H, H = s.heap := ⟨_, rfl⟩
  obtain ⟨locs, hL⟩ : ∃ locs : List Loc, locs = [] := ⟨_, rfl⟩
  replace hW : wd g A s.heap [kX8 g a0 v0] H locs := by rw [hH, hL]; exact hW
  suffices hG : W p l e (rmk 4 86) s m args below meth c H locs 0 0 Q (F0 m 0 ls []) by
    rw [hH, hL] at hG; exact hG
  clear hH hL
  have inX8 : ∀ w ∈ wsX80, w ∈ wsX8_readsOne := fun _ h => List.mem_cons_of_mem _ (List.mem_append_right _ (h))
  rw [fX8_readsOne] at hf
  refine lv_aload_n hx hb dX8_readsOne_0 rfl (lv_at hl 0 rfl) ?_
  refine lv_iconst (v := (0 : Int32)) hx hb dX8_readsOne_1 (by decide) ?_
  refine lv_iload_n hx hb dX8_readsOne_2 rfl (lv_at hl 2 rfl) ?_
  obtain ⟨y1, hc, hf⟩ := bd_of hf
  refine g_cV (Cn := RX8) C (ct_X8_reads g l N a0 (0 : Int32) x2 v0 hc) gX8_readsOne_X8_reads rfl 2 (by decide +kernel) ⟨rfl, rfl, ⟨Nat.le_of_ble_eq_true rfl, Nat.le_of_ble_eq_true rfl⟩, Nat.le_of_ble_eq_true rfl, Nat.le_of_ble_eq_true rfl⟩ rfl hl (Nat.le_of_ble_eq_true rfl) dX8_readsOne_3 rfl hW hA [0] rfl rfl rfl (ch' := [kX8 g a0 y1.2]) rfl 0 rfl rfl rfl (fun H locs hW => ?_)
  refine lv_istore_n (lv' := [(3, .int y1.1), (0, .ref (a0 0)), (1, .int x1), (2, .int x2)]) hx hb dX8_readsOne_6 rfl hl (by decide) rfl (fun ls hl => ?_)
  refine lv_aload_n hx hb dX8_readsOne_7 rfl (lv_at hl 1 rfl) ?_
  refine g_get C hW inX8 0 rfl rfl rfl 15 (by decide) (List.mem_of_getElem? (i := 1) rfl) (v := .ref (a0 4)) rfl dX8_readsOne_8 ?_
  refine lv_iconst (v := (4 : Int32)) hx hb dX8_readsOne_11 (by decide) ?_
  refine lv_aload_n hx hb dX8_readsOne_12 rfl (lv_at hl 1 rfl) ?_
  refine g_get C hW inX8 0 rfl rfl rfl 9 (by decide) (List.mem_of_getElem? (i := 2) rfl) (v := .int (y1.2 9 0)) rfl dX8_readsOne_13 ?_
  refine lv_imul hx hb dX8_readsOne_16 ?_
  refine lv_iload_n hx hb dX8_readsOne_17 rfl (lv_at hl 2 rfl) ?_
  refine lv_iadd hx hb dX8_readsOne_18 ?_
  refine lv_aload_n hx hb dX8_readsOne_19 rfl (lv_at hl 1 rfl) ?_
  refine g_get C hW inX8 0 rfl rfl rfl 30 (by decide) (List.mem_of_getElem? (i := 3) rfl) (v := .int (y1.2 30 0)) rfl dX8_readsOne_20 ?_
  obtain ⟨hi, hf⟩ := gd_of hf
  refine g_iast C hW 0 4 rfl (f := (y1.2 15)) rfl (ib_in hi) (kX8_w15 g a0 y1.2 (upd (y1.2 15) (Int32.toNatClampNeg (((4 : Int32) * (y1.2 9 0)) + x1)) (y1.2 30 0))) (ch' := [kX8 g a0 (st y1.2 15 (upd (y1.2 15) (Int32.toNatClampNeg (((4 : Int32) * (y1.2 9 0)) + x1)) (y1.2 30 0)))]) rfl dX8_readsOne_23 (fun H locs hW => ?_)
  refine lv_iload_n hx hb dX8_readsOne_24 rfl (lv_at hl 0 rfl) ?_
  obtain ⟨hi, hf⟩ := gd_of hf
  obtain rfl := Option.some.inj hf
  subst hQ
  exact g_zret C hr hk0 hW (zb_nar hi) rfl rfl dX8_readsOne_25
def fX8_readsClass (N : Nat) (v0 : MM) : Option (Int32 × MM) := (if (v0 9 0) = (6 : Int32) then some ((0 : Int32), v0) else ((fX8_readsOne N (0 : Int32) ((v0 8 0) - (1 : Int32)) v0).bind (fun y1 => (if y1.1 = 0 then some ((0 : Int32), y1.2) else ((fX8_readsOne N (1 : Int32) (9 : Int32) y1.2).bind (fun y2 => (if y2.1 = 0 then some ((0 : Int32), y2.2) else ((fX8_readsOne N (2 : Int32) (20 : Int32) y2.2).bind (fun y3 => (if y3.1 = 0 then some ((0 : Int32), y3.2) else ((fX8_readsOne N (3 : Int32) (60 : Int32) y3.2).bind (fun y4 => (if y4.1 = 0 then some ((0 : Int32), y4.2) else some ((1 : Int32), (st y4.2 9 (fun _ => ((y4.2 9 0) + (1 : Int32))))))))))))))))))
set_option maxHeartbeats 4000000 in
set_option maxRecDepth 100000 in
theorem ct_X8_readsClass (g : GT) (l : Launch) (N : Nat) (a0 : Nat → Nat) (v0 : MM) {y : Int32 × MM} (hf : fX8_readsClass N v0 = some y) : ct g l yX8_readsClass wsX8_readsClass (rmk 5 109) [.ref (a0 0)] [kX8 g a0 v0] (some (.int y.1)) [kX8 g a0 y.2] := by
  refine ct_of (cc := cX8_readsClass) (maxL := 1) (ret := (some .boolean)) (by decide) rfl (Nat.le_of_ble_eq_true rfl) ?_
  intro p e s m args below meth c A ls C hr hk0 hA hW hl
  have hx := C.1.1
  have hb := C.1.2.1
  replace hl : lv_has ls 1 [(0, .ref (a0 0))] := hl
  obtain ⟨Q, hQ⟩ : ∃ Q, Q = MQ below (ctQ g A (some (.int y.1)) [kX8 g a0 y.2]) args s 0 0 A := ⟨_, rfl⟩
  rw [← hQ]
  obtain ⟨H, hH⟩ : ∃ H, H = s.heap := ⟨_, rfl⟩
  obtain ⟨locs, hL⟩ : ∃ locs : List Loc, locs = [] := ⟨_, rfl⟩
  replace hW : wd g A s.heap [kX8 g a0 v0] H locs := by rw [hH, hL]; exact hW
  suffices hG : W p l e (rmk 5 109) s m args below meth c H locs 0 0 Q (F0 m 0 ls []) by
    rw [hH, hL] at hG; exact hG
  clear hH hL
  have inX8 : ∀ w ∈ wsX80, w ∈ wsX8_readsClass := fun _ h => List.mem_cons_of_mem _ (List.mem_append_right _ (h))
  rw [fX8_readsClass] at hf
  refine lv_aload_n hx hb dX8_readsClass_0 rfl (lv_at hl 0 rfl) ?_
  refine g_get C hW inX8 0 rfl rfl rfl 9 (by decide) (List.mem_of_getElem? (i := 1) rfl) (v := .int (v0 9 0)) rfl dX8_readsClass_1 ?_
  refine lv_bipush (v := (6 : Int32)) hx hb dX8_readsClass_4 (by decide) ?_
  refine lv_icmp_eq (tgt := 53) hx hb dX8_readsClass_6 (by decide) (fun h => ?_) (fun h => ?_)
  · replace hf := (if_pos h).symm.trans hf
    refine lv_iconst (v := (0 : Int32)) hx hb dX8_readsClass_53 (by decide) ?_
    obtain rfl := Option.some.inj hf
    subst hQ
    exact g_zret C hr hk0 hW rfl rfl rfl dX8_readsClass_54
  · replace hf := (if_neg h).symm.trans hf
    refine lv_aload_n hx hb dX8_readsClass_9 rfl (lv_at hl 0 rfl) ?_
    refine lv_iconst (v := (0 : Int32)) hx hb dX8_readsClass_10 (by decide) ?_
    refine lv_aload_n hx hb dX8_readsClass_11 rfl (lv_at hl 0 rfl) ?_
    refine g_get C hW inX8 0 rfl rfl rfl 8 (by decide) (List.mem_of_getElem? (i := 2) rfl) (v := .int (v0 8 0)) rfl dX8_readsClass_12 ?_
    refine lv_iconst (v := (1 : Int32)) hx hb dX8_readsClass_15 (by decide) ?_
    refine lv_isub hx hb dX8_readsClass_16 ?_
    obtain ⟨y1, hc, hf⟩ := bd_of hf
    refine g_cV (Cn := RX8) C (ct_X8_readsOne g l N a0 (0 : Int32) ((v0 8 0) - (1 : Int32)) v0 hc) gX8_readsClass_X8_readsOne rfl 2 (by decide +kernel) ⟨rfl, rfl, ⟨Nat.le_of_ble_eq_true rfl, Nat.le_of_ble_eq_true rfl⟩, Nat.le_of_ble_eq_true rfl, Nat.le_of_ble_eq_true rfl⟩ rfl hl (Nat.le_of_ble_eq_true rfl) dX8_readsClass_17 rfl hW hA [0] rfl rfl rfl (ch' := [kX8 g a0 y1.2]) rfl 0 rfl rfl rfl (fun H locs hW => ?_)
    refine lv_if_eq (tgt := 53) hx hb dX8_readsClass_20 (by decide) (fun h => ?_) (fun h => ?_)
    · replace hf := (if_pos h).symm.trans hf
      refine lv_iconst (v := (0 : Int32)) hx hb dX8_readsClass_53 (by decide) ?_
      obtain rfl := Option.some.inj hf
      subst hQ
      exact g_zret C hr hk0 hW rfl rfl rfl dX8_readsClass_54
    · replace hf := (if_neg h).symm.trans hf
      refine lv_aload_n hx hb dX8_readsClass_23 rfl (lv_at hl 0 rfl) ?_
      refine lv_iconst (v := (1 : Int32)) hx hb dX8_readsClass_24 (by decide) ?_
      refine lv_bipush (v := (9 : Int32)) hx hb dX8_readsClass_25 (by decide) ?_
      obtain ⟨y2, hc, hf⟩ := bd_of hf
      refine g_cV (Cn := RX8) C (ct_X8_readsOne g l N a0 (1 : Int32) (9 : Int32) y1.2 hc) gX8_readsClass_X8_readsOne rfl 2 (by decide +kernel) ⟨rfl, rfl, ⟨Nat.le_of_ble_eq_true rfl, Nat.le_of_ble_eq_true rfl⟩, Nat.le_of_ble_eq_true rfl, Nat.le_of_ble_eq_true rfl⟩ rfl hl (Nat.le_of_ble_eq_true rfl) dX8_readsClass_27 rfl hW hA [0] rfl rfl rfl (ch' := [kX8 g a0 y2.2]) rfl 0 rfl rfl rfl (fun H locs hW => ?_)
      refine lv_if_eq (tgt := 53) hx hb dX8_readsClass_30 (by decide) (fun h => ?_) (fun h => ?_)
      · replace hf := (if_pos h).symm.trans hf
        refine lv_iconst (v := (0 : Int32)) hx hb dX8_readsClass_53 (by decide) ?_
        obtain rfl := Option.some.inj hf
        subst hQ
        exact g_zret C hr hk0 hW rfl rfl rfl dX8_readsClass_54
      · replace hf := (if_neg h).symm.trans hf
        refine lv_aload_n hx hb dX8_readsClass_33 rfl (lv_at hl 0 rfl) ?_
        refine lv_iconst (v := (2 : Int32)) hx hb dX8_readsClass_34 (by decide) ?_
        refine lv_bipush (v := (20 : Int32)) hx hb dX8_readsClass_35 (by decide) ?_
        obtain ⟨y3, hc, hf⟩ := bd_of hf
        refine g_cV (Cn := RX8) C (ct_X8_readsOne g l N a0 (2 : Int32) (20 : Int32) y2.2 hc) gX8_readsClass_X8_readsOne rfl 2 (by decide +kernel) ⟨rfl, rfl, ⟨Nat.le_of_ble_eq_true rfl, Nat.le_of_ble_eq_true rfl⟩, Nat.le_of_ble_eq_true rfl, Nat.le_of_ble_eq_true rfl⟩ rfl hl (Nat.le_of_ble_eq_true rfl) dX8_readsClass_37 rfl hW hA [0] rfl rfl rfl (ch' := [kX8 g a0 y3.2]) rfl 0 rfl rfl rfl (fun H locs hW => ?_)
        refine lv_if_eq (tgt := 53) hx hb dX8_readsClass_40 (by decide) (fun h => ?_) (fun h => ?_)
        · replace hf := (if_pos h).symm.trans hf
          refine lv_iconst (v := (0 : Int32)) hx hb dX8_readsClass_53 (by decide) ?_
          obtain rfl := Option.some.inj hf
          subst hQ
          exact g_zret C hr hk0 hW rfl rfl rfl dX8_readsClass_54
        · replace hf := (if_neg h).symm.trans hf
          refine lv_aload_n hx hb dX8_readsClass_43 rfl (lv_at hl 0 rfl) ?_
          refine lv_iconst (v := (3 : Int32)) hx hb dX8_readsClass_44 (by decide) ?_
          refine lv_bipush (v := (60 : Int32)) hx hb dX8_readsClass_45 (by decide) ?_
          obtain ⟨y4, hc, hf⟩ := bd_of hf
          refine g_cV (Cn := RX8) C (ct_X8_readsOne g l N a0 (3 : Int32) (60 : Int32) y3.2 hc) gX8_readsClass_X8_readsOne rfl 2 (by decide +kernel) ⟨rfl, rfl, ⟨Nat.le_of_ble_eq_true rfl, Nat.le_of_ble_eq_true rfl⟩, Nat.le_of_ble_eq_true rfl, Nat.le_of_ble_eq_true rfl⟩ rfl hl (Nat.le_of_ble_eq_true rfl) dX8_readsClass_47 rfl hW hA [0] rfl rfl rfl (ch' := [kX8 g a0 y4.2]) rfl 0 rfl rfl rfl (fun H locs hW => ?_)
          refine lv_if_ne (tgt := 55) hx hb dX8_readsClass_50 (by decide) (fun h => ?_) (fun h => ?_)
          · replace hf := (if_neg h).symm.trans hf
            refine lv_aload_n hx hb dX8_readsClass_55 rfl (lv_at hl 0 rfl) ?_
            refine lv_dup hx hb dX8_readsClass_56 rfl ?_
            refine g_get C hW inX8 0 rfl rfl rfl 9 (by decide) (List.mem_of_getElem? (i := 1) rfl) (v := .int (y4.2 9 0)) rfl dX8_readsClass_57 ?_
            refine lv_iconst (v := (1 : Int32)) hx hb dX8_readsClass_60 (by decide) ?_
            refine lv_iadd hx hb dX8_readsClass_61 ?_
            refine g_put C hW inX8 tyX8_ok nmX8 0 rfl rfl rfl 9 (by decide) (List.mem_of_getElem? (i := 1) rfl) rfl rfl rfl rfl (kX8_s9 g a0 y4.2 ((y4.2 9 0) + (1 : Int32))) (ch' := [kX8 g a0 (st y4.2 9 (fun _ => ((y4.2 9 0) + (1 : Int32))))]) rfl dX8_readsClass_62 (fun H locs hW => ?_)
            refine lv_iconst (v := (1 : Int32)) hx hb dX8_readsClass_65 (by decide) ?_
            obtain rfl := Option.some.inj hf
            subst hQ
            exact g_zret C hr hk0 hW rfl rfl rfl dX8_readsClass_66
          · replace hf := (if_pos h).symm.trans hf
            refine lv_iconst (v := (0 : Int32)) hx hb dX8_readsClass_53 (by decide) ?_
            obtain rfl := Option.some.inj hf
            subst hQ
            exact g_zret C hr hk0 hW rfl rfl rfl dX8_readsClass_54
def fX8_item (N : Nat) (v0 : MM) : Option (Int32 × MM) := (if (v0 29 0) = (98 : Int32) then ((fX8_reads N (0 : Int32) (9 : Int32) v0).bind (fun y1 => (if zb y1.1 = true then some (y1.1, (st y1.2 11 (fun _ => (y1.2 30 0)))) else none))) else (if (v0 29 0) = (99 : Int32) then ((fX8_readsClass N v0).bind (fun y2 => (if zb y2.1 = true then some (y2.1, y2.2) else none))) else (if (v0 29 0) = (114 : Int32) then ((fX8_reads N (1 : Int32) (6 : Int32) v0).bind (fun y3 => (if y3.1 = 0 then some ((0 : Int32), (st y3.2 12 (fun _ => (y3.2 30 0)))) else ((fX8_reads N (1 : Int32) (4 : Int32) (st y3.2 12 (fun _ => (y3.2 30 0)))).bind (fun y4 => (if zb y4.1 = true then some (y4.1, (st y4.2 13 (fun _ => (y4.2 30 0)))) else none)))))) else (if (v0 29 0) = (115 : Int32) then ((fX8_reads N (0 : Int32) (60 : Int32) v0).bind (fun y5 => (if zb y5.1 = true then some (y5.1, (st y5.2 10 (fun _ => (y5.2 30 0)))) else none))) else (if (v0 29 0) = (116 : Int32) then ((fX8_readsTerminal N v0).bind (fun y6 => (if zb y6.1 = true then some (y6.1, y6.2) else none))) else some ((0 : Int32), v0))))))
set_option maxHeartbeats 4000000 in
set_option maxRecDepth 100000 in
theorem ct_X8_item (g : GT) (l : Launch) (N : Nat) (a0 : Nat → Nat) (v0 : MM) {y : Int32 × MM} (hf : fX8_item N v0 = some y) : ct g l yX8_item wsX8_item (rmk 6 129) [.ref (a0 0)] [kX8 g a0 v0] (some (.int y.1)) [kX8 g a0 y.2] := by
  refine ct_of (cc := cX8_item) (maxL := 2) (ret := (some .boolean)) (by decide) rfl (Nat.le_of_ble_eq_true rfl) ?_
  intro p e s m args below meth c A ls C hr hk0 hA hW hl
  have hx := C.1.1
  have hb := C.1.2.1
  replace hl : lv_has ls 2 [(0, .ref (a0 0))] := hl
  obtain ⟨Q, hQ⟩ : ∃ Q, Q = MQ below (ctQ g A (some (.int y.1)) [kX8 g a0 y.2]) args s 0 0 A := ⟨_, rfl⟩
  rw [← hQ]
  obtain ⟨H, hH⟩ : ∃ H, H = s.heap := ⟨_, rfl⟩
  obtain ⟨locs, hL⟩ : ∃ locs : List Loc, locs = [] := ⟨_, rfl⟩
  replace hW : wd g A s.heap [kX8 g a0 v0] H locs := by rw [hH, hL]; exact hW
  suffices hG : W p l e (rmk 6 129) s m args below meth c H locs 0 0 Q (F0 m 0 ls []) by
    rw [hH, hL] at hG; exact hG
  clear hH hL
  have inX8 : ∀ w ∈ wsX80, w ∈ wsX8_item := fun _ h => List.mem_cons_of_mem _ (List.mem_append_right _ (h))
  rw [fX8_item] at hf
  refine lv_aload_n hx hb dX8_item_0 rfl (lv_at hl 0 rfl) ?_
  refine g_get C hW inX8 0 rfl rfl rfl 29 (by decide) (List.mem_of_getElem? (i := 1) rfl) (v := .int (v0 29 0)) rfl dX8_item_1 ?_
  rcases Decidable.em ((v0 29 0) = (98 : Int32)) with h98 | h98
  · replace hf := (if_pos h98).symm.trans hf
    refine lv_lookup (off := 80) hx hb dX8_item_4 (by decide) (by rw [h98]; decide) (tgt := 84) (by decide) ?_
    refine lv_aload_n hx hb dX8_item_84 rfl (lv_at hl 0 rfl) ?_
    refine lv_iconst (v := (0 : Int32)) hx hb dX8_item_85 (by decide) ?_
    refine lv_bipush (v := (9 : Int32)) hx hb dX8_item_86 (by decide) ?_
    obtain ⟨y1, hc, hf⟩ := bd_of hf
    refine g_cV (Cn := RX8) C (ct_X8_reads g l N a0 (0 : Int32) (9 : Int32) v0 hc) gX8_item_X8_reads rfl 2 (by decide +kernel) ⟨rfl, rfl, ⟨Nat.le_of_ble_eq_true rfl, Nat.le_of_ble_eq_true rfl⟩, Nat.le_of_ble_eq_true rfl, Nat.le_of_ble_eq_true rfl⟩ rfl hl (Nat.le_of_ble_eq_true rfl) dX8_item_88 rfl hW hA [0] rfl rfl rfl (ch' := [kX8 g a0 y1.2]) rfl 0 rfl rfl rfl (fun H locs hW => ?_)
    refine lv_istore_n (lv' := [(1, .int y1.1), (0, .ref (a0 0))]) hx hb dX8_item_91 rfl hl (by decide) rfl (fun ls hl => ?_)
    refine lv_aload_n hx hb dX8_item_92 rfl (lv_at hl 1 rfl) ?_
    refine lv_aload_n hx hb dX8_item_93 rfl (lv_at hl 1 rfl) ?_
    refine g_get C hW inX8 0 rfl rfl rfl 30 (by decide) (List.mem_of_getElem? (i := 2) rfl) (v := .int (y1.2 30 0)) rfl dX8_item_94 ?_
    refine g_put C hW inX8 tyX8_ok nmX8 0 rfl rfl rfl 11 (by decide) (List.mem_of_getElem? (i := 4) rfl) rfl rfl rfl rfl (kX8_s11 g a0 y1.2 (y1.2 30 0)) (ch' := [kX8 g a0 (st y1.2 11 (fun _ => (y1.2 30 0)))]) rfl dX8_item_97 (fun H locs hW => ?_)
    refine lv_iload_n hx hb dX8_item_100 rfl (lv_at hl 0 rfl) ?_
    obtain ⟨hi, hf⟩ := gd_of hf
    obtain rfl := Option.some.inj hf
    subst hQ
    exact g_zret C hr hk0 hW (zb_nar hi) rfl rfl dX8_item_101
  replace hf := (if_neg h98).symm.trans hf
  rcases Decidable.em ((v0 29 0) = (99 : Int32)) with h99 | h99
  · replace hf := (if_pos h99).symm.trans hf
    refine lv_lookup (off := 57) hx hb dX8_item_4 (by decide) (by rw [h99]; decide) (tgt := 61) (by decide) ?_
    refine lv_aload_n hx hb dX8_item_61 rfl (lv_at hl 0 rfl) ?_
    obtain ⟨y2, hc, hf⟩ := bd_of hf
    refine g_cV (Cn := RX8) C (ct_X8_readsClass g l N a0 v0 hc) gX8_item_X8_readsClass rfl 0 (by decide +kernel) ⟨rfl, rfl, ⟨Nat.le_of_ble_eq_true rfl, Nat.le_of_ble_eq_true rfl⟩, Nat.le_of_ble_eq_true rfl, Nat.le_of_ble_eq_true rfl⟩ rfl hl (Nat.le_of_ble_eq_true rfl) dX8_item_62 rfl hW hA [0] rfl rfl rfl (ch' := [kX8 g a0 y2.2]) rfl 0 rfl rfl rfl (fun H locs hW => ?_)
    obtain ⟨hi, hf⟩ := gd_of hf
    obtain rfl := Option.some.inj hf
    subst hQ
    exact g_zret C hr hk0 hW (zb_nar hi) rfl rfl dX8_item_65
  replace hf := (if_neg h99).symm.trans hf
  rcases Decidable.em ((v0 29 0) = (114 : Int32)) with h114 | h114
  · replace hf := (if_pos h114).symm.trans hf
    refine lv_lookup (off := 98) hx hb dX8_item_4 (by decide) (by rw [h114]; decide) (tgt := 102) (by decide) ?_
    refine lv_aload_n hx hb dX8_item_102 rfl (lv_at hl 0 rfl) ?_
    refine lv_iconst (v := (1 : Int32)) hx hb dX8_item_103 (by decide) ?_
    refine lv_bipush (v := (6 : Int32)) hx hb dX8_item_104 (by decide) ?_
    obtain ⟨y3, hc, hf⟩ := bd_of hf
    refine g_cV (Cn := RX8) C (ct_X8_reads g l N a0 (1 : Int32) (6 : Int32) v0 hc) gX8_item_X8_reads rfl 2 (by decide +kernel) ⟨rfl, rfl, ⟨Nat.le_of_ble_eq_true rfl, Nat.le_of_ble_eq_true rfl⟩, Nat.le_of_ble_eq_true rfl, Nat.le_of_ble_eq_true rfl⟩ rfl hl (Nat.le_of_ble_eq_true rfl) dX8_item_106 rfl hW hA [0] rfl rfl rfl (ch' := [kX8 g a0 y3.2]) rfl 0 rfl rfl rfl (fun H locs hW => ?_)
    refine lv_istore_n (lv' := [(1, .int y3.1), (0, .ref (a0 0))]) hx hb dX8_item_109 rfl hl (by decide) rfl (fun ls hl => ?_)
    refine lv_aload_n hx hb dX8_item_110 rfl (lv_at hl 1 rfl) ?_
    refine lv_aload_n hx hb dX8_item_111 rfl (lv_at hl 1 rfl) ?_
    refine g_get C hW inX8 0 rfl rfl rfl 30 (by decide) (List.mem_of_getElem? (i := 2) rfl) (v := .int (y3.2 30 0)) rfl dX8_item_112 ?_
    refine g_put C hW inX8 tyX8_ok nmX8 0 rfl rfl rfl 12 (by decide) (List.mem_of_getElem? (i := 5) rfl) rfl rfl rfl rfl (kX8_s12 g a0 y3.2 (y3.2 30 0)) (ch' := [kX8 g a0 (st y3.2 12 (fun _ => (y3.2 30 0)))]) rfl dX8_item_115 (fun H locs hW => ?_)
    refine lv_iload_n hx hb dX8_item_118 rfl (lv_at hl 0 rfl) ?_
    refine lv_if_ne (tgt := 124) hx hb dX8_item_119 (by decide) (fun h => ?_) (fun h => ?_)
    · replace hf := (if_neg h).symm.trans hf
      refine lv_aload_n hx hb dX8_item_124 rfl (lv_at hl 1 rfl) ?_
      refine lv_iconst (v := (1 : Int32)) hx hb dX8_item_125 (by decide) ?_
      refine lv_iconst (v := (4 : Int32)) hx hb dX8_item_126 (by decide) ?_
      obtain ⟨y4, hc, hf⟩ := bd_of hf
      refine g_cV (Cn := RX8) C (ct_X8_reads g l N a0 (1 : Int32) (4 : Int32) (st y3.2 12 (fun _ => (y3.2 30 0))) hc) gX8_item_X8_reads rfl 2 (by decide +kernel) ⟨rfl, rfl, ⟨Nat.le_of_ble_eq_true rfl, Nat.le_of_ble_eq_true rfl⟩, Nat.le_of_ble_eq_true rfl, Nat.le_of_ble_eq_true rfl⟩ rfl hl (Nat.le_of_ble_eq_true rfl) dX8_item_127 rfl hW hA [0] rfl rfl rfl (ch' := [kX8 g a0 y4.2]) rfl 0 rfl rfl rfl (fun H locs hW => ?_)
      refine lv_istore_n (lv' := [(1, .int y4.1), (0, .ref (a0 0))]) hx hb dX8_item_130 rfl hl (by decide) rfl (fun ls hl => ?_)
      refine lv_aload_n hx hb dX8_item_131 rfl (lv_at hl 1 rfl) ?_
      refine lv_aload_n hx hb dX8_item_132 rfl (lv_at hl 1 rfl) ?_
      refine g_get C hW inX8 0 rfl rfl rfl 30 (by decide) (List.mem_of_getElem? (i := 2) rfl) (v := .int (y4.2 30 0)) rfl dX8_item_133 ?_
      refine g_put C hW inX8 tyX8_ok nmX8 0 rfl rfl rfl 13 (by decide) (List.mem_of_getElem? (i := 6) rfl) rfl rfl rfl rfl (kX8_s13 g a0 y4.2 (y4.2 30 0)) (ch' := [kX8 g a0 (st y4.2 13 (fun _ => (y4.2 30 0)))]) rfl dX8_item_136 (fun H locs hW => ?_)
      refine lv_iload_n hx hb dX8_item_139 rfl (lv_at hl 0 rfl) ?_
      obtain ⟨hi, hf⟩ := gd_of hf
      obtain rfl := Option.some.inj hf
      subst hQ
      exact g_zret C hr hk0 hW (zb_nar hi) rfl rfl dX8_item_140
    · replace hf := (if_pos h).symm.trans hf
      refine lv_iconst (v := (0 : Int32)) hx hb dX8_item_122 (by decide) ?_
      obtain rfl := Option.some.inj hf
      subst hQ
      exact g_zret C hr hk0 hW rfl rfl rfl dX8_item_123
  replace hf := (if_neg h114).symm.trans hf
  rcases Decidable.em ((v0 29 0) = (115 : Int32)) with h115 | h115
  · replace hf := (if_pos h115).symm.trans hf
    refine lv_lookup (off := 62) hx hb dX8_item_4 (by decide) (by rw [h115]; decide) (tgt := 66) (by decide) ?_
    refine lv_aload_n hx hb dX8_item_66 rfl (lv_at hl 0 rfl) ?_
    refine lv_iconst (v := (0 : Int32)) hx hb dX8_item_67 (by decide) ?_
    refine lv_bipush (v := (60 : Int32)) hx hb dX8_item_68 (by decide) ?_
    obtain ⟨y5, hc, hf⟩ := bd_of hf
    refine g_cV (Cn := RX8) C (ct_X8_reads g l N a0 (0 : Int32) (60 : Int32) v0 hc) gX8_item_X8_reads rfl 2 (by decide +kernel) ⟨rfl, rfl, ⟨Nat.le_of_ble_eq_true rfl, Nat.le_of_ble_eq_true rfl⟩, Nat.le_of_ble_eq_true rfl, Nat.le_of_ble_eq_true rfl⟩ rfl hl (Nat.le_of_ble_eq_true rfl) dX8_item_70 rfl hW hA [0] rfl rfl rfl (ch' := [kX8 g a0 y5.2]) rfl 0 rfl rfl rfl (fun H locs hW => ?_)
    refine lv_istore_n (lv' := [(1, .int y5.1), (0, .ref (a0 0))]) hx hb dX8_item_73 rfl hl (by decide) rfl (fun ls hl => ?_)
    refine lv_aload_n hx hb dX8_item_74 rfl (lv_at hl 1 rfl) ?_
    refine lv_aload_n hx hb dX8_item_75 rfl (lv_at hl 1 rfl) ?_
    refine g_get C hW inX8 0 rfl rfl rfl 30 (by decide) (List.mem_of_getElem? (i := 2) rfl) (v := .int (y5.2 30 0)) rfl dX8_item_76 ?_
    refine g_put C hW inX8 tyX8_ok nmX8 0 rfl rfl rfl 10 (by decide) (List.mem_of_getElem? (i := 3) rfl) rfl rfl rfl rfl (kX8_s10 g a0 y5.2 (y5.2 30 0)) (ch' := [kX8 g a0 (st y5.2 10 (fun _ => (y5.2 30 0)))]) rfl dX8_item_79 (fun H locs hW => ?_)
    refine lv_iload_n hx hb dX8_item_82 rfl (lv_at hl 0 rfl) ?_
    obtain ⟨hi, hf⟩ := gd_of hf
    obtain rfl := Option.some.inj hf
    subst hQ
    exact g_zret C hr hk0 hW (zb_nar hi) rfl rfl dX8_item_83
  replace hf := (if_neg h115).symm.trans hf
  rcases Decidable.em ((v0 29 0) = (116 : Int32)) with h116 | h116
  · replace hf := (if_pos h116).symm.trans hf
    refine lv_lookup (off := 52) hx hb dX8_item_4 (by decide) (by rw [h116]; decide) (tgt := 56) (by decide) ?_
    refine lv_aload_n hx hb dX8_item_56 rfl (lv_at hl 0 rfl) ?_
    obtain ⟨y6, hc, hf⟩ := bd_of hf
    refine g_cV (Cn := RX8) C (ct_X8_readsTerminal g l N a0 v0 hc) gX8_item_X8_readsTerminal rfl 0 (by decide +kernel) ⟨rfl, rfl, ⟨Nat.le_of_ble_eq_true rfl, Nat.le_of_ble_eq_true rfl⟩, Nat.le_of_ble_eq_true rfl, Nat.le_of_ble_eq_true rfl⟩ rfl hl (Nat.le_of_ble_eq_true rfl) dX8_item_57 rfl hW hA [0] rfl rfl rfl (ch' := [kX8 g a0 y6.2]) rfl 0 rfl rfl rfl (fun H locs hW => ?_)
    obtain ⟨hi, hf⟩ := gd_of hf
    obtain rfl := Option.some.inj hf
    subst hQ
    exact g_zret C hr hk0 hW (zb_nar hi) rfl rfl dX8_item_60
  replace hf := (if_neg h116).symm.trans hf
  refine lv_lookup (off := 137) hx hb dX8_item_4 (by decide) (by show Op.lookupswitch.offset _ _ _ = _; rw [lv_osw h98 (show (98 : Int32).toInt = 98 by decide)]; rw [lv_osw h99 (show (99 : Int32).toInt = 99 by decide)]; rw [lv_osw h114 (show (114 : Int32).toInt = 114 by decide)]; rw [lv_osw h115 (show (115 : Int32).toInt = 115 by decide)]; rw [lv_osw h116 (show (116 : Int32).toInt = 116 by decide)]; rfl) (tgt := 141) (by decide) ?_
  refine lv_iconst (v := (0 : Int32)) hx hb dX8_item_141 (by decide) ?_
  obtain rfl := Option.some.inj hf
  subst hQ
  exact g_zret C hr hk0 hW rfl rfl rfl dX8_item_142
def fX8_begins (N : Nat) (v0 : MM) : Option (MM) := some (st (st (st (st (st (st v0 8 (fun _ => (0 : Int32))) 9 (fun _ => (0 : Int32))) 10 (fun _ => (20 : Int32))) 11 (fun _ => (2 : Int32))) 12 (fun _ => (4 : Int32))) 13 (fun _ => (3 : Int32)))
set_option maxHeartbeats 4000000 in
set_option maxRecDepth 100000 in
theorem ct_X8_begins (g : GT) (l : Launch) (N : Nat) (a0 : Nat → Nat) (v0 : MM) {y : MM} (hf : fX8_begins N v0 = some y) : ct g l yX8_begins wsX8_begins (rmk 0 0) [.ref (a0 0)] [kX8 g a0 v0] none [kX8 g a0 y] := by
  refine ct_of (cc := cX8_begins) (maxL := 1) (ret := none) (by decide) rfl (Nat.le_of_ble_eq_true rfl) ?_
  intro p e s m args below meth c A ls C hr hk0 hA hW hl
  have hx := C.1.1
  have hb := C.1.2.1
  replace hl : lv_has ls 1 [(0, .ref (a0 0))] := hl
  obtain ⟨Q, hQ⟩ : ∃ Q, Q = MQ below (ctQ g A none [kX8 g a0 y]) args s 0 0 A := ⟨_, rfl⟩
  rw [← hQ]
  obtain ⟨H, hH⟩ : ∃ H, H = s.heap := ⟨_, rfl⟩
  obtain ⟨locs, hL⟩ : ∃ locs : List Loc, locs = [] := ⟨_, rfl⟩
  replace hW : wd g A s.heap [kX8 g a0 v0] H locs := by rw [hH, hL]; exact hW
  suffices hG : W p l e (rmk 0 0) s m args below meth c H locs 0 0 Q (F0 m 0 ls []) by
    rw [hH, hL] at hG; exact hG
  clear hH hL
  have inX8 : ∀ w ∈ wsX80, w ∈ wsX8_begins := fun _ h => List.mem_cons_of_mem _ (List.mem_append_right _ (h))
  rw [fX8_begins] at hf
  refine lv_aload_n hx hb dX8_begins_0 rfl (lv_at hl 0 rfl) ?_
  refine lv_iconst (v := (0 : Int32)) hx hb dX8_begins_1 (by decide) ?_
  refine g_put C hW inX8 tyX8_ok nmX8 0 rfl rfl rfl 8 (by decide) (List.mem_of_getElem? (i := 1) rfl) rfl rfl rfl rfl (kX8_s8 g a0 v0 (0 : Int32)) (ch' := [kX8 g a0 (st v0 8 (fun _ => (0 : Int32)))]) rfl dX8_begins_2 (fun H locs hW => ?_)
  refine lv_aload_n hx hb dX8_begins_5 rfl (lv_at hl 0 rfl) ?_
  refine lv_iconst (v := (0 : Int32)) hx hb dX8_begins_6 (by decide) ?_
  refine g_put C hW inX8 tyX8_ok nmX8 0 rfl rfl rfl 9 (by decide) (List.mem_of_getElem? (i := 2) rfl) rfl rfl rfl rfl (kX8_s9 g a0 (st v0 8 (fun _ => (0 : Int32))) (0 : Int32)) (ch' := [kX8 g a0 (st (st v0 8 (fun _ => (0 : Int32))) 9 (fun _ => (0 : Int32)))]) rfl dX8_begins_7 (fun H locs hW => ?_)
  refine lv_aload_n hx hb dX8_begins_10 rfl (lv_at hl 0 rfl) ?_
  refine lv_bipush (v := (20 : Int32)) hx hb dX8_begins_11 (by decide) ?_
  refine g_put C hW inX8 tyX8_ok nmX8 0 rfl rfl rfl 10 (by decide) (List.mem_of_getElem? (i := 3) rfl) rfl rfl rfl rfl (kX8_s10 g a0 (st (st v0 8 (fun _ => (0 : Int32))) 9 (fun _ => (0 : Int32))) (20 : Int32)) (ch' := [kX8 g a0 (st (st (st v0 8 (fun _ => (0 : Int32))) 9 (fun _ => (0 : Int32))) 10 (fun _ => (20 : Int32)))]) rfl dX8_begins_13 (fun H locs hW => ?_)
  refine lv_aload_n hx hb dX8_begins_16 rfl (lv_at hl 0 rfl) ?_
  refine lv_iconst (v := (2 : Int32)) hx hb dX8_begins_17 (by decide) ?_
  refine g_put C hW inX8 tyX8_ok nmX8 0 rfl rfl rfl 11 (by decide) (List.mem_of_getElem? (i := 4) rfl) rfl rfl rfl rfl (kX8_s11 g a0 (st (st (st v0 8 (fun _ => (0 : Int32))) 9 (fun _ => (0 : Int32))) 10 (fun _ => (20 : Int32))) (2 : Int32)) (ch' := [kX8 g a0 (st (st (st (st v0 8 (fun _ => (0 : Int32))) 9 (fun _ => (0 : Int32))) 10 (fun _ => (20 : Int32))) 11 (fun _ => (2 : Int32)))]) rfl dX8_begins_18 (fun H locs hW => ?_)
  refine lv_aload_n hx hb dX8_begins_21 rfl (lv_at hl 0 rfl) ?_
  refine lv_iconst (v := (4 : Int32)) hx hb dX8_begins_22 (by decide) ?_
  refine g_put C hW inX8 tyX8_ok nmX8 0 rfl rfl rfl 12 (by decide) (List.mem_of_getElem? (i := 5) rfl) rfl rfl rfl rfl (kX8_s12 g a0 (st (st (st (st v0 8 (fun _ => (0 : Int32))) 9 (fun _ => (0 : Int32))) 10 (fun _ => (20 : Int32))) 11 (fun _ => (2 : Int32))) (4 : Int32)) (ch' := [kX8 g a0 (st (st (st (st (st v0 8 (fun _ => (0 : Int32))) 9 (fun _ => (0 : Int32))) 10 (fun _ => (20 : Int32))) 11 (fun _ => (2 : Int32))) 12 (fun _ => (4 : Int32)))]) rfl dX8_begins_23 (fun H locs hW => ?_)
  refine lv_aload_n hx hb dX8_begins_26 rfl (lv_at hl 0 rfl) ?_
  refine lv_iconst (v := (3 : Int32)) hx hb dX8_begins_27 (by decide) ?_
  refine g_put C hW inX8 tyX8_ok nmX8 0 rfl rfl rfl 13 (by decide) (List.mem_of_getElem? (i := 6) rfl) rfl rfl rfl rfl (kX8_s13 g a0 (st (st (st (st (st v0 8 (fun _ => (0 : Int32))) 9 (fun _ => (0 : Int32))) 10 (fun _ => (20 : Int32))) 11 (fun _ => (2 : Int32))) 12 (fun _ => (4 : Int32))) (3 : Int32)) (ch' := [kX8 g a0 (st (st (st (st (st (st v0 8 (fun _ => (0 : Int32))) 9 (fun _ => (0 : Int32))) 10 (fun _ => (20 : Int32))) 11 (fun _ => (2 : Int32))) 12 (fun _ => (4 : Int32))) 13 (fun _ => (3 : Int32)))]) rfl dX8_begins_28 (fun H locs hW => ?_)
  obtain rfl := Option.some.inj hf
  subst hQ
  exact g_vret C hr hk0 hW rfl rfl dX8_begins_31
def fX8_becomes_L42 (N : Nat) (k : Int32 → MM → Option (MM)) : Nat → Int32 → MM → Option (MM)
  | 0, _, _ => none
  | n + 1, x1, v0 => (if (3 : Int32) ≤ x1 then k x1 v0 else (if ib x1 3 = true then (if ib x1 3 = true then fX8_becomes_L42 N k n (x1 + 1) (st v0 6 (upd (v0 6) (Int32.toNatClampNeg x1) ((v0 14) (Int32.toNatClampNeg x1)))) else none) else none))
def fX8_becomes_L67 (N : Nat) (k : Int32 → MM → Option (MM)) : Nat → Int32 → MM → Option (MM)
  | 0, _, _ => none
  | n + 1, x1, v0 => (if (24 : Int32) ≤ x1 then k x1 v0 else (if ib x1 24 = true then (if ib x1 24 = true then fX8_becomes_L67 N k n (x1 + 1) (st v0 7 (upd (v0 7) (Int32.toNatClampNeg x1) ((v0 15) (Int32.toNatClampNeg x1)))) else none) else none))
def fX8_becomes_L93 (N : Nat) (k : Int32 → MM → Option (MM)) : Nat → Int32 → MM → Option (MM)
  | 0, _, _ => none
  | n + 1, x1, v0 => (if (667 : Int32) ≤ x1 then k x1 v0 else (if ib x1 667 = true then fX8_becomes_L93 N k n (x1 + 1) (st v0 16 (upd (v0 16) (Int32.toNatClampNeg x1) (0 : Int32))) else none))
def fX8_becomes (N : Nat) (v0 : MM) : Option (MM) := (fX8_becomes_L42 N (fun (x1_1 : Int32) (v0_1 : MM) => (fX8_becomes_L67 N (fun (x1_2 : Int32) (v0_2 : MM) => (fX8_becomes_L93 N (fun (x1_3 : Int32) (v0_3 : MM) => (if ib (1 : Int32) 667 = true then (if ib (2 : Int32) 667 = true then (if ib (0 : Int32) 2 = true then (if ib (1 : Int32) 2 = true then some (st (st (st (st (st (st v0_3 16 (upd (v0_3 16) (Int32.toNatClampNeg (1 : Int32)) (v0_3 10 0))) 16 (upd (upd (v0_3 16) (Int32.toNatClampNeg (1 : Int32)) (v0_3 10 0)) (Int32.toNatClampNeg (2 : Int32)) (-9 : Int32))) 17 (fun _ => (0 : Int32))) 22 (fun _ => (0 : Int32))) 20 (upd (v0_3 20) (Int32.toNatClampNeg (0 : Int32)) (vp_nar .boolean (0 : Int32)))) 20 (upd (upd (v0_3 20) (Int32.toNatClampNeg (0 : Int32)) (vp_nar .boolean (0 : Int32))) (Int32.toNatClampNeg (1 : Int32)) (vp_nar .boolean (0 : Int32)))) else none) else none) else none) else none)) N (0 : Int32) v0_2)) N (0 : Int32) v0_1)) N (0 : Int32) (st (st (st (st (st v0 1 (fun _ => (v0 8 0))) 2 (fun _ => (v0 9 0))) 3 (fun _ => (v0 11 0))) 4 (fun _ => (v0 12 0))) 5 (fun _ => (v0 13 0))))
set_option maxHeartbeats 4000000 in
set_option maxRecDepth 100000 in
theorem ct_X8_becomes (g : GT) (l : Launch) (N : Nat) (a0 : Nat → Nat) (v0 : MM) {y : MM} (hf : fX8_becomes N v0 = some y) : ct g l yX8_becomes wsX8_becomes (rmk 0 0) [.ref (a0 0)] [kX8 g a0 v0] none [kX8 g a0 y] := by
  refine ct_of (cc := cX8_becomes) (maxL := 2) (ret := none) (by decide) rfl (Nat.le_of_ble_eq_true rfl) ?_
  intro p e s m args below meth c A ls C hr hk0 hA hW hl
  have hx := C.1.1
  have hb := C.1.2.1
  replace hl : lv_has ls 2 [(0, .ref (a0 0))] := hl
  obtain ⟨Q, hQ⟩ : ∃ Q, Q = MQ below (ctQ g A none [kX8 g a0 y]) args s 0 0 A := ⟨_, rfl⟩
  rw [← hQ]
  obtain ⟨H, hH⟩ : ∃ H, H = s.heap := ⟨_, rfl⟩
  obtain ⟨locs, hL⟩ : ∃ locs : List Loc, locs = [] := ⟨_, rfl⟩
  replace hW : wd g A s.heap [kX8 g a0 v0] H locs := by rw [hH, hL]; exact hW
  suffices hG : W p l e (rmk 0 0) s m args below meth c H locs 0 0 Q (F0 m 0 ls []) by
    rw [hH, hL] at hG; exact hG
  clear hH hL
  have inX8 : ∀ w ∈ wsX80, w ∈ wsX8_becomes := fun _ h => List.mem_cons_of_mem _ (List.mem_append_right _ (h))
  have L42 : ∀ (k : Int32 → MM → Option (MM)) (hk : ∀ (x1 : Int32) (v0 : MM) (H : Heap) (locs : List Loc) (ls : Array Slot), k x1 v0 = some y → wd g A s.heap [kX8 g a0 v0] H locs → lv_has ls 2 [(0, .ref (a0 0)), (1, .int x1)] → W p l e (rmk 0 0) s m args below meth c H locs 0 0 Q (F0 m 65 ls [])) (n : Nat) (x1 : Int32) (v0 : MM) (H : Heap) (locs : List Loc) (ls : Array Slot), fX8_becomes_L42 N k n x1 v0 = some y → wd g A s.heap [kX8 g a0 v0] H locs → lv_has ls 2 [(0, .ref (a0 0)), (1, .int x1)] → W p l e (rmk 0 0) s m args below meth c H locs 0 0 Q (F0 m 42 ls []) := by
    intro k hk n
    induction n with
    | zero => intro x1 v0 H locs ls hf; rw [fX8_becomes_L42] at hf; cases hf
    | succ n ih =>
      intro x1 v0 H locs ls hf hW hl
      rw [fX8_becomes_L42] at hf
      refine lv_iload_n hx hb dX8_becomes_42 rfl (lv_at hl 1 rfl) ?_
      refine lv_iconst (v := (3 : Int32)) hx hb dX8_becomes_43 (by decide) ?_
      refine lv_icmp_ge (tgt := 65) hx hb dX8_becomes_44 (by decide) (fun h => ?_) (fun h => ?_)
      · replace hf := (if_pos h).symm.trans hf
        exact hk _ _ H locs ls hf hW (lv_sub hl [0, 1] rfl)
      · replace hf := (if_neg h).symm.trans hf
        refine lv_aload_n hx hb dX8_becomes_47 rfl (lv_at hl 0 rfl) ?_
        refine g_get C hW inX8 0 rfl rfl rfl 6 (by decide) (List.mem_of_getElem? (i := 11) rfl) (v := .ref (a0 1)) rfl dX8_becomes_48 ?_
        refine lv_iload_n hx hb dX8_becomes_51 rfl (lv_at hl 1 rfl) ?_
        refine lv_aload_n hx hb dX8_becomes_52 rfl (lv_at hl 0 rfl) ?_
        refine g_get C hW inX8 0 rfl rfl rfl 14 (by decide) (List.mem_of_getElem? (i := 12) rfl) (v := .ref (a0 3)) rfl dX8_becomes_53 ?_
        refine lv_iload_n hx hb dX8_becomes_56 rfl (lv_at hl 1 rfl) ?_
        obtain ⟨hi, hf⟩ := gd_of hf
        refine g_iald C hW 0 3 rfl (f := (v0 14)) rfl (ib_in hi) dX8_becomes_57 ?_
        obtain ⟨hi, hf⟩ := gd_of hf
        refine g_iast C hW 0 1 rfl (f := (v0 6)) rfl (ib_in hi) (kX8_w6 g a0 v0 (upd (v0 6) (Int32.toNatClampNeg x1) ((v0 14) (Int32.toNatClampNeg x1)))) (ch' := [kX8 g a0 (st v0 6 (upd (v0 6) (Int32.toNatClampNeg x1) ((v0 14) (Int32.toNatClampNeg x1))))]) rfl dX8_becomes_58 (fun H locs hW => ?_)
        refine lv_iinc (v := (x1 + 1)) (lv' := [(1, .int (x1 + 1)), (0, .ref (a0 0))]) hx hb dX8_becomes_59 hl (k := 1) rfl (by first | rfl | decide) (by decide) rfl (fun ls hl => ?_)
        refine lv_goto (tgt := 42) hx hb dX8_becomes_62 (by decide) ?_
        exact ih _ _ H locs ls hf hW (lv_sub hl [1, 0] rfl)
  have L67 : ∀ (k : Int32 → MM → Option (MM)) (hk : ∀ (x1 : Int32) (v0 : MM) (H : Heap) (locs : List Loc) (ls : Array Slot), k x1 v0 = some y → wd g A s.heap [kX8 g a0 v0] H locs → lv_has ls 2 [(0, .ref (a0 0)), (1, .int x1)] → W p l e (rmk 0 0) s m args below meth c H locs 0 0 Q (F0 m 91 ls [])) (n : Nat) (x1 : Int32) (v0 : MM) (H : Heap) (locs : List Loc) (ls : Array Slot), fX8_becomes_L67 N k n x1 v0 = some y → wd g A s.heap [kX8 g a0 v0] H locs → lv_has ls 2 [(0, .ref (a0 0)), (1, .int x1)] → W p l e (rmk 0 0) s m args below meth c H locs 0 0 Q (F0 m 67 ls []) := by
    intro k hk n
    induction n with
    | zero => intro x1 v0 H locs ls hf; rw [fX8_becomes_L67] at hf; cases hf
    | succ n ih =>
      intro x1 v0 H locs ls hf hW hl
      rw [fX8_becomes_L67] at hf
      refine lv_iload_n hx hb dX8_becomes_67 rfl (lv_at hl 1 rfl) ?_
      refine lv_bipush (v := (24 : Int32)) hx hb dX8_becomes_68 (by decide) ?_
      refine lv_icmp_ge (tgt := 91) hx hb dX8_becomes_70 (by decide) (fun h => ?_) (fun h => ?_)
      · replace hf := (if_pos h).symm.trans hf
        exact hk _ _ H locs ls hf hW (lv_sub hl [0, 1] rfl)
      · replace hf := (if_neg h).symm.trans hf
        refine lv_aload_n hx hb dX8_becomes_73 rfl (lv_at hl 0 rfl) ?_
        refine g_get C hW inX8 0 rfl rfl rfl 7 (by decide) (List.mem_of_getElem? (i := 13) rfl) (v := .ref (a0 2)) rfl dX8_becomes_74 ?_
        refine lv_iload_n hx hb dX8_becomes_77 rfl (lv_at hl 1 rfl) ?_
        refine lv_aload_n hx hb dX8_becomes_78 rfl (lv_at hl 0 rfl) ?_
        refine g_get C hW inX8 0 rfl rfl rfl 15 (by decide) (List.mem_of_getElem? (i := 14) rfl) (v := .ref (a0 4)) rfl dX8_becomes_79 ?_
        refine lv_iload_n hx hb dX8_becomes_82 rfl (lv_at hl 1 rfl) ?_
        obtain ⟨hi, hf⟩ := gd_of hf
        refine g_iald C hW 0 4 rfl (f := (v0 15)) rfl (ib_in hi) dX8_becomes_83 ?_
        obtain ⟨hi, hf⟩ := gd_of hf
        refine g_iast C hW 0 2 rfl (f := (v0 7)) rfl (ib_in hi) (kX8_w7 g a0 v0 (upd (v0 7) (Int32.toNatClampNeg x1) ((v0 15) (Int32.toNatClampNeg x1)))) (ch' := [kX8 g a0 (st v0 7 (upd (v0 7) (Int32.toNatClampNeg x1) ((v0 15) (Int32.toNatClampNeg x1))))]) rfl dX8_becomes_84 (fun H locs hW => ?_)
        refine lv_iinc (v := (x1 + 1)) (lv' := [(1, .int (x1 + 1)), (0, .ref (a0 0))]) hx hb dX8_becomes_85 hl (k := 1) rfl (by first | rfl | decide) (by decide) rfl (fun ls hl => ?_)
        refine lv_goto (tgt := 67) hx hb dX8_becomes_88 (by decide) ?_
        exact ih _ _ H locs ls hf hW (lv_sub hl [1, 0] rfl)
  have L93 : ∀ (k : Int32 → MM → Option (MM)) (hk : ∀ (x1 : Int32) (v0 : MM) (H : Heap) (locs : List Loc) (ls : Array Slot), k x1 v0 = some y → wd g A s.heap [kX8 g a0 v0] H locs → lv_has ls 2 [(0, .ref (a0 0)), (1, .int x1)] → W p l e (rmk 0 0) s m args below meth c H locs 0 0 Q (F0 m 113 ls [])) (n : Nat) (x1 : Int32) (v0 : MM) (H : Heap) (locs : List Loc) (ls : Array Slot), fX8_becomes_L93 N k n x1 v0 = some y → wd g A s.heap [kX8 g a0 v0] H locs → lv_has ls 2 [(0, .ref (a0 0)), (1, .int x1)] → W p l e (rmk 0 0) s m args below meth c H locs 0 0 Q (F0 m 93 ls []) := by
    intro k hk n
    induction n with
    | zero => intro x1 v0 H locs ls hf; rw [fX8_becomes_L93] at hf; cases hf
    | succ n ih =>
      intro x1 v0 H locs ls hf hW hl
      rw [fX8_becomes_L93] at hf
      refine lv_iload_n hx hb dX8_becomes_93 rfl (lv_at hl 1 rfl) ?_
      refine lv_sipush (v := (667 : Int32)) hx hb dX8_becomes_94 (by decide) ?_
      refine lv_icmp_ge (tgt := 113) hx hb dX8_becomes_97 (by decide) (fun h => ?_) (fun h => ?_)
      · replace hf := (if_pos h).symm.trans hf
        exact hk _ _ H locs ls hf hW (lv_sub hl [0, 1] rfl)
      · replace hf := (if_neg h).symm.trans hf
        refine lv_aload_n hx hb dX8_becomes_100 rfl (lv_at hl 0 rfl) ?_
        refine g_get C hW inX8 0 rfl rfl rfl 16 (by decide) (List.mem_of_getElem? (i := 15) rfl) (v := .ref (a0 5)) rfl dX8_becomes_101 ?_
        refine lv_iload_n hx hb dX8_becomes_104 rfl (lv_at hl 1 rfl) ?_
        refine lv_iconst (v := (0 : Int32)) hx hb dX8_becomes_105 (by decide) ?_
        obtain ⟨hi, hf⟩ := gd_of hf
        refine g_iast C hW 0 5 rfl (f := (v0 16)) rfl (ib_in hi) (kX8_w16 g a0 v0 (upd (v0 16) (Int32.toNatClampNeg x1) (0 : Int32))) (ch' := [kX8 g a0 (st v0 16 (upd (v0 16) (Int32.toNatClampNeg x1) (0 : Int32)))]) rfl dX8_becomes_106 (fun H locs hW => ?_)
        refine lv_iinc (v := (x1 + 1)) (lv' := [(1, .int (x1 + 1)), (0, .ref (a0 0))]) hx hb dX8_becomes_107 hl (k := 1) rfl (by first | rfl | decide) (by decide) rfl (fun ls hl => ?_)
        refine lv_goto (tgt := 93) hx hb dX8_becomes_110 (by decide) ?_
        exact ih _ _ H locs ls hf hW (lv_sub hl [1, 0] rfl)
  rw [fX8_becomes] at hf
  refine lv_aload_n hx hb dX8_becomes_0 rfl (lv_at hl 0 rfl) ?_
  refine lv_aload_n hx hb dX8_becomes_1 rfl (lv_at hl 0 rfl) ?_
  refine g_get C hW inX8 0 rfl rfl rfl 8 (by decide) (List.mem_of_getElem? (i := 1) rfl) (v := .int (v0 8 0)) rfl dX8_becomes_2 ?_
  refine g_put C hW inX8 tyX8_ok nmX8 0 rfl rfl rfl 1 (by decide) (List.mem_of_getElem? (i := 2) rfl) rfl rfl rfl rfl (kX8_s1 g a0 v0 (v0 8 0)) (ch' := [kX8 g a0 (st v0 1 (fun _ => (v0 8 0)))]) rfl dX8_becomes_5 (fun H locs hW => ?_)
  refine lv_aload_n hx hb dX8_becomes_8 rfl (lv_at hl 0 rfl) ?_
  refine lv_aload_n hx hb dX8_becomes_9 rfl (lv_at hl 0 rfl) ?_
  refine g_get C hW inX8 0 rfl rfl rfl 9 (by decide) (List.mem_of_getElem? (i := 3) rfl) (v := .int (v0 9 0)) rfl dX8_becomes_10 ?_
  refine g_put C hW inX8 tyX8_ok nmX8 0 rfl rfl rfl 2 (by decide) (List.mem_of_getElem? (i := 4) rfl) rfl rfl rfl rfl (kX8_s2 g a0 (st v0 1 (fun _ => (v0 8 0))) (v0 9 0)) (ch' := [kX8 g a0 (st (st v0 1 (fun _ => (v0 8 0))) 2 (fun _ => (v0 9 0)))]) rfl dX8_becomes_13 (fun H locs hW => ?_)
  refine lv_aload_n hx hb dX8_becomes_16 rfl (lv_at hl 0 rfl) ?_
  refine lv_aload_n hx hb dX8_becomes_17 rfl (lv_at hl 0 rfl) ?_
  refine g_get C hW inX8 0 rfl rfl rfl 11 (by decide) (List.mem_of_getElem? (i := 5) rfl) (v := .int (v0 11 0)) rfl dX8_becomes_18 ?_
  refine g_put C hW inX8 tyX8_ok nmX8 0 rfl rfl rfl 3 (by decide) (List.mem_of_getElem? (i := 6) rfl) rfl rfl rfl rfl (kX8_s3 g a0 (st (st v0 1 (fun _ => (v0 8 0))) 2 (fun _ => (v0 9 0))) (v0 11 0)) (ch' := [kX8 g a0 (st (st (st v0 1 (fun _ => (v0 8 0))) 2 (fun _ => (v0 9 0))) 3 (fun _ => (v0 11 0)))]) rfl dX8_becomes_21 (fun H locs hW => ?_)
  refine lv_aload_n hx hb dX8_becomes_24 rfl (lv_at hl 0 rfl) ?_
  refine lv_aload_n hx hb dX8_becomes_25 rfl (lv_at hl 0 rfl) ?_
  refine g_get C hW inX8 0 rfl rfl rfl 12 (by decide) (List.mem_of_getElem? (i := 7) rfl) (v := .int (v0 12 0)) rfl dX8_becomes_26 ?_
  refine g_put C hW inX8 tyX8_ok nmX8 0 rfl rfl rfl 4 (by decide) (List.mem_of_getElem? (i := 8) rfl) rfl rfl rfl rfl (kX8_s4 g a0 (st (st (st v0 1 (fun _ => (v0 8 0))) 2 (fun _ => (v0 9 0))) 3 (fun _ => (v0 11 0))) (v0 12 0)) (ch' := [kX8 g a0 (st (st (st (st v0 1 (fun _ => (v0 8 0))) 2 (fun _ => (v0 9 0))) 3 (fun _ => (v0 11 0))) 4 (fun _ => (v0 12 0)))]) rfl dX8_becomes_29 (fun H locs hW => ?_)
  refine lv_aload_n hx hb dX8_becomes_32 rfl (lv_at hl 0 rfl) ?_
  refine lv_aload_n hx hb dX8_becomes_33 rfl (lv_at hl 0 rfl) ?_
  refine g_get C hW inX8 0 rfl rfl rfl 13 (by decide) (List.mem_of_getElem? (i := 9) rfl) (v := .int (v0 13 0)) rfl dX8_becomes_34 ?_
  refine g_put C hW inX8 tyX8_ok nmX8 0 rfl rfl rfl 5 (by decide) (List.mem_of_getElem? (i := 10) rfl) rfl rfl rfl rfl (kX8_s5 g a0 (st (st (st (st v0 1 (fun _ => (v0 8 0))) 2 (fun _ => (v0 9 0))) 3 (fun _ => (v0 11 0))) 4 (fun _ => (v0 12 0))) (v0 13 0)) (ch' := [kX8 g a0 (st (st (st (st (st v0 1 (fun _ => (v0 8 0))) 2 (fun _ => (v0 9 0))) 3 (fun _ => (v0 11 0))) 4 (fun _ => (v0 12 0))) 5 (fun _ => (v0 13 0)))]) rfl dX8_becomes_37 (fun H locs hW => ?_)
  refine lv_iconst (v := (0 : Int32)) hx hb dX8_becomes_40 (by decide) ?_
  refine lv_istore_n (lv' := [(1, .int (0 : Int32)), (0, .ref (a0 0))]) hx hb dX8_becomes_41 rfl hl (by decide) rfl (fun ls hl => ?_)
  refine L42 _ (fun x1_1 v0_1 H locs ls hf hW hl => ?_) N (0 : Int32) (st (st (st (st (st v0 1 (fun _ => (v0 8 0))) 2 (fun _ => (v0 9 0))) 3 (fun _ => (v0 11 0))) 4 (fun _ => (v0 12 0))) 5 (fun _ => (v0 13 0))) H locs ls hf hW (lv_sub hl [1, 0] rfl)
  refine lv_iconst (v := (0 : Int32)) hx hb dX8_becomes_65 (by decide) ?_
  refine lv_istore_n (lv' := [(1, .int (0 : Int32)), (0, .ref (a0 0))]) hx hb dX8_becomes_66 rfl hl (by decide) rfl (fun ls hl => ?_)
  refine L67 _ (fun x1_2 v0_2 H locs ls hf hW hl => ?_) N (0 : Int32) v0_1 H locs ls hf hW (lv_sub hl [1, 0] rfl)
  refine lv_iconst (v := (0 : Int32)) hx hb dX8_becomes_91 (by decide) ?_
  refine lv_istore_n (lv' := [(1, .int (0 : Int32)), (0, .ref (a0 0))]) hx hb dX8_becomes_92 rfl hl (by decide) rfl (fun ls hl => ?_)
  refine L93 _ (fun x1_3 v0_3 H locs ls hf hW hl => ?_) N (0 : Int32) v0_2 H locs ls hf hW (lv_sub hl [1, 0] rfl)
  refine lv_aload_n hx hb dX8_becomes_113 rfl (lv_at hl 0 rfl) ?_
  refine g_get C hW inX8 0 rfl rfl rfl 16 (by decide) (List.mem_of_getElem? (i := 15) rfl) (v := .ref (a0 5)) rfl dX8_becomes_114 ?_
  refine lv_iconst (v := (1 : Int32)) hx hb dX8_becomes_117 (by decide) ?_
  refine lv_aload_n hx hb dX8_becomes_118 rfl (lv_at hl 0 rfl) ?_
  refine g_get C hW inX8 0 rfl rfl rfl 10 (by decide) (List.mem_of_getElem? (i := 16) rfl) (v := .int (v0_3 10 0)) rfl dX8_becomes_119 ?_
  obtain ⟨hi, hf⟩ := gd_of hf
  refine g_iast C hW 0 5 rfl (f := (v0_3 16)) rfl (ib_in hi) (kX8_w16 g a0 v0_3 (upd (v0_3 16) (Int32.toNatClampNeg (1 : Int32)) (v0_3 10 0))) (ch' := [kX8 g a0 (st v0_3 16 (upd (v0_3 16) (Int32.toNatClampNeg (1 : Int32)) (v0_3 10 0)))]) rfl dX8_becomes_122 (fun H locs hW => ?_)
  refine lv_aload_n hx hb dX8_becomes_123 rfl (lv_at hl 0 rfl) ?_
  refine g_get C hW inX8 0 rfl rfl rfl 16 (by decide) (List.mem_of_getElem? (i := 15) rfl) (v := .ref (a0 5)) rfl dX8_becomes_124 ?_
  refine lv_iconst (v := (2 : Int32)) hx hb dX8_becomes_127 (by decide) ?_
  refine lv_bipush (v := (-9 : Int32)) hx hb dX8_becomes_128 (by decide) ?_
  obtain ⟨hi, hf⟩ := gd_of hf
  refine g_iast C hW 0 5 rfl (f := (upd (v0_3 16) (Int32.toNatClampNeg (1 : Int32)) (v0_3 10 0))) rfl (ib_in hi) (kX8_w16 g a0 (st v0_3 16 (upd (v0_3 16) (Int32.toNatClampNeg (1 : Int32)) (v0_3 10 0))) (upd (upd (v0_3 16) (Int32.toNatClampNeg (1 : Int32)) (v0_3 10 0)) (Int32.toNatClampNeg (2 : Int32)) (-9 : Int32))) (ch' := [kX8 g a0 (st (st v0_3 16 (upd (v0_3 16) (Int32.toNatClampNeg (1 : Int32)) (v0_3 10 0))) 16 (upd (upd (v0_3 16) (Int32.toNatClampNeg (1 : Int32)) (v0_3 10 0)) (Int32.toNatClampNeg (2 : Int32)) (-9 : Int32)))]) rfl dX8_becomes_130 (fun H locs hW => ?_)
  refine lv_aload_n hx hb dX8_becomes_131 rfl (lv_at hl 0 rfl) ?_
  refine lv_iconst (v := (0 : Int32)) hx hb dX8_becomes_132 (by decide) ?_
  refine g_put C hW inX8 tyX8_ok nmX8 0 rfl rfl rfl 17 (by decide) (List.mem_of_getElem? (i := 17) rfl) rfl rfl rfl rfl (kX8_s17 g a0 (st (st v0_3 16 (upd (v0_3 16) (Int32.toNatClampNeg (1 : Int32)) (v0_3 10 0))) 16 (upd (upd (v0_3 16) (Int32.toNatClampNeg (1 : Int32)) (v0_3 10 0)) (Int32.toNatClampNeg (2 : Int32)) (-9 : Int32))) (0 : Int32)) (ch' := [kX8 g a0 (st (st (st v0_3 16 (upd (v0_3 16) (Int32.toNatClampNeg (1 : Int32)) (v0_3 10 0))) 16 (upd (upd (v0_3 16) (Int32.toNatClampNeg (1 : Int32)) (v0_3 10 0)) (Int32.toNatClampNeg (2 : Int32)) (-9 : Int32))) 17 (fun _ => (0 : Int32)))]) rfl dX8_becomes_133 (fun H locs hW => ?_)
  refine lv_aload_n hx hb dX8_becomes_136 rfl (lv_at hl 0 rfl) ?_
  refine lv_iconst (v := (0 : Int32)) hx hb dX8_becomes_137 (by decide) ?_
  refine g_put C hW inX8 tyX8_ok nmX8 0 rfl rfl rfl 22 (by decide) (List.mem_of_getElem? (i := 18) rfl) rfl rfl rfl rfl (kX8_s22 g a0 (st (st (st v0_3 16 (upd (v0_3 16) (Int32.toNatClampNeg (1 : Int32)) (v0_3 10 0))) 16 (upd (upd (v0_3 16) (Int32.toNatClampNeg (1 : Int32)) (v0_3 10 0)) (Int32.toNatClampNeg (2 : Int32)) (-9 : Int32))) 17 (fun _ => (0 : Int32))) (0 : Int32)) (ch' := [kX8 g a0 (st (st (st (st v0_3 16 (upd (v0_3 16) (Int32.toNatClampNeg (1 : Int32)) (v0_3 10 0))) 16 (upd (upd (v0_3 16) (Int32.toNatClampNeg (1 : Int32)) (v0_3 10 0)) (Int32.toNatClampNeg (2 : Int32)) (-9 : Int32))) 17 (fun _ => (0 : Int32))) 22 (fun _ => (0 : Int32)))]) rfl dX8_becomes_138 (fun H locs hW => ?_)
  refine lv_aload_n hx hb dX8_becomes_141 rfl (lv_at hl 0 rfl) ?_
  refine g_get C hW inX8 0 rfl rfl rfl 20 (by decide) (List.mem_of_getElem? (i := 19) rfl) (v := .ref (a0 8)) rfl dX8_becomes_142 ?_
  refine lv_iconst (v := (0 : Int32)) hx hb dX8_becomes_145 (by decide) ?_
  refine lv_iconst (v := (0 : Int32)) hx hb dX8_becomes_146 (by decide) ?_
  obtain ⟨hi, hf⟩ := gd_of hf
  refine g_zast C hW 0 8 rfl (f := (v0_3 20)) rfl (ib_in hi) (kX8_w20 g a0 (st (st (st (st v0_3 16 (upd (v0_3 16) (Int32.toNatClampNeg (1 : Int32)) (v0_3 10 0))) 16 (upd (upd (v0_3 16) (Int32.toNatClampNeg (1 : Int32)) (v0_3 10 0)) (Int32.toNatClampNeg (2 : Int32)) (-9 : Int32))) 17 (fun _ => (0 : Int32))) 22 (fun _ => (0 : Int32))) (upd (v0_3 20) (Int32.toNatClampNeg (0 : Int32)) (vp_nar .boolean (0 : Int32)))) (ch' := [kX8 g a0 (st (st (st (st (st v0_3 16 (upd (v0_3 16) (Int32.toNatClampNeg (1 : Int32)) (v0_3 10 0))) 16 (upd (upd (v0_3 16) (Int32.toNatClampNeg (1 : Int32)) (v0_3 10 0)) (Int32.toNatClampNeg (2 : Int32)) (-9 : Int32))) 17 (fun _ => (0 : Int32))) 22 (fun _ => (0 : Int32))) 20 (upd (v0_3 20) (Int32.toNatClampNeg (0 : Int32)) (vp_nar .boolean (0 : Int32))))]) rfl dX8_becomes_147 (fun H locs hW => ?_)
  refine lv_aload_n hx hb dX8_becomes_148 rfl (lv_at hl 0 rfl) ?_
  refine g_get C hW inX8 0 rfl rfl rfl 20 (by decide) (List.mem_of_getElem? (i := 19) rfl) (v := .ref (a0 8)) rfl dX8_becomes_149 ?_
  refine lv_iconst (v := (1 : Int32)) hx hb dX8_becomes_152 (by decide) ?_
  refine lv_iconst (v := (0 : Int32)) hx hb dX8_becomes_153 (by decide) ?_
  obtain ⟨hi, hf⟩ := gd_of hf
  refine g_zast C hW 0 8 rfl (f := (upd (v0_3 20) (Int32.toNatClampNeg (0 : Int32)) (vp_nar .boolean (0 : Int32)))) rfl (ib_in hi) (kX8_w20 g a0 (st (st (st (st (st v0_3 16 (upd (v0_3 16) (Int32.toNatClampNeg (1 : Int32)) (v0_3 10 0))) 16 (upd (upd (v0_3 16) (Int32.toNatClampNeg (1 : Int32)) (v0_3 10 0)) (Int32.toNatClampNeg (2 : Int32)) (-9 : Int32))) 17 (fun _ => (0 : Int32))) 22 (fun _ => (0 : Int32))) 20 (upd (v0_3 20) (Int32.toNatClampNeg (0 : Int32)) (vp_nar .boolean (0 : Int32)))) (upd (upd (v0_3 20) (Int32.toNatClampNeg (0 : Int32)) (vp_nar .boolean (0 : Int32))) (Int32.toNatClampNeg (1 : Int32)) (vp_nar .boolean (0 : Int32)))) (ch' := [kX8 g a0 (st (st (st (st (st (st v0_3 16 (upd (v0_3 16) (Int32.toNatClampNeg (1 : Int32)) (v0_3 10 0))) 16 (upd (upd (v0_3 16) (Int32.toNatClampNeg (1 : Int32)) (v0_3 10 0)) (Int32.toNatClampNeg (2 : Int32)) (-9 : Int32))) 17 (fun _ => (0 : Int32))) 22 (fun _ => (0 : Int32))) 20 (upd (v0_3 20) (Int32.toNatClampNeg (0 : Int32)) (vp_nar .boolean (0 : Int32)))) 20 (upd (upd (v0_3 20) (Int32.toNatClampNeg (0 : Int32)) (vp_nar .boolean (0 : Int32))) (Int32.toNatClampNeg (1 : Int32)) (vp_nar .boolean (0 : Int32))))]) rfl dX8_becomes_154 (fun H locs hW => ?_)
  obtain rfl := Option.some.inj hf
  subst hQ
  exact g_vret C hr hk0 hW rfl rfl dX8_becomes_155
def fX8_cell_L20 (N : Nat) (k : Int32 → MM → Option (Int32 × MM)) : Nat → Int32 → MM → Option (Int32 × MM)
  | 0, _, _ => none
  | n + 1, x1, v0 => (if (v0 29 0) = (-1 : Int32) then k x1 v0 else ((fX8_item N v0).bind (fun y3 => (if y3.1 = 0 then (if y3.1 = 0 then some (((-10 : Int32) - (y3.2 28 0)), y3.2) else (if (y3.2 29 0) = (59 : Int32) then ((fX8_takes N y3.2).bind (fun y4 => fX8_cell_L20 N k n (x1 + 1) y4)) else some (((-10 : Int32) - (y3.2 28 0)), y3.2))) else ((fX8_takes N y3.2).bind (fun y5 => (if y3.1 = 0 then some (((-10 : Int32) - (y5 28 0)), y5) else (if (y5 29 0) = (59 : Int32) then ((fX8_takes N y5).bind (fun y6 => fX8_cell_L20 N k n (x1 + 1) y6)) else some (((-10 : Int32) - (y5 28 0)), y5)))))))))
def fX8_cell (N : Nat) (v0 : MM) : Option (Int32 × MM) := ((fX8_begins N (st v0 0 (fun _ => (0 : Int32)))).bind (fun y1 => ((fX8_takes N (st y1 27 (fun _ => (0 : Int32)))).bind (fun y2 => (fX8_cell_L20 N (fun (x1_7 : Int32) (v0_7 : MM) => ((fX8_becomes N v0_7).bind (fun y8 => some (x1_7, (st y8 25 (fun _ => (0 : Int32))))))) N (0 : Int32) y2)))))
set_option maxHeartbeats 4000000 in
set_option maxRecDepth 100000 in
theorem ct_X8_cell (g : GT) (l : Launch) (N : Nat) (a0 : Nat → Nat) (v0 : MM) {y : Int32 × MM} (hf : fX8_cell N v0 = some y) : ct g l yX8_cell wsX8_cell (rmk 7 150) [.ref (a0 0)] [kX8 g a0 v0] (some (.int y.1)) [kX8 g a0 y.2] := by
  refine ct_of (cc := cX8_cell) (maxL := 3) (ret := (some .int)) (by decide) rfl (Nat.le_of_ble_eq_true rfl) ?_
  intro p e s m args below meth c A ls C hr hk0 hA hW hl
  have hx := C.1.1
  have hb := C.1.2.1
  replace hl : lv_has ls 3 [(0, .ref (a0 0))] := hl
  obtain ⟨Q, hQ⟩ : ∃ Q, Q = MQ below (ctQ g A (some (.int y.1)) [kX8 g a0 y.2]) args s 0 0 A := ⟨_, rfl⟩
  rw [← hQ]
  obtain ⟨H, hH⟩ : ∃ H, H = s.heap := ⟨_, rfl⟩
  obtain ⟨locs, hL⟩ : ∃ locs : List Loc, locs = [] := ⟨_, rfl⟩
  replace hW : wd g A s.heap [kX8 g a0 v0] H locs := by rw [hH, hL]; exact hW
  suffices hG : W p l e (rmk 7 150) s m args below meth c H locs 0 0 Q (F0 m 0 ls []) by
    rw [hH, hL] at hG; exact hG
  clear hH hL
  have inX8 : ∀ w ∈ wsX80, w ∈ wsX8_cell := fun _ h => List.mem_cons_of_mem _ (List.mem_append_right _ (h))
  have L20 : ∀ (k : Int32 → MM → Option (Int32 × MM)) (hk : ∀ (x1 : Int32) (v0 : MM) (H : Heap) (locs : List Loc) (ls : Array Slot), k x1 v0 = some y → wd g A s.heap [kX8 g a0 v0] H locs → lv_has ls 3 [(0, .ref (a0 0)), (1, .int x1)] → W p l e (rmk 7 150) s m args below meth c H locs 0 0 Q (F0 m 72 ls [])) (n : Nat) (x1 : Int32) (v0 : MM) (H : Heap) (locs : List Loc) (ls : Array Slot), fX8_cell_L20 N k n x1 v0 = some y → wd g A s.heap [kX8 g a0 v0] H locs → lv_has ls 3 [(0, .ref (a0 0)), (1, .int x1)] → W p l e (rmk 7 150) s m args below meth c H locs 0 0 Q (F0 m 20 ls []) := by
    intro k hk n
    induction n with
    | zero => intro x1 v0 H locs ls hf; rw [fX8_cell_L20] at hf; cases hf
    | succ n ih =>
      intro x1 v0 H locs ls hf hW hl
      rw [fX8_cell_L20] at hf
      refine lv_aload_n hx hb dX8_cell_20 rfl (lv_at hl 0 rfl) ?_
      refine g_get C hW inX8 0 rfl rfl rfl 29 (by decide) (List.mem_of_getElem? (i := 3) rfl) (v := .int (v0 29 0)) rfl dX8_cell_21 ?_
      refine lv_iconst (v := (-1 : Int32)) hx hb dX8_cell_24 (by decide) ?_
      refine lv_icmp_eq (tgt := 72) hx hb dX8_cell_25 (by decide) (fun h => ?_) (fun h => ?_)
      · replace hf := (if_pos h).symm.trans hf
        exact hk _ _ H locs ls hf hW (lv_sub hl [0, 1] rfl)
      · replace hf := (if_neg h).symm.trans hf
        refine lv_aload_n hx hb dX8_cell_28 rfl (lv_at hl 0 rfl) ?_
        obtain ⟨y3, hc, hf⟩ := bd_of hf
        refine g_cV (Cn := RX8) C (ct_X8_item g l N a0 v0 hc) gX8_cell_X8_item rfl 0 (by decide +kernel) ⟨rfl, rfl, ⟨Nat.le_of_ble_eq_true rfl, Nat.le_of_ble_eq_true rfl⟩, Nat.le_of_ble_eq_true rfl, Nat.le_of_ble_eq_true rfl⟩ rfl hl (Nat.le_of_ble_eq_true rfl) dX8_cell_29 rfl hW hA [0] rfl rfl rfl (ch' := [kX8 g a0 y3.2]) rfl 0 rfl rfl rfl (fun H locs hW => ?_)
        refine lv_istore_n (lv' := [(2, .int y3.1), (0, .ref (a0 0)), (1, .int x1)]) hx hb dX8_cell_32 rfl hl (by decide) rfl (fun ls hl => ?_)
        refine lv_iload_n hx hb dX8_cell_33 rfl (lv_at hl 0 rfl) ?_
        refine lv_if_eq (tgt := 41) hx hb dX8_cell_34 (by decide) (fun h => ?_) (fun h => ?_)
        · replace hf := (if_pos h).symm.trans hf
          refine lv_iload_n hx hb dX8_cell_41 rfl (lv_at hl 0 rfl) ?_
          refine lv_if_eq (tgt := 54) hx hb dX8_cell_42 (by decide) (fun h => ?_) (fun h => ?_)
          · replace hf := (if_pos h).symm.trans hf
            refine lv_bipush (v := (-10 : Int32)) hx hb dX8_cell_54 (by decide) ?_
            refine lv_aload_n hx hb dX8_cell_56 rfl (lv_at hl 1 rfl) ?_
            refine g_get C hW inX8 0 rfl rfl rfl 28 (by decide) (List.mem_of_getElem? (i := 4) rfl) (v := .int (y3.2 28 0)) rfl dX8_cell_57 ?_
            refine lv_isub hx hb dX8_cell_60 ?_
            obtain rfl := Option.some.inj hf
            subst hQ
            exact g_iret C hr hk0 hW rfl rfl dX8_cell_61
          · replace hf := (if_neg h).symm.trans hf
            refine lv_aload_n hx hb dX8_cell_45 rfl (lv_at hl 1 rfl) ?_
            refine g_get C hW inX8 0 rfl rfl rfl 29 (by decide) (List.mem_of_getElem? (i := 3) rfl) (v := .int (y3.2 29 0)) rfl dX8_cell_46 ?_
            refine lv_bipush (v := (59 : Int32)) hx hb dX8_cell_49 (by decide) ?_
            refine lv_icmp_eq (tgt := 62) hx hb dX8_cell_51 (by decide) (fun h => ?_) (fun h => ?_)
            · replace hf := (if_pos h).symm.trans hf
              refine lv_iinc (v := (x1 + 1)) (lv' := [(1, .int (x1 + 1)), (2, .int y3.1), (0, .ref (a0 0))]) hx hb dX8_cell_62 hl (k := 2) rfl (by first | rfl | decide) (by decide) rfl (fun ls hl => ?_)
              refine lv_aload_n hx hb dX8_cell_65 rfl (lv_at hl 2 rfl) ?_
              obtain ⟨y4, hc, hf⟩ := bd_of hf
              refine g_cVv (Cn := RX8) C (ct_X8_takes g l N a0 y3.2 hc) gX8_cell_X8_takes rfl 0 (by decide +kernel) ⟨rfl, rfl, ⟨Nat.le_of_ble_eq_true rfl, Nat.le_of_ble_eq_true rfl⟩, Nat.le_of_ble_eq_true rfl, Nat.le_of_ble_eq_true rfl⟩ rfl hl (Nat.le_of_ble_eq_true rfl) dX8_cell_66 rfl hW hA [0] rfl rfl rfl (ch' := [kX8 g a0 y4]) rfl 0 rfl rfl rfl (fun H locs hW => ?_)
              refine lv_goto (tgt := 20) hx hb dX8_cell_69 (by decide) ?_
              exact ih _ _ H locs ls hf hW (lv_sub hl [2, 0] rfl)
            · replace hf := (if_neg h).symm.trans hf
              refine lv_bipush (v := (-10 : Int32)) hx hb dX8_cell_54 (by decide) ?_
              refine lv_aload_n hx hb dX8_cell_56 rfl (lv_at hl 1 rfl) ?_
              refine g_get C hW inX8 0 rfl rfl rfl 28 (by decide) (List.mem_of_getElem? (i := 4) rfl) (v := .int (y3.2 28 0)) rfl dX8_cell_57 ?_
              refine lv_isub hx hb dX8_cell_60 ?_
              obtain rfl := Option.some.inj hf
              subst hQ
              exact g_iret C hr hk0 hW rfl rfl dX8_cell_61
        · replace hf := (if_neg h).symm.trans hf
          refine lv_aload_n hx hb dX8_cell_37 rfl (lv_at hl 1 rfl) ?_
          obtain ⟨y5, hc, hf⟩ := bd_of hf
          refine g_cVv (Cn := RX8) C (ct_X8_takes g l N a0 y3.2 hc) gX8_cell_X8_takes rfl 0 (by decide +kernel) ⟨rfl, rfl, ⟨Nat.le_of_ble_eq_true rfl, Nat.le_of_ble_eq_true rfl⟩, Nat.le_of_ble_eq_true rfl, Nat.le_of_ble_eq_true rfl⟩ rfl hl (Nat.le_of_ble_eq_true rfl) dX8_cell_38 rfl hW hA [0] rfl rfl rfl (ch' := [kX8 g a0 y5]) rfl 0 rfl rfl rfl (fun H locs hW => ?_)
          refine lv_iload_n hx hb dX8_cell_41 rfl (lv_at hl 0 rfl) ?_
          refine lv_if_eq (tgt := 54) hx hb dX8_cell_42 (by decide) (fun h => ?_) (fun h => ?_)
          · replace hf := (if_pos h).symm.trans hf
            refine lv_bipush (v := (-10 : Int32)) hx hb dX8_cell_54 (by decide) ?_
            refine lv_aload_n hx hb dX8_cell_56 rfl (lv_at hl 1 rfl) ?_
            refine g_get C hW inX8 0 rfl rfl rfl 28 (by decide) (List.mem_of_getElem? (i := 4) rfl) (v := .int (y5 28 0)) rfl dX8_cell_57 ?_
            refine lv_isub hx hb dX8_cell_60 ?_
            obtain rfl := Option.some.inj hf
            subst hQ
            exact g_iret C hr hk0 hW rfl rfl dX8_cell_61
          · replace hf := (if_neg h).symm.trans hf
            refine lv_aload_n hx hb dX8_cell_45 rfl (lv_at hl 1 rfl) ?_
            refine g_get C hW inX8 0 rfl rfl rfl 29 (by decide) (List.mem_of_getElem? (i := 3) rfl) (v := .int (y5 29 0)) rfl dX8_cell_46 ?_
            refine lv_bipush (v := (59 : Int32)) hx hb dX8_cell_49 (by decide) ?_
            refine lv_icmp_eq (tgt := 62) hx hb dX8_cell_51 (by decide) (fun h => ?_) (fun h => ?_)
            · replace hf := (if_pos h).symm.trans hf
              refine lv_iinc (v := (x1 + 1)) (lv' := [(1, .int (x1 + 1)), (2, .int y3.1), (0, .ref (a0 0))]) hx hb dX8_cell_62 hl (k := 2) rfl (by first | rfl | decide) (by decide) rfl (fun ls hl => ?_)
              refine lv_aload_n hx hb dX8_cell_65 rfl (lv_at hl 2 rfl) ?_
              obtain ⟨y6, hc, hf⟩ := bd_of hf
              refine g_cVv (Cn := RX8) C (ct_X8_takes g l N a0 y5 hc) gX8_cell_X8_takes rfl 0 (by decide +kernel) ⟨rfl, rfl, ⟨Nat.le_of_ble_eq_true rfl, Nat.le_of_ble_eq_true rfl⟩, Nat.le_of_ble_eq_true rfl, Nat.le_of_ble_eq_true rfl⟩ rfl hl (Nat.le_of_ble_eq_true rfl) dX8_cell_66 rfl hW hA [0] rfl rfl rfl (ch' := [kX8 g a0 y6]) rfl 0 rfl rfl rfl (fun H locs hW => ?_)
              refine lv_goto (tgt := 20) hx hb dX8_cell_69 (by decide) ?_
              exact ih _ _ H locs ls hf hW (lv_sub hl [2, 0] rfl)
            · replace hf := (if_neg h).symm.trans hf
              refine lv_bipush (v := (-10 : Int32)) hx hb dX8_cell_54 (by decide) ?_
              refine lv_aload_n hx hb dX8_cell_56 rfl (lv_at hl 1 rfl) ?_
              refine g_get C hW inX8 0 rfl rfl rfl 28 (by decide) (List.mem_of_getElem? (i := 4) rfl) (v := .int (y5 28 0)) rfl dX8_cell_57 ?_
              refine lv_isub hx hb dX8_cell_60 ?_
              obtain rfl := Option.some.inj hf
              subst hQ
              exact g_iret C hr hk0 hW rfl rfl dX8_cell_61
  rw [fX8_cell] at hf
  refine lv_aload_n hx hb dX8_cell_0 rfl (lv_at hl 0 rfl) ?_
  refine lv_iconst (v := (0 : Int32)) hx hb dX8_cell_1 (by decide) ?_
  refine g_put C hW inX8 tyX8_ok nmX8 0 rfl rfl rfl 0 (by decide) (List.mem_of_getElem? (i := 1) rfl) rfl rfl rfl rfl (kX8_s0 g a0 v0 (0 : Int32)) (ch' := [kX8 g a0 (st v0 0 (fun _ => (0 : Int32)))]) rfl dX8_cell_2 (fun H locs hW => ?_)
  refine lv_aload_n hx hb dX8_cell_5 rfl (lv_at hl 0 rfl) ?_
  obtain ⟨y1, hc, hf⟩ := bd_of hf
  refine g_cVv (Cn := RX8) C (ct_X8_begins g l N a0 (st v0 0 (fun _ => (0 : Int32))) hc) gX8_cell_X8_begins rfl 0 (by decide +kernel) ⟨rfl, rfl, ⟨Nat.le_of_ble_eq_true rfl, Nat.le_of_ble_eq_true rfl⟩, Nat.le_of_ble_eq_true rfl, Nat.le_of_ble_eq_true rfl⟩ rfl hl (Nat.le_of_ble_eq_true rfl) dX8_cell_6 rfl hW hA [0] rfl rfl rfl (ch' := [kX8 g a0 y1]) rfl 0 rfl rfl rfl (fun H locs hW => ?_)
  refine lv_aload_n hx hb dX8_cell_9 rfl (lv_at hl 0 rfl) ?_
  refine lv_iconst (v := (0 : Int32)) hx hb dX8_cell_10 (by decide) ?_
  refine g_put C hW inX8 tyX8_ok nmX8 0 rfl rfl rfl 27 (by decide) (List.mem_of_getElem? (i := 2) rfl) rfl rfl rfl rfl (kX8_s27 g a0 y1 (0 : Int32)) (ch' := [kX8 g a0 (st y1 27 (fun _ => (0 : Int32)))]) rfl dX8_cell_11 (fun H locs hW => ?_)
  refine lv_iconst (v := (0 : Int32)) hx hb dX8_cell_14 (by decide) ?_
  refine lv_istore_n (lv' := [(1, .int (0 : Int32)), (0, .ref (a0 0))]) hx hb dX8_cell_15 rfl hl (by decide) rfl (fun ls hl => ?_)
  refine lv_aload_n hx hb dX8_cell_16 rfl (lv_at hl 1 rfl) ?_
  obtain ⟨y2, hc, hf⟩ := bd_of hf
  refine g_cVv (Cn := RX8) C (ct_X8_takes g l N a0 (st y1 27 (fun _ => (0 : Int32))) hc) gX8_cell_X8_takes rfl 0 (by decide +kernel) ⟨rfl, rfl, ⟨Nat.le_of_ble_eq_true rfl, Nat.le_of_ble_eq_true rfl⟩, Nat.le_of_ble_eq_true rfl, Nat.le_of_ble_eq_true rfl⟩ rfl hl (Nat.le_of_ble_eq_true rfl) dX8_cell_17 rfl hW hA [0] rfl rfl rfl (ch' := [kX8 g a0 y2]) rfl 0 rfl rfl rfl (fun H locs hW => ?_)
  refine L20 _ (fun x1_7 v0_7 H locs ls hf hW hl => ?_) N (0 : Int32) y2 H locs ls hf hW (lv_sub hl [1, 0] rfl)
  refine lv_aload_n hx hb dX8_cell_72 rfl (lv_at hl 0 rfl) ?_
  obtain ⟨y8, hc, hf⟩ := bd_of hf
  refine g_cVv (Cn := RX8) C (ct_X8_becomes g l N a0 v0_7 hc) gX8_cell_X8_becomes rfl 0 (by decide +kernel) ⟨rfl, rfl, ⟨Nat.le_of_ble_eq_true rfl, Nat.le_of_ble_eq_true rfl⟩, Nat.le_of_ble_eq_true rfl, Nat.le_of_ble_eq_true rfl⟩ rfl hl (Nat.le_of_ble_eq_true rfl) dX8_cell_73 rfl hW hA [0] rfl rfl rfl (ch' := [kX8 g a0 y8]) rfl 0 rfl rfl rfl (fun H locs hW => ?_)
  refine lv_aload_n hx hb dX8_cell_76 rfl (lv_at hl 0 rfl) ?_
  refine lv_iconst (v := (0 : Int32)) hx hb dX8_cell_77 (by decide) ?_
  refine g_put C hW inX8 tyX8_ok nmX8 0 rfl rfl rfl 25 (by decide) (List.mem_of_getElem? (i := 5) rfl) rfl rfl rfl rfl (kX8_s25 g a0 y8 (0 : Int32)) (ch' := [kX8 g a0 (st y8 25 (fun _ => (0 : Int32)))]) rfl dX8_cell_78 (fun H locs hW => ?_)
  refine lv_iload_n hx hb dX8_cell_81 rfl (lv_at hl 1 rfl) ?_
  obtain rfl := Option.some.inj hf
  subst hQ
  exact g_iret C hr hk0 hW rfl rfl dX8_cell_82
def fX8_isDeaf (N : Nat) (x1 : Int32) (x2 : Int32) (v0 : MM) : Option (Int32) := (if (199 : Int32) < x2 then some (0 : Int32) else ((fX8_ofTerminal N x1 ((6 : Int32) + (x2 / (30 : Int32)))).bind (fun y1 => (if ib y1 667 = true then (if ((((v0 16) (Int32.toNatClampNeg y1)) >>> ((x2 - x2 / (30 : Int32) * (30 : Int32)) &&& 31)) &&& (1 : Int32)) = (1 : Int32) then some (1 : Int32) else some (0 : Int32)) else none))))
set_option maxHeartbeats 4000000 in
set_option maxRecDepth 100000 in
theorem ct_X8_isDeaf (g : GT) (l : Launch) (N : Nat) (a0 : Nat → Nat) (x1 : Int32) (x2 : Int32) (v0 : MM) {y : Int32} (hf : fX8_isDeaf N x1 x2 v0 = some y) : ct g l yX8_isDeaf wsX8_isDeaf (rmk 1 21) [.ref (a0 0), .int x1, .int x2] [kX8 g a0 v0] (some (.int y)) [kX8 g a0 v0] := by
  refine ct_of (cc := cX8_isDeaf) (maxL := 3) (ret := (some .boolean)) (by decide) rfl (Nat.le_of_ble_eq_true rfl) ?_
  intro p e s m args below meth c A ls C hr hk0 hA hW hl
  have hx := C.1.1
  have hb := C.1.2.1
  replace hl : lv_has ls 3 [(0, .ref (a0 0)), (1, .int x1), (2, .int x2)] := hl
  obtain ⟨Q, hQ⟩ : ∃ Q, Q = MQ below (ctQ g A (some (.int y)) [kX8 g a0 v0]) args s 0 0 A := ⟨_, rfl⟩
  rw [← hQ]
  obtain ⟨H, hH⟩ : ∃ H, H = s.heap := ⟨_, rfl⟩
  obtain ⟨locs, hL⟩ : ∃ locs : List Loc, locs = [] := ⟨_, rfl⟩
  replace hW : wd g A s.heap [kX8 g a0 v0] H locs := by rw [hH, hL]; exact hW
  suffices hG : W p l e (rmk 1 21) s m args below meth c H locs 0 0 Q (F0 m 0 ls []) by
    rw [hH, hL] at hG; exact hG
  clear hH hL
  have inX8 : ∀ w ∈ wsX80, w ∈ wsX8_isDeaf := fun _ h => List.mem_cons_of_mem _ (List.mem_append_right _ (h))
  rw [fX8_isDeaf] at hf
  refine lv_iload_n hx hb dX8_isDeaf_0 rfl (lv_at hl 2 rfl) ?_
  refine lv_sipush (v := (199 : Int32)) hx hb dX8_isDeaf_1 (by decide) ?_
  refine lv_icmp_gt (tgt := 38) hx hb dX8_isDeaf_4 (by decide) (fun h => ?_) (fun h => ?_)
  · replace hf := (if_pos h).symm.trans hf
    refine lv_iconst (v := (0 : Int32)) hx hb dX8_isDeaf_38 (by decide) ?_
    obtain rfl := Option.some.inj hf
    subst hQ
    exact g_zret C hr hk0 hW rfl rfl rfl dX8_isDeaf_39
  · replace hf := (if_neg h).symm.trans hf
    refine lv_aload_n hx hb dX8_isDeaf_7 rfl (lv_at hl 0 rfl) ?_
    refine g_get C hW inX8 0 rfl rfl rfl 16 (by decide) (List.mem_of_getElem? (i := 1) rfl) (v := .ref (a0 5)) rfl dX8_isDeaf_8 ?_
    refine lv_iload_n hx hb dX8_isDeaf_11 rfl (lv_at hl 1 rfl) ?_
    refine lv_bipush (v := (6 : Int32)) hx hb dX8_isDeaf_12 (by decide) ?_
    refine lv_iload_n hx hb dX8_isDeaf_14 rfl (lv_at hl 2 rfl) ?_
    refine lv_bipush (v := (30 : Int32)) hx hb dX8_isDeaf_15 (by decide) ?_
    refine lv_idiv hx hb dX8_isDeaf_17 (by decide) ?_
    refine lv_iadd hx hb dX8_isDeaf_18 ?_
    obtain ⟨y1, hc, hf⟩ := bd_of hf
    refine g_cS C (ct_X8_ofTerminal g l N x1 ((6 : Int32) + (x2 / (30 : Int32))) hc) gX8_isDeaf_X8_ofTerminal rfl 2 (by decide +kernel) ⟨rfl, rfl, ⟨Nat.le_of_ble_eq_true rfl, Nat.le_of_ble_eq_true rfl⟩, Nat.le_of_ble_eq_true rfl, Nat.le_of_ble_eq_true rfl⟩ rfl hl (Nat.le_of_ble_eq_true rfl) dX8_isDeaf_19 rfl hW hA [] rfl rfl rfl (ch' := [kX8 g a0 v0]) rfl (fun H locs hW => ?_)
    obtain ⟨hi, hf⟩ := gd_of hf
    refine g_iald C hW 0 5 rfl (f := (v0 16)) rfl (ib_in hi) dX8_isDeaf_22 ?_
    refine lv_iload_n hx hb dX8_isDeaf_23 rfl (lv_at hl 2 rfl) ?_
    refine lv_bipush (v := (30 : Int32)) hx hb dX8_isDeaf_24 (by decide) ?_
    refine lv_irem hx hb dX8_isDeaf_26 (by decide) ?_
    refine lv_ishr hx hb dX8_isDeaf_27 ?_
    refine lv_iconst (v := (1 : Int32)) hx hb dX8_isDeaf_28 (by decide) ?_
    refine lv_iand hx hb dX8_isDeaf_29 ?_
    refine lv_iconst (v := (1 : Int32)) hx hb dX8_isDeaf_30 (by decide) ?_
    refine lv_icmp_ne (tgt := 38) hx hb dX8_isDeaf_31 (by decide) (fun h => ?_) (fun h => ?_)
    · replace hf := (if_neg h).symm.trans hf
      refine lv_iconst (v := (0 : Int32)) hx hb dX8_isDeaf_38 (by decide) ?_
      obtain rfl := Option.some.inj hf
      subst hQ
      exact g_zret C hr hk0 hW rfl rfl rfl dX8_isDeaf_39
    · replace hf := (if_pos h).symm.trans hf
      refine lv_iconst (v := (1 : Int32)) hx hb dX8_isDeaf_34 (by decide) ?_
      refine lv_goto (tgt := 39) hx hb dX8_isDeaf_35 (by decide) ?_
      obtain rfl := Option.some.inj hf
      subst hQ
      exact g_zret C hr hk0 hW rfl rfl rfl dX8_isDeaf_39
def fX8_waitsOf_L4 (N : Nat) (k : Int32 → Int32 → Option (Int32)) (x1 : Int32) (v0 : MM) : Nat → Int32 → Int32 → Option (Int32)
  | 0, _, _ => none
  | n + 1, x2, x3 => (if (v0 2 0) ≤ x3 then k x2 x3 else (if ib ((4 : Int32) * x3) 24 = true then (if ((v0 7) (Int32.toNatClampNeg ((4 : Int32) * x3))) = x1 then ((fX8_ofClass N x3 (0 : Int32)).bind (fun y1 => (if ib y1 667 = true then fX8_waitsOf_L4 N k x1 v0 n (x2 + ((v0 16) (Int32.toNatClampNeg y1))) (x3 + 1) else none))) else fX8_waitsOf_L4 N k x1 v0 n (x2 + (0 : Int32)) (x3 + 1)) else none))
def fX8_waitsOf (N : Nat) (x1 : Int32) (v0 : MM) : Option (Int32) := (fX8_waitsOf_L4 N (fun (x2_2 : Int32) (x3_2 : Int32) => some x2_2) x1 v0 N (0 : Int32) (0 : Int32))
set_option maxHeartbeats 4000000 in
set_option maxRecDepth 100000 in
theorem ct_X8_waitsOf (g : GT) (l : Launch) (N : Nat) (a0 : Nat → Nat) (x1 : Int32) (v0 : MM) {y : Int32} (hf : fX8_waitsOf N x1 v0 = some y) : ct g l yX8_waitsOf wsX8_waitsOf (rmk 1 21) [.ref (a0 0), .int x1] [kX8 g a0 v0] (some (.int y)) [kX8 g a0 v0] := by
  refine ct_of (cc := cX8_waitsOf) (maxL := 4) (ret := (some .int)) (by decide) rfl (Nat.le_of_ble_eq_true rfl) ?_
  intro p e s m args below meth c A ls C hr hk0 hA hW hl
  have hx := C.1.1
  have hb := C.1.2.1
  replace hl : lv_has ls 4 [(0, .ref (a0 0)), (1, .int x1)] := hl
  obtain ⟨Q, hQ⟩ : ∃ Q, Q = MQ below (ctQ g A (some (.int y)) [kX8 g a0 v0]) args s 0 0 A := ⟨_, rfl⟩
  rw [← hQ]
  obtain ⟨H, hH⟩ : ∃ H, H = s.heap := ⟨_, rfl⟩
  obtain ⟨locs, hL⟩ : ∃ locs : List Loc, locs = [] := ⟨_, rfl⟩
  replace hW : wd g A s.heap [kX8 g a0 v0] H locs := by rw [hH, hL]; exact hW
  suffices hG : W p l e (rmk 1 21) s m args below meth c H locs 0 0 Q (F0 m 0 ls []) by
    rw [hH, hL] at hG; exact hG
  clear hH hL
  have inX8 : ∀ w ∈ wsX80, w ∈ wsX8_waitsOf := fun _ h => List.mem_cons_of_mem _ (List.mem_append_right _ (h))
  have L4 : ∀ (x1 : Int32) (k : Int32 → Int32 → Option (Int32)) (hk : ∀ (x2 : Int32) (x3 : Int32) (H : Heap) (locs : List Loc) (ls : Array Slot), k x2 x3 = some y → wd g A s.heap [kX8 g a0 v0] H locs → lv_has ls 4 [(0, .ref (a0 0)), (1, .int x1), (2, .int x2), (3, .int x3)] → W p l e (rmk 1 21) s m args below meth c H locs 0 0 Q (F0 m 47 ls [])) (n : Nat) (x2 : Int32) (x3 : Int32) (H : Heap) (locs : List Loc) (ls : Array Slot), fX8_waitsOf_L4 N k x1 v0 n x2 x3 = some y → wd g A s.heap [kX8 g a0 v0] H locs → lv_has ls 4 [(0, .ref (a0 0)), (1, .int x1), (2, .int x2), (3, .int x3)] → W p l e (rmk 1 21) s m args below meth c H locs 0 0 Q (F0 m 4 ls []) := by
    intro x1 k hk n
    induction n with
    | zero => intro x2 x3 H locs ls hf; rw [fX8_waitsOf_L4] at hf; cases hf
    | succ n ih =>
      intro x2 x3 H locs ls hf hW hl
      rw [fX8_waitsOf_L4] at hf
      refine lv_iload_n hx hb dX8_waitsOf_4 rfl (lv_at hl 3 rfl) ?_
      refine lv_aload_n hx hb dX8_waitsOf_5 rfl (lv_at hl 0 rfl) ?_
      refine g_get C hW inX8 0 rfl rfl rfl 2 (by decide) (List.mem_of_getElem? (i := 1) rfl) (v := .int (v0 2 0)) rfl dX8_waitsOf_6 ?_
      refine lv_icmp_ge (tgt := 47) hx hb dX8_waitsOf_9 (by decide) (fun h => ?_) (fun h => ?_)
      · replace hf := (if_pos h).symm.trans hf
        exact hk _ _ H locs ls hf hW (lv_sub hl [0, 1, 2, 3] rfl)
      · replace hf := (if_neg h).symm.trans hf
        refine lv_iload_n hx hb dX8_waitsOf_12 rfl (lv_at hl 2 rfl) ?_
        refine lv_aload_n hx hb dX8_waitsOf_13 rfl (lv_at hl 0 rfl) ?_
        refine g_get C hW inX8 0 rfl rfl rfl 7 (by decide) (List.mem_of_getElem? (i := 2) rfl) (v := .ref (a0 2)) rfl dX8_waitsOf_14 ?_
        refine lv_iconst (v := (4 : Int32)) hx hb dX8_waitsOf_17 (by decide) ?_
        refine lv_iload_n hx hb dX8_waitsOf_18 rfl (lv_at hl 3 rfl) ?_
        refine lv_imul hx hb dX8_waitsOf_19 ?_
        obtain ⟨hi, hf⟩ := gd_of hf
        refine g_iald C hW 0 2 rfl (f := (v0 7)) rfl (ib_in hi) dX8_waitsOf_20 ?_
        refine lv_iload_n hx hb dX8_waitsOf_21 rfl (lv_at hl 1 rfl) ?_
        refine lv_icmp_ne (tgt := 38) hx hb dX8_waitsOf_22 (by decide) (fun h => ?_) (fun h => ?_)
        · replace hf := (if_neg h).symm.trans hf
          refine lv_iconst (v := (0 : Int32)) hx hb dX8_waitsOf_38 (by decide) ?_
          refine lv_iadd hx hb dX8_waitsOf_39 ?_
          refine lv_istore_n (lv' := [(2, .int (x2 + (0 : Int32))), (0, .ref (a0 0)), (1, .int x1), (3, .int x3)]) hx hb dX8_waitsOf_40 rfl hl (by decide) rfl (fun ls hl => ?_)
          refine lv_iinc (v := (x3 + 1)) (lv' := [(3, .int (x3 + 1)), (2, .int (x2 + (0 : Int32))), (0, .ref (a0 0)), (1, .int x1)]) hx hb dX8_waitsOf_41 hl (k := 3) rfl (by first | rfl | decide) (by decide) rfl (fun ls hl => ?_)
          refine lv_goto (tgt := 4) hx hb dX8_waitsOf_44 (by decide) ?_
          exact ih _ _ H locs ls hf hW (lv_sub hl [2, 3, 1, 0] rfl)
        · replace hf := (if_pos h).symm.trans hf
          refine lv_aload_n hx hb dX8_waitsOf_25 rfl (lv_at hl 0 rfl) ?_
          refine g_get C hW inX8 0 rfl rfl rfl 16 (by decide) (List.mem_of_getElem? (i := 3) rfl) (v := .ref (a0 5)) rfl dX8_waitsOf_26 ?_
          refine lv_iload_n hx hb dX8_waitsOf_29 rfl (lv_at hl 3 rfl) ?_
          refine lv_iconst (v := (0 : Int32)) hx hb dX8_waitsOf_30 (by decide) ?_
          obtain ⟨y1, hc, hf⟩ := bd_of hf
          refine g_cS C (ct_X8_ofClass g l N x3 (0 : Int32) hc) gX8_waitsOf_X8_ofClass rfl 2 (by decide +kernel) ⟨rfl, rfl, ⟨Nat.le_of_ble_eq_true rfl, Nat.le_of_ble_eq_true rfl⟩, Nat.le_of_ble_eq_true rfl, Nat.le_of_ble_eq_true rfl⟩ rfl hl (Nat.le_of_ble_eq_true rfl) dX8_waitsOf_31 rfl hW hA [] rfl rfl rfl (ch' := [kX8 g a0 v0]) rfl (fun H locs hW => ?_)
          obtain ⟨hi, hf⟩ := gd_of hf
          refine g_iald C hW 0 5 rfl (f := (v0 16)) rfl (ib_in hi) dX8_waitsOf_34 ?_
          refine lv_goto (tgt := 39) hx hb dX8_waitsOf_35 (by decide) ?_
          refine lv_iadd hx hb dX8_waitsOf_39 ?_
          refine lv_istore_n (lv' := [(2, .int (x2 + ((v0 16) (Int32.toNatClampNeg y1)))), (0, .ref (a0 0)), (1, .int x1), (3, .int x3)]) hx hb dX8_waitsOf_40 rfl hl (by decide) rfl (fun ls hl => ?_)
          refine lv_iinc (v := (x3 + 1)) (lv' := [(3, .int (x3 + 1)), (2, .int (x2 + ((v0 16) (Int32.toNatClampNeg y1)))), (0, .ref (a0 0)), (1, .int x1)]) hx hb dX8_waitsOf_41 hl (k := 3) rfl (by first | rfl | decide) (by decide) rfl (fun ls hl => ?_)
          refine lv_goto (tgt := 4) hx hb dX8_waitsOf_44 (by decide) ?_
          exact ih _ _ H locs ls hf hW (lv_sub hl [2, 3, 1, 0] rfl)
  rw [fX8_waitsOf] at hf
  refine lv_iconst (v := (0 : Int32)) hx hb dX8_waitsOf_0 (by decide) ?_
  refine lv_istore_n (lv' := [(2, .int (0 : Int32)), (0, .ref (a0 0)), (1, .int x1)]) hx hb dX8_waitsOf_1 rfl hl (by decide) rfl (fun ls hl => ?_)
  refine lv_iconst (v := (0 : Int32)) hx hb dX8_waitsOf_2 (by decide) ?_
  refine lv_istore_n (lv' := [(3, .int (0 : Int32)), (2, .int (0 : Int32)), (0, .ref (a0 0)), (1, .int x1)]) hx hb dX8_waitsOf_3 rfl hl (by decide) rfl (fun ls hl => ?_)
  refine L4 x1 _ (fun x2_2 x3_2 H locs ls hf hW hl => ?_) N (0 : Int32) (0 : Int32) H locs ls hf hW (lv_sub hl [2, 3, 1, 0] rfl)
  refine lv_iload_n hx hb dX8_waitsOf_47 rfl (lv_at hl 2 rfl) ?_
  obtain rfl := Option.some.inj hf
  subst hQ
  exact g_iret C hr hk0 hW rfl rfl dX8_waitsOf_48
def fX8_lettersIn_L4 (N : Nat) (k : Int32 → Int32 → Option (Int32)) (x1 : Int32) (v0 : MM) : Nat → Int32 → Int32 → Option (Int32)
  | 0, _, _ => none
  | n + 1, x2, x3 => (if (v0 2 0) ≤ x3 then k x2 x3 else ((fX8_ofBlock N x1 ((4 : Int32) + x3)).bind (fun y1 => (if ib y1 667 = true then fX8_lettersIn_L4 N k x1 v0 n (x2 + ((v0 16) (Int32.toNatClampNeg y1))) (x3 + 1) else none))))
def fX8_lettersIn (N : Nat) (x1 : Int32) (v0 : MM) : Option (Int32) := (fX8_lettersIn_L4 N (fun (x2_2 : Int32) (x3_2 : Int32) => some x2_2) x1 v0 N (0 : Int32) (0 : Int32))
set_option maxHeartbeats 4000000 in
set_option maxRecDepth 100000 in
theorem ct_X8_lettersIn (g : GT) (l : Launch) (N : Nat) (a0 : Nat → Nat) (x1 : Int32) (v0 : MM) {y : Int32} (hf : fX8_lettersIn N x1 v0 = some y) : ct g l yX8_lettersIn wsX8_lettersIn (rmk 1 21) [.ref (a0 0), .int x1] [kX8 g a0 v0] (some (.int y)) [kX8 g a0 v0] := by
  refine ct_of (cc := cX8_lettersIn) (maxL := 4) (ret := (some .int)) (by decide) rfl (Nat.le_of_ble_eq_true rfl) ?_
  intro p e s m args below meth c A ls C hr hk0 hA hW hl
  have hx := C.1.1
  have hb := C.1.2.1
  replace hl : lv_has ls 4 [(0, .ref (a0 0)), (1, .int x1)] := hl
  obtain ⟨Q, hQ⟩ : ∃ Q, Q = MQ below (ctQ g A (some (.int y)) [kX8 g a0 v0]) args s 0 0 A := ⟨_, rfl⟩
  rw [← hQ]
  obtain ⟨H, hH⟩ : ∃ H, H = s.heap := ⟨_, rfl⟩
  obtain ⟨locs, hL⟩ : ∃ locs : List Loc, locs = [] := ⟨_, rfl⟩
  replace hW : wd g A s.heap [kX8 g a0 v0] H locs := by rw [hH, hL]; exact hW
  suffices hG : W p l e (rmk 1 21) s m args below meth c H locs 0 0 Q (F0 m 0 ls []) by
    rw [hH, hL] at hG; exact hG
  clear hH hL
  have inX8 : ∀ w ∈ wsX80, w ∈ wsX8_lettersIn := fun _ h => List.mem_cons_of_mem _ (List.mem_append_right _ (h))
  have L4 : ∀ (x1 : Int32) (k : Int32 → Int32 → Option (Int32)) (hk : ∀ (x2 : Int32) (x3 : Int32) (H : Heap) (locs : List Loc) (ls : Array Slot), k x2 x3 = some y → wd g A s.heap [kX8 g a0 v0] H locs → lv_has ls 4 [(0, .ref (a0 0)), (1, .int x1), (2, .int x2), (3, .int x3)] → W p l e (rmk 1 21) s m args below meth c H locs 0 0 Q (F0 m 33 ls [])) (n : Nat) (x2 : Int32) (x3 : Int32) (H : Heap) (locs : List Loc) (ls : Array Slot), fX8_lettersIn_L4 N k x1 v0 n x2 x3 = some y → wd g A s.heap [kX8 g a0 v0] H locs → lv_has ls 4 [(0, .ref (a0 0)), (1, .int x1), (2, .int x2), (3, .int x3)] → W p l e (rmk 1 21) s m args below meth c H locs 0 0 Q (F0 m 4 ls []) := by
    intro x1 k hk n
    induction n with
    | zero => intro x2 x3 H locs ls hf; rw [fX8_lettersIn_L4] at hf; cases hf
    | succ n ih =>
      intro x2 x3 H locs ls hf hW hl
      rw [fX8_lettersIn_L4] at hf
      refine lv_iload_n hx hb dX8_lettersIn_4 rfl (lv_at hl 3 rfl) ?_
      refine lv_aload_n hx hb dX8_lettersIn_5 rfl (lv_at hl 0 rfl) ?_
      refine g_get C hW inX8 0 rfl rfl rfl 2 (by decide) (List.mem_of_getElem? (i := 1) rfl) (v := .int (v0 2 0)) rfl dX8_lettersIn_6 ?_
      refine lv_icmp_ge (tgt := 33) hx hb dX8_lettersIn_9 (by decide) (fun h => ?_) (fun h => ?_)
      · replace hf := (if_pos h).symm.trans hf
        exact hk _ _ H locs ls hf hW (lv_sub hl [0, 1, 2, 3] rfl)
      · replace hf := (if_neg h).symm.trans hf
        refine lv_iload_n hx hb dX8_lettersIn_12 rfl (lv_at hl 2 rfl) ?_
        refine lv_aload_n hx hb dX8_lettersIn_13 rfl (lv_at hl 0 rfl) ?_
        refine g_get C hW inX8 0 rfl rfl rfl 16 (by decide) (List.mem_of_getElem? (i := 2) rfl) (v := .ref (a0 5)) rfl dX8_lettersIn_14 ?_
        refine lv_iload_n hx hb dX8_lettersIn_17 rfl (lv_at hl 1 rfl) ?_
        refine lv_iconst (v := (4 : Int32)) hx hb dX8_lettersIn_18 (by decide) ?_
        refine lv_iload_n hx hb dX8_lettersIn_19 rfl (lv_at hl 3 rfl) ?_
        refine lv_iadd hx hb dX8_lettersIn_20 ?_
        obtain ⟨y1, hc, hf⟩ := bd_of hf
        refine g_cS C (ct_X8_ofBlock g l N x1 ((4 : Int32) + x3) hc) gX8_lettersIn_X8_ofBlock rfl 2 (by decide +kernel) ⟨rfl, rfl, ⟨Nat.le_of_ble_eq_true rfl, Nat.le_of_ble_eq_true rfl⟩, Nat.le_of_ble_eq_true rfl, Nat.le_of_ble_eq_true rfl⟩ rfl hl (Nat.le_of_ble_eq_true rfl) dX8_lettersIn_21 rfl hW hA [] rfl rfl rfl (ch' := [kX8 g a0 v0]) rfl (fun H locs hW => ?_)
        obtain ⟨hi, hf⟩ := gd_of hf
        refine g_iald C hW 0 5 rfl (f := (v0 16)) rfl (ib_in hi) dX8_lettersIn_24 ?_
        refine lv_iadd hx hb dX8_lettersIn_25 ?_
        refine lv_istore_n (lv' := [(2, .int (x2 + ((v0 16) (Int32.toNatClampNeg y1)))), (0, .ref (a0 0)), (1, .int x1), (3, .int x3)]) hx hb dX8_lettersIn_26 rfl hl (by decide) rfl (fun ls hl => ?_)
        refine lv_iinc (v := (x3 + 1)) (lv' := [(3, .int (x3 + 1)), (2, .int (x2 + ((v0 16) (Int32.toNatClampNeg y1)))), (0, .ref (a0 0)), (1, .int x1)]) hx hb dX8_lettersIn_27 hl (k := 3) rfl (by first | rfl | decide) (by decide) rfl (fun ls hl => ?_)
        refine lv_goto (tgt := 4) hx hb dX8_lettersIn_30 (by decide) ?_
        exact ih _ _ H locs ls hf hW (lv_sub hl [2, 3, 1, 0] rfl)
  rw [fX8_lettersIn] at hf
  refine lv_iconst (v := (0 : Int32)) hx hb dX8_lettersIn_0 (by decide) ?_
  refine lv_istore_n (lv' := [(2, .int (0 : Int32)), (0, .ref (a0 0)), (1, .int x1)]) hx hb dX8_lettersIn_1 rfl hl (by decide) rfl (fun ls hl => ?_)
  refine lv_iconst (v := (0 : Int32)) hx hb dX8_lettersIn_2 (by decide) ?_
  refine lv_istore_n (lv' := [(3, .int (0 : Int32)), (2, .int (0 : Int32)), (0, .ref (a0 0)), (1, .int x1)]) hx hb dX8_lettersIn_3 rfl hl (by decide) rfl (fun ls hl => ?_)
  refine L4 x1 _ (fun x2_2 x3_2 H locs ls hf hW hl => ?_) N (0 : Int32) (0 : Int32) H locs ls hf hW (lv_sub hl [2, 3, 1, 0] rfl)
  refine lv_iload_n hx hb dX8_lettersIn_33 rfl (lv_at hl 2 rfl) ?_
  obtain rfl := Option.some.inj hf
  subst hQ
  exact g_iret C hr hk0 hW rfl rfl dX8_lettersIn_34
def fX8_inBlock (N : Nat) (x1 : Int32) (v0 : MM) : Option (Int32) := ((fX8_lettersIn N x1 v0).bind (fun y1 => ((fX8_ofBlock N x1 (3 : Int32)).bind (fun y2 => (if ib y2 667 = true then (if ((v0 16) (Int32.toNatClampNeg y2)) = (-9 : Int32) then some (y1 + (0 : Int32)) else some (y1 + (2 : Int32))) else none)))))
set_option maxHeartbeats 4000000 in
set_option maxRecDepth 100000 in
theorem ct_X8_inBlock (g : GT) (l : Launch) (N : Nat) (a0 : Nat → Nat) (x1 : Int32) (v0 : MM) {y : Int32} (hf : fX8_inBlock N x1 v0 = some y) : ct g l yX8_inBlock wsX8_inBlock (rmk 2 44) [.ref (a0 0), .int x1] [kX8 g a0 v0] (some (.int y)) [kX8 g a0 v0] := by
  refine ct_of (cc := cX8_inBlock) (maxL := 2) (ret := (some .int)) (by decide) rfl (Nat.le_of_ble_eq_true rfl) ?_
  intro p e s m args below meth c A ls C hr hk0 hA hW hl
  have hx := C.1.1
  have hb := C.1.2.1
  replace hl : lv_has ls 2 [(0, .ref (a0 0)), (1, .int x1)] := hl
  obtain ⟨Q, hQ⟩ : ∃ Q, Q = MQ below (ctQ g A (some (.int y)) [kX8 g a0 v0]) args s 0 0 A := ⟨_, rfl⟩
  rw [← hQ]
  obtain ⟨H, hH⟩ : ∃ H, H = s.heap := ⟨_, rfl⟩
  obtain ⟨locs, hL⟩ : ∃ locs : List Loc, locs = [] := ⟨_, rfl⟩
  replace hW : wd g A s.heap [kX8 g a0 v0] H locs := by rw [hH, hL]; exact hW
  suffices hG : W p l e (rmk 2 44) s m args below meth c H locs 0 0 Q (F0 m 0 ls []) by
    rw [hH, hL] at hG; exact hG
  clear hH hL
  have inX8 : ∀ w ∈ wsX80, w ∈ wsX8_inBlock := fun _ h => List.mem_cons_of_mem _ (List.mem_append_right _ (h))
  rw [fX8_inBlock] at hf
  refine lv_aload_n hx hb dX8_inBlock_0 rfl (lv_at hl 0 rfl) ?_
  refine lv_iload_n hx hb dX8_inBlock_1 rfl (lv_at hl 1 rfl) ?_
  obtain ⟨y1, hc, hf⟩ := bd_of hf
  refine g_cV (Cn := RX8) C (ct_X8_lettersIn g l N a0 x1 v0 hc) gX8_inBlock_X8_lettersIn rfl 1 (by decide +kernel) ⟨rfl, rfl, ⟨Nat.le_of_ble_eq_true rfl, Nat.le_of_ble_eq_true rfl⟩, Nat.le_of_ble_eq_true rfl, Nat.le_of_ble_eq_true rfl⟩ rfl hl (Nat.le_of_ble_eq_true rfl) dX8_inBlock_2 rfl hW hA [0] rfl rfl rfl (ch' := [kX8 g a0 v0]) rfl 0 rfl rfl rfl (fun H locs hW => ?_)
  refine lv_aload_n hx hb dX8_inBlock_5 rfl (lv_at hl 0 rfl) ?_
  refine g_get C hW inX8 0 rfl rfl rfl 16 (by decide) (List.mem_of_getElem? (i := 1) rfl) (v := .ref (a0 5)) rfl dX8_inBlock_6 ?_
  refine lv_iload_n hx hb dX8_inBlock_9 rfl (lv_at hl 1 rfl) ?_
  refine lv_iconst (v := (3 : Int32)) hx hb dX8_inBlock_10 (by decide) ?_
  obtain ⟨y2, hc, hf⟩ := bd_of hf
  refine g_cS C (ct_X8_ofBlock g l N x1 (3 : Int32) hc) gX8_inBlock_X8_ofBlock rfl 2 (by decide +kernel) ⟨rfl, rfl, ⟨Nat.le_of_ble_eq_true rfl, Nat.le_of_ble_eq_true rfl⟩, Nat.le_of_ble_eq_true rfl, Nat.le_of_ble_eq_true rfl⟩ rfl hl (Nat.le_of_ble_eq_true rfl) dX8_inBlock_11 rfl hW hA [] rfl rfl rfl (ch' := [kX8 g a0 v0]) rfl (fun H locs hW => ?_)
  obtain ⟨hi, hf⟩ := gd_of hf
  refine g_iald C hW 0 5 rfl (f := (v0 16)) rfl (ib_in hi) dX8_inBlock_14 ?_
  refine lv_bipush (v := (-9 : Int32)) hx hb dX8_inBlock_15 (by decide) ?_
  refine lv_icmp_ne (tgt := 24) hx hb dX8_inBlock_17 (by decide) (fun h => ?_) (fun h => ?_)
  · replace hf := (if_neg h).symm.trans hf
    refine lv_iconst (v := (2 : Int32)) hx hb dX8_inBlock_24 (by decide) ?_
    refine lv_iadd hx hb dX8_inBlock_25 ?_
    obtain rfl := Option.some.inj hf
    subst hQ
    exact g_iret C hr hk0 hW rfl rfl dX8_inBlock_26
  · replace hf := (if_pos h).symm.trans hf
    refine lv_iconst (v := (0 : Int32)) hx hb dX8_inBlock_20 (by decide) ?_
    refine lv_goto (tgt := 25) hx hb dX8_inBlock_21 (by decide) ?_
    refine lv_iadd hx hb dX8_inBlock_25 ?_
    obtain rfl := Option.some.inj hf
    subst hQ
    exact g_iret C hr hk0 hW rfl rfl dX8_inBlock_26
def fX8_sends_L91 (N : Nat) (k : Int32 → MM → Option (MM)) (x1 : Int32) (x2 : Int32) (x3 : Int32) : Nat → Int32 → MM → Option (MM)
  | 0, _, _ => none
  | n + 1, x4, v0 => (if (v0 2 0) ≤ x4 then k x4 v0 else (if x3 = 0 then ((fX8_ofClass N x4 (3 : Int32)).bind (fun y5 => (if ib y5 667 = true then ((fX8_ofBlock N x1 ((4 : Int32) + x4)).bind (fun y6 => (if ib y6 667 = true then (if ib y5 667 = true then fX8_sends_L91 N k x1 x2 x3 n (x4 + 1) (st v0 16 (upd (v0 16) (Int32.toNatClampNeg y5) (((v0 16) (Int32.toNatClampNeg y5)) + ((v0 16) (Int32.toNatClampNeg y6))))) else none) else none))) else none))) else ((fX8_ofClass N x4 (2 : Int32)).bind (fun y7 => (if ib y7 667 = true then ((fX8_ofBlock N x1 ((4 : Int32) + x4)).bind (fun y8 => (if ib y8 667 = true then (if ib y7 667 = true then fX8_sends_L91 N k x1 x2 x3 n (x4 + 1) (st v0 16 (upd (v0 16) (Int32.toNatClampNeg y7) (((v0 16) (Int32.toNatClampNeg y7)) + ((v0 16) (Int32.toNatClampNeg y8))))) else none) else none))) else none)))))
def fX8_sends (N : Nat) (x1 : Int32) (v0 : MM) : Option (MM) := ((fX8_ofBlock N x1 (0 : Int32)).bind (fun y1 => (if ib y1 667 = true then ((fX8_ofBlock N x1 (2 : Int32)).bind (fun y2 => (if ib y2 667 = true then (if ib y2 667 = true then (if ib (0 : Int32) 667 = true then ((fX8_isDeaf N ((v0 16) (Int32.toNatClampNeg y1)) ((upd (v0 16) (Int32.toNatClampNeg y2) (((v0 16) (Int32.toNatClampNeg y2)) + (1 : Int32))) (Int32.toNatClampNeg (0 : Int32))) (st v0 16 (upd (v0 16) (Int32.toNatClampNeg y2) (((v0 16) (Int32.toNatClampNeg y2)) + (1 : Int32))))).bind (fun y3 => (if y3 = 0 then (fX8_sends_L91 N (fun (x4_15 : Int32) (v0_15 : MM) => ((fX8_ofTerminal N ((v0 16) (Int32.toNatClampNeg y1)) (3 : Int32)).bind (fun y16 => (if ib y16 667 = true then ((fX8_lettersIn N x1 v0_15).bind (fun y17 => ((fX8_lettersIn N x1 v0_15).bind (fun y18 => ((fX8_ofTerminal N ((v0 16) (Int32.toNatClampNeg y1)) (3 : Int32)).bind (fun y19 => ((fX8_ofBlock N x1 (3 : Int32)).bind (fun y20 => (if ib y20 667 = true then (if ((v0_15 16) (Int32.toNatClampNeg y20)) = (-9 : Int32) then (if (((v0_15 16) (Int32.toNatClampNeg y16)) - y17) ≤ 0 then (if ib y19 667 = true then ((fX8_ofBlock N x1 (1 : Int32)).bind (fun y21 => (if ib y21 667 = true then some (st (st (st v0_15 31 (fun _ => ((v0_15 31 0) + y18))) 16 (upd (v0_15 16) (Int32.toNatClampNeg y19) (0 : Int32))) 16 (upd (upd (v0_15 16) (Int32.toNatClampNeg y19) (0 : Int32)) (Int32.toNatClampNeg y21) (-1 : Int32))) else none))) else none) else (if ib y19 667 = true then ((fX8_ofBlock N x1 (1 : Int32)).bind (fun y22 => (if ib y22 667 = true then some (st (st (st v0_15 31 (fun _ => ((v0_15 31 0) + y18))) 16 (upd (v0_15 16) (Int32.toNatClampNeg y19) (((v0_15 16) (Int32.toNatClampNeg y16)) - y17))) 16 (upd (upd (v0_15 16) (Int32.toNatClampNeg y19) (((v0_15 16) (Int32.toNatClampNeg y16)) - y17)) (Int32.toNatClampNeg y22) (-1 : Int32))) else none))) else none)) else ((fX8_ofBlock N x1 (3 : Int32)).bind (fun y23 => (if ib y23 667 = true then (if ib y19 667 = true then ((fX8_ofBlock N x1 (1 : Int32)).bind (fun y24 => (if ib y24 667 = true then some (st (st (st v0_15 31 (fun _ => ((v0_15 31 0) + y18))) 16 (upd (v0_15 16) (Int32.toNatClampNeg y19) ((v0_15 16) (Int32.toNatClampNeg y23)))) 16 (upd (upd (v0_15 16) (Int32.toNatClampNeg y19) ((v0_15 16) (Int32.toNatClampNeg y23))) (Int32.toNatClampNeg y24) (-1 : Int32))) else none))) else none) else none)))) else none))))))))) else none)))) x1 ((v0 16) (Int32.toNatClampNeg y1)) (1 : Int32) N (0 : Int32) (st v0 16 (upd (v0 16) (Int32.toNatClampNeg y2) (((v0 16) (Int32.toNatClampNeg y2)) + (1 : Int32))))) else ((fX8_ofBlock N x1 (2 : Int32)).bind (fun y4 => (if ib y4 667 = true then (if (v0 5 0) ≤ ((upd (v0 16) (Int32.toNatClampNeg y2) (((v0 16) (Int32.toNatClampNeg y2)) + (1 : Int32))) (Int32.toNatClampNeg y4)) then (fX8_sends_L91 N (fun (x4_9 : Int32) (v0_9 : MM) => ((fX8_ofTerminal N ((v0 16) (Int32.toNatClampNeg y1)) (3 : Int32)).bind (fun y10 => (if ib y10 667 = true then ((fX8_lettersIn N x1 v0_9).bind (fun y11 => ((fX8_ofTerminal N ((v0 16) (Int32.toNatClampNeg y1)) (0 : Int32)).bind (fun y12 => (if ib y12 667 = true then ((fX8_ofBlock N x1 (1 : Int32)).bind (fun y13 => (if ib y13 667 = true then some (st (st v0_9 16 (upd (v0_9 16) (Int32.toNatClampNeg y12) (1 : Int32))) 16 (upd (upd (v0_9 16) (Int32.toNatClampNeg y12) (1 : Int32)) (Int32.toNatClampNeg y13) (-1 : Int32))) else none))) else none))))) else none)))) x1 ((v0 16) (Int32.toNatClampNeg y1)) (0 : Int32) N (0 : Int32) (st v0 16 (upd (v0 16) (Int32.toNatClampNeg y2) (((v0 16) (Int32.toNatClampNeg y2)) + (1 : Int32))))) else ((fX8_ofBlock N x1 (1 : Int32)).bind (fun y14 => (if ib (0 : Int32) 667 = true then (if ib y14 667 = true then some (st (st v0 16 (upd (v0 16) (Int32.toNatClampNeg y2) (((v0 16) (Int32.toNatClampNeg y2)) + (1 : Int32)))) 16 (upd (upd (v0 16) (Int32.toNatClampNeg y2) (((v0 16) (Int32.toNatClampNeg y2)) + (1 : Int32))) (Int32.toNatClampNeg y14) (((upd (v0 16) (Int32.toNatClampNeg y2) (((v0 16) (Int32.toNatClampNeg y2)) + (1 : Int32))) (Int32.toNatClampNeg (0 : Int32))) + (v0 4 0)))) else none) else none)))) else none)))))) else none) else none) else none))) else none)))
set_option maxHeartbeats 4000000 in
set_option maxRecDepth 100000 in
theorem ct_X8_sends (g : GT) (l : Launch) (N : Nat) (a0 : Nat → Nat) (x1 : Int32) (v0 : MM) {y : MM} (hf : fX8_sends N x1 v0 = some y) : ct g l yX8_sends wsX8_sends (rmk 2 44) [.ref (a0 0), .int x1] [kX8 g a0 v0] none [kX8 g a0 y] := by
  refine ct_of (cc := cX8_sends) (maxL := 5) (ret := none) (by decide) rfl (Nat.le_of_ble_eq_true rfl) ?_
  intro p e s m args below meth c A ls C hr hk0 hA hW hl
  have hx := C.1.1
  have hb := C.1.2.1
  replace hl : lv_has ls 5 [(0, .ref (a0 0)), (1, .int x1)] := hl
  obtain ⟨Q, hQ⟩ : ∃ Q, Q = MQ below (ctQ g A none [kX8 g a0 y]) args s 0 0 A := ⟨_, rfl⟩
  rw [← hQ]
  obtain ⟨H, hH⟩ : ∃ H, H = s.heap := ⟨_, rfl⟩
  obtain ⟨locs, hL⟩ : ∃ locs : List Loc, locs = [] := ⟨_, rfl⟩
  replace hW : wd g A s.heap [kX8 g a0 v0] H locs := by rw [hH, hL]; exact hW
  suffices hG : W p l e (rmk 2 44) s m args below meth c H locs 0 0 Q (F0 m 0 ls []) by
    rw [hH, hL] at hG; exact hG
  clear hH hL
  have inX8 : ∀ w ∈ wsX80, w ∈ wsX8_sends := fun _ h => List.mem_cons_of_mem _ (List.mem_append_right _ (h))
  have L91 : ∀ (x1 : Int32) (x2 : Int32) (x3 : Int32) (k : Int32 → MM → Option (MM)) (hk : ∀ (x4 : Int32) (v0 : MM) (H : Heap) (locs : List Loc) (ls : Array Slot), k x4 v0 = some y → wd g A s.heap [kX8 g a0 v0] H locs → lv_has ls 5 [(0, .ref (a0 0)), (1, .int x1), (2, .int x2), (3, .int x3), (4, .int x4)] → W p l e (rmk 2 44) s m args below meth c H locs 0 0 Q (F0 m 141 ls [])) (n : Nat) (x4 : Int32) (v0 : MM) (H : Heap) (locs : List Loc) (ls : Array Slot), fX8_sends_L91 N k x1 x2 x3 n x4 v0 = some y → wd g A s.heap [kX8 g a0 v0] H locs → lv_has ls 5 [(0, .ref (a0 0)), (1, .int x1), (2, .int x2), (3, .int x3), (4, .int x4)] → W p l e (rmk 2 44) s m args below meth c H locs 0 0 Q (F0 m 91 ls []) := by
    intro x1 x2 x3 k hk n
    induction n with
    | zero => intro x4 v0 H locs ls hf; rw [fX8_sends_L91] at hf; cases hf
    | succ n ih =>
      intro x4 v0 H locs ls hf hW hl
      rw [fX8_sends_L91] at hf
      refine lv_iload hx hb dX8_sends_91 (lv_at hl 4 rfl) ?_
      refine lv_aload_n hx hb dX8_sends_93 rfl (lv_at hl 0 rfl) ?_
      refine g_get C hW inX8 0 rfl rfl rfl 2 (by decide) (List.mem_of_getElem? (i := 4) rfl) (v := .int (v0 2 0)) rfl dX8_sends_94 ?_
      refine lv_icmp_ge (tgt := 141) hx hb dX8_sends_97 (by decide) (fun h => ?_) (fun h => ?_)
      · replace hf := (if_pos h).symm.trans hf
        exact hk _ _ H locs ls hf hW (lv_sub hl [0, 1, 2, 3, 4] rfl)
      · replace hf := (if_neg h).symm.trans hf
        refine lv_aload_n hx hb dX8_sends_100 rfl (lv_at hl 0 rfl) ?_
        refine g_get C hW inX8 0 rfl rfl rfl 16 (by decide) (List.mem_of_getElem? (i := 1) rfl) (v := .ref (a0 5)) rfl dX8_sends_101 ?_
        refine lv_iload hx hb dX8_sends_104 (lv_at hl 4 rfl) ?_
        refine lv_iload_n hx hb dX8_sends_106 rfl (lv_at hl 3 rfl) ?_
        refine lv_if_eq (tgt := 114) hx hb dX8_sends_107 (by decide) (fun h => ?_) (fun h => ?_)
        · replace hf := (if_pos h).symm.trans hf
          refine lv_iconst (v := (3 : Int32)) hx hb dX8_sends_114 (by decide) ?_
          obtain ⟨y5, hc, hf⟩ := bd_of hf
          refine g_cS C (ct_X8_ofClass g l N x4 (3 : Int32) hc) gX8_sends_X8_ofClass rfl 2 (by decide +kernel) ⟨rfl, rfl, ⟨Nat.le_of_ble_eq_true rfl, Nat.le_of_ble_eq_true rfl⟩, Nat.le_of_ble_eq_true rfl, Nat.le_of_ble_eq_true rfl⟩ rfl hl (Nat.le_of_ble_eq_true rfl) dX8_sends_115 rfl hW hA [] rfl rfl rfl (ch' := [kX8 g a0 v0]) rfl (fun H locs hW => ?_)
          refine lv_dup2_11 hx hb dX8_sends_118 rfl rfl ?_
          obtain ⟨hi, hf⟩ := gd_of hf
          refine g_iald C hW 0 5 rfl (f := (v0 16)) rfl (ib_in hi) dX8_sends_119 ?_
          refine lv_aload_n hx hb dX8_sends_120 rfl (lv_at hl 0 rfl) ?_
          refine g_get C hW inX8 0 rfl rfl rfl 16 (by decide) (List.mem_of_getElem? (i := 1) rfl) (v := .ref (a0 5)) rfl dX8_sends_121 ?_
          refine lv_iload_n hx hb dX8_sends_124 rfl (lv_at hl 1 rfl) ?_
          refine lv_iconst (v := (4 : Int32)) hx hb dX8_sends_125 (by decide) ?_
          refine lv_iload hx hb dX8_sends_126 (lv_at hl 4 rfl) ?_
          refine lv_iadd hx hb dX8_sends_128 ?_
          obtain ⟨y6, hc, hf⟩ := bd_of hf
          refine g_cS C (ct_X8_ofBlock g l N x1 ((4 : Int32) + x4) hc) gX8_sends_X8_ofBlock rfl 2 (by decide +kernel) ⟨rfl, rfl, ⟨Nat.le_of_ble_eq_true rfl, Nat.le_of_ble_eq_true rfl⟩, Nat.le_of_ble_eq_true rfl, Nat.le_of_ble_eq_true rfl⟩ rfl hl (Nat.le_of_ble_eq_true rfl) dX8_sends_129 rfl hW hA [] rfl rfl rfl (ch' := [kX8 g a0 v0]) rfl (fun H locs hW => ?_)
          obtain ⟨hi, hf⟩ := gd_of hf
          refine g_iald C hW 0 5 rfl (f := (v0 16)) rfl (ib_in hi) dX8_sends_132 ?_
          refine lv_iadd hx hb dX8_sends_133 ?_
          obtain ⟨hi, hf⟩ := gd_of hf
          refine g_iast C hW 0 5 rfl (f := (v0 16)) rfl (ib_in hi) (kX8_w16 g a0 v0 (upd (v0 16) (Int32.toNatClampNeg y5) (((v0 16) (Int32.toNatClampNeg y5)) + ((v0 16) (Int32.toNatClampNeg y6))))) (ch' := [kX8 g a0 (st v0 16 (upd (v0 16) (Int32.toNatClampNeg y5) (((v0 16) (Int32.toNatClampNeg y5)) + ((v0 16) (Int32.toNatClampNeg y6)))))]) rfl dX8_sends_134 (fun H locs hW => ?_)
          refine lv_iinc (v := (x4 + 1)) (lv' := [(4, .int (x4 + 1)), (0, .ref (a0 0)), (1, .int x1), (2, .int x2), (3, .int x3)]) hx hb dX8_sends_135 hl (k := 4) rfl (by first | rfl | decide) (by decide) rfl (fun ls hl => ?_)
          refine lv_goto (tgt := 91) hx hb dX8_sends_138 (by decide) ?_
          exact ih _ _ H locs ls hf hW (lv_sub hl [1, 2, 3, 4, 0] rfl)
        · replace hf := (if_neg h).symm.trans hf
          refine lv_iconst (v := (2 : Int32)) hx hb dX8_sends_110 (by decide) ?_
          refine lv_goto (tgt := 115) hx hb dX8_sends_111 (by decide) ?_
          obtain ⟨y7, hc, hf⟩ := bd_of hf
          refine g_cS C (ct_X8_ofClass g l N x4 (2 : Int32) hc) gX8_sends_X8_ofClass rfl 2 (by decide +kernel) ⟨rfl, rfl, ⟨Nat.le_of_ble_eq_true rfl, Nat.le_of_ble_eq_true rfl⟩, Nat.le_of_ble_eq_true rfl, Nat.le_of_ble_eq_true rfl⟩ rfl hl (Nat.le_of_ble_eq_true rfl) dX8_sends_115 rfl hW hA [] rfl rfl rfl (ch' := [kX8 g a0 v0]) rfl (fun H locs hW => ?_)
          refine lv_dup2_11 hx hb dX8_sends_118 rfl rfl ?_
          obtain ⟨hi, hf⟩ := gd_of hf
          refine g_iald C hW 0 5 rfl (f := (v0 16)) rfl (ib_in hi) dX8_sends_119 ?_
          refine lv_aload_n hx hb dX8_sends_120 rfl (lv_at hl 0 rfl) ?_
          refine g_get C hW inX8 0 rfl rfl rfl 16 (by decide) (List.mem_of_getElem? (i := 1) rfl) (v := .ref (a0 5)) rfl dX8_sends_121 ?_
          refine lv_iload_n hx hb dX8_sends_124 rfl (lv_at hl 1 rfl) ?_
          refine lv_iconst (v := (4 : Int32)) hx hb dX8_sends_125 (by decide) ?_
          refine lv_iload hx hb dX8_sends_126 (lv_at hl 4 rfl) ?_
          refine lv_iadd hx hb dX8_sends_128 ?_
          obtain ⟨y8, hc, hf⟩ := bd_of hf
          refine g_cS C (ct_X8_ofBlock g l N x1 ((4 : Int32) + x4) hc) gX8_sends_X8_ofBlock rfl 2 (by decide +kernel) ⟨rfl, rfl, ⟨Nat.le_of_ble_eq_true rfl, Nat.le_of_ble_eq_true rfl⟩, Nat.le_of_ble_eq_true rfl, Nat.le_of_ble_eq_true rfl⟩ rfl hl (Nat.le_of_ble_eq_true rfl) dX8_sends_129 rfl hW hA [] rfl rfl rfl (ch' := [kX8 g a0 v0]) rfl (fun H locs hW => ?_)
          obtain ⟨hi, hf⟩ := gd_of hf
          refine g_iald C hW 0 5 rfl (f := (v0 16)) rfl (ib_in hi) dX8_sends_132 ?_
          refine lv_iadd hx hb dX8_sends_133 ?_
          obtain ⟨hi, hf⟩ := gd_of hf
          refine g_iast C hW 0 5 rfl (f := (v0 16)) rfl (ib_in hi) (kX8_w16 g a0 v0 (upd (v0 16) (Int32.toNatClampNeg y7) (((v0 16) (Int32.toNatClampNeg y7)) + ((v0 16) (Int32.toNatClampNeg y8))))) (ch' := [kX8 g a0 (st v0 16 (upd (v0 16) (Int32.toNatClampNeg y7) (((v0 16) (Int32.toNatClampNeg y7)) + ((v0 16) (Int32.toNatClampNeg y8)))))]) rfl dX8_sends_134 (fun H locs hW => ?_)
          refine lv_iinc (v := (x4 + 1)) (lv' := [(4, .int (x4 + 1)), (0, .ref (a0 0)), (1, .int x1), (2, .int x2), (3, .int x3)]) hx hb dX8_sends_135 hl (k := 4) rfl (by first | rfl | decide) (by decide) rfl (fun ls hl => ?_)
          refine lv_goto (tgt := 91) hx hb dX8_sends_138 (by decide) ?_
          exact ih _ _ H locs ls hf hW (lv_sub hl [1, 2, 3, 4, 0] rfl)
  rw [fX8_sends] at hf
  refine lv_aload_n hx hb dX8_sends_0 rfl (lv_at hl 0 rfl) ?_
  refine g_get C hW inX8 0 rfl rfl rfl 16 (by decide) (List.mem_of_getElem? (i := 1) rfl) (v := .ref (a0 5)) rfl dX8_sends_1 ?_
  refine lv_iload_n hx hb dX8_sends_4 rfl (lv_at hl 1 rfl) ?_
  refine lv_iconst (v := (0 : Int32)) hx hb dX8_sends_5 (by decide) ?_
  obtain ⟨y1, hc, hf⟩ := bd_of hf
  refine g_cS C (ct_X8_ofBlock g l N x1 (0 : Int32) hc) gX8_sends_X8_ofBlock rfl 2 (by decide +kernel) ⟨rfl, rfl, ⟨Nat.le_of_ble_eq_true rfl, Nat.le_of_ble_eq_true rfl⟩, Nat.le_of_ble_eq_true rfl, Nat.le_of_ble_eq_true rfl⟩ rfl hl (Nat.le_of_ble_eq_true rfl) dX8_sends_6 rfl hW hA [] rfl rfl rfl (ch' := [kX8 g a0 v0]) rfl (fun H locs hW => ?_)
  obtain ⟨hi, hf⟩ := gd_of hf
  refine g_iald C hW 0 5 rfl (f := (v0 16)) rfl (ib_in hi) dX8_sends_9 ?_
  refine lv_istore_n (lv' := [(2, .int ((v0 16) (Int32.toNatClampNeg y1))), (0, .ref (a0 0)), (1, .int x1)]) hx hb dX8_sends_10 rfl hl (by decide) rfl (fun ls hl => ?_)
  refine lv_aload_n hx hb dX8_sends_11 rfl (lv_at hl 1 rfl) ?_
  refine g_get C hW inX8 0 rfl rfl rfl 16 (by decide) (List.mem_of_getElem? (i := 1) rfl) (v := .ref (a0 5)) rfl dX8_sends_12 ?_
  refine lv_iload_n hx hb dX8_sends_15 rfl (lv_at hl 2 rfl) ?_
  refine lv_iconst (v := (2 : Int32)) hx hb dX8_sends_16 (by decide) ?_
  obtain ⟨y2, hc, hf⟩ := bd_of hf
  refine g_cS C (ct_X8_ofBlock g l N x1 (2 : Int32) hc) gX8_sends_X8_ofBlock rfl 2 (by decide +kernel) ⟨rfl, rfl, ⟨Nat.le_of_ble_eq_true rfl, Nat.le_of_ble_eq_true rfl⟩, Nat.le_of_ble_eq_true rfl, Nat.le_of_ble_eq_true rfl⟩ rfl hl (Nat.le_of_ble_eq_true rfl) dX8_sends_17 rfl hW hA [] rfl rfl rfl (ch' := [kX8 g a0 v0]) rfl (fun H locs hW => ?_)
  refine lv_dup2_11 hx hb dX8_sends_20 rfl rfl ?_
  obtain ⟨hi, hf⟩ := gd_of hf
  refine g_iald C hW 0 5 rfl (f := (v0 16)) rfl (ib_in hi) dX8_sends_21 ?_
  refine lv_iconst (v := (1 : Int32)) hx hb dX8_sends_22 (by decide) ?_
  refine lv_iadd hx hb dX8_sends_23 ?_
  obtain ⟨hi, hf⟩ := gd_of hf
  refine g_iast C hW 0 5 rfl (f := (v0 16)) rfl (ib_in hi) (kX8_w16 g a0 v0 (upd (v0 16) (Int32.toNatClampNeg y2) (((v0 16) (Int32.toNatClampNeg y2)) + (1 : Int32)))) (ch' := [kX8 g a0 (st v0 16 (upd (v0 16) (Int32.toNatClampNeg y2) (((v0 16) (Int32.toNatClampNeg y2)) + (1 : Int32))))]) rfl dX8_sends_24 (fun H locs hW => ?_)
  refine lv_aload_n hx hb dX8_sends_25 rfl (lv_at hl 1 rfl) ?_
  refine lv_iload_n hx hb dX8_sends_26 rfl (lv_at hl 0 rfl) ?_
  refine lv_aload_n hx hb dX8_sends_27 rfl (lv_at hl 1 rfl) ?_
  refine g_get C hW inX8 0 rfl rfl rfl 16 (by decide) (List.mem_of_getElem? (i := 1) rfl) (v := .ref (a0 5)) rfl dX8_sends_28 ?_
  refine lv_iconst (v := (0 : Int32)) hx hb dX8_sends_31 (by decide) ?_
  obtain ⟨hi, hf⟩ := gd_of hf
  refine g_iald C hW 0 5 rfl (f := (upd (v0 16) (Int32.toNatClampNeg y2) (((v0 16) (Int32.toNatClampNeg y2)) + (1 : Int32)))) rfl (ib_in hi) dX8_sends_32 ?_
  obtain ⟨y3, hc, hf⟩ := bd_of hf
  refine g_cV (Cn := RX8) C (ct_X8_isDeaf g l N a0 ((v0 16) (Int32.toNatClampNeg y1)) ((upd (v0 16) (Int32.toNatClampNeg y2) (((v0 16) (Int32.toNatClampNeg y2)) + (1 : Int32))) (Int32.toNatClampNeg (0 : Int32))) (st v0 16 (upd (v0 16) (Int32.toNatClampNeg y2) (((v0 16) (Int32.toNatClampNeg y2)) + (1 : Int32)))) hc) gX8_sends_X8_isDeaf rfl 2 (by decide +kernel) ⟨rfl, rfl, ⟨Nat.le_of_ble_eq_true rfl, Nat.le_of_ble_eq_true rfl⟩, Nat.le_of_ble_eq_true rfl, Nat.le_of_ble_eq_true rfl⟩ rfl hl (Nat.le_of_ble_eq_true rfl) dX8_sends_33 rfl hW hA [0] rfl rfl rfl (ch' := [kX8 g a0 (st v0 16 (upd (v0 16) (Int32.toNatClampNeg y2) (((v0 16) (Int32.toNatClampNeg y2)) + (1 : Int32))))]) rfl 0 rfl rfl rfl (fun H locs hW => ?_)
  refine lv_if_ne (tgt := 43) hx hb dX8_sends_36 (by decide) (fun h => ?_) (fun h => ?_)
  · replace hf := (if_neg h).symm.trans hf
    refine lv_iconst (v := (0 : Int32)) hx hb dX8_sends_43 (by decide) ?_
    refine lv_istore_n (lv' := [(3, .int (0 : Int32)), (2, .int ((v0 16) (Int32.toNatClampNeg y1))), (0, .ref (a0 0)), (1, .int x1)]) hx hb dX8_sends_44 rfl hl (by decide) rfl (fun ls hl => ?_)
    refine lv_iload_n hx hb dX8_sends_45 rfl (lv_at hl 0 rfl) ?_
    refine lv_if_ne (tgt := 88) hx hb dX8_sends_46 (by decide) (fun h => absurd h (by decide)) (fun _ => ?_)
    refine lv_aload_n hx hb dX8_sends_49 rfl (lv_at hl 2 rfl) ?_
    refine g_get C hW inX8 0 rfl rfl rfl 16 (by decide) (List.mem_of_getElem? (i := 1) rfl) (v := .ref (a0 5)) rfl dX8_sends_50 ?_
    refine lv_iload_n hx hb dX8_sends_53 rfl (lv_at hl 3 rfl) ?_
    refine lv_iconst (v := (2 : Int32)) hx hb dX8_sends_54 (by decide) ?_
    obtain ⟨y4, hc, hf⟩ := bd_of hf
    refine g_cS C (ct_X8_ofBlock g l N x1 (2 : Int32) hc) gX8_sends_X8_ofBlock rfl 2 (by decide +kernel) ⟨rfl, rfl, ⟨Nat.le_of_ble_eq_true rfl, Nat.le_of_ble_eq_true rfl⟩, Nat.le_of_ble_eq_true rfl, Nat.le_of_ble_eq_true rfl⟩ rfl hl (Nat.le_of_ble_eq_true rfl) dX8_sends_55 rfl hW hA [] rfl rfl rfl (ch' := [kX8 g a0 (st v0 16 (upd (v0 16) (Int32.toNatClampNeg y2) (((v0 16) (Int32.toNatClampNeg y2)) + (1 : Int32))))]) rfl (fun H locs hW => ?_)
    obtain ⟨hi, hf⟩ := gd_of hf
    refine g_iald C hW 0 5 rfl (f := (upd (v0 16) (Int32.toNatClampNeg y2) (((v0 16) (Int32.toNatClampNeg y2)) + (1 : Int32)))) rfl (ib_in hi) dX8_sends_58 ?_
    refine lv_aload_n hx hb dX8_sends_59 rfl (lv_at hl 2 rfl) ?_
    refine g_get C hW inX8 0 rfl rfl rfl 5 (by decide) (List.mem_of_getElem? (i := 2) rfl) (v := .int (v0 5 0)) rfl dX8_sends_60 ?_
    refine lv_icmp_ge (tgt := 88) hx hb dX8_sends_63 (by decide) (fun h => ?_) (fun h => ?_)
    · replace hf := (if_pos h).symm.trans hf
      refine lv_iconst (v := (0 : Int32)) hx hb dX8_sends_88 (by decide) ?_
      refine lv_istore (lv' := [(4, .int (0 : Int32)), (3, .int (0 : Int32)), (2, .int ((v0 16) (Int32.toNatClampNeg y1))), (0, .ref (a0 0)), (1, .int x1)]) hx hb dX8_sends_89 hl (by decide) rfl (fun ls hl => ?_)
      refine L91 x1 ((v0 16) (Int32.toNatClampNeg y1)) (0 : Int32) _ (fun x4_9 v0_9 H locs ls hf hW hl => ?_) N (0 : Int32) (st v0 16 (upd (v0 16) (Int32.toNatClampNeg y2) (((v0 16) (Int32.toNatClampNeg y2)) + (1 : Int32)))) H locs ls hf hW (lv_sub hl [3, 4, 2, 1, 0] rfl)
      refine lv_aload_n hx hb dX8_sends_141 rfl (lv_at hl 0 rfl) ?_
      refine g_get C hW inX8 0 rfl rfl rfl 16 (by decide) (List.mem_of_getElem? (i := 1) rfl) (v := .ref (a0 5)) rfl dX8_sends_142 ?_
      refine lv_iload_n hx hb dX8_sends_145 rfl (lv_at hl 2 rfl) ?_
      refine lv_iconst (v := (3 : Int32)) hx hb dX8_sends_146 (by decide) ?_
      obtain ⟨y10, hc, hf⟩ := bd_of hf
      refine g_cS C (ct_X8_ofTerminal g l N ((v0 16) (Int32.toNatClampNeg y1)) (3 : Int32) hc) gX8_sends_X8_ofTerminal rfl 2 (by decide +kernel) ⟨rfl, rfl, ⟨Nat.le_of_ble_eq_true rfl, Nat.le_of_ble_eq_true rfl⟩, Nat.le_of_ble_eq_true rfl, Nat.le_of_ble_eq_true rfl⟩ rfl hl (Nat.le_of_ble_eq_true rfl) dX8_sends_147 rfl hW hA [] rfl rfl rfl (ch' := [kX8 g a0 v0_9]) rfl (fun H locs hW => ?_)
      obtain ⟨hi, hf⟩ := gd_of hf
      refine g_iald C hW 0 5 rfl (f := (v0_9 16)) rfl (ib_in hi) dX8_sends_150 ?_
      refine lv_aload_n hx hb dX8_sends_151 rfl (lv_at hl 0 rfl) ?_
      refine lv_iload_n hx hb dX8_sends_152 rfl (lv_at hl 1 rfl) ?_
      obtain ⟨y11, hc, hf⟩ := bd_of hf
      refine g_cV (Cn := RX8) C (ct_X8_lettersIn g l N a0 x1 v0_9 hc) gX8_sends_X8_lettersIn rfl 1 (by decide +kernel) ⟨rfl, rfl, ⟨Nat.le_of_ble_eq_true rfl, Nat.le_of_ble_eq_true rfl⟩, Nat.le_of_ble_eq_true rfl, Nat.le_of_ble_eq_true rfl⟩ rfl hl (Nat.le_of_ble_eq_true rfl) dX8_sends_153 rfl hW hA [0] rfl rfl rfl (ch' := [kX8 g a0 v0_9]) rfl 0 rfl rfl rfl (fun H locs hW => ?_)
      refine lv_isub hx hb dX8_sends_156 ?_
      refine lv_istore (lv' := [(4, .int (((v0_9 16) (Int32.toNatClampNeg y10)) - y11)), (0, .ref (a0 0)), (1, .int x1), (2, .int ((v0 16) (Int32.toNatClampNeg y1))), (3, .int (0 : Int32))]) hx hb dX8_sends_157 hl (by decide) rfl (fun ls hl => ?_)
      refine lv_iload_n hx hb dX8_sends_159 rfl (lv_at hl 4 rfl) ?_
      refine lv_if_ne (tgt := 177) hx hb dX8_sends_160 (by decide) (fun h => absurd h (by decide)) (fun _ => ?_)
      refine lv_aload_n hx hb dX8_sends_163 rfl (lv_at hl 1 rfl) ?_
      refine g_get C hW inX8 0 rfl rfl rfl 16 (by decide) (List.mem_of_getElem? (i := 1) rfl) (v := .ref (a0 5)) rfl dX8_sends_164 ?_
      refine lv_iload_n hx hb dX8_sends_167 rfl (lv_at hl 3 rfl) ?_
      refine lv_iconst (v := (0 : Int32)) hx hb dX8_sends_168 (by decide) ?_
      obtain ⟨y12, hc, hf⟩ := bd_of hf
      refine g_cS C (ct_X8_ofTerminal g l N ((v0 16) (Int32.toNatClampNeg y1)) (0 : Int32) hc) gX8_sends_X8_ofTerminal rfl 2 (by decide +kernel) ⟨rfl, rfl, ⟨Nat.le_of_ble_eq_true rfl, Nat.le_of_ble_eq_true rfl⟩, Nat.le_of_ble_eq_true rfl, Nat.le_of_ble_eq_true rfl⟩ rfl hl (Nat.le_of_ble_eq_true rfl) dX8_sends_169 rfl hW hA [] rfl rfl rfl (ch' := [kX8 g a0 v0_9]) rfl (fun H locs hW => ?_)
      refine lv_iconst (v := (1 : Int32)) hx hb dX8_sends_172 (by decide) ?_
      obtain ⟨hi, hf⟩ := gd_of hf
      refine g_iast C hW 0 5 rfl (f := (v0_9 16)) rfl (ib_in hi) (kX8_w16 g a0 v0_9 (upd (v0_9 16) (Int32.toNatClampNeg y12) (1 : Int32))) (ch' := [kX8 g a0 (st v0_9 16 (upd (v0_9 16) (Int32.toNatClampNeg y12) (1 : Int32)))]) rfl dX8_sends_173 (fun H locs hW => ?_)
      refine lv_goto (tgt := 240) hx hb dX8_sends_174 (by decide) ?_
      refine lv_aload_n hx hb dX8_sends_240 rfl (lv_at hl 1 rfl) ?_
      refine g_get C hW inX8 0 rfl rfl rfl 16 (by decide) (List.mem_of_getElem? (i := 1) rfl) (v := .ref (a0 5)) rfl dX8_sends_241 ?_
      refine lv_iload_n hx hb dX8_sends_244 rfl (lv_at hl 2 rfl) ?_
      refine lv_iconst (v := (1 : Int32)) hx hb dX8_sends_245 (by decide) ?_
      obtain ⟨y13, hc, hf⟩ := bd_of hf
      refine g_cS C (ct_X8_ofBlock g l N x1 (1 : Int32) hc) gX8_sends_X8_ofBlock rfl 2 (by decide +kernel) ⟨rfl, rfl, ⟨Nat.le_of_ble_eq_true rfl, Nat.le_of_ble_eq_true rfl⟩, Nat.le_of_ble_eq_true rfl, Nat.le_of_ble_eq_true rfl⟩ rfl hl (Nat.le_of_ble_eq_true rfl) dX8_sends_246 rfl hW hA [] rfl rfl rfl (ch' := [kX8 g a0 (st v0_9 16 (upd (v0_9 16) (Int32.toNatClampNeg y12) (1 : Int32)))]) rfl (fun H locs hW => ?_)
      refine lv_iconst (v := (-1 : Int32)) hx hb dX8_sends_249 (by decide) ?_
      obtain ⟨hi, hf⟩ := gd_of hf
      refine g_iast C hW 0 5 rfl (f := (upd (v0_9 16) (Int32.toNatClampNeg y12) (1 : Int32))) rfl (ib_in hi) (kX8_w16 g a0 (st v0_9 16 (upd (v0_9 16) (Int32.toNatClampNeg y12) (1 : Int32))) (upd (upd (v0_9 16) (Int32.toNatClampNeg y12) (1 : Int32)) (Int32.toNatClampNeg y13) (-1 : Int32))) (ch' := [kX8 g a0 (st (st v0_9 16 (upd (v0_9 16) (Int32.toNatClampNeg y12) (1 : Int32))) 16 (upd (upd (v0_9 16) (Int32.toNatClampNeg y12) (1 : Int32)) (Int32.toNatClampNeg y13) (-1 : Int32)))]) rfl dX8_sends_250 (fun H locs hW => ?_)
      obtain rfl := Option.some.inj hf
      subst hQ
      exact g_vret C hr hk0 hW rfl rfl dX8_sends_251
    · replace hf := (if_neg h).symm.trans hf
      refine lv_aload_n hx hb dX8_sends_66 rfl (lv_at hl 2 rfl) ?_
      refine g_get C hW inX8 0 rfl rfl rfl 16 (by decide) (List.mem_of_getElem? (i := 1) rfl) (v := .ref (a0 5)) rfl dX8_sends_67 ?_
      refine lv_iload_n hx hb dX8_sends_70 rfl (lv_at hl 3 rfl) ?_
      refine lv_iconst (v := (1 : Int32)) hx hb dX8_sends_71 (by decide) ?_
      obtain ⟨y14, hc, hf⟩ := bd_of hf
      refine g_cS C (ct_X8_ofBlock g l N x1 (1 : Int32) hc) gX8_sends_X8_ofBlock rfl 2 (by decide +kernel) ⟨rfl, rfl, ⟨Nat.le_of_ble_eq_true rfl, Nat.le_of_ble_eq_true rfl⟩, Nat.le_of_ble_eq_true rfl, Nat.le_of_ble_eq_true rfl⟩ rfl hl (Nat.le_of_ble_eq_true rfl) dX8_sends_72 rfl hW hA [] rfl rfl rfl (ch' := [kX8 g a0 (st v0 16 (upd (v0 16) (Int32.toNatClampNeg y2) (((v0 16) (Int32.toNatClampNeg y2)) + (1 : Int32))))]) rfl (fun H locs hW => ?_)
      refine lv_aload_n hx hb dX8_sends_75 rfl (lv_at hl 2 rfl) ?_
      refine g_get C hW inX8 0 rfl rfl rfl 16 (by decide) (List.mem_of_getElem? (i := 1) rfl) (v := .ref (a0 5)) rfl dX8_sends_76 ?_
      refine lv_iconst (v := (0 : Int32)) hx hb dX8_sends_79 (by decide) ?_
      obtain ⟨hi, hf⟩ := gd_of hf
      refine g_iald C hW 0 5 rfl (f := (upd (v0 16) (Int32.toNatClampNeg y2) (((v0 16) (Int32.toNatClampNeg y2)) + (1 : Int32)))) rfl (ib_in hi) dX8_sends_80 ?_
      refine lv_aload_n hx hb dX8_sends_81 rfl (lv_at hl 2 rfl) ?_
      refine g_get C hW inX8 0 rfl rfl rfl 4 (by decide) (List.mem_of_getElem? (i := 3) rfl) (v := .int (v0 4 0)) rfl dX8_sends_82 ?_
      refine lv_iadd hx hb dX8_sends_85 ?_
      obtain ⟨hi, hf⟩ := gd_of hf
      refine g_iast C hW 0 5 rfl (f := (upd (v0 16) (Int32.toNatClampNeg y2) (((v0 16) (Int32.toNatClampNeg y2)) + (1 : Int32)))) rfl (ib_in hi) (kX8_w16 g a0 (st v0 16 (upd (v0 16) (Int32.toNatClampNeg y2) (((v0 16) (Int32.toNatClampNeg y2)) + (1 : Int32)))) (upd (upd (v0 16) (Int32.toNatClampNeg y2) (((v0 16) (Int32.toNatClampNeg y2)) + (1 : Int32))) (Int32.toNatClampNeg y14) (((upd (v0 16) (Int32.toNatClampNeg y2) (((v0 16) (Int32.toNatClampNeg y2)) + (1 : Int32))) (Int32.toNatClampNeg (0 : Int32))) + (v0 4 0)))) (ch' := [kX8 g a0 (st (st v0 16 (upd (v0 16) (Int32.toNatClampNeg y2) (((v0 16) (Int32.toNatClampNeg y2)) + (1 : Int32)))) 16 (upd (upd (v0 16) (Int32.toNatClampNeg y2) (((v0 16) (Int32.toNatClampNeg y2)) + (1 : Int32))) (Int32.toNatClampNeg y14) (((upd (v0 16) (Int32.toNatClampNeg y2) (((v0 16) (Int32.toNatClampNeg y2)) + (1 : Int32))) (Int32.toNatClampNeg (0 : Int32))) + (v0 4 0))))]) rfl dX8_sends_86 (fun H locs hW => ?_)
      obtain rfl := Option.some.inj hf
      subst hQ
      exact g_vret C hr hk0 hW rfl rfl dX8_sends_87
  · replace hf := (if_pos h).symm.trans hf
    refine lv_iconst (v := (1 : Int32)) hx hb dX8_sends_39 (by decide) ?_
    refine lv_goto (tgt := 44) hx hb dX8_sends_40 (by decide) ?_
    refine lv_istore_n (lv' := [(3, .int (1 : Int32)), (2, .int ((v0 16) (Int32.toNatClampNeg y1))), (0, .ref (a0 0)), (1, .int x1)]) hx hb dX8_sends_44 rfl hl (by decide) rfl (fun ls hl => ?_)
    refine lv_iload_n hx hb dX8_sends_45 rfl (lv_at hl 0 rfl) ?_
    refine lv_if_ne (tgt := 88) hx hb dX8_sends_46 (by decide) (fun _ => ?_) (fun h => absurd h (by decide))
    refine lv_iconst (v := (0 : Int32)) hx hb dX8_sends_88 (by decide) ?_
    refine lv_istore (lv' := [(4, .int (0 : Int32)), (3, .int (1 : Int32)), (2, .int ((v0 16) (Int32.toNatClampNeg y1))), (0, .ref (a0 0)), (1, .int x1)]) hx hb dX8_sends_89 hl (by decide) rfl (fun ls hl => ?_)
    refine L91 x1 ((v0 16) (Int32.toNatClampNeg y1)) (1 : Int32) _ (fun x4_15 v0_15 H locs ls hf hW hl => ?_) N (0 : Int32) (st v0 16 (upd (v0 16) (Int32.toNatClampNeg y2) (((v0 16) (Int32.toNatClampNeg y2)) + (1 : Int32)))) H locs ls hf hW (lv_sub hl [3, 4, 2, 1, 0] rfl)
    refine lv_aload_n hx hb dX8_sends_141 rfl (lv_at hl 0 rfl) ?_
    refine g_get C hW inX8 0 rfl rfl rfl 16 (by decide) (List.mem_of_getElem? (i := 1) rfl) (v := .ref (a0 5)) rfl dX8_sends_142 ?_
    refine lv_iload_n hx hb dX8_sends_145 rfl (lv_at hl 2 rfl) ?_
    refine lv_iconst (v := (3 : Int32)) hx hb dX8_sends_146 (by decide) ?_
    obtain ⟨y16, hc, hf⟩ := bd_of hf
    refine g_cS C (ct_X8_ofTerminal g l N ((v0 16) (Int32.toNatClampNeg y1)) (3 : Int32) hc) gX8_sends_X8_ofTerminal rfl 2 (by decide +kernel) ⟨rfl, rfl, ⟨Nat.le_of_ble_eq_true rfl, Nat.le_of_ble_eq_true rfl⟩, Nat.le_of_ble_eq_true rfl, Nat.le_of_ble_eq_true rfl⟩ rfl hl (Nat.le_of_ble_eq_true rfl) dX8_sends_147 rfl hW hA [] rfl rfl rfl (ch' := [kX8 g a0 v0_15]) rfl (fun H locs hW => ?_)
    obtain ⟨hi, hf⟩ := gd_of hf
    refine g_iald C hW 0 5 rfl (f := (v0_15 16)) rfl (ib_in hi) dX8_sends_150 ?_
    refine lv_aload_n hx hb dX8_sends_151 rfl (lv_at hl 0 rfl) ?_
    refine lv_iload_n hx hb dX8_sends_152 rfl (lv_at hl 1 rfl) ?_
    obtain ⟨y17, hc, hf⟩ := bd_of hf
    refine g_cV (Cn := RX8) C (ct_X8_lettersIn g l N a0 x1 v0_15 hc) gX8_sends_X8_lettersIn rfl 1 (by decide +kernel) ⟨rfl, rfl, ⟨Nat.le_of_ble_eq_true rfl, Nat.le_of_ble_eq_true rfl⟩, Nat.le_of_ble_eq_true rfl, Nat.le_of_ble_eq_true rfl⟩ rfl hl (Nat.le_of_ble_eq_true rfl) dX8_sends_153 rfl hW hA [0] rfl rfl rfl (ch' := [kX8 g a0 v0_15]) rfl 0 rfl rfl rfl (fun H locs hW => ?_)
    refine lv_isub hx hb dX8_sends_156 ?_
    refine lv_istore (lv' := [(4, .int (((v0_15 16) (Int32.toNatClampNeg y16)) - y17)), (0, .ref (a0 0)), (1, .int x1), (2, .int ((v0 16) (Int32.toNatClampNeg y1))), (3, .int (1 : Int32))]) hx hb dX8_sends_157 hl (by decide) rfl (fun ls hl => ?_)
    refine lv_iload_n hx hb dX8_sends_159 rfl (lv_at hl 4 rfl) ?_
    refine lv_if_ne (tgt := 177) hx hb dX8_sends_160 (by decide) (fun _ => ?_) (fun h => absurd h (by decide))
    refine lv_aload_n hx hb dX8_sends_177 rfl (lv_at hl 1 rfl) ?_
    refine lv_dup hx hb dX8_sends_178 rfl ?_
    refine g_get C hW inX8 0 rfl rfl rfl 31 (by decide) (List.mem_of_getElem? (i := 5) rfl) (v := .int (v0_15 31 0)) rfl dX8_sends_179 ?_
    refine lv_aload_n hx hb dX8_sends_182 rfl (lv_at hl 1 rfl) ?_
    refine lv_iload_n hx hb dX8_sends_183 rfl (lv_at hl 2 rfl) ?_
    obtain ⟨y18, hc, hf⟩ := bd_of hf
    refine g_cV (Cn := RX8) C (ct_X8_lettersIn g l N a0 x1 v0_15 hc) gX8_sends_X8_lettersIn rfl 1 (by decide +kernel) ⟨rfl, rfl, ⟨Nat.le_of_ble_eq_true rfl, Nat.le_of_ble_eq_true rfl⟩, Nat.le_of_ble_eq_true rfl, Nat.le_of_ble_eq_true rfl⟩ rfl hl (Nat.le_of_ble_eq_true rfl) dX8_sends_184 rfl hW hA [0] rfl rfl rfl (ch' := [kX8 g a0 v0_15]) rfl 0 rfl rfl rfl (fun H locs hW => ?_)
    refine lv_iadd hx hb dX8_sends_187 ?_
    refine g_put C hW inX8 tyX8_ok nmX8 0 rfl rfl rfl 31 (by decide) (List.mem_of_getElem? (i := 5) rfl) rfl rfl rfl rfl (kX8_s31 g a0 v0_15 ((v0_15 31 0) + y18)) (ch' := [kX8 g a0 (st v0_15 31 (fun _ => ((v0_15 31 0) + y18)))]) rfl dX8_sends_188 (fun H locs hW => ?_)
    refine lv_aload_n hx hb dX8_sends_191 rfl (lv_at hl 1 rfl) ?_
    refine g_get C hW inX8 0 rfl rfl rfl 16 (by decide) (List.mem_of_getElem? (i := 1) rfl) (v := .ref (a0 5)) rfl dX8_sends_192 ?_
    refine lv_iload_n hx hb dX8_sends_195 rfl (lv_at hl 3 rfl) ?_
    refine lv_iconst (v := (3 : Int32)) hx hb dX8_sends_196 (by decide) ?_
    obtain ⟨y19, hc, hf⟩ := bd_of hf
    refine g_cS C (ct_X8_ofTerminal g l N ((v0 16) (Int32.toNatClampNeg y1)) (3 : Int32) hc) gX8_sends_X8_ofTerminal rfl 2 (by decide +kernel) ⟨rfl, rfl, ⟨Nat.le_of_ble_eq_true rfl, Nat.le_of_ble_eq_true rfl⟩, Nat.le_of_ble_eq_true rfl, Nat.le_of_ble_eq_true rfl⟩ rfl hl (Nat.le_of_ble_eq_true rfl) dX8_sends_197 rfl hW hA [] rfl rfl rfl (ch' := [kX8 g a0 (st v0_15 31 (fun _ => ((v0_15 31 0) + y18)))]) rfl (fun H locs hW => ?_)
    refine lv_aload_n hx hb dX8_sends_200 rfl (lv_at hl 1 rfl) ?_
    refine g_get C hW inX8 0 rfl rfl rfl 16 (by decide) (List.mem_of_getElem? (i := 1) rfl) (v := .ref (a0 5)) rfl dX8_sends_201 ?_
    refine lv_iload_n hx hb dX8_sends_204 rfl (lv_at hl 2 rfl) ?_
    refine lv_iconst (v := (3 : Int32)) hx hb dX8_sends_205 (by decide) ?_
    obtain ⟨y20, hc, hf⟩ := bd_of hf
    refine g_cS C (ct_X8_ofBlock g l N x1 (3 : Int32) hc) gX8_sends_X8_ofBlock rfl 2 (by decide +kernel) ⟨rfl, rfl, ⟨Nat.le_of_ble_eq_true rfl, Nat.le_of_ble_eq_true rfl⟩, Nat.le_of_ble_eq_true rfl, Nat.le_of_ble_eq_true rfl⟩ rfl hl (Nat.le_of_ble_eq_true rfl) dX8_sends_206 rfl hW hA [] rfl rfl rfl (ch' := [kX8 g a0 (st v0_15 31 (fun _ => ((v0_15 31 0) + y18)))]) rfl (fun H locs hW => ?_)
    obtain ⟨hi, hf⟩ := gd_of hf
    refine g_iald C hW 0 5 rfl (f := (v0_15 16)) rfl (ib_in hi) dX8_sends_209 ?_
    refine lv_bipush (v := (-9 : Int32)) hx hb dX8_sends_210 (by decide) ?_
    refine lv_icmp_eq (tgt := 228) hx hb dX8_sends_212 (by decide) (fun h => ?_) (fun h => ?_)
    · replace hf := (if_pos h).symm.trans hf
      refine lv_iload hx hb dX8_sends_228 (lv_at hl 0 rfl) ?_
      refine lv_if_le (tgt := 238) hx hb dX8_sends_230 (by decide) (fun h => ?_) (fun h => ?_)
      · replace hf := (if_pos h).symm.trans hf
        refine lv_iconst (v := (0 : Int32)) hx hb dX8_sends_238 (by decide) ?_
        obtain ⟨hi, hf⟩ := gd_of hf
        refine g_iast C hW 0 5 rfl (f := (v0_15 16)) rfl (ib_in hi) (kX8_w16 g a0 (st v0_15 31 (fun _ => ((v0_15 31 0) + y18))) (upd (v0_15 16) (Int32.toNatClampNeg y19) (0 : Int32))) (ch' := [kX8 g a0 (st (st v0_15 31 (fun _ => ((v0_15 31 0) + y18))) 16 (upd (v0_15 16) (Int32.toNatClampNeg y19) (0 : Int32)))]) rfl dX8_sends_239 (fun H locs hW => ?_)
        refine lv_aload_n hx hb dX8_sends_240 rfl (lv_at hl 1 rfl) ?_
        refine g_get C hW inX8 0 rfl rfl rfl 16 (by decide) (List.mem_of_getElem? (i := 1) rfl) (v := .ref (a0 5)) rfl dX8_sends_241 ?_
        refine lv_iload_n hx hb dX8_sends_244 rfl (lv_at hl 2 rfl) ?_
        refine lv_iconst (v := (1 : Int32)) hx hb dX8_sends_245 (by decide) ?_
        obtain ⟨y21, hc, hf⟩ := bd_of hf
        refine g_cS C (ct_X8_ofBlock g l N x1 (1 : Int32) hc) gX8_sends_X8_ofBlock rfl 2 (by decide +kernel) ⟨rfl, rfl, ⟨Nat.le_of_ble_eq_true rfl, Nat.le_of_ble_eq_true rfl⟩, Nat.le_of_ble_eq_true rfl, Nat.le_of_ble_eq_true rfl⟩ rfl hl (Nat.le_of_ble_eq_true rfl) dX8_sends_246 rfl hW hA [] rfl rfl rfl (ch' := [kX8 g a0 (st (st v0_15 31 (fun _ => ((v0_15 31 0) + y18))) 16 (upd (v0_15 16) (Int32.toNatClampNeg y19) (0 : Int32)))]) rfl (fun H locs hW => ?_)
        refine lv_iconst (v := (-1 : Int32)) hx hb dX8_sends_249 (by decide) ?_
        obtain ⟨hi, hf⟩ := gd_of hf
        refine g_iast C hW 0 5 rfl (f := (upd (v0_15 16) (Int32.toNatClampNeg y19) (0 : Int32))) rfl (ib_in hi) (kX8_w16 g a0 (st (st v0_15 31 (fun _ => ((v0_15 31 0) + y18))) 16 (upd (v0_15 16) (Int32.toNatClampNeg y19) (0 : Int32))) (upd (upd (v0_15 16) (Int32.toNatClampNeg y19) (0 : Int32)) (Int32.toNatClampNeg y21) (-1 : Int32))) (ch' := [kX8 g a0 (st (st (st v0_15 31 (fun _ => ((v0_15 31 0) + y18))) 16 (upd (v0_15 16) (Int32.toNatClampNeg y19) (0 : Int32))) 16 (upd (upd (v0_15 16) (Int32.toNatClampNeg y19) (0 : Int32)) (Int32.toNatClampNeg y21) (-1 : Int32)))]) rfl dX8_sends_250 (fun H locs hW => ?_)
        obtain rfl := Option.some.inj hf
        subst hQ
        exact g_vret C hr hk0 hW rfl rfl dX8_sends_251
      · replace hf := (if_neg h).symm.trans hf
        refine lv_iload hx hb dX8_sends_233 (lv_at hl 0 rfl) ?_
        refine lv_goto (tgt := 239) hx hb dX8_sends_235 (by decide) ?_
        obtain ⟨hi, hf⟩ := gd_of hf
        refine g_iast C hW 0 5 rfl (f := (v0_15 16)) rfl (ib_in hi) (kX8_w16 g a0 (st v0_15 31 (fun _ => ((v0_15 31 0) + y18))) (upd (v0_15 16) (Int32.toNatClampNeg y19) (((v0_15 16) (Int32.toNatClampNeg y16)) - y17))) (ch' := [kX8 g a0 (st (st v0_15 31 (fun _ => ((v0_15 31 0) + y18))) 16 (upd (v0_15 16) (Int32.toNatClampNeg y19) (((v0_15 16) (Int32.toNatClampNeg y16)) - y17)))]) rfl dX8_sends_239 (fun H locs hW => ?_)
        refine lv_aload_n hx hb dX8_sends_240 rfl (lv_at hl 1 rfl) ?_
        refine g_get C hW inX8 0 rfl rfl rfl 16 (by decide) (List.mem_of_getElem? (i := 1) rfl) (v := .ref (a0 5)) rfl dX8_sends_241 ?_
        refine lv_iload_n hx hb dX8_sends_244 rfl (lv_at hl 2 rfl) ?_
        refine lv_iconst (v := (1 : Int32)) hx hb dX8_sends_245 (by decide) ?_
        obtain ⟨y22, hc, hf⟩ := bd_of hf
        refine g_cS C (ct_X8_ofBlock g l N x1 (1 : Int32) hc) gX8_sends_X8_ofBlock rfl 2 (by decide +kernel) ⟨rfl, rfl, ⟨Nat.le_of_ble_eq_true rfl, Nat.le_of_ble_eq_true rfl⟩, Nat.le_of_ble_eq_true rfl, Nat.le_of_ble_eq_true rfl⟩ rfl hl (Nat.le_of_ble_eq_true rfl) dX8_sends_246 rfl hW hA [] rfl rfl rfl (ch' := [kX8 g a0 (st (st v0_15 31 (fun _ => ((v0_15 31 0) + y18))) 16 (upd (v0_15 16) (Int32.toNatClampNeg y19) (((v0_15 16) (Int32.toNatClampNeg y16)) - y17)))]) rfl (fun H locs hW => ?_)
        refine lv_iconst (v := (-1 : Int32)) hx hb dX8_sends_249 (by decide) ?_
        obtain ⟨hi, hf⟩ := gd_of hf
        refine g_iast C hW 0 5 rfl (f := (upd (v0_15 16) (Int32.toNatClampNeg y19) (((v0_15 16) (Int32.toNatClampNeg y16)) - y17))) rfl (ib_in hi) (kX8_w16 g a0 (st (st v0_15 31 (fun _ => ((v0_15 31 0) + y18))) 16 (upd (v0_15 16) (Int32.toNatClampNeg y19) (((v0_15 16) (Int32.toNatClampNeg y16)) - y17))) (upd (upd (v0_15 16) (Int32.toNatClampNeg y19) (((v0_15 16) (Int32.toNatClampNeg y16)) - y17)) (Int32.toNatClampNeg y22) (-1 : Int32))) (ch' := [kX8 g a0 (st (st (st v0_15 31 (fun _ => ((v0_15 31 0) + y18))) 16 (upd (v0_15 16) (Int32.toNatClampNeg y19) (((v0_15 16) (Int32.toNatClampNeg y16)) - y17))) 16 (upd (upd (v0_15 16) (Int32.toNatClampNeg y19) (((v0_15 16) (Int32.toNatClampNeg y16)) - y17)) (Int32.toNatClampNeg y22) (-1 : Int32)))]) rfl dX8_sends_250 (fun H locs hW => ?_)
        obtain rfl := Option.some.inj hf
        subst hQ
        exact g_vret C hr hk0 hW rfl rfl dX8_sends_251
    · replace hf := (if_neg h).symm.trans hf
      refine lv_aload_n hx hb dX8_sends_215 rfl (lv_at hl 1 rfl) ?_
      refine g_get C hW inX8 0 rfl rfl rfl 16 (by decide) (List.mem_of_getElem? (i := 1) rfl) (v := .ref (a0 5)) rfl dX8_sends_216 ?_
      refine lv_iload_n hx hb dX8_sends_219 rfl (lv_at hl 2 rfl) ?_
      refine lv_iconst (v := (3 : Int32)) hx hb dX8_sends_220 (by decide) ?_
      obtain ⟨y23, hc, hf⟩ := bd_of hf
      refine g_cS C (ct_X8_ofBlock g l N x1 (3 : Int32) hc) gX8_sends_X8_ofBlock rfl 2 (by decide +kernel) ⟨rfl, rfl, ⟨Nat.le_of_ble_eq_true rfl, Nat.le_of_ble_eq_true rfl⟩, Nat.le_of_ble_eq_true rfl, Nat.le_of_ble_eq_true rfl⟩ rfl hl (Nat.le_of_ble_eq_true rfl) dX8_sends_221 rfl hW hA [] rfl rfl rfl (ch' := [kX8 g a0 (st v0_15 31 (fun _ => ((v0_15 31 0) + y18)))]) rfl (fun H locs hW => ?_)
      obtain ⟨hi, hf⟩ := gd_of hf
      refine g_iald C hW 0 5 rfl (f := (v0_15 16)) rfl (ib_in hi) dX8_sends_224 ?_
      refine lv_goto (tgt := 239) hx hb dX8_sends_225 (by decide) ?_
      obtain ⟨hi, hf⟩ := gd_of hf
      refine g_iast C hW 0 5 rfl (f := (v0_15 16)) rfl (ib_in hi) (kX8_w16 g a0 (st v0_15 31 (fun _ => ((v0_15 31 0) + y18))) (upd (v0_15 16) (Int32.toNatClampNeg y19) ((v0_15 16) (Int32.toNatClampNeg y23)))) (ch' := [kX8 g a0 (st (st v0_15 31 (fun _ => ((v0_15 31 0) + y18))) 16 (upd (v0_15 16) (Int32.toNatClampNeg y19) ((v0_15 16) (Int32.toNatClampNeg y23))))]) rfl dX8_sends_239 (fun H locs hW => ?_)
      refine lv_aload_n hx hb dX8_sends_240 rfl (lv_at hl 1 rfl) ?_
      refine g_get C hW inX8 0 rfl rfl rfl 16 (by decide) (List.mem_of_getElem? (i := 1) rfl) (v := .ref (a0 5)) rfl dX8_sends_241 ?_
      refine lv_iload_n hx hb dX8_sends_244 rfl (lv_at hl 2 rfl) ?_
      refine lv_iconst (v := (1 : Int32)) hx hb dX8_sends_245 (by decide) ?_
      obtain ⟨y24, hc, hf⟩ := bd_of hf
      refine g_cS C (ct_X8_ofBlock g l N x1 (1 : Int32) hc) gX8_sends_X8_ofBlock rfl 2 (by decide +kernel) ⟨rfl, rfl, ⟨Nat.le_of_ble_eq_true rfl, Nat.le_of_ble_eq_true rfl⟩, Nat.le_of_ble_eq_true rfl, Nat.le_of_ble_eq_true rfl⟩ rfl hl (Nat.le_of_ble_eq_true rfl) dX8_sends_246 rfl hW hA [] rfl rfl rfl (ch' := [kX8 g a0 (st (st v0_15 31 (fun _ => ((v0_15 31 0) + y18))) 16 (upd (v0_15 16) (Int32.toNatClampNeg y19) ((v0_15 16) (Int32.toNatClampNeg y23))))]) rfl (fun H locs hW => ?_)
      refine lv_iconst (v := (-1 : Int32)) hx hb dX8_sends_249 (by decide) ?_
      obtain ⟨hi, hf⟩ := gd_of hf
      refine g_iast C hW 0 5 rfl (f := (upd (v0_15 16) (Int32.toNatClampNeg y19) ((v0_15 16) (Int32.toNatClampNeg y23)))) rfl (ib_in hi) (kX8_w16 g a0 (st (st v0_15 31 (fun _ => ((v0_15 31 0) + y18))) 16 (upd (v0_15 16) (Int32.toNatClampNeg y19) ((v0_15 16) (Int32.toNatClampNeg y23)))) (upd (upd (v0_15 16) (Int32.toNatClampNeg y19) ((v0_15 16) (Int32.toNatClampNeg y23))) (Int32.toNatClampNeg y24) (-1 : Int32))) (ch' := [kX8 g a0 (st (st (st v0_15 31 (fun _ => ((v0_15 31 0) + y18))) 16 (upd (v0_15 16) (Int32.toNatClampNeg y19) ((v0_15 16) (Int32.toNatClampNeg y23)))) 16 (upd (upd (v0_15 16) (Int32.toNatClampNeg y19) ((v0_15 16) (Int32.toNatClampNeg y23))) (Int32.toNatClampNeg y24) (-1 : Int32)))]) rfl dX8_sends_250 (fun H locs hW => ?_)
      obtain rfl := Option.some.inj hf
      subst hQ
      exact g_vret C hr hk0 hW rfl rfl dX8_sends_251
def fX8_clearsGone_L30 (N : Nat) (k : Int32 → MM → Option (MM)) (x1 : Int32) (x2 : Int32) : Nat → Int32 → MM → Option (MM)
  | 0, _, _ => none
  | n + 1, x3, v0 => (if (10 : Int32) ≤ x3 then k x3 v0 else ((fX8_ofBlock N x1 x3).bind (fun y2 => ((fX8_ofBlock N x2 x3).bind (fun y3 => (if ib y3 667 = true then (if ib y2 667 = true then fX8_clearsGone_L30 N k x1 x2 n (x3 + 1) (st v0 16 (upd (v0 16) (Int32.toNatClampNeg y2) ((v0 16) (Int32.toNatClampNeg y3)))) else none) else none))))))
def fX8_clearsGone_L4 (N : Nat) (k : Int32 → Int32 → MM → Option (MM)) : Nat → Int32 → Int32 → MM → Option (MM)
  | 0, _, _, _ => none
  | n + 1, x1, x2, v0 => (if ib (3 : Int32) 667 = true then (if ((v0 16) (Int32.toNatClampNeg (3 : Int32))) ≤ x2 then k x1 x2 v0 else ((fX8_ofBlock N x2 (1 : Int32)).bind (fun y1 => (if ib y1 667 = true then (if ((v0 16) (Int32.toNatClampNeg y1)) = (-1 : Int32) then fX8_clearsGone_L4 N k n x1 (x2 + 1) v0 else (fX8_clearsGone_L30 N (fun (x3_4 : Int32) (v0_4 : MM) => fX8_clearsGone_L4 N k n (x1 + 1) (x2 + 1) v0_4) x1 x2 N (0 : Int32) v0)) else none)))) else none)
def fX8_clearsGone_L85 (N : Nat) (k : Int32 → MM → Option (MM)) (x1 : Int32) (x2 : Int32) : Nat → Int32 → MM → Option (MM)
  | 0, _, _ => none
  | n + 1, x3, v0 => (if (10 : Int32) ≤ x3 then k x3 v0 else ((fX8_ofBlock N x2 x3).bind (fun y6 => (if ib y6 667 = true then fX8_clearsGone_L85 N k x1 x2 n (x3 + 1) (st v0 16 (upd (v0 16) (Int32.toNatClampNeg y6) (0 : Int32))) else none))))
def fX8_clearsGone_L73 (N : Nat) (k : Int32 → MM → Option (MM)) (x1 : Int32) : Nat → Int32 → MM → Option (MM)
  | 0, _, _ => none
  | n + 1, x2, v0 => (if ib (3 : Int32) 667 = true then (if ((v0 16) (Int32.toNatClampNeg (3 : Int32))) ≤ x2 then k x2 v0 else (fX8_clearsGone_L85 N (fun (x3_7 : Int32) (v0_7 : MM) => fX8_clearsGone_L73 N k x1 n (x2 + 1) v0_7) x1 x2 N (0 : Int32) v0)) else none)
def fX8_clearsGone (N : Nat) (v0 : MM) : Option (MM) := (fX8_clearsGone_L4 N (fun (x1_5 : Int32) (x2_5 : Int32) (v0_5 : MM) => (fX8_clearsGone_L73 N (fun (x2_8 : Int32) (v0_8 : MM) => (if ib (3 : Int32) 667 = true then some (st v0_8 16 (upd (v0_8 16) (Int32.toNatClampNeg (3 : Int32)) x1_5)) else none)) x1_5 N x1_5 v0_5)) N (0 : Int32) (0 : Int32) v0)
set_option maxHeartbeats 4000000 in
set_option maxRecDepth 100000 in
theorem ct_X8_clearsGone (g : GT) (l : Launch) (N : Nat) (a0 : Nat → Nat) (v0 : MM) {y : MM} (hf : fX8_clearsGone N v0 = some y) : ct g l yX8_clearsGone wsX8_clearsGone (rmk 1 21) [.ref (a0 0)] [kX8 g a0 v0] none [kX8 g a0 y] := by
  refine ct_of (cc := cX8_clearsGone) (maxL := 4) (ret := none) (by decide) rfl (Nat.le_of_ble_eq_true rfl) ?_
  intro p e s m args below meth c A ls C hr hk0 hA hW hl
  have hx := C.1.1
  have hb := C.1.2.1
  replace hl : lv_has ls 4 [(0, .ref (a0 0))] := hl
  obtain ⟨Q, hQ⟩ : ∃ Q, Q = MQ below (ctQ g A none [kX8 g a0 y]) args s 0 0 A := ⟨_, rfl⟩
  rw [← hQ]
  obtain ⟨H, hH⟩ : ∃ H, H = s.heap := ⟨_, rfl⟩
  obtain ⟨locs, hL⟩ : ∃ locs : List Loc, locs = [] := ⟨_, rfl⟩
  replace hW : wd g A s.heap [kX8 g a0 v0] H locs := by rw [hH, hL]; exact hW
  suffices hG : W p l e (rmk 1 21) s m args below meth c H locs 0 0 Q (F0 m 0 ls []) by
    rw [hH, hL] at hG; exact hG
  clear hH hL
  have inX8 : ∀ w ∈ wsX80, w ∈ wsX8_clearsGone := fun _ h => List.mem_cons_of_mem _ (List.mem_append_right _ (h))
  have L30 : ∀ (x1 : Int32) (x2 : Int32) (k : Int32 → MM → Option (MM)) (hk : ∀ (x3 : Int32) (v0 : MM) (H : Heap) (locs : List Loc) (ls : Array Slot), k x3 v0 = some y → wd g A s.heap [kX8 g a0 v0] H locs → lv_has ls 4 [(0, .ref (a0 0)), (1, .int x1), (2, .int x2), (3, .int x3)] → W p l e (rmk 1 21) s m args below meth c H locs 0 0 Q (F0 m 62 ls [])) (n : Nat) (x3 : Int32) (v0 : MM) (H : Heap) (locs : List Loc) (ls : Array Slot), fX8_clearsGone_L30 N k x1 x2 n x3 v0 = some y → wd g A s.heap [kX8 g a0 v0] H locs → lv_has ls 4 [(0, .ref (a0 0)), (1, .int x1), (2, .int x2), (3, .int x3)] → W p l e (rmk 1 21) s m args below meth c H locs 0 0 Q (F0 m 30 ls []) := by
    intro x1 x2 k hk n
    induction n with
    | zero => intro x3 v0 H locs ls hf; rw [fX8_clearsGone_L30] at hf; cases hf
    | succ n ih =>
      intro x3 v0 H locs ls hf hW hl
      rw [fX8_clearsGone_L30] at hf
      refine lv_iload_n hx hb dX8_clearsGone_30 rfl (lv_at hl 3 rfl) ?_
      refine lv_bipush (v := (10 : Int32)) hx hb dX8_clearsGone_31 (by decide) ?_
      refine lv_icmp_ge (tgt := 62) hx hb dX8_clearsGone_33 (by decide) (fun h => ?_) (fun h => ?_)
      · replace hf := (if_pos h).symm.trans hf
        exact hk _ _ H locs ls hf hW (lv_sub hl [0, 1, 2, 3] rfl)
      · replace hf := (if_neg h).symm.trans hf
        refine lv_aload_n hx hb dX8_clearsGone_36 rfl (lv_at hl 0 rfl) ?_
        refine g_get C hW inX8 0 rfl rfl rfl 16 (by decide) (List.mem_of_getElem? (i := 1) rfl) (v := .ref (a0 5)) rfl dX8_clearsGone_37 ?_
        refine lv_iload_n hx hb dX8_clearsGone_40 rfl (lv_at hl 1 rfl) ?_
        refine lv_iload_n hx hb dX8_clearsGone_41 rfl (lv_at hl 3 rfl) ?_
        obtain ⟨y2, hc, hf⟩ := bd_of hf
        refine g_cS C (ct_X8_ofBlock g l N x1 x3 hc) gX8_clearsGone_X8_ofBlock rfl 2 (by decide +kernel) ⟨rfl, rfl, ⟨Nat.le_of_ble_eq_true rfl, Nat.le_of_ble_eq_true rfl⟩, Nat.le_of_ble_eq_true rfl, Nat.le_of_ble_eq_true rfl⟩ rfl hl (Nat.le_of_ble_eq_true rfl) dX8_clearsGone_42 rfl hW hA [] rfl rfl rfl (ch' := [kX8 g a0 v0]) rfl (fun H locs hW => ?_)
        refine lv_aload_n hx hb dX8_clearsGone_45 rfl (lv_at hl 0 rfl) ?_
        refine g_get C hW inX8 0 rfl rfl rfl 16 (by decide) (List.mem_of_getElem? (i := 1) rfl) (v := .ref (a0 5)) rfl dX8_clearsGone_46 ?_
        refine lv_iload_n hx hb dX8_clearsGone_49 rfl (lv_at hl 2 rfl) ?_
        refine lv_iload_n hx hb dX8_clearsGone_50 rfl (lv_at hl 3 rfl) ?_
        obtain ⟨y3, hc, hf⟩ := bd_of hf
        refine g_cS C (ct_X8_ofBlock g l N x2 x3 hc) gX8_clearsGone_X8_ofBlock rfl 2 (by decide +kernel) ⟨rfl, rfl, ⟨Nat.le_of_ble_eq_true rfl, Nat.le_of_ble_eq_true rfl⟩, Nat.le_of_ble_eq_true rfl, Nat.le_of_ble_eq_true rfl⟩ rfl hl (Nat.le_of_ble_eq_true rfl) dX8_clearsGone_51 rfl hW hA [] rfl rfl rfl (ch' := [kX8 g a0 v0]) rfl (fun H locs hW => ?_)
        obtain ⟨hi, hf⟩ := gd_of hf
        refine g_iald C hW 0 5 rfl (f := (v0 16)) rfl (ib_in hi) dX8_clearsGone_54 ?_
        obtain ⟨hi, hf⟩ := gd_of hf
        refine g_iast C hW 0 5 rfl (f := (v0 16)) rfl (ib_in hi) (kX8_w16 g a0 v0 (upd (v0 16) (Int32.toNatClampNeg y2) ((v0 16) (Int32.toNatClampNeg y3)))) (ch' := [kX8 g a0 (st v0 16 (upd (v0 16) (Int32.toNatClampNeg y2) ((v0 16) (Int32.toNatClampNeg y3))))]) rfl dX8_clearsGone_55 (fun H locs hW => ?_)
        refine lv_iinc (v := (x3 + 1)) (lv' := [(3, .int (x3 + 1)), (0, .ref (a0 0)), (1, .int x1), (2, .int x2)]) hx hb dX8_clearsGone_56 hl (k := 3) rfl (by first | rfl | decide) (by decide) rfl (fun ls hl => ?_)
        refine lv_goto (tgt := 30) hx hb dX8_clearsGone_59 (by decide) ?_
        exact ih _ _ H locs ls hf hW (lv_sub hl [1, 2, 3, 0] rfl)
  have L4 : ∀ (k : Int32 → Int32 → MM → Option (MM)) (hk : ∀ (x1 : Int32) (x2 : Int32) (v0 : MM) (H : Heap) (locs : List Loc) (ls : Array Slot), k x1 x2 v0 = some y → wd g A s.heap [kX8 g a0 v0] H locs → lv_has ls 4 [(0, .ref (a0 0)), (1, .int x1), (2, .int x2)] → W p l e (rmk 1 21) s m args below meth c H locs 0 0 Q (F0 m 71 ls [])) (n : Nat) (x1 : Int32) (x2 : Int32) (v0 : MM) (H : Heap) (locs : List Loc) (ls : Array Slot), fX8_clearsGone_L4 N k n x1 x2 v0 = some y → wd g A s.heap [kX8 g a0 v0] H locs → lv_has ls 4 [(0, .ref (a0 0)), (1, .int x1), (2, .int x2)] → W p l e (rmk 1 21) s m args below meth c H locs 0 0 Q (F0 m 4 ls []) := by
    intro k hk n
    induction n with
    | zero => intro x1 x2 v0 H locs ls hf; rw [fX8_clearsGone_L4] at hf; cases hf
    | succ n ih =>
      intro x1 x2 v0 H locs ls hf hW hl
      rw [fX8_clearsGone_L4] at hf
      refine lv_iload_n hx hb dX8_clearsGone_4 rfl (lv_at hl 2 rfl) ?_
      refine lv_aload_n hx hb dX8_clearsGone_5 rfl (lv_at hl 0 rfl) ?_
      refine g_get C hW inX8 0 rfl rfl rfl 16 (by decide) (List.mem_of_getElem? (i := 1) rfl) (v := .ref (a0 5)) rfl dX8_clearsGone_6 ?_
      refine lv_iconst (v := (3 : Int32)) hx hb dX8_clearsGone_9 (by decide) ?_
      obtain ⟨hi, hf⟩ := gd_of hf
      refine g_iald C hW 0 5 rfl (f := (v0 16)) rfl (ib_in hi) dX8_clearsGone_10 ?_
      refine lv_icmp_ge (tgt := 71) hx hb dX8_clearsGone_11 (by decide) (fun h => ?_) (fun h => ?_)
      · replace hf := (if_pos h).symm.trans hf
        exact hk _ _ _ H locs ls hf hW (lv_sub hl [0, 1, 2] rfl)
      · replace hf := (if_neg h).symm.trans hf
        refine lv_aload_n hx hb dX8_clearsGone_14 rfl (lv_at hl 0 rfl) ?_
        refine g_get C hW inX8 0 rfl rfl rfl 16 (by decide) (List.mem_of_getElem? (i := 1) rfl) (v := .ref (a0 5)) rfl dX8_clearsGone_15 ?_
        refine lv_iload_n hx hb dX8_clearsGone_18 rfl (lv_at hl 2 rfl) ?_
        refine lv_iconst (v := (1 : Int32)) hx hb dX8_clearsGone_19 (by decide) ?_
        obtain ⟨y1, hc, hf⟩ := bd_of hf
        refine g_cS C (ct_X8_ofBlock g l N x2 (1 : Int32) hc) gX8_clearsGone_X8_ofBlock rfl 2 (by decide +kernel) ⟨rfl, rfl, ⟨Nat.le_of_ble_eq_true rfl, Nat.le_of_ble_eq_true rfl⟩, Nat.le_of_ble_eq_true rfl, Nat.le_of_ble_eq_true rfl⟩ rfl hl (Nat.le_of_ble_eq_true rfl) dX8_clearsGone_20 rfl hW hA [] rfl rfl rfl (ch' := [kX8 g a0 v0]) rfl (fun H locs hW => ?_)
        obtain ⟨hi, hf⟩ := gd_of hf
        refine g_iald C hW 0 5 rfl (f := (v0 16)) rfl (ib_in hi) dX8_clearsGone_23 ?_
        refine lv_iconst (v := (-1 : Int32)) hx hb dX8_clearsGone_24 (by decide) ?_
        refine lv_icmp_eq (tgt := 65) hx hb dX8_clearsGone_25 (by decide) (fun h => ?_) (fun h => ?_)
        · replace hf := (if_pos h).symm.trans hf
          refine lv_iinc (v := (x2 + 1)) (lv' := [(2, .int (x2 + 1)), (0, .ref (a0 0)), (1, .int x1)]) hx hb dX8_clearsGone_65 hl (k := 2) rfl (by first | rfl | decide) (by decide) rfl (fun ls hl => ?_)
          refine lv_goto (tgt := 4) hx hb dX8_clearsGone_68 (by decide) ?_
          exact ih _ _ _ H locs ls hf hW (lv_sub hl [1, 2, 0] rfl)
        · replace hf := (if_neg h).symm.trans hf
          refine lv_iconst (v := (0 : Int32)) hx hb dX8_clearsGone_28 (by decide) ?_
          refine lv_istore_n (lv' := [(3, .int (0 : Int32)), (0, .ref (a0 0)), (1, .int x1), (2, .int x2)]) hx hb dX8_clearsGone_29 rfl hl (by decide) rfl (fun ls hl => ?_)
          refine L30 x1 x2 _ (fun x3_4 v0_4 H locs ls hf hW hl => ?_) N (0 : Int32) v0 H locs ls hf hW (lv_sub hl [1, 2, 3, 0] rfl)
          refine lv_iinc (v := (x1 + 1)) (lv' := [(1, .int (x1 + 1)), (0, .ref (a0 0)), (2, .int x2), (3, .int x3_4)]) hx hb dX8_clearsGone_62 hl (k := 1) rfl (by first | rfl | decide) (by decide) rfl (fun ls hl => ?_)
          refine lv_iinc (v := (x2 + 1)) (lv' := [(2, .int (x2 + 1)), (1, .int (x1 + 1)), (0, .ref (a0 0)), (3, .int x3_4)]) hx hb dX8_clearsGone_65 hl (k := 2) rfl (by first | rfl | decide) (by decide) rfl (fun ls hl => ?_)
          refine lv_goto (tgt := 4) hx hb dX8_clearsGone_68 (by decide) ?_
          exact ih _ _ _ H locs ls hf hW (lv_sub hl [2, 1, 0] rfl)
  have L85 : ∀ (x1 : Int32) (x2 : Int32) (k : Int32 → MM → Option (MM)) (hk : ∀ (x3 : Int32) (v0 : MM) (H : Heap) (locs : List Loc) (ls : Array Slot), k x3 v0 = some y → wd g A s.heap [kX8 g a0 v0] H locs → lv_has ls 4 [(0, .ref (a0 0)), (1, .int x1), (2, .int x2), (3, .int x3)] → W p l e (rmk 1 21) s m args below meth c H locs 0 0 Q (F0 m 108 ls [])) (n : Nat) (x3 : Int32) (v0 : MM) (H : Heap) (locs : List Loc) (ls : Array Slot), fX8_clearsGone_L85 N k x1 x2 n x3 v0 = some y → wd g A s.heap [kX8 g a0 v0] H locs → lv_has ls 4 [(0, .ref (a0 0)), (1, .int x1), (2, .int x2), (3, .int x3)] → W p l e (rmk 1 21) s m args below meth c H locs 0 0 Q (F0 m 85 ls []) := by
    intro x1 x2 k hk n
    induction n with
    | zero => intro x3 v0 H locs ls hf; rw [fX8_clearsGone_L85] at hf; cases hf
    | succ n ih =>
      intro x3 v0 H locs ls hf hW hl
      rw [fX8_clearsGone_L85] at hf
      refine lv_iload_n hx hb dX8_clearsGone_85 rfl (lv_at hl 3 rfl) ?_
      refine lv_bipush (v := (10 : Int32)) hx hb dX8_clearsGone_86 (by decide) ?_
      refine lv_icmp_ge (tgt := 108) hx hb dX8_clearsGone_88 (by decide) (fun h => ?_) (fun h => ?_)
      · replace hf := (if_pos h).symm.trans hf
        exact hk _ _ H locs ls hf hW (lv_sub hl [0, 1, 2, 3] rfl)
      · replace hf := (if_neg h).symm.trans hf
        refine lv_aload_n hx hb dX8_clearsGone_91 rfl (lv_at hl 0 rfl) ?_
        refine g_get C hW inX8 0 rfl rfl rfl 16 (by decide) (List.mem_of_getElem? (i := 1) rfl) (v := .ref (a0 5)) rfl dX8_clearsGone_92 ?_
        refine lv_iload_n hx hb dX8_clearsGone_95 rfl (lv_at hl 2 rfl) ?_
        refine lv_iload_n hx hb dX8_clearsGone_96 rfl (lv_at hl 3 rfl) ?_
        obtain ⟨y6, hc, hf⟩ := bd_of hf
        refine g_cS C (ct_X8_ofBlock g l N x2 x3 hc) gX8_clearsGone_X8_ofBlock rfl 2 (by decide +kernel) ⟨rfl, rfl, ⟨Nat.le_of_ble_eq_true rfl, Nat.le_of_ble_eq_true rfl⟩, Nat.le_of_ble_eq_true rfl, Nat.le_of_ble_eq_true rfl⟩ rfl hl (Nat.le_of_ble_eq_true rfl) dX8_clearsGone_97 rfl hW hA [] rfl rfl rfl (ch' := [kX8 g a0 v0]) rfl (fun H locs hW => ?_)
        refine lv_iconst (v := (0 : Int32)) hx hb dX8_clearsGone_100 (by decide) ?_
        obtain ⟨hi, hf⟩ := gd_of hf
        refine g_iast C hW 0 5 rfl (f := (v0 16)) rfl (ib_in hi) (kX8_w16 g a0 v0 (upd (v0 16) (Int32.toNatClampNeg y6) (0 : Int32))) (ch' := [kX8 g a0 (st v0 16 (upd (v0 16) (Int32.toNatClampNeg y6) (0 : Int32)))]) rfl dX8_clearsGone_101 (fun H locs hW => ?_)
        refine lv_iinc (v := (x3 + 1)) (lv' := [(3, .int (x3 + 1)), (0, .ref (a0 0)), (1, .int x1), (2, .int x2)]) hx hb dX8_clearsGone_102 hl (k := 3) rfl (by first | rfl | decide) (by decide) rfl (fun ls hl => ?_)
        refine lv_goto (tgt := 85) hx hb dX8_clearsGone_105 (by decide) ?_
        exact ih _ _ H locs ls hf hW (lv_sub hl [1, 2, 3, 0] rfl)
  have L73 : ∀ (x1 : Int32) (k : Int32 → MM → Option (MM)) (hk : ∀ (x2 : Int32) (v0 : MM) (H : Heap) (locs : List Loc) (ls : Array Slot), k x2 v0 = some y → wd g A s.heap [kX8 g a0 v0] H locs → lv_has ls 4 [(0, .ref (a0 0)), (1, .int x1), (2, .int x2)] → W p l e (rmk 1 21) s m args below meth c H locs 0 0 Q (F0 m 114 ls [])) (n : Nat) (x2 : Int32) (v0 : MM) (H : Heap) (locs : List Loc) (ls : Array Slot), fX8_clearsGone_L73 N k x1 n x2 v0 = some y → wd g A s.heap [kX8 g a0 v0] H locs → lv_has ls 4 [(0, .ref (a0 0)), (1, .int x1), (2, .int x2)] → W p l e (rmk 1 21) s m args below meth c H locs 0 0 Q (F0 m 73 ls []) := by
    intro x1 k hk n
    induction n with
    | zero => intro x2 v0 H locs ls hf; rw [fX8_clearsGone_L73] at hf; cases hf
    | succ n ih =>
      intro x2 v0 H locs ls hf hW hl
      rw [fX8_clearsGone_L73] at hf
      refine lv_iload_n hx hb dX8_clearsGone_73 rfl (lv_at hl 2 rfl) ?_
      refine lv_aload_n hx hb dX8_clearsGone_74 rfl (lv_at hl 0 rfl) ?_
      refine g_get C hW inX8 0 rfl rfl rfl 16 (by decide) (List.mem_of_getElem? (i := 1) rfl) (v := .ref (a0 5)) rfl dX8_clearsGone_75 ?_
      refine lv_iconst (v := (3 : Int32)) hx hb dX8_clearsGone_78 (by decide) ?_
      obtain ⟨hi, hf⟩ := gd_of hf
      refine g_iald C hW 0 5 rfl (f := (v0 16)) rfl (ib_in hi) dX8_clearsGone_79 ?_
      refine lv_icmp_ge (tgt := 114) hx hb dX8_clearsGone_80 (by decide) (fun h => ?_) (fun h => ?_)
      · replace hf := (if_pos h).symm.trans hf
        exact hk _ _ H locs ls hf hW (lv_sub hl [0, 1, 2] rfl)
      · replace hf := (if_neg h).symm.trans hf
        refine lv_iconst (v := (0 : Int32)) hx hb dX8_clearsGone_83 (by decide) ?_
        refine lv_istore_n (lv' := [(3, .int (0 : Int32)), (0, .ref (a0 0)), (1, .int x1), (2, .int x2)]) hx hb dX8_clearsGone_84 rfl hl (by decide) rfl (fun ls hl => ?_)
        refine L85 x1 x2 _ (fun x3_7 v0_7 H locs ls hf hW hl => ?_) N (0 : Int32) v0 H locs ls hf hW (lv_sub hl [1, 2, 3, 0] rfl)
        refine lv_iinc (v := (x2 + 1)) (lv' := [(2, .int (x2 + 1)), (0, .ref (a0 0)), (1, .int x1), (3, .int x3_7)]) hx hb dX8_clearsGone_108 hl (k := 2) rfl (by first | rfl | decide) (by decide) rfl (fun ls hl => ?_)
        refine lv_goto (tgt := 73) hx hb dX8_clearsGone_111 (by decide) ?_
        exact ih _ _ H locs ls hf hW (lv_sub hl [1, 2, 0] rfl)
  rw [fX8_clearsGone] at hf
  refine lv_iconst (v := (0 : Int32)) hx hb dX8_clearsGone_0 (by decide) ?_
  refine lv_istore_n (lv' := [(1, .int (0 : Int32)), (0, .ref (a0 0))]) hx hb dX8_clearsGone_1 rfl hl (by decide) rfl (fun ls hl => ?_)
  refine lv_iconst (v := (0 : Int32)) hx hb dX8_clearsGone_2 (by decide) ?_
  refine lv_istore_n (lv' := [(2, .int (0 : Int32)), (1, .int (0 : Int32)), (0, .ref (a0 0))]) hx hb dX8_clearsGone_3 rfl hl (by decide) rfl (fun ls hl => ?_)
  refine L4 _ (fun x1_5 x2_5 v0_5 H locs ls hf hW hl => ?_) N (0 : Int32) (0 : Int32) v0 H locs ls hf hW (lv_sub hl [2, 1, 0] rfl)
  refine lv_iload_n hx hb dX8_clearsGone_71 rfl (lv_at hl 1 rfl) ?_
  refine lv_istore_n (lv' := [(2, .int x1_5), (0, .ref (a0 0)), (1, .int x1_5)]) hx hb dX8_clearsGone_72 rfl hl (by decide) rfl (fun ls hl => ?_)
  refine L73 x1_5 _ (fun x2_8 v0_8 H locs ls hf hW hl => ?_) N x1_5 v0_5 H locs ls hf hW (lv_sub hl [1, 2, 0] rfl)
  refine lv_aload_n hx hb dX8_clearsGone_114 rfl (lv_at hl 0 rfl) ?_
  refine g_get C hW inX8 0 rfl rfl rfl 16 (by decide) (List.mem_of_getElem? (i := 1) rfl) (v := .ref (a0 5)) rfl dX8_clearsGone_115 ?_
  refine lv_iconst (v := (3 : Int32)) hx hb dX8_clearsGone_118 (by decide) ?_
  refine lv_iload_n hx hb dX8_clearsGone_119 rfl (lv_at hl 1 rfl) ?_
  obtain ⟨hi, hf⟩ := gd_of hf
  refine g_iast C hW 0 5 rfl (f := (v0_8 16)) rfl (ib_in hi) (kX8_w16 g a0 v0_8 (upd (v0_8 16) (Int32.toNatClampNeg (3 : Int32)) x1_5)) (ch' := [kX8 g a0 (st v0_8 16 (upd (v0_8 16) (Int32.toNatClampNeg (3 : Int32)) x1_5))]) rfl dX8_clearsGone_120 (fun H locs hW => ?_)
  obtain rfl := Option.some.inj hf
  subst hQ
  exact g_vret C hr hk0 hW rfl rfl dX8_clearsGone_121
