def fX7_hasTerminal (N : Nat) (x1 : Int32) (v0 : MM) (v1 : MM) : Option (Int32) := (if x1 < 0 then some (0 : Int32) else (if (v0 0 0) ≤ x1 then some (0 : Int32) else some (1 : Int32)))
set_option maxHeartbeats 4000000 in
set_option maxRecDepth 100000 in
theorem ct_X7_hasTerminal (g : GT) (l : Launch) (N : Nat) (a0 : Nat → Nat) (a1 : Nat → Nat) (q0 : Nat) (q2 : Nat) (q3 : Nat) (q4 : Nat) (q5 : Nat) (q6 : Nat) (q7 : Nat) (q8 : Nat) (q9 : Nat) (x1 : Int32) (v0 : MM) (v1 : MM) {y : Int32} (hf : fX7_hasTerminal N x1 v0 v1 = some y) : ct g l yX7_hasTerminal wsX7_hasTerminal (rmk 0 0) [.ref (a1 0), .int x1] [kX3 g a0 v0, kX7 g a1 q0 (a0 0) q2 q3 q4 q5 q6 q7 q8 q9 v1] (some (.int y)) [kX3 g a0 v0, kX7 g a1 q0 (a0 0) q2 q3 q4 q5 q6 q7 q8 q9 v1] := by
  refine ct_of (cc := cX7_hasTerminal) (maxL := 2) (ret := (some .boolean)) (by decide) rfl (Nat.le_of_ble_eq_true rfl) ?_
  intro p e s m args below meth c A ls C hr hk0 hA hW hl
  have hx := C.1.1
  have hb := C.1.2.1
  replace hl : lv_has ls 2 [(0, .ref (a1 0)), (1, .int x1)] := hl
  obtain ⟨Q, hQ⟩ : ∃ Q, Q = MQ below (ctQ g A (some (.int y)) [kX3 g a0 v0, kX7 g a1 q0 (a0 0) q2 q3 q4 q5 q6 q7 q8 q9 v1]) args s 0 0 A := ⟨_, rfl⟩
  rw [← hQ]
  obtain ⟨H, hH⟩ : ∃ H, H = s.heap := ⟨_, rfl⟩
  obtain ⟨locs, hL⟩ : ∃ locs : List Loc, locs = [] := ⟨_, rfl⟩
  replace hW : wd g A s.heap [kX3 g a0 v0, kX7 g a1 q0 (a0 0) q2 q3 q4 q5 q6 q7 q8 q9 v1] H locs := by rw [hH, hL]; exact hW
  suffices hG : W p l e (rmk 0 0) s m args below meth c H locs 0 0 Q (F0 m 0 ls []) by
    rw [hH, hL] at hG; exact hG
  clear hH hL
  have inX3 : ∀ w ∈ wsX30, w ∈ wsX7_hasTerminal := fun _ h => List.mem_cons_of_mem _ (List.mem_append_right _ (h))
  have inX7 : ∀ w ∈ wsX70, w ∈ wsX7_hasTerminal := fun _ h => List.mem_cons_of_mem _ (List.mem_append_left _ (List.mem_append_right _ (h)))
  rw [fX7_hasTerminal] at hf
  refine lv_iload_n hx hb dX7_hasTerminal_0 rfl (lv_at hl 1 rfl) ?_
  refine lv_if_lt (tgt := 19) hx hb dX7_hasTerminal_1 (by decide) (fun h => ?_) (fun h => ?_)
  · replace hf := (if_pos h).symm.trans hf
    refine lv_iconst (v := (0 : Int32)) hx hb dX7_hasTerminal_19 (by decide) ?_
    obtain rfl := Option.some.inj hf
    subst hQ
    exact g_zret C hr hk0 hW rfl rfl rfl dX7_hasTerminal_20
  · replace hf := (if_neg h).symm.trans hf
    refine lv_iload_n hx hb dX7_hasTerminal_4 rfl (lv_at hl 1 rfl) ?_
    refine lv_aload_n hx hb dX7_hasTerminal_5 rfl (lv_at hl 0 rfl) ?_
    refine g_get C hW inX7 1 rfl rfl rfl 1 (by decide) (List.mem_of_getElem? (i := 1) rfl) (v := .ref (a0 0)) rfl dX7_hasTerminal_6 ?_
    refine g_get C hW inX3 0 rfl rfl rfl 0 (by decide) (List.mem_of_getElem? (i := 2) rfl) (v := .int (v0 0 0)) rfl dX7_hasTerminal_9 ?_
    refine lv_icmp_ge (tgt := 19) hx hb dX7_hasTerminal_12 (by decide) (fun h => ?_) (fun h => ?_)
    · replace hf := (if_pos h).symm.trans hf
      refine lv_iconst (v := (0 : Int32)) hx hb dX7_hasTerminal_19 (by decide) ?_
      obtain rfl := Option.some.inj hf
      subst hQ
      exact g_zret C hr hk0 hW rfl rfl rfl dX7_hasTerminal_20
    · replace hf := (if_neg h).symm.trans hf
      refine lv_iconst (v := (1 : Int32)) hx hb dX7_hasTerminal_15 (by decide) ?_
      refine lv_goto (tgt := 20) hx hb dX7_hasTerminal_16 (by decide) ?_
      obtain rfl := Option.some.inj hf
      subst hQ
      exact g_zret C hr hk0 hW rfl rfl rfl dX7_hasTerminal_20
def fX7_hasClass (N : Nat) (x1 : Int32) (v0 : MM) (v1 : MM) : Option (Int32) := (if x1 < 0 then some (0 : Int32) else (if (v0 1 0) ≤ x1 then some (0 : Int32) else some (1 : Int32)))
set_option maxHeartbeats 4000000 in
set_option maxRecDepth 100000 in
theorem ct_X7_hasClass (g : GT) (l : Launch) (N : Nat) (a0 : Nat → Nat) (a1 : Nat → Nat) (q0 : Nat) (q2 : Nat) (q3 : Nat) (q4 : Nat) (q5 : Nat) (q6 : Nat) (q7 : Nat) (q8 : Nat) (q9 : Nat) (x1 : Int32) (v0 : MM) (v1 : MM) {y : Int32} (hf : fX7_hasClass N x1 v0 v1 = some y) : ct g l yX7_hasClass wsX7_hasClass (rmk 0 0) [.ref (a1 0), .int x1] [kX3 g a0 v0, kX7 g a1 q0 (a0 0) q2 q3 q4 q5 q6 q7 q8 q9 v1] (some (.int y)) [kX3 g a0 v0, kX7 g a1 q0 (a0 0) q2 q3 q4 q5 q6 q7 q8 q9 v1] := by
  refine ct_of (cc := cX7_hasClass) (maxL := 2) (ret := (some .boolean)) (by decide) rfl (Nat.le_of_ble_eq_true rfl) ?_
  intro p e s m args below meth c A ls C hr hk0 hA hW hl
  have hx := C.1.1
  have hb := C.1.2.1
  replace hl : lv_has ls 2 [(0, .ref (a1 0)), (1, .int x1)] := hl
  obtain ⟨Q, hQ⟩ : ∃ Q, Q = MQ below (ctQ g A (some (.int y)) [kX3 g a0 v0, kX7 g a1 q0 (a0 0) q2 q3 q4 q5 q6 q7 q8 q9 v1]) args s 0 0 A := ⟨_, rfl⟩
  rw [← hQ]
  obtain ⟨H, hH⟩ : ∃ H, H = s.heap := ⟨_, rfl⟩
  obtain ⟨locs, hL⟩ : ∃ locs : List Loc, locs = [] := ⟨_, rfl⟩
  replace hW : wd g A s.heap [kX3 g a0 v0, kX7 g a1 q0 (a0 0) q2 q3 q4 q5 q6 q7 q8 q9 v1] H locs := by rw [hH, hL]; exact hW
  suffices hG : W p l e (rmk 0 0) s m args below meth c H locs 0 0 Q (F0 m 0 ls []) by
    rw [hH, hL] at hG; exact hG
  clear hH hL
  have inX3 : ∀ w ∈ wsX30, w ∈ wsX7_hasClass := fun _ h => List.mem_cons_of_mem _ (List.mem_append_right _ (h))
  have inX7 : ∀ w ∈ wsX70, w ∈ wsX7_hasClass := fun _ h => List.mem_cons_of_mem _ (List.mem_append_left _ (List.mem_append_right _ (h)))
  rw [fX7_hasClass] at hf
  refine lv_iload_n hx hb dX7_hasClass_0 rfl (lv_at hl 1 rfl) ?_
  refine lv_if_lt (tgt := 19) hx hb dX7_hasClass_1 (by decide) (fun h => ?_) (fun h => ?_)
  · replace hf := (if_pos h).symm.trans hf
    refine lv_iconst (v := (0 : Int32)) hx hb dX7_hasClass_19 (by decide) ?_
    obtain rfl := Option.some.inj hf
    subst hQ
    exact g_zret C hr hk0 hW rfl rfl rfl dX7_hasClass_20
  · replace hf := (if_neg h).symm.trans hf
    refine lv_iload_n hx hb dX7_hasClass_4 rfl (lv_at hl 1 rfl) ?_
    refine lv_aload_n hx hb dX7_hasClass_5 rfl (lv_at hl 0 rfl) ?_
    refine g_get C hW inX7 1 rfl rfl rfl 1 (by decide) (List.mem_of_getElem? (i := 1) rfl) (v := .ref (a0 0)) rfl dX7_hasClass_6 ?_
    refine g_get C hW inX3 0 rfl rfl rfl 1 (by decide) (List.mem_of_getElem? (i := 2) rfl) (v := .int (v0 1 0)) rfl dX7_hasClass_9 ?_
    refine lv_icmp_ge (tgt := 19) hx hb dX7_hasClass_12 (by decide) (fun h => ?_) (fun h => ?_)
    · replace hf := (if_pos h).symm.trans hf
      refine lv_iconst (v := (0 : Int32)) hx hb dX7_hasClass_19 (by decide) ?_
      obtain rfl := Option.some.inj hf
      subst hQ
      exact g_zret C hr hk0 hW rfl rfl rfl dX7_hasClass_20
    · replace hf := (if_neg h).symm.trans hf
      refine lv_iconst (v := (1 : Int32)) hx hb dX7_hasClass_15 (by decide) ?_
      refine lv_goto (tgt := 20) hx hb dX7_hasClass_16 (by decide) ?_
      obtain rfl := Option.some.inj hf
      subst hQ
      exact g_zret C hr hk0 hW rfl rfl rfl dX7_hasClass_20
def fX7_type (N : Nat) (x1 : Int32) (v0 : MM) (v1 : MM) : Option (Int32 × MM) := ((fX7_isWithin N x1 (0 : Int32) (255 : Int32)).bind (fun y1 => (if y1 = 0 then some ((-1 : Int32), v0) else ((fX6_add N x1 v0).bind (fun y2 => (if y2.1 = 0 then some ((-3 : Int32), y2.2) else some ((y2.2 1 0), y2.2)))))))
set_option maxHeartbeats 4000000 in
set_option maxRecDepth 100000 in
theorem ct_X7_type (g : GT) (l : Launch) (N : Nat) (a0 : Nat → Nat) (a1 : Nat → Nat) (q1 : Nat) (q2 : Nat) (q3 : Nat) (q4 : Nat) (q5 : Nat) (q6 : Nat) (q7 : Nat) (q8 : Nat) (q9 : Nat) (x1 : Int32) (v0 : MM) (v1 : MM) {y : Int32 × MM} (hf : fX7_type N x1 v0 v1 = some y) : ct g l yX7_type wsX7_type (rmk 1 22) [.ref (a1 0), .int x1] [kX6 g a0 v0, kX7 g a1 (a0 0) q1 q2 q3 q4 q5 q6 q7 q8 q9 v1] (some (.int y.1)) [kX6 g a0 y.2, kX7 g a1 (a0 0) q1 q2 q3 q4 q5 q6 q7 q8 q9 v1] := by
  refine ct_of (cc := cX7_type) (maxL := 2) (ret := (some .int)) (by decide) rfl (Nat.le_of_ble_eq_true rfl) ?_
  intro p e s m args below meth c A ls C hr hk0 hA hW hl
  have hx := C.1.1
  have hb := C.1.2.1
  replace hl : lv_has ls 2 [(0, .ref (a1 0)), (1, .int x1)] := hl
  obtain ⟨Q, hQ⟩ : ∃ Q, Q = MQ below (ctQ g A (some (.int y.1)) [kX6 g a0 y.2, kX7 g a1 (a0 0) q1 q2 q3 q4 q5 q6 q7 q8 q9 v1]) args s 0 0 A := ⟨_, rfl⟩
  rw [← hQ]
  obtain ⟨H, hH⟩ : ∃ H, H = s.heap := ⟨_, rfl⟩
  obtain ⟨locs, hL⟩ : ∃ locs : List Loc, locs = [] := ⟨_, rfl⟩
  replace hW : wd g A s.heap [kX6 g a0 v0, kX7 g a1 (a0 0) q1 q2 q3 q4 q5 q6 q7 q8 q9 v1] H locs := by rw [hH, hL]; exact hW
  suffices hG : W p l e (rmk 1 22) s m args below meth c H locs 0 0 Q (F0 m 0 ls []) by
    rw [hH, hL] at hG; exact hG
  clear hH hL
  have inX6 : ∀ w ∈ wsX60, w ∈ wsX7_type := fun _ h => List.mem_cons_of_mem _ (List.mem_append_right _ (h))
  have inX7 : ∀ w ∈ wsX70, w ∈ wsX7_type := fun _ h => List.mem_cons_of_mem _ (List.mem_append_left _ (List.mem_append_right _ (h)))
  rw [fX7_type] at hf
  refine lv_iload_n hx hb dX7_type_0 rfl (lv_at hl 1 rfl) ?_
  refine lv_iconst (v := (0 : Int32)) hx hb dX7_type_1 (by decide) ?_
  refine lv_sipush (v := (255 : Int32)) hx hb dX7_type_2 (by decide) ?_
  obtain ⟨y1, hc, hf⟩ := bd_of hf
  refine g_cS C (ct_X7_isWithin g l N x1 (0 : Int32) (255 : Int32) hc) gX7_type_X7_isWithin rfl 3 (by decide +kernel) ⟨rfl, rfl, ⟨Nat.le_of_ble_eq_true rfl, Nat.le_of_ble_eq_true rfl⟩, Nat.le_of_ble_eq_true rfl, Nat.le_of_ble_eq_true rfl⟩ rfl hl (Nat.le_of_ble_eq_true rfl) dX7_type_5 rfl hW hA [] rfl rfl rfl (ch' := [kX6 g a0 v0, kX7 g a1 (a0 0) q1 q2 q3 q4 q5 q6 q7 q8 q9 v1]) rfl (fun H locs hW => ?_)
  refine lv_if_ne (tgt := 13) hx hb dX7_type_8 (by decide) (fun h => ?_) (fun h => ?_)
  · replace hf := (if_neg h).symm.trans hf
    refine lv_aload_n hx hb dX7_type_13 rfl (lv_at hl 0 rfl) ?_
    refine g_get C hW inX7 1 rfl rfl rfl 0 (by decide) (List.mem_of_getElem? (i := 1) rfl) (v := .ref (a0 0)) rfl dX7_type_14 ?_
    refine lv_iload_n hx hb dX7_type_17 rfl (lv_at hl 1 rfl) ?_
    obtain ⟨y2, hc, hf⟩ := bd_of hf
    refine g_cV (Cn := RX6) C (ct_X6_add g l N a0 x1 v0 hc) gX7_type_X6_add rfl 1 (by decide +kernel) ⟨rfl, rfl, ⟨Nat.le_of_ble_eq_true rfl, Nat.le_of_ble_eq_true rfl⟩, Nat.le_of_ble_eq_true rfl, Nat.le_of_ble_eq_true rfl⟩ rfl hl (Nat.le_of_ble_eq_true rfl) dX7_type_18 rfl hW hA [0] rfl rfl rfl (ch' := [kX6 g a0 y2.2, kX7 g a1 (a0 0) q1 q2 q3 q4 q5 q6 q7 q8 q9 v1]) rfl 0 rfl rfl rfl (fun H locs hW => ?_)
    refine lv_if_eq (tgt := 34) hx hb dX7_type_21 (by decide) (fun h => ?_) (fun h => ?_)
    · replace hf := (if_pos h).symm.trans hf
      refine lv_bipush (v := (-3 : Int32)) hx hb dX7_type_34 (by decide) ?_
      obtain rfl := Option.some.inj hf
      subst hQ
      exact g_iret C hr hk0 hW rfl rfl dX7_type_36
    · replace hf := (if_neg h).symm.trans hf
      refine lv_aload_n hx hb dX7_type_24 rfl (lv_at hl 0 rfl) ?_
      refine g_get C hW inX7 1 rfl rfl rfl 0 (by decide) (List.mem_of_getElem? (i := 1) rfl) (v := .ref (a0 0)) rfl dX7_type_25 ?_
      refine g_get C hW inX6 0 rfl rfl rfl 1 (by decide) (List.mem_of_getElem? (i := 2) rfl) (v := .int (y2.2 1 0)) rfl dX7_type_28 ?_
      refine lv_goto (tgt := 36) hx hb dX7_type_31 (by decide) ?_
      obtain rfl := Option.some.inj hf
      subst hQ
      exact g_iret C hr hk0 hW rfl rfl dX7_type_36
  · replace hf := (if_pos h).symm.trans hf
    refine lv_iconst (v := (-1 : Int32)) hx hb dX7_type_11 (by decide) ?_
    obtain rfl := Option.some.inj hf
    subst hQ
    exact g_iret C hr hk0 hW rfl rfl dX7_type_12
def fX7_clear (N : Nat) (v0 : MM) (v1 : MM) : Option (Int32 × MM) := ((fX6_empty N v0).bind (fun y1 => some (y1.1, y1.2)))
set_option maxHeartbeats 4000000 in
set_option maxRecDepth 100000 in
theorem ct_X7_clear (g : GT) (l : Launch) (N : Nat) (a0 : Nat → Nat) (a1 : Nat → Nat) (q1 : Nat) (q2 : Nat) (q3 : Nat) (q4 : Nat) (q5 : Nat) (q6 : Nat) (q7 : Nat) (q8 : Nat) (q9 : Nat) (v0 : MM) (v1 : MM) {y : Int32 × MM} (hf : fX7_clear N v0 v1 = some y) : ct g l yX7_clear wsX7_clear (rmk 1 21) [.ref (a1 0)] [kX6 g a0 v0, kX7 g a1 (a0 0) q1 q2 q3 q4 q5 q6 q7 q8 q9 v1] (some (.int y.1)) [kX6 g a0 y.2, kX7 g a1 (a0 0) q1 q2 q3 q4 q5 q6 q7 q8 q9 v1] := by
  refine ct_of (cc := cX7_clear) (maxL := 1) (ret := (some .int)) (by decide) rfl (Nat.le_of_ble_eq_true rfl) ?_
  intro p e s m args below meth c A ls C hr hk0 hA hW hl
  have hx := C.1.1
  have hb := C.1.2.1
  replace hl : lv_has ls 1 [(0, .ref (a1 0))] := hl
  obtain ⟨Q, hQ⟩ : ∃ Q, Q = MQ below (ctQ g A (some (.int y.1)) [kX6 g a0 y.2, kX7 g a1 (a0 0) q1 q2 q3 q4 q5 q6 q7 q8 q9 v1]) args s 0 0 A := ⟨_, rfl⟩
  rw [← hQ]
  obtain ⟨H, hH⟩ : ∃ H, H = s.heap := ⟨_, rfl⟩
  obtain ⟨locs, hL⟩ : ∃ locs : List Loc, locs = [] := ⟨_, rfl⟩
  replace hW : wd g A s.heap [kX6 g a0 v0, kX7 g a1 (a0 0) q1 q2 q3 q4 q5 q6 q7 q8 q9 v1] H locs := by rw [hH, hL]; exact hW
  suffices hG : W p l e (rmk 1 21) s m args below meth c H locs 0 0 Q (F0 m 0 ls []) by
    rw [hH, hL] at hG; exact hG
  clear hH hL
  have inX7 : ∀ w ∈ wsX70, w ∈ wsX7_clear := fun _ h => List.mem_cons_of_mem _ (List.mem_append_left _ (List.mem_append_right _ (h)))
  rw [fX7_clear] at hf
  refine lv_aload_n hx hb dX7_clear_0 rfl (lv_at hl 0 rfl) ?_
  refine g_get C hW inX7 1 rfl rfl rfl 0 (by decide) (List.mem_of_getElem? (i := 1) rfl) (v := .ref (a0 0)) rfl dX7_clear_1 ?_
  obtain ⟨y1, hc, hf⟩ := bd_of hf
  refine g_cV (Cn := RX6) C (ct_X6_empty g l N a0 v0 hc) gX7_clear_X6_empty rfl 0 (by decide +kernel) ⟨rfl, rfl, ⟨Nat.le_of_ble_eq_true rfl, Nat.le_of_ble_eq_true rfl⟩, Nat.le_of_ble_eq_true rfl, Nat.le_of_ble_eq_true rfl⟩ rfl hl (Nat.le_of_ble_eq_true rfl) dX7_clear_4 rfl hW hA [0] rfl rfl rfl (ch' := [kX6 g a0 y1.2, kX7 g a1 (a0 0) q1 q2 q3 q4 q5 q6 q7 q8 q9 v1]) rfl 0 rfl rfl rfl (fun H locs hW => ?_)
  obtain rfl := Option.some.inj hf
  subst hQ
  exact g_iret C hr hk0 hW rfl rfl dX7_clear_7
def fX7_beginAnew (N : Nat) (v0 : MM) (v1 : MM) (v2 : MM) (v3 : MM) (v4 : MM) (v5 : MM) (v6 : MM) : Option (MM × MM × MM × MM × MM × MM) := ((fX4_begin N (v0 2 0) v2 v1).bind (fun y1 => some (y1.2, y1.1, (st v3 0 (fun _ => (0 : Int32))), (st v4 0 (fun _ => (0 : Int32))), (st v5 0 (fun _ => (0 : Int32))), (st v6 12 (fun _ => (0 : Int32))))))
set_option maxHeartbeats 4000000 in
set_option maxRecDepth 100000 in
theorem ct_X7_beginAnew (g : GT) (l : Launch) (N : Nat) (a0 : Nat → Nat) (a1 : Nat → Nat) (a2 : Nat → Nat) (a3 : Nat → Nat) (a4 : Nat → Nat) (a5 : Nat → Nat) (a6 : Nat → Nat) (q7_e0 : Nat) (q7_e1 : Nat) (q7_e2 : Nat) (q7_e3 : Nat) (q7_e4 : Nat) (q7_e5 : Nat) (q7_e6 : Nat) (q7_e7 : Nat) (q8_1 : Nat) (q9_1 : Nat) (q0 : Nat) (q2 : Nat) (q4 : Nat) (q5 : Nat) (q6 : Nat) (v0 : MM) (v1 : MM) (v2 : MM) (v3 : MM) (v4 : MM) (v5 : MM) (v6 : MM) {y : MM × MM × MM × MM × MM × MM} (hf : fX7_beginAnew N v0 v1 v2 v3 v4 v5 v6 = some y) : ct g l yX7_beginAnew wsX7_beginAnew (rmk 2 44) [.ref (a6 0)] [kX3 g a0 v0, kX4 g a1 (a2 0) v1, kX0 g a2 v2, kX1 g a3 q7_e0 q7_e1 q7_e2 q7_e3 q7_e4 q7_e5 q7_e6 q7_e7 v3, kX2 g a4 q8_1 v4, kX2 g a5 q9_1 v5, kX7 g a6 q0 (a0 0) q2 (a1 0) q4 q5 q6 (a3 0) (a4 0) (a5 0) v6] none [kX3 g a0 v0, kX4 g a1 (a2 0) y.1, kX0 g a2 y.2.1, kX1 g a3 q7_e0 q7_e1 q7_e2 q7_e3 q7_e4 q7_e5 q7_e6 q7_e7 y.2.2.1, kX2 g a4 q8_1 y.2.2.2.1, kX2 g a5 q9_1 y.2.2.2.2.1, kX7 g a6 q0 (a0 0) q2 (a1 0) q4 q5 q6 (a3 0) (a4 0) (a5 0) y.2.2.2.2.2] := by
  refine ct_of (cc := cX7_beginAnew) (maxL := 1) (ret := none) (by decide) rfl (Nat.le_of_ble_eq_true rfl) ?_
  intro p e s m args below meth c A ls C hr hk0 hA hW hl
  have hx := C.1.1
  have hb := C.1.2.1
  replace hl : lv_has ls 1 [(0, .ref (a6 0))] := hl
  obtain ⟨Q, hQ⟩ : ∃ Q, Q = MQ below (ctQ g A none [kX3 g a0 v0, kX4 g a1 (a2 0) y.1, kX0 g a2 y.2.1, kX1 g a3 q7_e0 q7_e1 q7_e2 q7_e3 q7_e4 q7_e5 q7_e6 q7_e7 y.2.2.1, kX2 g a4 q8_1 y.2.2.2.1, kX2 g a5 q9_1 y.2.2.2.2.1, kX7 g a6 q0 (a0 0) q2 (a1 0) q4 q5 q6 (a3 0) (a4 0) (a5 0) y.2.2.2.2.2]) args s 0 0 A := ⟨_, rfl⟩
  rw [← hQ]
  obtain ⟨H, hH⟩ : ∃ H, H = s.heap := ⟨_, rfl⟩
  obtain ⟨locs, hL⟩ : ∃ locs : List Loc, locs = [] := ⟨_, rfl⟩
  replace hW : wd g A s.heap [kX3 g a0 v0, kX4 g a1 (a2 0) v1, kX0 g a2 v2, kX1 g a3 q7_e0 q7_e1 q7_e2 q7_e3 q7_e4 q7_e5 q7_e6 q7_e7 v3, kX2 g a4 q8_1 v4, kX2 g a5 q9_1 v5, kX7 g a6 q0 (a0 0) q2 (a1 0) q4 q5 q6 (a3 0) (a4 0) (a5 0) v6] H locs := by rw [hH, hL]; exact hW
  suffices hG : W p l e (rmk 2 44) s m args below meth c H locs 0 0 Q (F0 m 0 ls []) by
    rw [hH, hL] at hG; exact hG
  clear hH hL
  have inX1 : ∀ w ∈ wsX10, w ∈ wsX7_beginAnew := fun _ h => List.mem_cons_of_mem _ (List.mem_append_left _ (List.mem_append_left _ (List.mem_append_left _ (List.mem_append_right _ (h)))))
  have inX2 : ∀ w ∈ wsX20, w ∈ wsX7_beginAnew := fun _ h => List.mem_cons_of_mem _ (List.mem_append_left _ (List.mem_append_left _ (List.mem_append_right _ (h))))
  have inX3 : ∀ w ∈ wsX30, w ∈ wsX7_beginAnew := fun _ h => List.mem_cons_of_mem _ (List.mem_append_left _ (List.mem_append_left _ (List.mem_append_left _ (List.mem_append_left _ (List.mem_append_right _ (h))))))
  have inX7 : ∀ w ∈ wsX70, w ∈ wsX7_beginAnew := fun _ h => List.mem_cons_of_mem _ (List.mem_append_left _ (List.mem_append_left _ (List.mem_append_left _ (List.mem_append_left _ (List.mem_append_left _ (List.mem_append_right _ (h)))))))
  rw [fX7_beginAnew] at hf
  refine lv_aload_n hx hb dX7_beginAnew_0 rfl (lv_at hl 0 rfl) ?_
  refine g_get C hW inX7 6 rfl rfl rfl 3 (by decide) (List.mem_of_getElem? (i := 1) rfl) (v := .ref (a1 0)) rfl dX7_beginAnew_1 ?_
  refine lv_aload_n hx hb dX7_beginAnew_4 rfl (lv_at hl 0 rfl) ?_
  refine g_get C hW inX7 6 rfl rfl rfl 1 (by decide) (List.mem_of_getElem? (i := 2) rfl) (v := .ref (a0 0)) rfl dX7_beginAnew_5 ?_
  refine g_get C hW inX3 0 rfl rfl rfl 2 (by decide) (List.mem_of_getElem? (i := 3) rfl) (v := .int (v0 2 0)) rfl dX7_beginAnew_8 ?_
  obtain ⟨y1, hc, hf⟩ := bd_of hf
  refine g_cVv (Cn := RX4) C (ct_X4_begin g l N a2 a1 (v0 2 0) v2 v1 hc) gX7_beginAnew_X4_begin rfl 1 (by decide +kernel) ⟨rfl, rfl, ⟨Nat.le_of_ble_eq_true rfl, Nat.le_of_ble_eq_true rfl⟩, Nat.le_of_ble_eq_true rfl, Nat.le_of_ble_eq_true rfl⟩ rfl hl (Nat.le_of_ble_eq_true rfl) dX7_beginAnew_11 rfl hW hA [2, 1] rfl rfl rfl (ch' := [kX3 g a0 v0, kX4 g a1 (a2 0) y1.2, kX0 g a2 y1.1, kX1 g a3 q7_e0 q7_e1 q7_e2 q7_e3 q7_e4 q7_e5 q7_e6 q7_e7 v3, kX2 g a4 q8_1 v4, kX2 g a5 q9_1 v5, kX7 g a6 q0 (a0 0) q2 (a1 0) q4 q5 q6 (a3 0) (a4 0) (a5 0) v6]) rfl 1 rfl rfl rfl (fun H locs hW => ?_)
  refine lv_aload_n hx hb dX7_beginAnew_14 rfl (lv_at hl 0 rfl) ?_
  refine g_get C hW inX7 6 rfl rfl rfl 7 (by decide) (List.mem_of_getElem? (i := 4) rfl) (v := .ref (a3 0)) rfl dX7_beginAnew_15 ?_
  refine lv_iconst (v := (0 : Int32)) hx hb dX7_beginAnew_18 (by decide) ?_
  refine g_put C hW inX1 tyX1_ok nmX1 3 rfl rfl rfl 0 (by decide) (List.mem_of_getElem? (i := 5) rfl) rfl rfl rfl rfl (kX1_s0 g a3 q7_e0 q7_e1 q7_e2 q7_e3 q7_e4 q7_e5 q7_e6 q7_e7 v3 (0 : Int32)) (ch' := [kX3 g a0 v0, kX4 g a1 (a2 0) y1.2, kX0 g a2 y1.1, kX1 g a3 q7_e0 q7_e1 q7_e2 q7_e3 q7_e4 q7_e5 q7_e6 q7_e7 (st v3 0 (fun _ => (0 : Int32))), kX2 g a4 q8_1 v4, kX2 g a5 q9_1 v5, kX7 g a6 q0 (a0 0) q2 (a1 0) q4 q5 q6 (a3 0) (a4 0) (a5 0) v6]) rfl dX7_beginAnew_19 (fun H locs hW => ?_)
  refine lv_aload_n hx hb dX7_beginAnew_22 rfl (lv_at hl 0 rfl) ?_
  refine g_get C hW inX7 6 rfl rfl rfl 8 (by decide) (List.mem_of_getElem? (i := 6) rfl) (v := .ref (a4 0)) rfl dX7_beginAnew_23 ?_
  refine lv_iconst (v := (0 : Int32)) hx hb dX7_beginAnew_26 (by decide) ?_
  refine g_put C hW inX2 tyX2_ok nmX2 4 rfl rfl rfl 0 (by decide) (List.mem_of_getElem? (i := 7) rfl) rfl rfl rfl rfl (kX2_s0 g a4 q8_1 v4 (0 : Int32)) (ch' := [kX3 g a0 v0, kX4 g a1 (a2 0) y1.2, kX0 g a2 y1.1, kX1 g a3 q7_e0 q7_e1 q7_e2 q7_e3 q7_e4 q7_e5 q7_e6 q7_e7 (st v3 0 (fun _ => (0 : Int32))), kX2 g a4 q8_1 (st v4 0 (fun _ => (0 : Int32))), kX2 g a5 q9_1 v5, kX7 g a6 q0 (a0 0) q2 (a1 0) q4 q5 q6 (a3 0) (a4 0) (a5 0) v6]) rfl dX7_beginAnew_27 (fun H locs hW => ?_)
  refine lv_aload_n hx hb dX7_beginAnew_30 rfl (lv_at hl 0 rfl) ?_
  refine g_get C hW inX7 6 rfl rfl rfl 9 (by decide) (List.mem_of_getElem? (i := 8) rfl) (v := .ref (a5 0)) rfl dX7_beginAnew_31 ?_
  refine lv_iconst (v := (0 : Int32)) hx hb dX7_beginAnew_34 (by decide) ?_
  refine g_put C hW inX2 tyX2_ok nmX2 5 rfl rfl rfl 0 (by decide) (List.mem_of_getElem? (i := 7) rfl) rfl rfl rfl rfl (kX2_s0 g a5 q9_1 v5 (0 : Int32)) (ch' := [kX3 g a0 v0, kX4 g a1 (a2 0) y1.2, kX0 g a2 y1.1, kX1 g a3 q7_e0 q7_e1 q7_e2 q7_e3 q7_e4 q7_e5 q7_e6 q7_e7 (st v3 0 (fun _ => (0 : Int32))), kX2 g a4 q8_1 (st v4 0 (fun _ => (0 : Int32))), kX2 g a5 q9_1 (st v5 0 (fun _ => (0 : Int32))), kX7 g a6 q0 (a0 0) q2 (a1 0) q4 q5 q6 (a3 0) (a4 0) (a5 0) v6]) rfl dX7_beginAnew_35 (fun H locs hW => ?_)
  refine lv_aload_n hx hb dX7_beginAnew_38 rfl (lv_at hl 0 rfl) ?_
  refine lv_iconst (v := (0 : Int32)) hx hb dX7_beginAnew_39 (by decide) ?_
  refine g_put C hW inX7 tyX7_ok nmX7 6 rfl rfl rfl 12 (by decide) (List.mem_of_getElem? (i := 9) rfl) rfl rfl rfl rfl (kX7_s12 g a6 q0 (a0 0) q2 (a1 0) q4 q5 q6 (a3 0) (a4 0) (a5 0) v6 (0 : Int32)) (ch' := [kX3 g a0 v0, kX4 g a1 (a2 0) y1.2, kX0 g a2 y1.1, kX1 g a3 q7_e0 q7_e1 q7_e2 q7_e3 q7_e4 q7_e5 q7_e6 q7_e7 (st v3 0 (fun _ => (0 : Int32))), kX2 g a4 q8_1 (st v4 0 (fun _ => (0 : Int32))), kX2 g a5 q9_1 (st v5 0 (fun _ => (0 : Int32))), kX7 g a6 q0 (a0 0) q2 (a1 0) q4 q5 q6 (a3 0) (a4 0) (a5 0) (st v6 12 (fun _ => (0 : Int32)))]) rfl dX7_beginAnew_40 (fun H locs hW => ?_)
  obtain rfl := Option.some.inj hf
  subst hQ
  exact g_vret C hr hk0 hW rfl rfl dX7_beginAnew_43
def fX7_cell (N : Nat) (v0 : MM) (v1 : MM) (v2 : MM) (v3 : MM) (v4 : MM) (v5 : MM) (v6 : MM) (v7 : MM) (v8 : MM) : Option (Int32 × MM × MM × MM × MM × MM × MM × MM × MM × MM) := ((fX6_readInto N v0 v2).bind (fun y1 => (if 0 ≤ y1.1 then ((fX3_copyFrom N v1 y1.2.2).bind (fun y2 => ((fX6_empty N y1.2.1).bind (fun y3 => ((fX7_beginAnew N y2 v3 v4 v5 v6 v7 v8).bind (fun y4 => some (y1.1, y3.2, y2, y1.2.2, y4.1, y4.2.1, y4.2.2.1, y4.2.2.2.1, y4.2.2.2.2.1, y4.2.2.2.2.2))))))) else some (y1.1, y1.2.1, v1, y1.2.2, v3, v4, v5, v6, v7, v8))))
set_option maxHeartbeats 4000000 in
set_option maxRecDepth 100000 in
theorem ct_X7_cell (g : GT) (l : Launch) (N : Nat) (a0 : Nat → Nat) (a1 : Nat → Nat) (a2 : Nat → Nat) (a3 : Nat → Nat) (a4 : Nat → Nat) (a5 : Nat → Nat) (a6 : Nat → Nat) (a7 : Nat → Nat) (a8 : Nat → Nat) (q7_e0 : Nat) (q7_e1 : Nat) (q7_e2 : Nat) (q7_e3 : Nat) (q7_e4 : Nat) (q7_e5 : Nat) (q7_e6 : Nat) (q7_e7 : Nat) (q8_1 : Nat) (q9_1 : Nat) (q4 : Nat) (q5 : Nat) (q6 : Nat) (v0 : MM) (v1 : MM) (v2 : MM) (v3 : MM) (v4 : MM) (v5 : MM) (v6 : MM) (v7 : MM) (v8 : MM) {y : Int32 × MM × MM × MM × MM × MM × MM × MM × MM × MM} (hf : fX7_cell N v0 v1 v2 v3 v4 v5 v6 v7 v8 = some y) : ct g l yX7_cell wsX7_cell (rmk 6 130) [.ref (a8 0)] [kX6 g a0 v0, kX3 g a1 v1, kX3 g a2 v2, kX4 g a3 (a4 0) v3, kX0 g a4 v4, kX1 g a5 q7_e0 q7_e1 q7_e2 q7_e3 q7_e4 q7_e5 q7_e6 q7_e7 v5, kX2 g a6 q8_1 v6, kX2 g a7 q9_1 v7, kX7 g a8 (a0 0) (a1 0) (a2 0) (a3 0) q4 q5 q6 (a5 0) (a6 0) (a7 0) v8] (some (.int y.1)) [kX6 g a0 y.2.1, kX3 g a1 y.2.2.1, kX3 g a2 y.2.2.2.1, kX4 g a3 (a4 0) y.2.2.2.2.1, kX0 g a4 y.2.2.2.2.2.1, kX1 g a5 q7_e0 q7_e1 q7_e2 q7_e3 q7_e4 q7_e5 q7_e6 q7_e7 y.2.2.2.2.2.2.1, kX2 g a6 q8_1 y.2.2.2.2.2.2.2.1, kX2 g a7 q9_1 y.2.2.2.2.2.2.2.2.1, kX7 g a8 (a0 0) (a1 0) (a2 0) (a3 0) q4 q5 q6 (a5 0) (a6 0) (a7 0) y.2.2.2.2.2.2.2.2.2] := by
  refine ct_of (cc := cX7_cell) (maxL := 2) (ret := (some .int)) (by decide) rfl (Nat.le_of_ble_eq_true rfl) ?_
  intro p e s m args below meth c A ls C hr hk0 hA hW hl
  have hx := C.1.1
  have hb := C.1.2.1
  replace hl : lv_has ls 2 [(0, .ref (a8 0))] := hl
  obtain ⟨Q, hQ⟩ : ∃ Q, Q = MQ below (ctQ g A (some (.int y.1)) [kX6 g a0 y.2.1, kX3 g a1 y.2.2.1, kX3 g a2 y.2.2.2.1, kX4 g a3 (a4 0) y.2.2.2.2.1, kX0 g a4 y.2.2.2.2.2.1, kX1 g a5 q7_e0 q7_e1 q7_e2 q7_e3 q7_e4 q7_e5 q7_e6 q7_e7 y.2.2.2.2.2.2.1, kX2 g a6 q8_1 y.2.2.2.2.2.2.2.1, kX2 g a7 q9_1 y.2.2.2.2.2.2.2.2.1, kX7 g a8 (a0 0) (a1 0) (a2 0) (a3 0) q4 q5 q6 (a5 0) (a6 0) (a7 0) y.2.2.2.2.2.2.2.2.2]) args s 0 0 A := ⟨_, rfl⟩
  rw [← hQ]
  obtain ⟨H, hH⟩ : ∃ H, H = s.heap := ⟨_, rfl⟩
  obtain ⟨locs, hL⟩ : ∃ locs : List Loc, locs = [] := ⟨_, rfl⟩
  replace hW : wd g A s.heap [kX6 g a0 v0, kX3 g a1 v1, kX3 g a2 v2, kX4 g a3 (a4 0) v3, kX0 g a4 v4, kX1 g a5 q7_e0 q7_e1 q7_e2 q7_e3 q7_e4 q7_e5 q7_e6 q7_e7 v5, kX2 g a6 q8_1 v6, kX2 g a7 q9_1 v7, kX7 g a8 (a0 0) (a1 0) (a2 0) (a3 0) q4 q5 q6 (a5 0) (a6 0) (a7 0) v8] H locs := by rw [hH, hL]; exact hW
  suffices hG : W p l e (rmk 6 130) s m args below meth c H locs 0 0 Q (F0 m 0 ls []) by
    rw [hH, hL] at hG; exact hG
  clear hH hL
  have inX7 : ∀ w ∈ wsX70, w ∈ wsX7_cell := fun _ h => List.mem_cons_of_mem _ (List.mem_append_left _ (List.mem_append_left _ (List.mem_append_left _ (List.mem_append_left _ (List.mem_append_left _ (List.mem_append_left _ (List.mem_append_right _ (h))))))))
  rw [fX7_cell] at hf
  refine lv_aload_n hx hb dX7_cell_0 rfl (lv_at hl 0 rfl) ?_
  refine g_get C hW inX7 8 rfl rfl rfl 0 (by decide) (List.mem_of_getElem? (i := 1) rfl) (v := .ref (a0 0)) rfl dX7_cell_1 ?_
  refine lv_aload_n hx hb dX7_cell_4 rfl (lv_at hl 0 rfl) ?_
  refine g_get C hW inX7 8 rfl rfl rfl 2 (by decide) (List.mem_of_getElem? (i := 2) rfl) (v := .ref (a2 0)) rfl dX7_cell_5 ?_
  obtain ⟨y1, hc, hf⟩ := bd_of hf
  refine g_cV (Cn := RX6) C (ct_X6_readInto g l N a0 a2 v0 v2 hc) gX7_cell_X6_readInto rfl 1 (by decide +kernel) ⟨rfl, rfl, ⟨Nat.le_of_ble_eq_true rfl, Nat.le_of_ble_eq_true rfl⟩, Nat.le_of_ble_eq_true rfl, Nat.le_of_ble_eq_true rfl⟩ rfl hl (Nat.le_of_ble_eq_true rfl) dX7_cell_8 rfl hW hA [0, 2] rfl rfl rfl (ch' := [kX6 g a0 y1.2.1, kX3 g a1 v1, kX3 g a2 y1.2.2, kX4 g a3 (a4 0) v3, kX0 g a4 v4, kX1 g a5 q7_e0 q7_e1 q7_e2 q7_e3 q7_e4 q7_e5 q7_e6 q7_e7 v5, kX2 g a6 q8_1 v6, kX2 g a7 q9_1 v7, kX7 g a8 (a0 0) (a1 0) (a2 0) (a3 0) q4 q5 q6 (a5 0) (a6 0) (a7 0) v8]) rfl 0 rfl rfl rfl (fun H locs hW => ?_)
  refine lv_istore_n (lv' := [(1, .int y1.1), (0, .ref (a8 0))]) hx hb dX7_cell_11 rfl hl (by decide) rfl (fun ls hl => ?_)
  refine lv_iload_n hx hb dX7_cell_12 rfl (lv_at hl 0 rfl) ?_
  refine lv_if_ge (tgt := 18) hx hb dX7_cell_13 (by decide) (fun h => ?_) (fun h => ?_)
  · replace hf := (if_pos h).symm.trans hf
    refine lv_aload_n hx hb dX7_cell_18 rfl (lv_at hl 1 rfl) ?_
    refine g_get C hW inX7 8 rfl rfl rfl 1 (by decide) (List.mem_of_getElem? (i := 3) rfl) (v := .ref (a1 0)) rfl dX7_cell_19 ?_
    refine lv_aload_n hx hb dX7_cell_22 rfl (lv_at hl 1 rfl) ?_
    refine g_get C hW inX7 8 rfl rfl rfl 2 (by decide) (List.mem_of_getElem? (i := 2) rfl) (v := .ref (a2 0)) rfl dX7_cell_23 ?_
    obtain ⟨y2, hc, hf⟩ := bd_of hf
    refine g_cVv (Cn := RX3) C (ct_X3_copyFrom g l N a1 a2 v1 y1.2.2 hc) gX7_cell_X3_copyFrom rfl 1 (by decide +kernel) ⟨rfl, rfl, ⟨Nat.le_of_ble_eq_true rfl, Nat.le_of_ble_eq_true rfl⟩, Nat.le_of_ble_eq_true rfl, Nat.le_of_ble_eq_true rfl⟩ rfl hl (Nat.le_of_ble_eq_true rfl) dX7_cell_26 rfl hW hA [1, 2] rfl rfl rfl (ch' := [kX6 g a0 y1.2.1, kX3 g a1 y2, kX3 g a2 y1.2.2, kX4 g a3 (a4 0) v3, kX0 g a4 v4, kX1 g a5 q7_e0 q7_e1 q7_e2 q7_e3 q7_e4 q7_e5 q7_e6 q7_e7 v5, kX2 g a6 q8_1 v6, kX2 g a7 q9_1 v7, kX7 g a8 (a0 0) (a1 0) (a2 0) (a3 0) q4 q5 q6 (a5 0) (a6 0) (a7 0) v8]) rfl 1 rfl rfl rfl (fun H locs hW => ?_)
    refine lv_aload_n hx hb dX7_cell_29 rfl (lv_at hl 1 rfl) ?_
    refine g_get C hW inX7 8 rfl rfl rfl 0 (by decide) (List.mem_of_getElem? (i := 1) rfl) (v := .ref (a0 0)) rfl dX7_cell_30 ?_
    obtain ⟨y3, hc, hf⟩ := bd_of hf
    refine g_cV (Cn := RX6) C (ct_X6_empty g l N a0 y1.2.1 hc) gX7_cell_X6_empty rfl 0 (by decide +kernel) ⟨rfl, rfl, ⟨Nat.le_of_ble_eq_true rfl, Nat.le_of_ble_eq_true rfl⟩, Nat.le_of_ble_eq_true rfl, Nat.le_of_ble_eq_true rfl⟩ rfl hl (Nat.le_of_ble_eq_true rfl) dX7_cell_33 rfl hW hA [0] rfl rfl rfl (ch' := [kX6 g a0 y3.2, kX3 g a1 y2, kX3 g a2 y1.2.2, kX4 g a3 (a4 0) v3, kX0 g a4 v4, kX1 g a5 q7_e0 q7_e1 q7_e2 q7_e3 q7_e4 q7_e5 q7_e6 q7_e7 v5, kX2 g a6 q8_1 v6, kX2 g a7 q9_1 v7, kX7 g a8 (a0 0) (a1 0) (a2 0) (a3 0) q4 q5 q6 (a5 0) (a6 0) (a7 0) v8]) rfl 0 rfl rfl rfl (fun H locs hW => ?_)
    refine lv_pop hx hb dX7_cell_36 rfl ?_
    refine lv_aload_n hx hb dX7_cell_37 rfl (lv_at hl 1 rfl) ?_
    obtain ⟨y4, hc, hf⟩ := bd_of hf
    refine g_cVv (Cn := RX7) C (ct_X7_beginAnew g l N a1 a3 a4 a5 a6 a7 a8 q7_e0 q7_e1 q7_e2 q7_e3 q7_e4 q7_e5 q7_e6 q7_e7 q8_1 q9_1 (a0 0) (a2 0) q4 q5 q6 y2 v3 v4 v5 v6 v7 v8 hc) gX7_cell_X7_beginAnew rfl 0 (by decide +kernel) ⟨rfl, rfl, ⟨Nat.le_of_ble_eq_true rfl, Nat.le_of_ble_eq_true rfl⟩, Nat.le_of_ble_eq_true rfl, Nat.le_of_ble_eq_true rfl⟩ rfl hl (Nat.le_of_ble_eq_true rfl) dX7_cell_38 rfl hW hA [1, 3, 4, 5, 6, 7, 8] rfl rfl rfl (ch' := [kX6 g a0 y3.2, kX3 g a1 y2, kX3 g a2 y1.2.2, kX4 g a3 (a4 0) y4.1, kX0 g a4 y4.2.1, kX1 g a5 q7_e0 q7_e1 q7_e2 q7_e3 q7_e4 q7_e5 q7_e6 q7_e7 y4.2.2.1, kX2 g a6 q8_1 y4.2.2.2.1, kX2 g a7 q9_1 y4.2.2.2.2.1, kX7 g a8 (a0 0) (a1 0) (a2 0) (a3 0) q4 q5 q6 (a5 0) (a6 0) (a7 0) y4.2.2.2.2.2]) rfl 8 rfl rfl rfl (fun H locs hW => ?_)
    refine lv_iload_n hx hb dX7_cell_41 rfl (lv_at hl 0 rfl) ?_
    obtain rfl := Option.some.inj hf
    subst hQ
    exact g_iret C hr hk0 hW rfl rfl dX7_cell_42
  · replace hf := (if_neg h).symm.trans hf
    refine lv_iload_n hx hb dX7_cell_16 rfl (lv_at hl 0 rfl) ?_
    obtain rfl := Option.some.inj hf
    subst hQ
    exact g_iret C hr hk0 hW rfl rfl dX7_cell_17
def fX7_comes (N : Nat) (x1 : Int32) (x2 : Int32) (v0 : MM) (v1 : MM) (v2 : MM) (v3 : MM) (v4 : MM) (v5 : MM) (v6 : MM) (v7 : MM) (v8 : MM) (v9 : MM) (v10 : MM) (v11 : MM) (v12 : MM) (v13 : MM) (v14 : MM) (v15 : MM) (v16 : MM) (v17 : MM) (v18 : MM) (v19 : MM) (v20 : MM) (v21 : MM) : Option (Int32 × MM × MM × MM × MM × MM × MM × MM × MM × MM × MM × MM × MM × MM × MM × MM × MM × MM × MM) := ((fX7_hasClass N x1 v0 v21).bind (fun y1 => (if y1 = 0 then some ((-1 : Int32), v1, v4, v5, v6, v7, v8, v9, v10, v11, v12, v13, v14, v15, v16, v17, v18, v19, v20) else ((fX7_isWithin N x2 (1 : Int32) (99 : Int32)).bind (fun y2 => (if y2 = 0 then some ((-1 : Int32), v1, v4, v5, v6, v7, v8, v9, v10, v11, v12, v13, v14, v15, v16, v17, v18, v19, v20) else (if ib x1 6 = true then (if (((v1 9) (Int32.toNatClampNeg x1)) + x2) ≤ (999 : Int32) then ((fX1_remember N v5 v6 v7 v8 v9 v10 v11 v12 v13 v14 v15 v16 v17 v18 v19 v20 v4 v1 v2).bind (fun y3 => ((fX5_bring N x1 x2 v0 v1 v3).bind (fun y4 => (if ib x1 6 = true then some (((y4 9) (Int32.toNatClampNeg x1)), y4, y3.2.2.2.2.2.2.2.2.2.2.2.2.2.2.2.2, y3.1, y3.2.1, y3.2.2.1, y3.2.2.2.1, y3.2.2.2.2.1, y3.2.2.2.2.2.1, y3.2.2.2.2.2.2.1, y3.2.2.2.2.2.2.2.1, y3.2.2.2.2.2.2.2.2.1, y3.2.2.2.2.2.2.2.2.2.1, y3.2.2.2.2.2.2.2.2.2.2.1, y3.2.2.2.2.2.2.2.2.2.2.2.1, y3.2.2.2.2.2.2.2.2.2.2.2.2.1, y3.2.2.2.2.2.2.2.2.2.2.2.2.2.1, y3.2.2.2.2.2.2.2.2.2.2.2.2.2.2.1, y3.2.2.2.2.2.2.2.2.2.2.2.2.2.2.2.1) else none))))) else some ((-3 : Int32), v1, v4, v5, v6, v7, v8, v9, v10, v11, v12, v13, v14, v15, v16, v17, v18, v19, v20)) else none)))))))
set_option maxHeartbeats 4000000 in
set_option maxRecDepth 100000 in
theorem ct_X7_comes (g : GT) (l : Launch) (N : Nat) (a0 : Nat → Nat) (a1 : Nat → Nat) (a2 : Nat → Nat) (a3 : Nat → Nat) (a4 : Nat → Nat) (a5 : Nat → Nat) (a6 : Nat → Nat) (a7 : Nat → Nat) (a8 : Nat → Nat) (a9 : Nat → Nat) (a10 : Nat → Nat) (a11 : Nat → Nat) (a12 : Nat → Nat) (a13 : Nat → Nat) (a14 : Nat → Nat) (a15 : Nat → Nat) (a16 : Nat → Nat) (a17 : Nat → Nat) (a18 : Nat → Nat) (a19 : Nat → Nat) (a20 : Nat → Nat) (a21 : Nat → Nat) (q0 : Nat) (q2 : Nat) (q4 : Nat) (q6 : Nat) (q8 : Nat) (q9 : Nat) (x1 : Int32) (x2 : Int32) (v0 : MM) (v1 : MM) (v2 : MM) (v3 : MM) (v4 : MM) (v5 : MM) (v6 : MM) (v7 : MM) (v8 : MM) (v9 : MM) (v10 : MM) (v11 : MM) (v12 : MM) (v13 : MM) (v14 : MM) (v15 : MM) (v16 : MM) (v17 : MM) (v18 : MM) (v19 : MM) (v20 : MM) (v21 : MM) {y : Int32 × MM × MM × MM × MM × MM × MM × MM × MM × MM × MM × MM × MM × MM × MM × MM × MM × MM × MM} (hf : fX7_comes N x1 x2 v0 v1 v2 v3 v4 v5 v6 v7 v8 v9 v10 v11 v12 v13 v14 v15 v16 v17 v18 v19 v20 v21 = some y) : ct g l yX7_comes wsX7_comes (rmk 5 111) [.ref (a21 0), .int x1, .int x2] [kX3 g a0 v0, kX4 g a1 (a2 0) v1, kX0 g a2 v2, kX5 g a3 (a0 0) (a1 0) v3, kX1 g a4 (a5 0) (a7 0) (a9 0) (a11 0) (a13 0) (a15 0) (a17 0) (a19 0) v4, kX4 g a5 (a6 0) v5, kX0 g a6 v6, kX4 g a7 (a8 0) v7, kX0 g a8 v8, kX4 g a9 (a10 0) v9, kX0 g a10 v10, kX4 g a11 (a12 0) v11, kX0 g a12 v12, kX4 g a13 (a14 0) v13, kX0 g a14 v14, kX4 g a15 (a16 0) v15, kX0 g a16 v16, kX4 g a17 (a18 0) v17, kX0 g a18 v18, kX4 g a19 (a20 0) v19, kX0 g a20 v20, kX7 g a21 q0 (a0 0) q2 (a1 0) q4 (a3 0) q6 (a4 0) q8 q9 v21] (some (.int y.1)) [kX3 g a0 v0, kX4 g a1 (a2 0) y.2.1, kX0 g a2 v2, kX5 g a3 (a0 0) (a1 0) v3, kX1 g a4 (a5 0) (a7 0) (a9 0) (a11 0) (a13 0) (a15 0) (a17 0) (a19 0) y.2.2.1, kX4 g a5 (a6 0) y.2.2.2.1, kX0 g a6 y.2.2.2.2.1, kX4 g a7 (a8 0) y.2.2.2.2.2.1, kX0 g a8 y.2.2.2.2.2.2.1, kX4 g a9 (a10 0) y.2.2.2.2.2.2.2.1, kX0 g a10 y.2.2.2.2.2.2.2.2.1, kX4 g a11 (a12 0) y.2.2.2.2.2.2.2.2.2.1, kX0 g a12 y.2.2.2.2.2.2.2.2.2.2.1, kX4 g a13 (a14 0) y.2.2.2.2.2.2.2.2.2.2.2.1, kX0 g a14 y.2.2.2.2.2.2.2.2.2.2.2.2.1, kX4 g a15 (a16 0) y.2.2.2.2.2.2.2.2.2.2.2.2.2.1, kX0 g a16 y.2.2.2.2.2.2.2.2.2.2.2.2.2.2.1, kX4 g a17 (a18 0) y.2.2.2.2.2.2.2.2.2.2.2.2.2.2.2.1, kX0 g a18 y.2.2.2.2.2.2.2.2.2.2.2.2.2.2.2.2.1, kX4 g a19 (a20 0) y.2.2.2.2.2.2.2.2.2.2.2.2.2.2.2.2.2.1, kX0 g a20 y.2.2.2.2.2.2.2.2.2.2.2.2.2.2.2.2.2.2, kX7 g a21 q0 (a0 0) q2 (a1 0) q4 (a3 0) q6 (a4 0) q8 q9 v21] := by
  refine ct_of (cc := cX7_comes) (maxL := 3) (ret := (some .int)) (by decide) rfl (Nat.le_of_ble_eq_true rfl) ?_
  intro p e s m args below meth c A ls C hr hk0 hA hW hl
  have hx := C.1.1
  have hb := C.1.2.1
  replace hl : lv_has ls 3 [(0, .ref (a21 0)), (1, .int x1), (2, .int x2)] := hl
  obtain ⟨Q, hQ⟩ : ∃ Q, Q = MQ below (ctQ g A (some (.int y.1)) [kX3 g a0 v0, kX4 g a1 (a2 0) y.2.1, kX0 g a2 v2, kX5 g a3 (a0 0) (a1 0) v3, kX1 g a4 (a5 0) (a7 0) (a9 0) (a11 0) (a13 0) (a15 0) (a17 0) (a19 0) y.2.2.1, kX4 g a5 (a6 0) y.2.2.2.1, kX0 g a6 y.2.2.2.2.1, kX4 g a7 (a8 0) y.2.2.2.2.2.1, kX0 g a8 y.2.2.2.2.2.2.1, kX4 g a9 (a10 0) y.2.2.2.2.2.2.2.1, kX0 g a10 y.2.2.2.2.2.2.2.2.1, kX4 g a11 (a12 0) y.2.2.2.2.2.2.2.2.2.1, kX0 g a12 y.2.2.2.2.2.2.2.2.2.2.1, kX4 g a13 (a14 0) y.2.2.2.2.2.2.2.2.2.2.2.1, kX0 g a14 y.2.2.2.2.2.2.2.2.2.2.2.2.1, kX4 g a15 (a16 0) y.2.2.2.2.2.2.2.2.2.2.2.2.2.1, kX0 g a16 y.2.2.2.2.2.2.2.2.2.2.2.2.2.2.1, kX4 g a17 (a18 0) y.2.2.2.2.2.2.2.2.2.2.2.2.2.2.2.1, kX0 g a18 y.2.2.2.2.2.2.2.2.2.2.2.2.2.2.2.2.1, kX4 g a19 (a20 0) y.2.2.2.2.2.2.2.2.2.2.2.2.2.2.2.2.2.1, kX0 g a20 y.2.2.2.2.2.2.2.2.2.2.2.2.2.2.2.2.2.2, kX7 g a21 q0 (a0 0) q2 (a1 0) q4 (a3 0) q6 (a4 0) q8 q9 v21]) args s 0 0 A := ⟨_, rfl⟩
  rw [← hQ]
  obtain ⟨H, hH⟩ : ∃ H, H = s.heap := ⟨_, rfl⟩
  obtain ⟨locs, hL⟩ : ∃ locs : List Loc, locs = [] := ⟨_, rfl⟩
  replace hW : wd g A s.heap [kX3 g a0 v0, kX4 g a1 (a2 0) v1, kX0 g a2 v2, kX5 g a3 (a0 0) (a1 0) v3, kX1 g a4 (a5 0) (a7 0) (a9 0) (a11 0) (a13 0) (a15 0) (a17 0) (a19 0) v4, kX4 g a5 (a6 0) v5, kX0 g a6 v6, kX4 g a7 (a8 0) v7, kX0 g a8 v8, kX4 g a9 (a10 0) v9, kX0 g a10 v10, kX4 g a11 (a12 0) v11, kX0 g a12 v12, kX4 g a13 (a14 0) v13, kX0 g a14 v14, kX4 g a15 (a16 0) v15, kX0 g a16 v16, kX4 g a17 (a18 0) v17, kX0 g a18 v18, kX4 g a19 (a20 0) v19, kX0 g a20 v20, kX7 g a21 q0 (a0 0) q2 (a1 0) q4 (a3 0) q6 (a4 0) q8 q9 v21] H locs := by rw [hH, hL]; exact hW
  suffices hG : W p l e (rmk 5 111) s m args below meth c H locs 0 0 Q (F0 m 0 ls []) by
    rw [hH, hL] at hG; exact hG
  clear hH hL
  have inX4 : ∀ w ∈ wsX40, w ∈ wsX7_comes := fun _ h => List.mem_cons_of_mem _ (List.mem_append_left _ (List.mem_append_left _ (List.mem_append_left _ (List.mem_append_left _ (List.mem_append_right _ (h))))))
  have inX7 : ∀ w ∈ wsX70, w ∈ wsX7_comes := fun _ h => List.mem_cons_of_mem _ (List.mem_append_left _ (List.mem_append_left _ (List.mem_append_left _ (List.mem_append_left _ (List.mem_append_left _ (List.mem_append_right _ (h)))))))
  rw [fX7_comes] at hf
  refine lv_aload_n hx hb dX7_comes_0 rfl (lv_at hl 0 rfl) ?_
  refine lv_iload_n hx hb dX7_comes_1 rfl (lv_at hl 1 rfl) ?_
  obtain ⟨y1, hc, hf⟩ := bd_of hf
  refine g_cV (Cn := RX7) C (ct_X7_hasClass g l N a0 a21 q0 q2 (a1 0) q4 (a3 0) q6 (a4 0) q8 q9 x1 v0 v21 hc) gX7_comes_X7_hasClass rfl 1 (by decide +kernel) ⟨rfl, rfl, ⟨Nat.le_of_ble_eq_true rfl, Nat.le_of_ble_eq_true rfl⟩, Nat.le_of_ble_eq_true rfl, Nat.le_of_ble_eq_true rfl⟩ rfl hl (Nat.le_of_ble_eq_true rfl) dX7_comes_2 rfl hW hA [0, 21] rfl rfl rfl (ch' := [kX3 g a0 v0, kX4 g a1 (a2 0) v1, kX0 g a2 v2, kX5 g a3 (a0 0) (a1 0) v3, kX1 g a4 (a5 0) (a7 0) (a9 0) (a11 0) (a13 0) (a15 0) (a17 0) (a19 0) v4, kX4 g a5 (a6 0) v5, kX0 g a6 v6, kX4 g a7 (a8 0) v7, kX0 g a8 v8, kX4 g a9 (a10 0) v9, kX0 g a10 v10, kX4 g a11 (a12 0) v11, kX0 g a12 v12, kX4 g a13 (a14 0) v13, kX0 g a14 v14, kX4 g a15 (a16 0) v15, kX0 g a16 v16, kX4 g a17 (a18 0) v17, kX0 g a18 v18, kX4 g a19 (a20 0) v19, kX0 g a20 v20, kX7 g a21 q0 (a0 0) q2 (a1 0) q4 (a3 0) q6 (a4 0) q8 q9 v21]) rfl 21 rfl rfl rfl (fun H locs hW => ?_)
  refine lv_if_eq (tgt := 18) hx hb dX7_comes_5 (by decide) (fun h => ?_) (fun h => ?_)
  · replace hf := (if_pos h).symm.trans hf
    refine lv_iconst (v := (-1 : Int32)) hx hb dX7_comes_18 (by decide) ?_
    obtain rfl := Option.some.inj hf
    subst hQ
    exact g_iret C hr hk0 hW rfl rfl dX7_comes_19
  · replace hf := (if_neg h).symm.trans hf
    refine lv_iload_n hx hb dX7_comes_8 rfl (lv_at hl 2 rfl) ?_
    refine lv_iconst (v := (1 : Int32)) hx hb dX7_comes_9 (by decide) ?_
    refine lv_bipush (v := (99 : Int32)) hx hb dX7_comes_10 (by decide) ?_
    obtain ⟨y2, hc, hf⟩ := bd_of hf
    refine g_cS C (ct_X7_isWithin g l N x2 (1 : Int32) (99 : Int32) hc) gX7_comes_X7_isWithin rfl 3 (by decide +kernel) ⟨rfl, rfl, ⟨Nat.le_of_ble_eq_true rfl, Nat.le_of_ble_eq_true rfl⟩, Nat.le_of_ble_eq_true rfl, Nat.le_of_ble_eq_true rfl⟩ rfl hl (Nat.le_of_ble_eq_true rfl) dX7_comes_12 rfl hW hA [] rfl rfl rfl (ch' := [kX3 g a0 v0, kX4 g a1 (a2 0) v1, kX0 g a2 v2, kX5 g a3 (a0 0) (a1 0) v3, kX1 g a4 (a5 0) (a7 0) (a9 0) (a11 0) (a13 0) (a15 0) (a17 0) (a19 0) v4, kX4 g a5 (a6 0) v5, kX0 g a6 v6, kX4 g a7 (a8 0) v7, kX0 g a8 v8, kX4 g a9 (a10 0) v9, kX0 g a10 v10, kX4 g a11 (a12 0) v11, kX0 g a12 v12, kX4 g a13 (a14 0) v13, kX0 g a14 v14, kX4 g a15 (a16 0) v15, kX0 g a16 v16, kX4 g a17 (a18 0) v17, kX0 g a18 v18, kX4 g a19 (a20 0) v19, kX0 g a20 v20, kX7 g a21 q0 (a0 0) q2 (a1 0) q4 (a3 0) q6 (a4 0) q8 q9 v21]) rfl (fun H locs hW => ?_)
    refine lv_if_ne (tgt := 20) hx hb dX7_comes_15 (by decide) (fun h => ?_) (fun h => ?_)
    · replace hf := (if_neg h).symm.trans hf
      refine lv_aload_n hx hb dX7_comes_20 rfl (lv_at hl 0 rfl) ?_
      refine g_get C hW inX7 21 rfl rfl rfl 3 (by decide) (List.mem_of_getElem? (i := 1) rfl) (v := .ref (a1 0)) rfl dX7_comes_21 ?_
      refine g_get C hW inX4 1 rfl rfl rfl 9 (by decide) (List.mem_of_getElem? (i := 2) rfl) (v := .ref (a1 7)) rfl dX7_comes_24 ?_
      refine lv_iload_n hx hb dX7_comes_27 rfl (lv_at hl 1 rfl) ?_
      obtain ⟨hi, hf⟩ := gd_of hf
      refine g_iald C hW 1 7 rfl (f := (v1 9)) rfl (ib_in hi) dX7_comes_28 ?_
      refine lv_iload_n hx hb dX7_comes_29 rfl (lv_at hl 2 rfl) ?_
      refine lv_iadd hx hb dX7_comes_30 ?_
      refine lv_sipush (v := (999 : Int32)) hx hb dX7_comes_31 (by decide) ?_
      refine lv_icmp_le (tgt := 40) hx hb dX7_comes_34 (by decide) (fun h => ?_) (fun h => ?_)
      · replace hf := (if_pos h).symm.trans hf
        refine lv_aload_n hx hb dX7_comes_40 rfl (lv_at hl 0 rfl) ?_
        refine g_get C hW inX7 21 rfl rfl rfl 7 (by decide) (List.mem_of_getElem? (i := 3) rfl) (v := .ref (a4 0)) rfl dX7_comes_41 ?_
        refine lv_aload_n hx hb dX7_comes_44 rfl (lv_at hl 0 rfl) ?_
        refine g_get C hW inX7 21 rfl rfl rfl 3 (by decide) (List.mem_of_getElem? (i := 1) rfl) (v := .ref (a1 0)) rfl dX7_comes_45 ?_
        obtain ⟨y3, hc, hf⟩ := bd_of hf
        refine g_cVv (Cn := RX1) C (ct_X1_remember g l N a5 a6 a7 a8 a9 a10 a11 a12 a13 a14 a15 a16 a17 a18 a19 a20 a4 a1 a2 v5 v6 v7 v8 v9 v10 v11 v12 v13 v14 v15 v16 v17 v18 v19 v20 v4 v1 v2 hc) gX7_comes_X1_remember rfl 1 (by decide +kernel) ⟨rfl, rfl, ⟨Nat.le_of_ble_eq_true rfl, Nat.le_of_ble_eq_true rfl⟩, Nat.le_of_ble_eq_true rfl, Nat.le_of_ble_eq_true rfl⟩ rfl hl (Nat.le_of_ble_eq_true rfl) dX7_comes_48 rfl hW hA [5, 6, 7, 8, 9, 10, 11, 12, 13, 14, 15, 16, 17, 18, 19, 20, 4, 1, 2] rfl rfl rfl (ch' := [kX3 g a0 v0, kX4 g a1 (a2 0) v1, kX0 g a2 v2, kX5 g a3 (a0 0) (a1 0) v3, kX1 g a4 (a5 0) (a7 0) (a9 0) (a11 0) (a13 0) (a15 0) (a17 0) (a19 0) y3.2.2.2.2.2.2.2.2.2.2.2.2.2.2.2.2, kX4 g a5 (a6 0) y3.1, kX0 g a6 y3.2.1, kX4 g a7 (a8 0) y3.2.2.1, kX0 g a8 y3.2.2.2.1, kX4 g a9 (a10 0) y3.2.2.2.2.1, kX0 g a10 y3.2.2.2.2.2.1, kX4 g a11 (a12 0) y3.2.2.2.2.2.2.1, kX0 g a12 y3.2.2.2.2.2.2.2.1, kX4 g a13 (a14 0) y3.2.2.2.2.2.2.2.2.1, kX0 g a14 y3.2.2.2.2.2.2.2.2.2.1, kX4 g a15 (a16 0) y3.2.2.2.2.2.2.2.2.2.2.1, kX0 g a16 y3.2.2.2.2.2.2.2.2.2.2.2.1, kX4 g a17 (a18 0) y3.2.2.2.2.2.2.2.2.2.2.2.2.1, kX0 g a18 y3.2.2.2.2.2.2.2.2.2.2.2.2.2.1, kX4 g a19 (a20 0) y3.2.2.2.2.2.2.2.2.2.2.2.2.2.2.1, kX0 g a20 y3.2.2.2.2.2.2.2.2.2.2.2.2.2.2.2.1, kX7 g a21 q0 (a0 0) q2 (a1 0) q4 (a3 0) q6 (a4 0) q8 q9 v21]) rfl 4 rfl rfl rfl (fun H locs hW => ?_)
        refine lv_aload_n hx hb dX7_comes_51 rfl (lv_at hl 0 rfl) ?_
        refine g_get C hW inX7 21 rfl rfl rfl 5 (by decide) (List.mem_of_getElem? (i := 4) rfl) (v := .ref (a3 0)) rfl dX7_comes_52 ?_
        refine lv_iload_n hx hb dX7_comes_55 rfl (lv_at hl 1 rfl) ?_
        refine lv_iload_n hx hb dX7_comes_56 rfl (lv_at hl 2 rfl) ?_
        obtain ⟨y4, hc, hf⟩ := bd_of hf
        refine g_cVv (Cn := RX5) C (ct_X5_bring g l N a0 a1 a3 (a2 0) x1 x2 v0 v1 v3 hc) gX7_comes_X5_bring rfl 2 (by decide +kernel) ⟨rfl, rfl, ⟨Nat.le_of_ble_eq_true rfl, Nat.le_of_ble_eq_true rfl⟩, Nat.le_of_ble_eq_true rfl, Nat.le_of_ble_eq_true rfl⟩ rfl hl (Nat.le_of_ble_eq_true rfl) dX7_comes_57 rfl hW hA [0, 1, 3] rfl rfl rfl (ch' := [kX3 g a0 v0, kX4 g a1 (a2 0) y4, kX0 g a2 v2, kX5 g a3 (a0 0) (a1 0) v3, kX1 g a4 (a5 0) (a7 0) (a9 0) (a11 0) (a13 0) (a15 0) (a17 0) (a19 0) y3.2.2.2.2.2.2.2.2.2.2.2.2.2.2.2.2, kX4 g a5 (a6 0) y3.1, kX0 g a6 y3.2.1, kX4 g a7 (a8 0) y3.2.2.1, kX0 g a8 y3.2.2.2.1, kX4 g a9 (a10 0) y3.2.2.2.2.1, kX0 g a10 y3.2.2.2.2.2.1, kX4 g a11 (a12 0) y3.2.2.2.2.2.2.1, kX0 g a12 y3.2.2.2.2.2.2.2.1, kX4 g a13 (a14 0) y3.2.2.2.2.2.2.2.2.1, kX0 g a14 y3.2.2.2.2.2.2.2.2.2.1, kX4 g a15 (a16 0) y3.2.2.2.2.2.2.2.2.2.2.1, kX0 g a16 y3.2.2.2.2.2.2.2.2.2.2.2.1, kX4 g a17 (a18 0) y3.2.2.2.2.2.2.2.2.2.2.2.2.1, kX0 g a18 y3.2.2.2.2.2.2.2.2.2.2.2.2.2.1, kX4 g a19 (a20 0) y3.2.2.2.2.2.2.2.2.2.2.2.2.2.2.1, kX0 g a20 y3.2.2.2.2.2.2.2.2.2.2.2.2.2.2.2.1, kX7 g a21 q0 (a0 0) q2 (a1 0) q4 (a3 0) q6 (a4 0) q8 q9 v21]) rfl 3 rfl rfl rfl (fun H locs hW => ?_)
        refine lv_aload_n hx hb dX7_comes_60 rfl (lv_at hl 0 rfl) ?_
        refine g_get C hW inX7 21 rfl rfl rfl 3 (by decide) (List.mem_of_getElem? (i := 1) rfl) (v := .ref (a1 0)) rfl dX7_comes_61 ?_
        refine g_get C hW inX4 1 rfl rfl rfl 9 (by decide) (List.mem_of_getElem? (i := 2) rfl) (v := .ref (a1 7)) rfl dX7_comes_64 ?_
        refine lv_iload_n hx hb dX7_comes_67 rfl (lv_at hl 1 rfl) ?_
        obtain ⟨hi, hf⟩ := gd_of hf
        refine g_iald C hW 1 7 rfl (f := (y4 9)) rfl (ib_in hi) dX7_comes_68 ?_
        obtain rfl := Option.some.inj hf
        subst hQ
        exact g_iret C hr hk0 hW rfl rfl dX7_comes_69
      · replace hf := (if_neg h).symm.trans hf
        refine lv_bipush (v := (-3 : Int32)) hx hb dX7_comes_37 (by decide) ?_
        obtain rfl := Option.some.inj hf
        subst hQ
        exact g_iret C hr hk0 hW rfl rfl dX7_comes_39
    · replace hf := (if_pos h).symm.trans hf
      refine lv_iconst (v := (-1 : Int32)) hx hb dX7_comes_18 (by decide) ?_
      obtain rfl := Option.some.inj hf
      subst hQ
      exact g_iret C hr hk0 hW rfl rfl dX7_comes_19
def fX7_steps (N : Nat) (x1 : Int32) (v0 : MM) (v1 : MM) (v2 : MM) (v3 : MM) (v4 : MM) (v5 : MM) (v6 : MM) (v7 : MM) (v8 : MM) (v9 : MM) (v10 : MM) (v11 : MM) (v12 : MM) (v13 : MM) (v14 : MM) (v15 : MM) (v16 : MM) (v17 : MM) (v18 : MM) (v19 : MM) (v20 : MM) (v21 : MM) : Option (Int32 × MM × MM × MM × MM × MM × MM × MM × MM × MM × MM × MM × MM × MM × MM × MM × MM × MM × MM × MM × MM) := ((fX7_isWithin N x1 (1 : Int32) (40 : Int32)).bind (fun y1 => (if y1 = 0 then some ((-1 : Int32), v1, v2, v3, v4, v5, v6, v7, v8, v9, v10, v11, v12, v13, v14, v15, v16, v17, v18, v19, v20) else (if ((v1 0 0) + x1) ≤ (199 : Int32) then ((fX1_remember N v5 v6 v7 v8 v9 v10 v11 v12 v13 v14 v15 v16 v17 v18 v19 v20 v4 v1 v2).bind (fun y2 => ((fX5_takeSteps N x1 v0 v1 v2 v3).bind (fun y3 => some (y3.1, y3.2.1, y3.2.2.1, y3.2.2.2, y2.2.2.2.2.2.2.2.2.2.2.2.2.2.2.2.2, y2.1, y2.2.1, y2.2.2.1, y2.2.2.2.1, y2.2.2.2.2.1, y2.2.2.2.2.2.1, y2.2.2.2.2.2.2.1, y2.2.2.2.2.2.2.2.1, y2.2.2.2.2.2.2.2.2.1, y2.2.2.2.2.2.2.2.2.2.1, y2.2.2.2.2.2.2.2.2.2.2.1, y2.2.2.2.2.2.2.2.2.2.2.2.1, y2.2.2.2.2.2.2.2.2.2.2.2.2.1, y2.2.2.2.2.2.2.2.2.2.2.2.2.2.1, y2.2.2.2.2.2.2.2.2.2.2.2.2.2.2.1, y2.2.2.2.2.2.2.2.2.2.2.2.2.2.2.2.1))))) else some ((-2 : Int32), v1, v2, v3, v4, v5, v6, v7, v8, v9, v10, v11, v12, v13, v14, v15, v16, v17, v18, v19, v20)))))
set_option maxHeartbeats 4000000 in
set_option maxRecDepth 100000 in
theorem ct_X7_steps (g : GT) (l : Launch) (N : Nat) (a0 : Nat → Nat) (a1 : Nat → Nat) (a2 : Nat → Nat) (a3 : Nat → Nat) (a4 : Nat → Nat) (a5 : Nat → Nat) (a6 : Nat → Nat) (a7 : Nat → Nat) (a8 : Nat → Nat) (a9 : Nat → Nat) (a10 : Nat → Nat) (a11 : Nat → Nat) (a12 : Nat → Nat) (a13 : Nat → Nat) (a14 : Nat → Nat) (a15 : Nat → Nat) (a16 : Nat → Nat) (a17 : Nat → Nat) (a18 : Nat → Nat) (a19 : Nat → Nat) (a20 : Nat → Nat) (a21 : Nat → Nat) (q0 : Nat) (q2 : Nat) (q4 : Nat) (q6 : Nat) (q8 : Nat) (q9 : Nat) (x1 : Int32) (v0 : MM) (v1 : MM) (v2 : MM) (v3 : MM) (v4 : MM) (v5 : MM) (v6 : MM) (v7 : MM) (v8 : MM) (v9 : MM) (v10 : MM) (v11 : MM) (v12 : MM) (v13 : MM) (v14 : MM) (v15 : MM) (v16 : MM) (v17 : MM) (v18 : MM) (v19 : MM) (v20 : MM) (v21 : MM) {y : Int32 × MM × MM × MM × MM × MM × MM × MM × MM × MM × MM × MM × MM × MM × MM × MM × MM × MM × MM × MM × MM} (hf : fX7_steps N x1 v0 v1 v2 v3 v4 v5 v6 v7 v8 v9 v10 v11 v12 v13 v14 v15 v16 v17 v18 v19 v20 v21 = some y) : ct g l yX7_steps wsX7_steps (rmk 5 124) [.ref (a21 0), .int x1] [kX3 g a0 v0, kX4 g a1 (a2 0) v1, kX0 g a2 v2, kX5 g a3 (a0 0) (a1 0) v3, kX1 g a4 (a5 0) (a7 0) (a9 0) (a11 0) (a13 0) (a15 0) (a17 0) (a19 0) v4, kX4 g a5 (a6 0) v5, kX0 g a6 v6, kX4 g a7 (a8 0) v7, kX0 g a8 v8, kX4 g a9 (a10 0) v9, kX0 g a10 v10, kX4 g a11 (a12 0) v11, kX0 g a12 v12, kX4 g a13 (a14 0) v13, kX0 g a14 v14, kX4 g a15 (a16 0) v15, kX0 g a16 v16, kX4 g a17 (a18 0) v17, kX0 g a18 v18, kX4 g a19 (a20 0) v19, kX0 g a20 v20, kX7 g a21 q0 (a0 0) q2 (a1 0) q4 (a3 0) q6 (a4 0) q8 q9 v21] (some (.int y.1)) [kX3 g a0 v0, kX4 g a1 (a2 0) y.2.1, kX0 g a2 y.2.2.1, kX5 g a3 (a0 0) (a1 0) y.2.2.2.1, kX1 g a4 (a5 0) (a7 0) (a9 0) (a11 0) (a13 0) (a15 0) (a17 0) (a19 0) y.2.2.2.2.1, kX4 g a5 (a6 0) y.2.2.2.2.2.1, kX0 g a6 y.2.2.2.2.2.2.1, kX4 g a7 (a8 0) y.2.2.2.2.2.2.2.1, kX0 g a8 y.2.2.2.2.2.2.2.2.1, kX4 g a9 (a10 0) y.2.2.2.2.2.2.2.2.2.1, kX0 g a10 y.2.2.2.2.2.2.2.2.2.2.1, kX4 g a11 (a12 0) y.2.2.2.2.2.2.2.2.2.2.2.1, kX0 g a12 y.2.2.2.2.2.2.2.2.2.2.2.2.1, kX4 g a13 (a14 0) y.2.2.2.2.2.2.2.2.2.2.2.2.2.1, kX0 g a14 y.2.2.2.2.2.2.2.2.2.2.2.2.2.2.1, kX4 g a15 (a16 0) y.2.2.2.2.2.2.2.2.2.2.2.2.2.2.2.1, kX0 g a16 y.2.2.2.2.2.2.2.2.2.2.2.2.2.2.2.2.1, kX4 g a17 (a18 0) y.2.2.2.2.2.2.2.2.2.2.2.2.2.2.2.2.2.1, kX0 g a18 y.2.2.2.2.2.2.2.2.2.2.2.2.2.2.2.2.2.2.1, kX4 g a19 (a20 0) y.2.2.2.2.2.2.2.2.2.2.2.2.2.2.2.2.2.2.2.1, kX0 g a20 y.2.2.2.2.2.2.2.2.2.2.2.2.2.2.2.2.2.2.2.2, kX7 g a21 q0 (a0 0) q2 (a1 0) q4 (a3 0) q6 (a4 0) q8 q9 v21] := by
  refine ct_of (cc := cX7_steps) (maxL := 2) (ret := (some .int)) (by decide) rfl (Nat.le_of_ble_eq_true rfl) ?_
  intro p e s m args below meth c A ls C hr hk0 hA hW hl
  have hx := C.1.1
  have hb := C.1.2.1
  replace hl : lv_has ls 2 [(0, .ref (a21 0)), (1, .int x1)] := hl
  obtain ⟨Q, hQ⟩ : ∃ Q, Q = MQ below (ctQ g A (some (.int y.1)) [kX3 g a0 v0, kX4 g a1 (a2 0) y.2.1, kX0 g a2 y.2.2.1, kX5 g a3 (a0 0) (a1 0) y.2.2.2.1, kX1 g a4 (a5 0) (a7 0) (a9 0) (a11 0) (a13 0) (a15 0) (a17 0) (a19 0) y.2.2.2.2.1, kX4 g a5 (a6 0) y.2.2.2.2.2.1, kX0 g a6 y.2.2.2.2.2.2.1, kX4 g a7 (a8 0) y.2.2.2.2.2.2.2.1, kX0 g a8 y.2.2.2.2.2.2.2.2.1, kX4 g a9 (a10 0) y.2.2.2.2.2.2.2.2.2.1, kX0 g a10 y.2.2.2.2.2.2.2.2.2.2.1, kX4 g a11 (a12 0) y.2.2.2.2.2.2.2.2.2.2.2.1, kX0 g a12 y.2.2.2.2.2.2.2.2.2.2.2.2.1, kX4 g a13 (a14 0) y.2.2.2.2.2.2.2.2.2.2.2.2.2.1, kX0 g a14 y.2.2.2.2.2.2.2.2.2.2.2.2.2.2.1, kX4 g a15 (a16 0) y.2.2.2.2.2.2.2.2.2.2.2.2.2.2.2.1, kX0 g a16 y.2.2.2.2.2.2.2.2.2.2.2.2.2.2.2.2.1, kX4 g a17 (a18 0) y.2.2.2.2.2.2.2.2.2.2.2.2.2.2.2.2.2.1, kX0 g a18 y.2.2.2.2.2.2.2.2.2.2.2.2.2.2.2.2.2.2.1, kX4 g a19 (a20 0) y.2.2.2.2.2.2.2.2.2.2.2.2.2.2.2.2.2.2.2.1, kX0 g a20 y.2.2.2.2.2.2.2.2.2.2.2.2.2.2.2.2.2.2.2.2, kX7 g a21 q0 (a0 0) q2 (a1 0) q4 (a3 0) q6 (a4 0) q8 q9 v21]) args s 0 0 A := ⟨_, rfl⟩
  rw [← hQ]
  obtain ⟨H, hH⟩ : ∃ H, H = s.heap := ⟨_, rfl⟩
  obtain ⟨locs, hL⟩ : ∃ locs : List Loc, locs = [] := ⟨_, rfl⟩
  replace hW : wd g A s.heap [kX3 g a0 v0, kX4 g a1 (a2 0) v1, kX0 g a2 v2, kX5 g a3 (a0 0) (a1 0) v3, kX1 g a4 (a5 0) (a7 0) (a9 0) (a11 0) (a13 0) (a15 0) (a17 0) (a19 0) v4, kX4 g a5 (a6 0) v5, kX0 g a6 v6, kX4 g a7 (a8 0) v7, kX0 g a8 v8, kX4 g a9 (a10 0) v9, kX0 g a10 v10, kX4 g a11 (a12 0) v11, kX0 g a12 v12, kX4 g a13 (a14 0) v13, kX0 g a14 v14, kX4 g a15 (a16 0) v15, kX0 g a16 v16, kX4 g a17 (a18 0) v17, kX0 g a18 v18, kX4 g a19 (a20 0) v19, kX0 g a20 v20, kX7 g a21 q0 (a0 0) q2 (a1 0) q4 (a3 0) q6 (a4 0) q8 q9 v21] H locs := by rw [hH, hL]; exact hW
  suffices hG : W p l e (rmk 5 124) s m args below meth c H locs 0 0 Q (F0 m 0 ls []) by
    rw [hH, hL] at hG; exact hG
  clear hH hL
  have inX4 : ∀ w ∈ wsX40, w ∈ wsX7_steps := fun _ h => List.mem_cons_of_mem _ (List.mem_append_left _ (List.mem_append_left _ (List.mem_append_left _ (List.mem_append_left _ (List.mem_append_right _ (h))))))
  have inX7 : ∀ w ∈ wsX70, w ∈ wsX7_steps := fun _ h => List.mem_cons_of_mem _ (List.mem_append_left _ (List.mem_append_left _ (List.mem_append_left _ (List.mem_append_left _ (List.mem_append_left _ (List.mem_append_right _ (h)))))))
  rw [fX7_steps] at hf
  refine lv_iload_n hx hb dX7_steps_0 rfl (lv_at hl 1 rfl) ?_
  refine lv_iconst (v := (1 : Int32)) hx hb dX7_steps_1 (by decide) ?_
  refine lv_bipush (v := (40 : Int32)) hx hb dX7_steps_2 (by decide) ?_
  obtain ⟨y1, hc, hf⟩ := bd_of hf
  refine g_cS C (ct_X7_isWithin g l N x1 (1 : Int32) (40 : Int32) hc) gX7_steps_X7_isWithin rfl 3 (by decide +kernel) ⟨rfl, rfl, ⟨Nat.le_of_ble_eq_true rfl, Nat.le_of_ble_eq_true rfl⟩, Nat.le_of_ble_eq_true rfl, Nat.le_of_ble_eq_true rfl⟩ rfl hl (Nat.le_of_ble_eq_true rfl) dX7_steps_4 rfl hW hA [] rfl rfl rfl (ch' := [kX3 g a0 v0, kX4 g a1 (a2 0) v1, kX0 g a2 v2, kX5 g a3 (a0 0) (a1 0) v3, kX1 g a4 (a5 0) (a7 0) (a9 0) (a11 0) (a13 0) (a15 0) (a17 0) (a19 0) v4, kX4 g a5 (a6 0) v5, kX0 g a6 v6, kX4 g a7 (a8 0) v7, kX0 g a8 v8, kX4 g a9 (a10 0) v9, kX0 g a10 v10, kX4 g a11 (a12 0) v11, kX0 g a12 v12, kX4 g a13 (a14 0) v13, kX0 g a14 v14, kX4 g a15 (a16 0) v15, kX0 g a16 v16, kX4 g a17 (a18 0) v17, kX0 g a18 v18, kX4 g a19 (a20 0) v19, kX0 g a20 v20, kX7 g a21 q0 (a0 0) q2 (a1 0) q4 (a3 0) q6 (a4 0) q8 q9 v21]) rfl (fun H locs hW => ?_)
  refine lv_if_ne (tgt := 12) hx hb dX7_steps_7 (by decide) (fun h => ?_) (fun h => ?_)
  · replace hf := (if_neg h).symm.trans hf
    refine lv_aload_n hx hb dX7_steps_12 rfl (lv_at hl 0 rfl) ?_
    refine g_get C hW inX7 21 rfl rfl rfl 3 (by decide) (List.mem_of_getElem? (i := 1) rfl) (v := .ref (a1 0)) rfl dX7_steps_13 ?_
    refine g_get C hW inX4 1 rfl rfl rfl 0 (by decide) (List.mem_of_getElem? (i := 2) rfl) (v := .int (v1 0 0)) rfl dX7_steps_16 ?_
    refine lv_iload_n hx hb dX7_steps_19 rfl (lv_at hl 1 rfl) ?_
    refine lv_iadd hx hb dX7_steps_20 ?_
    refine lv_sipush (v := (199 : Int32)) hx hb dX7_steps_21 (by decide) ?_
    refine lv_icmp_le (tgt := 30) hx hb dX7_steps_24 (by decide) (fun h => ?_) (fun h => ?_)
    · replace hf := (if_pos h).symm.trans hf
      refine lv_aload_n hx hb dX7_steps_30 rfl (lv_at hl 0 rfl) ?_
      refine g_get C hW inX7 21 rfl rfl rfl 7 (by decide) (List.mem_of_getElem? (i := 3) rfl) (v := .ref (a4 0)) rfl dX7_steps_31 ?_
      refine lv_aload_n hx hb dX7_steps_34 rfl (lv_at hl 0 rfl) ?_
      refine g_get C hW inX7 21 rfl rfl rfl 3 (by decide) (List.mem_of_getElem? (i := 1) rfl) (v := .ref (a1 0)) rfl dX7_steps_35 ?_
      obtain ⟨y2, hc, hf⟩ := bd_of hf
      refine g_cVv (Cn := RX1) C (ct_X1_remember g l N a5 a6 a7 a8 a9 a10 a11 a12 a13 a14 a15 a16 a17 a18 a19 a20 a4 a1 a2 v5 v6 v7 v8 v9 v10 v11 v12 v13 v14 v15 v16 v17 v18 v19 v20 v4 v1 v2 hc) gX7_steps_X1_remember rfl 1 (by decide +kernel) ⟨rfl, rfl, ⟨Nat.le_of_ble_eq_true rfl, Nat.le_of_ble_eq_true rfl⟩, Nat.le_of_ble_eq_true rfl, Nat.le_of_ble_eq_true rfl⟩ rfl hl (Nat.le_of_ble_eq_true rfl) dX7_steps_38 rfl hW hA [5, 6, 7, 8, 9, 10, 11, 12, 13, 14, 15, 16, 17, 18, 19, 20, 4, 1, 2] rfl rfl rfl (ch' := [kX3 g a0 v0, kX4 g a1 (a2 0) v1, kX0 g a2 v2, kX5 g a3 (a0 0) (a1 0) v3, kX1 g a4 (a5 0) (a7 0) (a9 0) (a11 0) (a13 0) (a15 0) (a17 0) (a19 0) y2.2.2.2.2.2.2.2.2.2.2.2.2.2.2.2.2, kX4 g a5 (a6 0) y2.1, kX0 g a6 y2.2.1, kX4 g a7 (a8 0) y2.2.2.1, kX0 g a8 y2.2.2.2.1, kX4 g a9 (a10 0) y2.2.2.2.2.1, kX0 g a10 y2.2.2.2.2.2.1, kX4 g a11 (a12 0) y2.2.2.2.2.2.2.1, kX0 g a12 y2.2.2.2.2.2.2.2.1, kX4 g a13 (a14 0) y2.2.2.2.2.2.2.2.2.1, kX0 g a14 y2.2.2.2.2.2.2.2.2.2.1, kX4 g a15 (a16 0) y2.2.2.2.2.2.2.2.2.2.2.1, kX0 g a16 y2.2.2.2.2.2.2.2.2.2.2.2.1, kX4 g a17 (a18 0) y2.2.2.2.2.2.2.2.2.2.2.2.2.1, kX0 g a18 y2.2.2.2.2.2.2.2.2.2.2.2.2.2.1, kX4 g a19 (a20 0) y2.2.2.2.2.2.2.2.2.2.2.2.2.2.2.1, kX0 g a20 y2.2.2.2.2.2.2.2.2.2.2.2.2.2.2.2.1, kX7 g a21 q0 (a0 0) q2 (a1 0) q4 (a3 0) q6 (a4 0) q8 q9 v21]) rfl 4 rfl rfl rfl (fun H locs hW => ?_)
      refine lv_aload_n hx hb dX7_steps_41 rfl (lv_at hl 0 rfl) ?_
      refine g_get C hW inX7 21 rfl rfl rfl 5 (by decide) (List.mem_of_getElem? (i := 4) rfl) (v := .ref (a3 0)) rfl dX7_steps_42 ?_
      refine lv_iload_n hx hb dX7_steps_45 rfl (lv_at hl 1 rfl) ?_
      obtain ⟨y3, hc, hf⟩ := bd_of hf
      refine g_cV (Cn := RX5) C (ct_X5_takeSteps g l N a0 a1 a2 a3 x1 v0 v1 v2 v3 hc) gX7_steps_X5_takeSteps rfl 1 (by decide +kernel) ⟨rfl, rfl, ⟨Nat.le_of_ble_eq_true rfl, Nat.le_of_ble_eq_true rfl⟩, Nat.le_of_ble_eq_true rfl, Nat.le_of_ble_eq_true rfl⟩ rfl hl (Nat.le_of_ble_eq_true rfl) dX7_steps_46 rfl hW hA [0, 1, 2, 3] rfl rfl rfl (ch' := [kX3 g a0 v0, kX4 g a1 (a2 0) y3.2.1, kX0 g a2 y3.2.2.1, kX5 g a3 (a0 0) (a1 0) y3.2.2.2, kX1 g a4 (a5 0) (a7 0) (a9 0) (a11 0) (a13 0) (a15 0) (a17 0) (a19 0) y2.2.2.2.2.2.2.2.2.2.2.2.2.2.2.2.2, kX4 g a5 (a6 0) y2.1, kX0 g a6 y2.2.1, kX4 g a7 (a8 0) y2.2.2.1, kX0 g a8 y2.2.2.2.1, kX4 g a9 (a10 0) y2.2.2.2.2.1, kX0 g a10 y2.2.2.2.2.2.1, kX4 g a11 (a12 0) y2.2.2.2.2.2.2.1, kX0 g a12 y2.2.2.2.2.2.2.2.1, kX4 g a13 (a14 0) y2.2.2.2.2.2.2.2.2.1, kX0 g a14 y2.2.2.2.2.2.2.2.2.2.1, kX4 g a15 (a16 0) y2.2.2.2.2.2.2.2.2.2.2.1, kX0 g a16 y2.2.2.2.2.2.2.2.2.2.2.2.1, kX4 g a17 (a18 0) y2.2.2.2.2.2.2.2.2.2.2.2.2.1, kX0 g a18 y2.2.2.2.2.2.2.2.2.2.2.2.2.2.1, kX4 g a19 (a20 0) y2.2.2.2.2.2.2.2.2.2.2.2.2.2.2.1, kX0 g a20 y2.2.2.2.2.2.2.2.2.2.2.2.2.2.2.2.1, kX7 g a21 q0 (a0 0) q2 (a1 0) q4 (a3 0) q6 (a4 0) q8 q9 v21]) rfl 3 rfl rfl rfl (fun H locs hW => ?_)
      obtain rfl := Option.some.inj hf
      subst hQ
      exact g_iret C hr hk0 hW rfl rfl dX7_steps_49
    · replace hf := (if_neg h).symm.trans hf
      refine lv_bipush (v := (-2 : Int32)) hx hb dX7_steps_27 (by decide) ?_
      obtain rfl := Option.some.inj hf
      subst hQ
      exact g_iret C hr hk0 hW rfl rfl dX7_steps_29
  · replace hf := (if_pos h).symm.trans hf
    refine lv_iconst (v := (-1 : Int32)) hx hb dX7_steps_10 (by decide) ?_
    obtain rfl := Option.some.inj hf
    subst hQ
    exact g_iret C hr hk0 hW rfl rfl dX7_steps_11
def fX7_deafens (N : Nat) (x1 : Int32) (x2 : Int32) (x3 : Int32) (v0 : MM) (v1 : MM) (v2 : MM) (v3 : MM) (v4 : MM) (v5 : MM) (v6 : MM) (v7 : MM) (v8 : MM) (v9 : MM) (v10 : MM) (v11 : MM) (v12 : MM) (v13 : MM) (v14 : MM) (v15 : MM) (v16 : MM) (v17 : MM) (v18 : MM) (v19 : MM) (v20 : MM) : Option (Int32 × MM × MM × MM × MM × MM × MM × MM × MM × MM × MM × MM × MM × MM × MM × MM × MM × MM × MM) := ((fX7_hasTerminal N x1 v0 v20).bind (fun y1 => (if y1 = 0 then some ((-1 : Int32), v1, v3, v4, v5, v6, v7, v8, v9, v10, v11, v12, v13, v14, v15, v16, v17, v18, v19) else ((fX7_isWithin N x2 (v1 0 0) (199 : Int32)).bind (fun y2 => (if y2 = 0 then some ((-1 : Int32), v1, v3, v4, v5, v6, v7, v8, v9, v10, v11, v12, v13, v14, v15, v16, v17, v18, v19) else ((fX7_isWithin N x3 x2 (199 : Int32)).bind (fun y3 => (if y3 = 0 then some ((-1 : Int32), v1, v3, v4, v5, v6, v7, v8, v9, v10, v11, v12, v13, v14, v15, v16, v17, v18, v19) else ((fX1_remember N v4 v5 v6 v7 v8 v9 v10 v11 v12 v13 v14 v15 v16 v17 v18 v19 v3 v1 v2).bind (fun y4 => ((fX4_makeDeaf N x1 x2 x3 v1).bind (fun y5 => some (y5.1, y5.2, y4.2.2.2.2.2.2.2.2.2.2.2.2.2.2.2.2, y4.1, y4.2.1, y4.2.2.1, y4.2.2.2.1, y4.2.2.2.2.1, y4.2.2.2.2.2.1, y4.2.2.2.2.2.2.1, y4.2.2.2.2.2.2.2.1, y4.2.2.2.2.2.2.2.2.1, y4.2.2.2.2.2.2.2.2.2.1, y4.2.2.2.2.2.2.2.2.2.2.1, y4.2.2.2.2.2.2.2.2.2.2.2.1, y4.2.2.2.2.2.2.2.2.2.2.2.2.1, y4.2.2.2.2.2.2.2.2.2.2.2.2.2.1, y4.2.2.2.2.2.2.2.2.2.2.2.2.2.2.1, y4.2.2.2.2.2.2.2.2.2.2.2.2.2.2.2.1))))))))))))))
set_option maxHeartbeats 4000000 in
set_option maxRecDepth 100000 in
theorem ct_X7_deafens (g : GT) (l : Launch) (N : Nat) (a0 : Nat → Nat) (a1 : Nat → Nat) (a2 : Nat → Nat) (a3 : Nat → Nat) (a4 : Nat → Nat) (a5 : Nat → Nat) (a6 : Nat → Nat) (a7 : Nat → Nat) (a8 : Nat → Nat) (a9 : Nat → Nat) (a10 : Nat → Nat) (a11 : Nat → Nat) (a12 : Nat → Nat) (a13 : Nat → Nat) (a14 : Nat → Nat) (a15 : Nat → Nat) (a16 : Nat → Nat) (a17 : Nat → Nat) (a18 : Nat → Nat) (a19 : Nat → Nat) (a20 : Nat → Nat) (q0 : Nat) (q2 : Nat) (q4 : Nat) (q5 : Nat) (q6 : Nat) (q8 : Nat) (q9 : Nat) (x1 : Int32) (x2 : Int32) (x3 : Int32) (v0 : MM) (v1 : MM) (v2 : MM) (v3 : MM) (v4 : MM) (v5 : MM) (v6 : MM) (v7 : MM) (v8 : MM) (v9 : MM) (v10 : MM) (v11 : MM) (v12 : MM) (v13 : MM) (v14 : MM) (v15 : MM) (v16 : MM) (v17 : MM) (v18 : MM) (v19 : MM) (v20 : MM) {y : Int32 × MM × MM × MM × MM × MM × MM × MM × MM × MM × MM × MM × MM × MM × MM × MM × MM × MM × MM} (hf : fX7_deafens N x1 x2 x3 v0 v1 v2 v3 v4 v5 v6 v7 v8 v9 v10 v11 v12 v13 v14 v15 v16 v17 v18 v19 v20 = some y) : ct g l yX7_deafens wsX7_deafens (rmk 5 111) [.ref (a20 0), .int x1, .int x2, .int x3] [kX3 g a0 v0, kX4 g a1 (a2 0) v1, kX0 g a2 v2, kX1 g a3 (a4 0) (a6 0) (a8 0) (a10 0) (a12 0) (a14 0) (a16 0) (a18 0) v3, kX4 g a4 (a5 0) v4, kX0 g a5 v5, kX4 g a6 (a7 0) v6, kX0 g a7 v7, kX4 g a8 (a9 0) v8, kX0 g a9 v9, kX4 g a10 (a11 0) v10, kX0 g a11 v11, kX4 g a12 (a13 0) v12, kX0 g a13 v13, kX4 g a14 (a15 0) v14, kX0 g a15 v15, kX4 g a16 (a17 0) v16, kX0 g a17 v17, kX4 g a18 (a19 0) v18, kX0 g a19 v19, kX7 g a20 q0 (a0 0) q2 (a1 0) q4 q5 q6 (a3 0) q8 q9 v20] (some (.int y.1)) [kX3 g a0 v0, kX4 g a1 (a2 0) y.2.1, kX0 g a2 v2, kX1 g a3 (a4 0) (a6 0) (a8 0) (a10 0) (a12 0) (a14 0) (a16 0) (a18 0) y.2.2.1, kX4 g a4 (a5 0) y.2.2.2.1, kX0 g a5 y.2.2.2.2.1, kX4 g a6 (a7 0) y.2.2.2.2.2.1, kX0 g a7 y.2.2.2.2.2.2.1, kX4 g a8 (a9 0) y.2.2.2.2.2.2.2.1, kX0 g a9 y.2.2.2.2.2.2.2.2.1, kX4 g a10 (a11 0) y.2.2.2.2.2.2.2.2.2.1, kX0 g a11 y.2.2.2.2.2.2.2.2.2.2.1, kX4 g a12 (a13 0) y.2.2.2.2.2.2.2.2.2.2.2.1, kX0 g a13 y.2.2.2.2.2.2.2.2.2.2.2.2.1, kX4 g a14 (a15 0) y.2.2.2.2.2.2.2.2.2.2.2.2.2.1, kX0 g a15 y.2.2.2.2.2.2.2.2.2.2.2.2.2.2.1, kX4 g a16 (a17 0) y.2.2.2.2.2.2.2.2.2.2.2.2.2.2.2.1, kX0 g a17 y.2.2.2.2.2.2.2.2.2.2.2.2.2.2.2.2.1, kX4 g a18 (a19 0) y.2.2.2.2.2.2.2.2.2.2.2.2.2.2.2.2.2.1, kX0 g a19 y.2.2.2.2.2.2.2.2.2.2.2.2.2.2.2.2.2.2, kX7 g a20 q0 (a0 0) q2 (a1 0) q4 q5 q6 (a3 0) q8 q9 v20] := by
  refine ct_of (cc := cX7_deafens) (maxL := 4) (ret := (some .int)) (by decide) rfl (Nat.le_of_ble_eq_true rfl) ?_
  intro p e s m args below meth c A ls C hr hk0 hA hW hl
  have hx := C.1.1
  have hb := C.1.2.1
  replace hl : lv_has ls 4 [(0, .ref (a20 0)), (1, .int x1), (2, .int x2), (3, .int x3)] := hl
  obtain ⟨Q, hQ⟩ : ∃ Q, Q = MQ below (ctQ g A (some (.int y.1)) [kX3 g a0 v0, kX4 g a1 (a2 0) y.2.1, kX0 g a2 v2, kX1 g a3 (a4 0) (a6 0) (a8 0) (a10 0) (a12 0) (a14 0) (a16 0) (a18 0) y.2.2.1, kX4 g a4 (a5 0) y.2.2.2.1, kX0 g a5 y.2.2.2.2.1, kX4 g a6 (a7 0) y.2.2.2.2.2.1, kX0 g a7 y.2.2.2.2.2.2.1, kX4 g a8 (a9 0) y.2.2.2.2.2.2.2.1, kX0 g a9 y.2.2.2.2.2.2.2.2.1, kX4 g a10 (a11 0) y.2.2.2.2.2.2.2.2.2.1, kX0 g a11 y.2.2.2.2.2.2.2.2.2.2.1, kX4 g a12 (a13 0) y.2.2.2.2.2.2.2.2.2.2.2.1, kX0 g a13 y.2.2.2.2.2.2.2.2.2.2.2.2.1, kX4 g a14 (a15 0) y.2.2.2.2.2.2.2.2.2.2.2.2.2.1, kX0 g a15 y.2.2.2.2.2.2.2.2.2.2.2.2.2.2.1, kX4 g a16 (a17 0) y.2.2.2.2.2.2.2.2.2.2.2.2.2.2.2.1, kX0 g a17 y.2.2.2.2.2.2.2.2.2.2.2.2.2.2.2.2.1, kX4 g a18 (a19 0) y.2.2.2.2.2.2.2.2.2.2.2.2.2.2.2.2.2.1, kX0 g a19 y.2.2.2.2.2.2.2.2.2.2.2.2.2.2.2.2.2.2, kX7 g a20 q0 (a0 0) q2 (a1 0) q4 q5 q6 (a3 0) q8 q9 v20]) args s 0 0 A := ⟨_, rfl⟩
  rw [← hQ]
  obtain ⟨H, hH⟩ : ∃ H, H = s.heap := ⟨_, rfl⟩
  obtain ⟨locs, hL⟩ : ∃ locs : List Loc, locs = [] := ⟨_, rfl⟩
  replace hW : wd g A s.heap [kX3 g a0 v0, kX4 g a1 (a2 0) v1, kX0 g a2 v2, kX1 g a3 (a4 0) (a6 0) (a8 0) (a10 0) (a12 0) (a14 0) (a16 0) (a18 0) v3, kX4 g a4 (a5 0) v4, kX0 g a5 v5, kX4 g a6 (a7 0) v6, kX0 g a7 v7, kX4 g a8 (a9 0) v8, kX0 g a9 v9, kX4 g a10 (a11 0) v10, kX0 g a11 v11, kX4 g a12 (a13 0) v12, kX0 g a13 v13, kX4 g a14 (a15 0) v14, kX0 g a15 v15, kX4 g a16 (a17 0) v16, kX0 g a17 v17, kX4 g a18 (a19 0) v18, kX0 g a19 v19, kX7 g a20 q0 (a0 0) q2 (a1 0) q4 q5 q6 (a3 0) q8 q9 v20] H locs := by rw [hH, hL]; exact hW
  suffices hG : W p l e (rmk 5 111) s m args below meth c H locs 0 0 Q (F0 m 0 ls []) by
    rw [hH, hL] at hG; exact hG
  clear hH hL
  have inX4 : ∀ w ∈ wsX40, w ∈ wsX7_deafens := fun _ h => List.mem_cons_of_mem _ (List.mem_append_left _ (List.mem_append_left _ (List.mem_append_left _ (List.mem_append_right _ (h)))))
  have inX7 : ∀ w ∈ wsX70, w ∈ wsX7_deafens := fun _ h => List.mem_cons_of_mem _ (List.mem_append_left _ (List.mem_append_left _ (List.mem_append_left _ (List.mem_append_left _ (List.mem_append_right _ (h))))))
  rw [fX7_deafens] at hf
  refine lv_aload_n hx hb dX7_deafens_0 rfl (lv_at hl 0 rfl) ?_
  refine lv_iload_n hx hb dX7_deafens_1 rfl (lv_at hl 1 rfl) ?_
  obtain ⟨y1, hc, hf⟩ := bd_of hf
  refine g_cV (Cn := RX7) C (ct_X7_hasTerminal g l N a0 a20 q0 q2 (a1 0) q4 q5 q6 (a3 0) q8 q9 x1 v0 v20 hc) gX7_deafens_X7_hasTerminal rfl 1 (by decide +kernel) ⟨rfl, rfl, ⟨Nat.le_of_ble_eq_true rfl, Nat.le_of_ble_eq_true rfl⟩, Nat.le_of_ble_eq_true rfl, Nat.le_of_ble_eq_true rfl⟩ rfl hl (Nat.le_of_ble_eq_true rfl) dX7_deafens_2 rfl hW hA [0, 20] rfl rfl rfl (ch' := [kX3 g a0 v0, kX4 g a1 (a2 0) v1, kX0 g a2 v2, kX1 g a3 (a4 0) (a6 0) (a8 0) (a10 0) (a12 0) (a14 0) (a16 0) (a18 0) v3, kX4 g a4 (a5 0) v4, kX0 g a5 v5, kX4 g a6 (a7 0) v6, kX0 g a7 v7, kX4 g a8 (a9 0) v8, kX0 g a9 v9, kX4 g a10 (a11 0) v10, kX0 g a11 v11, kX4 g a12 (a13 0) v12, kX0 g a13 v13, kX4 g a14 (a15 0) v14, kX0 g a15 v15, kX4 g a16 (a17 0) v16, kX0 g a17 v17, kX4 g a18 (a19 0) v18, kX0 g a19 v19, kX7 g a20 q0 (a0 0) q2 (a1 0) q4 q5 q6 (a3 0) q8 q9 v20]) rfl 20 rfl rfl rfl (fun H locs hW => ?_)
  refine lv_if_eq (tgt := 36) hx hb dX7_deafens_5 (by decide) (fun h => ?_) (fun h => ?_)
  · replace hf := (if_pos h).symm.trans hf
    refine lv_iconst (v := (-1 : Int32)) hx hb dX7_deafens_36 (by decide) ?_
    obtain rfl := Option.some.inj hf
    subst hQ
    exact g_iret C hr hk0 hW rfl rfl dX7_deafens_37
  · replace hf := (if_neg h).symm.trans hf
    refine lv_iload_n hx hb dX7_deafens_8 rfl (lv_at hl 2 rfl) ?_
    refine lv_aload_n hx hb dX7_deafens_9 rfl (lv_at hl 0 rfl) ?_
    refine g_get C hW inX7 20 rfl rfl rfl 3 (by decide) (List.mem_of_getElem? (i := 1) rfl) (v := .ref (a1 0)) rfl dX7_deafens_10 ?_
    refine g_get C hW inX4 1 rfl rfl rfl 0 (by decide) (List.mem_of_getElem? (i := 2) rfl) (v := .int (v1 0 0)) rfl dX7_deafens_13 ?_
    refine lv_sipush (v := (199 : Int32)) hx hb dX7_deafens_16 (by decide) ?_
    obtain ⟨y2, hc, hf⟩ := bd_of hf
    refine g_cS C (ct_X7_isWithin g l N x2 (v1 0 0) (199 : Int32) hc) gX7_deafens_X7_isWithin rfl 3 (by decide +kernel) ⟨rfl, rfl, ⟨Nat.le_of_ble_eq_true rfl, Nat.le_of_ble_eq_true rfl⟩, Nat.le_of_ble_eq_true rfl, Nat.le_of_ble_eq_true rfl⟩ rfl hl (Nat.le_of_ble_eq_true rfl) dX7_deafens_19 rfl hW hA [] rfl rfl rfl (ch' := [kX3 g a0 v0, kX4 g a1 (a2 0) v1, kX0 g a2 v2, kX1 g a3 (a4 0) (a6 0) (a8 0) (a10 0) (a12 0) (a14 0) (a16 0) (a18 0) v3, kX4 g a4 (a5 0) v4, kX0 g a5 v5, kX4 g a6 (a7 0) v6, kX0 g a7 v7, kX4 g a8 (a9 0) v8, kX0 g a9 v9, kX4 g a10 (a11 0) v10, kX0 g a11 v11, kX4 g a12 (a13 0) v12, kX0 g a13 v13, kX4 g a14 (a15 0) v14, kX0 g a15 v15, kX4 g a16 (a17 0) v16, kX0 g a17 v17, kX4 g a18 (a19 0) v18, kX0 g a19 v19, kX7 g a20 q0 (a0 0) q2 (a1 0) q4 q5 q6 (a3 0) q8 q9 v20]) rfl (fun H locs hW => ?_)
    refine lv_if_eq (tgt := 36) hx hb dX7_deafens_22 (by decide) (fun h => ?_) (fun h => ?_)
    · replace hf := (if_pos h).symm.trans hf
      refine lv_iconst (v := (-1 : Int32)) hx hb dX7_deafens_36 (by decide) ?_
      obtain rfl := Option.some.inj hf
      subst hQ
      exact g_iret C hr hk0 hW rfl rfl dX7_deafens_37
    · replace hf := (if_neg h).symm.trans hf
      refine lv_iload_n hx hb dX7_deafens_25 rfl (lv_at hl 3 rfl) ?_
      refine lv_iload_n hx hb dX7_deafens_26 rfl (lv_at hl 2 rfl) ?_
      refine lv_sipush (v := (199 : Int32)) hx hb dX7_deafens_27 (by decide) ?_
      obtain ⟨y3, hc, hf⟩ := bd_of hf
      refine g_cS C (ct_X7_isWithin g l N x3 x2 (199 : Int32) hc) gX7_deafens_X7_isWithin rfl 3 (by decide +kernel) ⟨rfl, rfl, ⟨Nat.le_of_ble_eq_true rfl, Nat.le_of_ble_eq_true rfl⟩, Nat.le_of_ble_eq_true rfl, Nat.le_of_ble_eq_true rfl⟩ rfl hl (Nat.le_of_ble_eq_true rfl) dX7_deafens_30 rfl hW hA [] rfl rfl rfl (ch' := [kX3 g a0 v0, kX4 g a1 (a2 0) v1, kX0 g a2 v2, kX1 g a3 (a4 0) (a6 0) (a8 0) (a10 0) (a12 0) (a14 0) (a16 0) (a18 0) v3, kX4 g a4 (a5 0) v4, kX0 g a5 v5, kX4 g a6 (a7 0) v6, kX0 g a7 v7, kX4 g a8 (a9 0) v8, kX0 g a9 v9, kX4 g a10 (a11 0) v10, kX0 g a11 v11, kX4 g a12 (a13 0) v12, kX0 g a13 v13, kX4 g a14 (a15 0) v14, kX0 g a15 v15, kX4 g a16 (a17 0) v16, kX0 g a17 v17, kX4 g a18 (a19 0) v18, kX0 g a19 v19, kX7 g a20 q0 (a0 0) q2 (a1 0) q4 q5 q6 (a3 0) q8 q9 v20]) rfl (fun H locs hW => ?_)
      refine lv_if_ne (tgt := 38) hx hb dX7_deafens_33 (by decide) (fun h => ?_) (fun h => ?_)
      · replace hf := (if_neg h).symm.trans hf
        refine lv_aload_n hx hb dX7_deafens_38 rfl (lv_at hl 0 rfl) ?_
        refine g_get C hW inX7 20 rfl rfl rfl 7 (by decide) (List.mem_of_getElem? (i := 3) rfl) (v := .ref (a3 0)) rfl dX7_deafens_39 ?_
        refine lv_aload_n hx hb dX7_deafens_42 rfl (lv_at hl 0 rfl) ?_
        refine g_get C hW inX7 20 rfl rfl rfl 3 (by decide) (List.mem_of_getElem? (i := 1) rfl) (v := .ref (a1 0)) rfl dX7_deafens_43 ?_
        obtain ⟨y4, hc, hf⟩ := bd_of hf
        refine g_cVv (Cn := RX1) C (ct_X1_remember g l N a4 a5 a6 a7 a8 a9 a10 a11 a12 a13 a14 a15 a16 a17 a18 a19 a3 a1 a2 v4 v5 v6 v7 v8 v9 v10 v11 v12 v13 v14 v15 v16 v17 v18 v19 v3 v1 v2 hc) gX7_deafens_X1_remember rfl 1 (by decide +kernel) ⟨rfl, rfl, ⟨Nat.le_of_ble_eq_true rfl, Nat.le_of_ble_eq_true rfl⟩, Nat.le_of_ble_eq_true rfl, Nat.le_of_ble_eq_true rfl⟩ rfl hl (Nat.le_of_ble_eq_true rfl) dX7_deafens_46 rfl hW hA [4, 5, 6, 7, 8, 9, 10, 11, 12, 13, 14, 15, 16, 17, 18, 19, 3, 1, 2] rfl rfl rfl (ch' := [kX3 g a0 v0, kX4 g a1 (a2 0) v1, kX0 g a2 v2, kX1 g a3 (a4 0) (a6 0) (a8 0) (a10 0) (a12 0) (a14 0) (a16 0) (a18 0) y4.2.2.2.2.2.2.2.2.2.2.2.2.2.2.2.2, kX4 g a4 (a5 0) y4.1, kX0 g a5 y4.2.1, kX4 g a6 (a7 0) y4.2.2.1, kX0 g a7 y4.2.2.2.1, kX4 g a8 (a9 0) y4.2.2.2.2.1, kX0 g a9 y4.2.2.2.2.2.1, kX4 g a10 (a11 0) y4.2.2.2.2.2.2.1, kX0 g a11 y4.2.2.2.2.2.2.2.1, kX4 g a12 (a13 0) y4.2.2.2.2.2.2.2.2.1, kX0 g a13 y4.2.2.2.2.2.2.2.2.2.1, kX4 g a14 (a15 0) y4.2.2.2.2.2.2.2.2.2.2.1, kX0 g a15 y4.2.2.2.2.2.2.2.2.2.2.2.1, kX4 g a16 (a17 0) y4.2.2.2.2.2.2.2.2.2.2.2.2.1, kX0 g a17 y4.2.2.2.2.2.2.2.2.2.2.2.2.2.1, kX4 g a18 (a19 0) y4.2.2.2.2.2.2.2.2.2.2.2.2.2.2.1, kX0 g a19 y4.2.2.2.2.2.2.2.2.2.2.2.2.2.2.2.1, kX7 g a20 q0 (a0 0) q2 (a1 0) q4 q5 q6 (a3 0) q8 q9 v20]) rfl 3 rfl rfl rfl (fun H locs hW => ?_)
        refine lv_aload_n hx hb dX7_deafens_49 rfl (lv_at hl 0 rfl) ?_
        refine g_get C hW inX7 20 rfl rfl rfl 3 (by decide) (List.mem_of_getElem? (i := 1) rfl) (v := .ref (a1 0)) rfl dX7_deafens_50 ?_
        refine lv_iload_n hx hb dX7_deafens_53 rfl (lv_at hl 1 rfl) ?_
        refine lv_iload_n hx hb dX7_deafens_54 rfl (lv_at hl 2 rfl) ?_
        refine lv_iload_n hx hb dX7_deafens_55 rfl (lv_at hl 3 rfl) ?_
        obtain ⟨y5, hc, hf⟩ := bd_of hf
        refine g_cV (Cn := RX4) C (ct_X4_makeDeaf g l N a1 (a2 0) x1 x2 x3 v1 hc) gX7_deafens_X4_makeDeaf rfl 3 (by decide +kernel) ⟨rfl, rfl, ⟨Nat.le_of_ble_eq_true rfl, Nat.le_of_ble_eq_true rfl⟩, Nat.le_of_ble_eq_true rfl, Nat.le_of_ble_eq_true rfl⟩ rfl hl (Nat.le_of_ble_eq_true rfl) dX7_deafens_56 rfl hW hA [1] rfl rfl rfl (ch' := [kX3 g a0 v0, kX4 g a1 (a2 0) y5.2, kX0 g a2 v2, kX1 g a3 (a4 0) (a6 0) (a8 0) (a10 0) (a12 0) (a14 0) (a16 0) (a18 0) y4.2.2.2.2.2.2.2.2.2.2.2.2.2.2.2.2, kX4 g a4 (a5 0) y4.1, kX0 g a5 y4.2.1, kX4 g a6 (a7 0) y4.2.2.1, kX0 g a7 y4.2.2.2.1, kX4 g a8 (a9 0) y4.2.2.2.2.1, kX0 g a9 y4.2.2.2.2.2.1, kX4 g a10 (a11 0) y4.2.2.2.2.2.2.1, kX0 g a11 y4.2.2.2.2.2.2.2.1, kX4 g a12 (a13 0) y4.2.2.2.2.2.2.2.2.1, kX0 g a13 y4.2.2.2.2.2.2.2.2.2.1, kX4 g a14 (a15 0) y4.2.2.2.2.2.2.2.2.2.2.1, kX0 g a15 y4.2.2.2.2.2.2.2.2.2.2.2.1, kX4 g a16 (a17 0) y4.2.2.2.2.2.2.2.2.2.2.2.2.1, kX0 g a17 y4.2.2.2.2.2.2.2.2.2.2.2.2.2.1, kX4 g a18 (a19 0) y4.2.2.2.2.2.2.2.2.2.2.2.2.2.2.1, kX0 g a19 y4.2.2.2.2.2.2.2.2.2.2.2.2.2.2.2.1, kX7 g a20 q0 (a0 0) q2 (a1 0) q4 q5 q6 (a3 0) q8 q9 v20]) rfl 1 rfl rfl rfl (fun H locs hW => ?_)
        obtain rfl := Option.some.inj hf
        subst hQ
        exact g_iret C hr hk0 hW rfl rfl dX7_deafens_59
      · replace hf := (if_pos h).symm.trans hf
        refine lv_iconst (v := (-1 : Int32)) hx hb dX7_deafens_36 (by decide) ?_
        obtain rfl := Option.some.inj hf
        subst hQ
        exact g_iret C hr hk0 hW rfl rfl dX7_deafens_37
def fX7_widens (N : Nat) (x1 : Int32) (v0 : MM) (v1 : MM) (v2 : MM) (v3 : MM) (v4 : MM) (v5 : MM) (v6 : MM) (v7 : MM) (v8 : MM) (v9 : MM) (v10 : MM) (v11 : MM) (v12 : MM) (v13 : MM) (v14 : MM) (v15 : MM) (v16 : MM) (v17 : MM) (v18 : MM) (v19 : MM) : Option (Int32 × MM × MM × MM × MM × MM × MM × MM × MM × MM × MM × MM × MM × MM × MM × MM × MM × MM × MM) := ((fX7_isWithin N x1 (0 : Int32) (60 : Int32)).bind (fun y1 => (if y1 = 0 then some ((-1 : Int32), v0, v2, v3, v4, v5, v6, v7, v8, v9, v10, v11, v12, v13, v14, v15, v16, v17, v18) else (if x1 = (v0 1 0) then some ((-2 : Int32), v0, v2, v3, v4, v5, v6, v7, v8, v9, v10, v11, v12, v13, v14, v15, v16, v17, v18) else ((fX1_remember N v3 v4 v5 v6 v7 v8 v9 v10 v11 v12 v13 v14 v15 v16 v17 v18 v2 v0 v1).bind (fun y2 => some ((v0 1 0), (st v0 1 (fun _ => x1)), y2.2.2.2.2.2.2.2.2.2.2.2.2.2.2.2.2, y2.1, y2.2.1, y2.2.2.1, y2.2.2.2.1, y2.2.2.2.2.1, y2.2.2.2.2.2.1, y2.2.2.2.2.2.2.1, y2.2.2.2.2.2.2.2.1, y2.2.2.2.2.2.2.2.2.1, y2.2.2.2.2.2.2.2.2.2.1, y2.2.2.2.2.2.2.2.2.2.2.1, y2.2.2.2.2.2.2.2.2.2.2.2.1, y2.2.2.2.2.2.2.2.2.2.2.2.2.1, y2.2.2.2.2.2.2.2.2.2.2.2.2.2.1, y2.2.2.2.2.2.2.2.2.2.2.2.2.2.2.1, y2.2.2.2.2.2.2.2.2.2.2.2.2.2.2.2.1)))))))
set_option maxHeartbeats 4000000 in
set_option maxRecDepth 100000 in
theorem ct_X7_widens (g : GT) (l : Launch) (N : Nat) (a0 : Nat → Nat) (a1 : Nat → Nat) (a2 : Nat → Nat) (a3 : Nat → Nat) (a4 : Nat → Nat) (a5 : Nat → Nat) (a6 : Nat → Nat) (a7 : Nat → Nat) (a8 : Nat → Nat) (a9 : Nat → Nat) (a10 : Nat → Nat) (a11 : Nat → Nat) (a12 : Nat → Nat) (a13 : Nat → Nat) (a14 : Nat → Nat) (a15 : Nat → Nat) (a16 : Nat → Nat) (a17 : Nat → Nat) (a18 : Nat → Nat) (a19 : Nat → Nat) (q0 : Nat) (q1 : Nat) (q2 : Nat) (q4 : Nat) (q5 : Nat) (q6 : Nat) (q8 : Nat) (q9 : Nat) (x1 : Int32) (v0 : MM) (v1 : MM) (v2 : MM) (v3 : MM) (v4 : MM) (v5 : MM) (v6 : MM) (v7 : MM) (v8 : MM) (v9 : MM) (v10 : MM) (v11 : MM) (v12 : MM) (v13 : MM) (v14 : MM) (v15 : MM) (v16 : MM) (v17 : MM) (v18 : MM) (v19 : MM) {y : Int32 × MM × MM × MM × MM × MM × MM × MM × MM × MM × MM × MM × MM × MM × MM × MM × MM × MM × MM} (hf : fX7_widens N x1 v0 v1 v2 v3 v4 v5 v6 v7 v8 v9 v10 v11 v12 v13 v14 v15 v16 v17 v18 v19 = some y) : ct g l yX7_widens wsX7_widens (rmk 5 111) [.ref (a19 0), .int x1] [kX4 g a0 (a1 0) v0, kX0 g a1 v1, kX1 g a2 (a3 0) (a5 0) (a7 0) (a9 0) (a11 0) (a13 0) (a15 0) (a17 0) v2, kX4 g a3 (a4 0) v3, kX0 g a4 v4, kX4 g a5 (a6 0) v5, kX0 g a6 v6, kX4 g a7 (a8 0) v7, kX0 g a8 v8, kX4 g a9 (a10 0) v9, kX0 g a10 v10, kX4 g a11 (a12 0) v11, kX0 g a12 v12, kX4 g a13 (a14 0) v13, kX0 g a14 v14, kX4 g a15 (a16 0) v15, kX0 g a16 v16, kX4 g a17 (a18 0) v17, kX0 g a18 v18, kX7 g a19 q0 q1 q2 (a0 0) q4 q5 q6 (a2 0) q8 q9 v19] (some (.int y.1)) [kX4 g a0 (a1 0) y.2.1, kX0 g a1 v1, kX1 g a2 (a3 0) (a5 0) (a7 0) (a9 0) (a11 0) (a13 0) (a15 0) (a17 0) y.2.2.1, kX4 g a3 (a4 0) y.2.2.2.1, kX0 g a4 y.2.2.2.2.1, kX4 g a5 (a6 0) y.2.2.2.2.2.1, kX0 g a6 y.2.2.2.2.2.2.1, kX4 g a7 (a8 0) y.2.2.2.2.2.2.2.1, kX0 g a8 y.2.2.2.2.2.2.2.2.1, kX4 g a9 (a10 0) y.2.2.2.2.2.2.2.2.2.1, kX0 g a10 y.2.2.2.2.2.2.2.2.2.2.1, kX4 g a11 (a12 0) y.2.2.2.2.2.2.2.2.2.2.2.1, kX0 g a12 y.2.2.2.2.2.2.2.2.2.2.2.2.1, kX4 g a13 (a14 0) y.2.2.2.2.2.2.2.2.2.2.2.2.2.1, kX0 g a14 y.2.2.2.2.2.2.2.2.2.2.2.2.2.2.1, kX4 g a15 (a16 0) y.2.2.2.2.2.2.2.2.2.2.2.2.2.2.2.1, kX0 g a16 y.2.2.2.2.2.2.2.2.2.2.2.2.2.2.2.2.1, kX4 g a17 (a18 0) y.2.2.2.2.2.2.2.2.2.2.2.2.2.2.2.2.2.1, kX0 g a18 y.2.2.2.2.2.2.2.2.2.2.2.2.2.2.2.2.2.2, kX7 g a19 q0 q1 q2 (a0 0) q4 q5 q6 (a2 0) q8 q9 v19] := by
  refine ct_of (cc := cX7_widens) (maxL := 3) (ret := (some .int)) (by decide) rfl (Nat.le_of_ble_eq_true rfl) ?_
  intro p e s m args below meth c A ls C hr hk0 hA hW hl
  have hx := C.1.1
  have hb := C.1.2.1
  replace hl : lv_has ls 3 [(0, .ref (a19 0)), (1, .int x1)] := hl
  obtain ⟨Q, hQ⟩ : ∃ Q, Q = MQ below (ctQ g A (some (.int y.1)) [kX4 g a0 (a1 0) y.2.1, kX0 g a1 v1, kX1 g a2 (a3 0) (a5 0) (a7 0) (a9 0) (a11 0) (a13 0) (a15 0) (a17 0) y.2.2.1, kX4 g a3 (a4 0) y.2.2.2.1, kX0 g a4 y.2.2.2.2.1, kX4 g a5 (a6 0) y.2.2.2.2.2.1, kX0 g a6 y.2.2.2.2.2.2.1, kX4 g a7 (a8 0) y.2.2.2.2.2.2.2.1, kX0 g a8 y.2.2.2.2.2.2.2.2.1, kX4 g a9 (a10 0) y.2.2.2.2.2.2.2.2.2.1, kX0 g a10 y.2.2.2.2.2.2.2.2.2.2.1, kX4 g a11 (a12 0) y.2.2.2.2.2.2.2.2.2.2.2.1, kX0 g a12 y.2.2.2.2.2.2.2.2.2.2.2.2.1, kX4 g a13 (a14 0) y.2.2.2.2.2.2.2.2.2.2.2.2.2.1, kX0 g a14 y.2.2.2.2.2.2.2.2.2.2.2.2.2.2.1, kX4 g a15 (a16 0) y.2.2.2.2.2.2.2.2.2.2.2.2.2.2.2.1, kX0 g a16 y.2.2.2.2.2.2.2.2.2.2.2.2.2.2.2.2.1, kX4 g a17 (a18 0) y.2.2.2.2.2.2.2.2.2.2.2.2.2.2.2.2.2.1, kX0 g a18 y.2.2.2.2.2.2.2.2.2.2.2.2.2.2.2.2.2.2, kX7 g a19 q0 q1 q2 (a0 0) q4 q5 q6 (a2 0) q8 q9 v19]) args s 0 0 A := ⟨_, rfl⟩
  rw [← hQ]
  obtain ⟨H, hH⟩ : ∃ H, H = s.heap := ⟨_, rfl⟩
  obtain ⟨locs, hL⟩ : ∃ locs : List Loc, locs = [] := ⟨_, rfl⟩
  replace hW : wd g A s.heap [kX4 g a0 (a1 0) v0, kX0 g a1 v1, kX1 g a2 (a3 0) (a5 0) (a7 0) (a9 0) (a11 0) (a13 0) (a15 0) (a17 0) v2, kX4 g a3 (a4 0) v3, kX0 g a4 v4, kX4 g a5 (a6 0) v5, kX0 g a6 v6, kX4 g a7 (a8 0) v7, kX0 g a8 v8, kX4 g a9 (a10 0) v9, kX0 g a10 v10, kX4 g a11 (a12 0) v11, kX0 g a12 v12, kX4 g a13 (a14 0) v13, kX0 g a14 v14, kX4 g a15 (a16 0) v15, kX0 g a16 v16, kX4 g a17 (a18 0) v17, kX0 g a18 v18, kX7 g a19 q0 q1 q2 (a0 0) q4 q5 q6 (a2 0) q8 q9 v19] H locs := by rw [hH, hL]; exact hW
  suffices hG : W p l e (rmk 5 111) s m args below meth c H locs 0 0 Q (F0 m 0 ls []) by
    rw [hH, hL] at hG; exact hG
  clear hH hL
  have inX4 : ∀ w ∈ wsX40, w ∈ wsX7_widens := fun _ h => List.mem_cons_of_mem _ (List.mem_append_left _ (List.mem_append_left _ (List.mem_append_right _ (h))))
  have inX7 : ∀ w ∈ wsX70, w ∈ wsX7_widens := fun _ h => List.mem_cons_of_mem _ (List.mem_append_left _ (List.mem_append_left _ (List.mem_append_left _ (List.mem_append_right _ (h)))))
  rw [fX7_widens] at hf
  refine lv_iload_n hx hb dX7_widens_0 rfl (lv_at hl 1 rfl) ?_
  refine lv_iconst (v := (0 : Int32)) hx hb dX7_widens_1 (by decide) ?_
  refine lv_bipush (v := (60 : Int32)) hx hb dX7_widens_2 (by decide) ?_
  obtain ⟨y1, hc, hf⟩ := bd_of hf
  refine g_cS C (ct_X7_isWithin g l N x1 (0 : Int32) (60 : Int32) hc) gX7_widens_X7_isWithin rfl 3 (by decide +kernel) ⟨rfl, rfl, ⟨Nat.le_of_ble_eq_true rfl, Nat.le_of_ble_eq_true rfl⟩, Nat.le_of_ble_eq_true rfl, Nat.le_of_ble_eq_true rfl⟩ rfl hl (Nat.le_of_ble_eq_true rfl) dX7_widens_4 rfl hW hA [] rfl rfl rfl (ch' := [kX4 g a0 (a1 0) v0, kX0 g a1 v1, kX1 g a2 (a3 0) (a5 0) (a7 0) (a9 0) (a11 0) (a13 0) (a15 0) (a17 0) v2, kX4 g a3 (a4 0) v3, kX0 g a4 v4, kX4 g a5 (a6 0) v5, kX0 g a6 v6, kX4 g a7 (a8 0) v7, kX0 g a8 v8, kX4 g a9 (a10 0) v9, kX0 g a10 v10, kX4 g a11 (a12 0) v11, kX0 g a12 v12, kX4 g a13 (a14 0) v13, kX0 g a14 v14, kX4 g a15 (a16 0) v15, kX0 g a16 v16, kX4 g a17 (a18 0) v17, kX0 g a18 v18, kX7 g a19 q0 q1 q2 (a0 0) q4 q5 q6 (a2 0) q8 q9 v19]) rfl (fun H locs hW => ?_)
  refine lv_if_ne (tgt := 12) hx hb dX7_widens_7 (by decide) (fun h => ?_) (fun h => ?_)
  · replace hf := (if_neg h).symm.trans hf
    refine lv_aload_n hx hb dX7_widens_12 rfl (lv_at hl 0 rfl) ?_
    refine g_get C hW inX7 19 rfl rfl rfl 3 (by decide) (List.mem_of_getElem? (i := 1) rfl) (v := .ref (a0 0)) rfl dX7_widens_13 ?_
    refine g_get C hW inX4 0 rfl rfl rfl 1 (by decide) (List.mem_of_getElem? (i := 2) rfl) (v := .int (v0 1 0)) rfl dX7_widens_16 ?_
    refine lv_istore_n (lv' := [(2, .int (v0 1 0)), (0, .ref (a19 0)), (1, .int x1)]) hx hb dX7_widens_19 rfl hl (by decide) rfl (fun ls hl => ?_)
    refine lv_iload_n hx hb dX7_widens_20 rfl (lv_at hl 2 rfl) ?_
    refine lv_iload_n hx hb dX7_widens_21 rfl (lv_at hl 0 rfl) ?_
    refine lv_icmp_ne (tgt := 28) hx hb dX7_widens_22 (by decide) (fun h => ?_) (fun h => ?_)
    · replace hf := (if_neg h).symm.trans hf
      refine lv_aload_n hx hb dX7_widens_28 rfl (lv_at hl 1 rfl) ?_
      refine g_get C hW inX7 19 rfl rfl rfl 7 (by decide) (List.mem_of_getElem? (i := 3) rfl) (v := .ref (a2 0)) rfl dX7_widens_29 ?_
      refine lv_aload_n hx hb dX7_widens_32 rfl (lv_at hl 1 rfl) ?_
      refine g_get C hW inX7 19 rfl rfl rfl 3 (by decide) (List.mem_of_getElem? (i := 1) rfl) (v := .ref (a0 0)) rfl dX7_widens_33 ?_
      obtain ⟨y2, hc, hf⟩ := bd_of hf
      refine g_cVv (Cn := RX1) C (ct_X1_remember g l N a3 a4 a5 a6 a7 a8 a9 a10 a11 a12 a13 a14 a15 a16 a17 a18 a2 a0 a1 v3 v4 v5 v6 v7 v8 v9 v10 v11 v12 v13 v14 v15 v16 v17 v18 v2 v0 v1 hc) gX7_widens_X1_remember rfl 1 (by decide +kernel) ⟨rfl, rfl, ⟨Nat.le_of_ble_eq_true rfl, Nat.le_of_ble_eq_true rfl⟩, Nat.le_of_ble_eq_true rfl, Nat.le_of_ble_eq_true rfl⟩ rfl hl (Nat.le_of_ble_eq_true rfl) dX7_widens_36 rfl hW hA [3, 4, 5, 6, 7, 8, 9, 10, 11, 12, 13, 14, 15, 16, 17, 18, 2, 0, 1] rfl rfl rfl (ch' := [kX4 g a0 (a1 0) v0, kX0 g a1 v1, kX1 g a2 (a3 0) (a5 0) (a7 0) (a9 0) (a11 0) (a13 0) (a15 0) (a17 0) y2.2.2.2.2.2.2.2.2.2.2.2.2.2.2.2.2, kX4 g a3 (a4 0) y2.1, kX0 g a4 y2.2.1, kX4 g a5 (a6 0) y2.2.2.1, kX0 g a6 y2.2.2.2.1, kX4 g a7 (a8 0) y2.2.2.2.2.1, kX0 g a8 y2.2.2.2.2.2.1, kX4 g a9 (a10 0) y2.2.2.2.2.2.2.1, kX0 g a10 y2.2.2.2.2.2.2.2.1, kX4 g a11 (a12 0) y2.2.2.2.2.2.2.2.2.1, kX0 g a12 y2.2.2.2.2.2.2.2.2.2.1, kX4 g a13 (a14 0) y2.2.2.2.2.2.2.2.2.2.2.1, kX0 g a14 y2.2.2.2.2.2.2.2.2.2.2.2.1, kX4 g a15 (a16 0) y2.2.2.2.2.2.2.2.2.2.2.2.2.1, kX0 g a16 y2.2.2.2.2.2.2.2.2.2.2.2.2.2.1, kX4 g a17 (a18 0) y2.2.2.2.2.2.2.2.2.2.2.2.2.2.2.1, kX0 g a18 y2.2.2.2.2.2.2.2.2.2.2.2.2.2.2.2.1, kX7 g a19 q0 q1 q2 (a0 0) q4 q5 q6 (a2 0) q8 q9 v19]) rfl 2 rfl rfl rfl (fun H locs hW => ?_)
      refine lv_aload_n hx hb dX7_widens_39 rfl (lv_at hl 1 rfl) ?_
      refine g_get C hW inX7 19 rfl rfl rfl 3 (by decide) (List.mem_of_getElem? (i := 1) rfl) (v := .ref (a0 0)) rfl dX7_widens_40 ?_
      refine lv_iload_n hx hb dX7_widens_43 rfl (lv_at hl 2 rfl) ?_
      refine g_put C hW inX4 tyX4_ok nmX4 0 rfl rfl rfl 1 (by decide) (List.mem_of_getElem? (i := 2) rfl) rfl rfl rfl rfl (kX4_s1 g a0 (a1 0) v0 x1) (ch' := [kX4 g a0 (a1 0) (st v0 1 (fun _ => x1)), kX0 g a1 v1, kX1 g a2 (a3 0) (a5 0) (a7 0) (a9 0) (a11 0) (a13 0) (a15 0) (a17 0) y2.2.2.2.2.2.2.2.2.2.2.2.2.2.2.2.2, kX4 g a3 (a4 0) y2.1, kX0 g a4 y2.2.1, kX4 g a5 (a6 0) y2.2.2.1, kX0 g a6 y2.2.2.2.1, kX4 g a7 (a8 0) y2.2.2.2.2.1, kX0 g a8 y2.2.2.2.2.2.1, kX4 g a9 (a10 0) y2.2.2.2.2.2.2.1, kX0 g a10 y2.2.2.2.2.2.2.2.1, kX4 g a11 (a12 0) y2.2.2.2.2.2.2.2.2.1, kX0 g a12 y2.2.2.2.2.2.2.2.2.2.1, kX4 g a13 (a14 0) y2.2.2.2.2.2.2.2.2.2.2.1, kX0 g a14 y2.2.2.2.2.2.2.2.2.2.2.2.1, kX4 g a15 (a16 0) y2.2.2.2.2.2.2.2.2.2.2.2.2.1, kX0 g a16 y2.2.2.2.2.2.2.2.2.2.2.2.2.2.1, kX4 g a17 (a18 0) y2.2.2.2.2.2.2.2.2.2.2.2.2.2.2.1, kX0 g a18 y2.2.2.2.2.2.2.2.2.2.2.2.2.2.2.2.1, kX7 g a19 q0 q1 q2 (a0 0) q4 q5 q6 (a2 0) q8 q9 v19]) rfl dX7_widens_44 (fun H locs hW => ?_)
      refine lv_iload_n hx hb dX7_widens_47 rfl (lv_at hl 0 rfl) ?_
      obtain rfl := Option.some.inj hf
      subst hQ
      exact g_iret C hr hk0 hW rfl rfl dX7_widens_48
    · replace hf := (if_pos h).symm.trans hf
      refine lv_bipush (v := (-2 : Int32)) hx hb dX7_widens_25 (by decide) ?_
      obtain rfl := Option.some.inj hf
      subst hQ
      exact g_iret C hr hk0 hW rfl rfl dX7_widens_27
  · replace hf := (if_pos h).symm.trans hf
    refine lv_iconst (v := (-1 : Int32)) hx hb dX7_widens_10 (by decide) ?_
    obtain rfl := Option.some.inj hf
    subst hQ
    exact g_iret C hr hk0 hW rfl rfl dX7_widens_11
def fX7_undo (N : Nat) (v0 : MM) (v1 : MM) (v2 : MM) (v3 : MM) (v4 : MM) (v5 : MM) (v6 : MM) (v7 : MM) (v8 : MM) (v9 : MM) (v10 : MM) (v11 : MM) (v12 : MM) (v13 : MM) (v14 : MM) (v15 : MM) (v16 : MM) (v17 : MM) (v18 : MM) (v19 : MM) : Option (Int32 × MM × MM × MM) := ((fX1_takeBack N v3 v4 v5 v6 v7 v8 v9 v10 v11 v12 v13 v14 v15 v16 v17 v18 v2 v0 v1).bind (fun y1 => (if y1.1 = 0 then some ((-2 : Int32), y1.2.2.1, y1.2.2.2, y1.2.1) else some ((y1.2.1 0 0), y1.2.2.1, y1.2.2.2, y1.2.1))))
set_option maxHeartbeats 4000000 in
set_option maxRecDepth 100000 in
theorem ct_X7_undo (g : GT) (l : Launch) (N : Nat) (a0 : Nat → Nat) (a1 : Nat → Nat) (a2 : Nat → Nat) (a3 : Nat → Nat) (a4 : Nat → Nat) (a5 : Nat → Nat) (a6 : Nat → Nat) (a7 : Nat → Nat) (a8 : Nat → Nat) (a9 : Nat → Nat) (a10 : Nat → Nat) (a11 : Nat → Nat) (a12 : Nat → Nat) (a13 : Nat → Nat) (a14 : Nat → Nat) (a15 : Nat → Nat) (a16 : Nat → Nat) (a17 : Nat → Nat) (a18 : Nat → Nat) (a19 : Nat → Nat) (q0 : Nat) (q1 : Nat) (q2 : Nat) (q4 : Nat) (q5 : Nat) (q6 : Nat) (q8 : Nat) (q9 : Nat) (v0 : MM) (v1 : MM) (v2 : MM) (v3 : MM) (v4 : MM) (v5 : MM) (v6 : MM) (v7 : MM) (v8 : MM) (v9 : MM) (v10 : MM) (v11 : MM) (v12 : MM) (v13 : MM) (v14 : MM) (v15 : MM) (v16 : MM) (v17 : MM) (v18 : MM) (v19 : MM) {y : Int32 × MM × MM × MM} (hf : fX7_undo N v0 v1 v2 v3 v4 v5 v6 v7 v8 v9 v10 v11 v12 v13 v14 v15 v16 v17 v18 v19 = some y) : ct g l yX7_undo wsX7_undo (rmk 5 111) [.ref (a19 0)] [kX4 g a0 (a1 0) v0, kX0 g a1 v1, kX1 g a2 (a3 0) (a5 0) (a7 0) (a9 0) (a11 0) (a13 0) (a15 0) (a17 0) v2, kX4 g a3 (a4 0) v3, kX0 g a4 v4, kX4 g a5 (a6 0) v5, kX0 g a6 v6, kX4 g a7 (a8 0) v7, kX0 g a8 v8, kX4 g a9 (a10 0) v9, kX0 g a10 v10, kX4 g a11 (a12 0) v11, kX0 g a12 v12, kX4 g a13 (a14 0) v13, kX0 g a14 v14, kX4 g a15 (a16 0) v15, kX0 g a16 v16, kX4 g a17 (a18 0) v17, kX0 g a18 v18, kX7 g a19 q0 q1 q2 (a0 0) q4 q5 q6 (a2 0) q8 q9 v19] (some (.int y.1)) [kX4 g a0 (a1 0) y.2.1, kX0 g a1 y.2.2.1, kX1 g a2 (a3 0) (a5 0) (a7 0) (a9 0) (a11 0) (a13 0) (a15 0) (a17 0) y.2.2.2, kX4 g a3 (a4 0) v3, kX0 g a4 v4, kX4 g a5 (a6 0) v5, kX0 g a6 v6, kX4 g a7 (a8 0) v7, kX0 g a8 v8, kX4 g a9 (a10 0) v9, kX0 g a10 v10, kX4 g a11 (a12 0) v11, kX0 g a12 v12, kX4 g a13 (a14 0) v13, kX0 g a14 v14, kX4 g a15 (a16 0) v15, kX0 g a16 v16, kX4 g a17 (a18 0) v17, kX0 g a18 v18, kX7 g a19 q0 q1 q2 (a0 0) q4 q5 q6 (a2 0) q8 q9 v19] := by
  refine ct_of (cc := cX7_undo) (maxL := 1) (ret := (some .int)) (by decide) rfl (Nat.le_of_ble_eq_true rfl) ?_
  intro p e s m args below meth c A ls C hr hk0 hA hW hl
  have hx := C.1.1
  have hb := C.1.2.1
  replace hl : lv_has ls 1 [(0, .ref (a19 0))] := hl
  obtain ⟨Q, hQ⟩ : ∃ Q, Q = MQ below (ctQ g A (some (.int y.1)) [kX4 g a0 (a1 0) y.2.1, kX0 g a1 y.2.2.1, kX1 g a2 (a3 0) (a5 0) (a7 0) (a9 0) (a11 0) (a13 0) (a15 0) (a17 0) y.2.2.2, kX4 g a3 (a4 0) v3, kX0 g a4 v4, kX4 g a5 (a6 0) v5, kX0 g a6 v6, kX4 g a7 (a8 0) v7, kX0 g a8 v8, kX4 g a9 (a10 0) v9, kX0 g a10 v10, kX4 g a11 (a12 0) v11, kX0 g a12 v12, kX4 g a13 (a14 0) v13, kX0 g a14 v14, kX4 g a15 (a16 0) v15, kX0 g a16 v16, kX4 g a17 (a18 0) v17, kX0 g a18 v18, kX7 g a19 q0 q1 q2 (a0 0) q4 q5 q6 (a2 0) q8 q9 v19]) args s 0 0 A := ⟨_, rfl⟩
  rw [← hQ]
  obtain ⟨H, hH⟩ : ∃ H, H = s.heap := ⟨_, rfl⟩
  obtain ⟨locs, hL⟩ : ∃ locs : List Loc, locs = [] := ⟨_, rfl⟩
  replace hW : wd g A s.heap [kX4 g a0 (a1 0) v0, kX0 g a1 v1, kX1 g a2 (a3 0) (a5 0) (a7 0) (a9 0) (a11 0) (a13 0) (a15 0) (a17 0) v2, kX4 g a3 (a4 0) v3, kX0 g a4 v4, kX4 g a5 (a6 0) v5, kX0 g a6 v6, kX4 g a7 (a8 0) v7, kX0 g a8 v8, kX4 g a9 (a10 0) v9, kX0 g a10 v10, kX4 g a11 (a12 0) v11, kX0 g a12 v12, kX4 g a13 (a14 0) v13, kX0 g a14 v14, kX4 g a15 (a16 0) v15, kX0 g a16 v16, kX4 g a17 (a18 0) v17, kX0 g a18 v18, kX7 g a19 q0 q1 q2 (a0 0) q4 q5 q6 (a2 0) q8 q9 v19] H locs := by rw [hH, hL]; exact hW
  suffices hG : W p l e (rmk 5 111) s m args below meth c H locs 0 0 Q (F0 m 0 ls []) by
    rw [hH, hL] at hG; exact hG
  clear hH hL
  have inX1 : ∀ w ∈ wsX10, w ∈ wsX7_undo := fun _ h => List.mem_cons_of_mem _ (List.mem_append_left _ (List.mem_append_left _ (List.mem_append_right _ (h))))
  have inX7 : ∀ w ∈ wsX70, w ∈ wsX7_undo := fun _ h => List.mem_cons_of_mem _ (List.mem_append_left _ (List.mem_append_left _ (List.mem_append_left _ (List.mem_append_right _ (h)))))
  rw [fX7_undo] at hf
  refine lv_aload_n hx hb dX7_undo_0 rfl (lv_at hl 0 rfl) ?_
  refine g_get C hW inX7 19 rfl rfl rfl 7 (by decide) (List.mem_of_getElem? (i := 1) rfl) (v := .ref (a2 0)) rfl dX7_undo_1 ?_
  refine lv_aload_n hx hb dX7_undo_4 rfl (lv_at hl 0 rfl) ?_
  refine g_get C hW inX7 19 rfl rfl rfl 3 (by decide) (List.mem_of_getElem? (i := 2) rfl) (v := .ref (a0 0)) rfl dX7_undo_5 ?_
  obtain ⟨y1, hc, hf⟩ := bd_of hf
  refine g_cV (Cn := RX1) C (ct_X1_takeBack g l N a3 a4 a5 a6 a7 a8 a9 a10 a11 a12 a13 a14 a15 a16 a17 a18 a2 a0 a1 v3 v4 v5 v6 v7 v8 v9 v10 v11 v12 v13 v14 v15 v16 v17 v18 v2 v0 v1 hc) gX7_undo_X1_takeBack rfl 1 (by decide +kernel) ⟨rfl, rfl, ⟨Nat.le_of_ble_eq_true rfl, Nat.le_of_ble_eq_true rfl⟩, Nat.le_of_ble_eq_true rfl, Nat.le_of_ble_eq_true rfl⟩ rfl hl (Nat.le_of_ble_eq_true rfl) dX7_undo_8 rfl hW hA [3, 4, 5, 6, 7, 8, 9, 10, 11, 12, 13, 14, 15, 16, 17, 18, 2, 0, 1] rfl rfl rfl (ch' := [kX4 g a0 (a1 0) y1.2.2.1, kX0 g a1 y1.2.2.2, kX1 g a2 (a3 0) (a5 0) (a7 0) (a9 0) (a11 0) (a13 0) (a15 0) (a17 0) y1.2.1, kX4 g a3 (a4 0) v3, kX0 g a4 v4, kX4 g a5 (a6 0) v5, kX0 g a6 v6, kX4 g a7 (a8 0) v7, kX0 g a8 v8, kX4 g a9 (a10 0) v9, kX0 g a10 v10, kX4 g a11 (a12 0) v11, kX0 g a12 v12, kX4 g a13 (a14 0) v13, kX0 g a14 v14, kX4 g a15 (a16 0) v15, kX0 g a16 v16, kX4 g a17 (a18 0) v17, kX0 g a18 v18, kX7 g a19 q0 q1 q2 (a0 0) q4 q5 q6 (a2 0) q8 q9 v19]) rfl 2 rfl rfl rfl (fun H locs hW => ?_)
  refine lv_if_eq (tgt := 24) hx hb dX7_undo_11 (by decide) (fun h => ?_) (fun h => ?_)
  · replace hf := (if_pos h).symm.trans hf
    refine lv_bipush (v := (-2 : Int32)) hx hb dX7_undo_24 (by decide) ?_
    obtain rfl := Option.some.inj hf
    subst hQ
    exact g_iret C hr hk0 hW rfl rfl dX7_undo_26
  · replace hf := (if_neg h).symm.trans hf
    refine lv_aload_n hx hb dX7_undo_14 rfl (lv_at hl 0 rfl) ?_
    refine g_get C hW inX7 19 rfl rfl rfl 7 (by decide) (List.mem_of_getElem? (i := 1) rfl) (v := .ref (a2 0)) rfl dX7_undo_15 ?_
    refine g_get C hW inX1 2 rfl rfl rfl 0 (by decide) (List.mem_of_getElem? (i := 3) rfl) (v := .int (y1.2.1 0 0)) rfl dX7_undo_18 ?_
    refine lv_goto (tgt := 26) hx hb dX7_undo_21 (by decide) ?_
    obtain rfl := Option.some.inj hf
    subst hQ
    exact g_iret C hr hk0 hW rfl rfl dX7_undo_26
def fX7_sort (N : Nat) (x1 : Int32) (x2 : Int32) (v0 : MM) (v1 : MM) (v2 : MM) (v3 : MM) : Option (Int32) := ((fX7_hasClass N x1 v0 v3).bind (fun y1 => (if y1 = 0 then some (-1 : Int32) else (if x2 = (0 : Int32) then (if ib x1 6 = true then some ((v0 7) (Int32.toNatClampNeg x1)) else none) else (if x2 = (1 : Int32) then (if ib x1 6 = true then some ((v0 8) (Int32.toNatClampNeg x1)) else none) else (if x2 = (2 : Int32) then (if ib x1 6 = true then some ((v0 9) (Int32.toNatClampNeg x1)) else none) else (if x2 = (3 : Int32) then (if ib x1 6 = true then some ((v0 10) (Int32.toNatClampNeg x1)) else none) else (if x2 = (4 : Int32) then (if ib x1 6 = true then some ((v1 9) (Int32.toNatClampNeg x1)) else none) else (if x2 = (5 : Int32) then (if ib x1 6 = true then some ((v1 10) (Int32.toNatClampNeg x1)) else none) else (if x2 = (6 : Int32) then (if ib x1 6 = true then some ((v1 11) (Int32.toNatClampNeg x1)) else none) else (if x2 = (7 : Int32) then (if ib x1 6 = true then some ((v1 12) (Int32.toNatClampNeg x1)) else none) else (if x2 = (8 : Int32) then ((fX0_lettersOnTheWay N x1 v2).bind (fun y2 => some y2)) else some (-1 : Int32)))))))))))))
set_option maxHeartbeats 4000000 in
set_option maxRecDepth 100000 in
theorem ct_X7_sort (g : GT) (l : Launch) (N : Nat) (a0 : Nat → Nat) (a1 : Nat → Nat) (a2 : Nat → Nat) (a3 : Nat → Nat) (q0 : Nat) (q2 : Nat) (q4 : Nat) (q5 : Nat) (q6 : Nat) (q7 : Nat) (q8 : Nat) (q9 : Nat) (x1 : Int32) (x2 : Int32) (v0 : MM) (v1 : MM) (v2 : MM) (v3 : MM) {y : Int32} (hf : fX7_sort N x1 x2 v0 v1 v2 v3 = some y) : ct g l yX7_sort wsX7_sort (rmk 2 46) [.ref (a3 0), .int x1, .int x2] [kX3 g a0 v0, kX4 g a1 (a2 0) v1, kX0 g a2 v2, kX7 g a3 q0 (a0 0) q2 (a1 0) q4 q5 q6 q7 q8 q9 v3] (some (.int y)) [kX3 g a0 v0, kX4 g a1 (a2 0) v1, kX0 g a2 v2, kX7 g a3 q0 (a0 0) q2 (a1 0) q4 q5 q6 q7 q8 q9 v3] := by
  refine ct_of (cc := cX7_sort) (maxL := 3) (ret := (some .int)) (by decide) rfl (Nat.le_of_ble_eq_true rfl) ?_
  intro p e s m args below meth c A ls C hr hk0 hA hW hl
  have hx := C.1.1
  have hb := C.1.2.1
  replace hl : lv_has ls 3 [(0, .ref (a3 0)), (1, .int x1), (2, .int x2)] := hl
  obtain ⟨Q, hQ⟩ : ∃ Q, Q = MQ below (ctQ g A (some (.int y)) [kX3 g a0 v0, kX4 g a1 (a2 0) v1, kX0 g a2 v2, kX7 g a3 q0 (a0 0) q2 (a1 0) q4 q5 q6 q7 q8 q9 v3]) args s 0 0 A := ⟨_, rfl⟩
  rw [← hQ]
  obtain ⟨H, hH⟩ : ∃ H, H = s.heap := ⟨_, rfl⟩
  obtain ⟨locs, hL⟩ : ∃ locs : List Loc, locs = [] := ⟨_, rfl⟩
  replace hW : wd g A s.heap [kX3 g a0 v0, kX4 g a1 (a2 0) v1, kX0 g a2 v2, kX7 g a3 q0 (a0 0) q2 (a1 0) q4 q5 q6 q7 q8 q9 v3] H locs := by rw [hH, hL]; exact hW
  suffices hG : W p l e (rmk 2 46) s m args below meth c H locs 0 0 Q (F0 m 0 ls []) by
    rw [hH, hL] at hG; exact hG
  clear hH hL
  have inX3 : ∀ w ∈ wsX30, w ∈ wsX7_sort := fun _ h => List.mem_cons_of_mem _ (List.mem_append_left _ (List.mem_append_left _ (List.mem_append_right _ (h))))
  have inX4 : ∀ w ∈ wsX40, w ∈ wsX7_sort := fun _ h => List.mem_cons_of_mem _ (List.mem_append_left _ (List.mem_append_right _ (h)))
  have inX7 : ∀ w ∈ wsX70, w ∈ wsX7_sort := fun _ h => List.mem_cons_of_mem _ (List.mem_append_left _ (List.mem_append_left _ (List.mem_append_left _ (List.mem_append_right _ (h)))))
  rw [fX7_sort] at hf
  refine lv_aload_n hx hb dX7_sort_0 rfl (lv_at hl 0 rfl) ?_
  refine lv_iload_n hx hb dX7_sort_1 rfl (lv_at hl 1 rfl) ?_
  obtain ⟨y1, hc, hf⟩ := bd_of hf
  refine g_cV (Cn := RX7) C (ct_X7_hasClass g l N a0 a3 q0 q2 (a1 0) q4 q5 q6 q7 q8 q9 x1 v0 v3 hc) gX7_sort_X7_hasClass rfl 1 (by decide +kernel) ⟨rfl, rfl, ⟨Nat.le_of_ble_eq_true rfl, Nat.le_of_ble_eq_true rfl⟩, Nat.le_of_ble_eq_true rfl, Nat.le_of_ble_eq_true rfl⟩ rfl hl (Nat.le_of_ble_eq_true rfl) dX7_sort_2 rfl hW hA [0, 3] rfl rfl rfl (ch' := [kX3 g a0 v0, kX4 g a1 (a2 0) v1, kX0 g a2 v2, kX7 g a3 q0 (a0 0) q2 (a1 0) q4 q5 q6 q7 q8 q9 v3]) rfl 3 rfl rfl rfl (fun H locs hW => ?_)
  refine lv_if_ne (tgt := 10) hx hb dX7_sort_5 (by decide) (fun h => ?_) (fun h => ?_)
  · replace hf := (if_neg h).symm.trans hf
    refine lv_iload_n hx hb dX7_sort_10 rfl (lv_at hl 2 rfl) ?_
    rcases Decidable.em (x2 = (0 : Int32)) with h0 | h0
    · replace hf := (if_pos h0).symm.trans hf
      refine g_tsw C (off := 49) h0 dX7_sort_11 (by decide) (by decide) (tgt := 60) (by decide) ?_
      refine lv_aload_n hx hb dX7_sort_60 rfl (lv_at hl 0 rfl) ?_
      refine g_get C hW inX7 3 rfl rfl rfl 1 (by decide) (List.mem_of_getElem? (i := 1) rfl) (v := .ref (a0 0)) rfl dX7_sort_61 ?_
      refine g_get C hW inX3 0 rfl rfl rfl 7 (by decide) (List.mem_of_getElem? (i := 2) rfl) (v := .ref (a0 2)) rfl dX7_sort_64 ?_
      refine lv_iload_n hx hb dX7_sort_67 rfl (lv_at hl 1 rfl) ?_
      obtain ⟨hi, hf⟩ := gd_of hf
      refine g_iald C hW 0 2 rfl (f := (v0 7)) rfl (ib_in hi) dX7_sort_68 ?_
      obtain rfl := Option.some.inj hf
      subst hQ
      exact g_iret C hr hk0 hW rfl rfl dX7_sort_69
    replace hf := (if_neg h0).symm.trans hf
    rcases Decidable.em (x2 = (1 : Int32)) with h1 | h1
    · replace hf := (if_pos h1).symm.trans hf
      refine g_tsw C (off := 59) h1 dX7_sort_11 (by decide) (by decide) (tgt := 70) (by decide) ?_
      refine lv_aload_n hx hb dX7_sort_70 rfl (lv_at hl 0 rfl) ?_
      refine g_get C hW inX7 3 rfl rfl rfl 1 (by decide) (List.mem_of_getElem? (i := 1) rfl) (v := .ref (a0 0)) rfl dX7_sort_71 ?_
      refine g_get C hW inX3 0 rfl rfl rfl 8 (by decide) (List.mem_of_getElem? (i := 3) rfl) (v := .ref (a0 3)) rfl dX7_sort_74 ?_
      refine lv_iload_n hx hb dX7_sort_77 rfl (lv_at hl 1 rfl) ?_
      obtain ⟨hi, hf⟩ := gd_of hf
      refine g_iald C hW 0 3 rfl (f := (v0 8)) rfl (ib_in hi) dX7_sort_78 ?_
      obtain rfl := Option.some.inj hf
      subst hQ
      exact g_iret C hr hk0 hW rfl rfl dX7_sort_79
    replace hf := (if_neg h1).symm.trans hf
    rcases Decidable.em (x2 = (2 : Int32)) with h2 | h2
    · replace hf := (if_pos h2).symm.trans hf
      refine g_tsw C (off := 69) h2 dX7_sort_11 (by decide) (by decide) (tgt := 80) (by decide) ?_
      refine lv_aload_n hx hb dX7_sort_80 rfl (lv_at hl 0 rfl) ?_
      refine g_get C hW inX7 3 rfl rfl rfl 1 (by decide) (List.mem_of_getElem? (i := 1) rfl) (v := .ref (a0 0)) rfl dX7_sort_81 ?_
      refine g_get C hW inX3 0 rfl rfl rfl 9 (by decide) (List.mem_of_getElem? (i := 4) rfl) (v := .ref (a0 4)) rfl dX7_sort_84 ?_
      refine lv_iload_n hx hb dX7_sort_87 rfl (lv_at hl 1 rfl) ?_
      obtain ⟨hi, hf⟩ := gd_of hf
      refine g_iald C hW 0 4 rfl (f := (v0 9)) rfl (ib_in hi) dX7_sort_88 ?_
      obtain rfl := Option.some.inj hf
      subst hQ
      exact g_iret C hr hk0 hW rfl rfl dX7_sort_89
    replace hf := (if_neg h2).symm.trans hf
    rcases Decidable.em (x2 = (3 : Int32)) with h3 | h3
    · replace hf := (if_pos h3).symm.trans hf
      refine g_tsw C (off := 79) h3 dX7_sort_11 (by decide) (by decide) (tgt := 90) (by decide) ?_
      refine lv_aload_n hx hb dX7_sort_90 rfl (lv_at hl 0 rfl) ?_
      refine g_get C hW inX7 3 rfl rfl rfl 1 (by decide) (List.mem_of_getElem? (i := 1) rfl) (v := .ref (a0 0)) rfl dX7_sort_91 ?_
      refine g_get C hW inX3 0 rfl rfl rfl 10 (by decide) (List.mem_of_getElem? (i := 5) rfl) (v := .ref (a0 5)) rfl dX7_sort_94 ?_
      refine lv_iload_n hx hb dX7_sort_97 rfl (lv_at hl 1 rfl) ?_
      obtain ⟨hi, hf⟩ := gd_of hf
      refine g_iald C hW 0 5 rfl (f := (v0 10)) rfl (ib_in hi) dX7_sort_98 ?_
      obtain rfl := Option.some.inj hf
      subst hQ
      exact g_iret C hr hk0 hW rfl rfl dX7_sort_99
    replace hf := (if_neg h3).symm.trans hf
    rcases Decidable.em (x2 = (4 : Int32)) with h4 | h4
    · replace hf := (if_pos h4).symm.trans hf
      refine g_tsw C (off := 89) h4 dX7_sort_11 (by decide) (by decide) (tgt := 100) (by decide) ?_
      refine lv_aload_n hx hb dX7_sort_100 rfl (lv_at hl 0 rfl) ?_
      refine g_get C hW inX7 3 rfl rfl rfl 3 (by decide) (List.mem_of_getElem? (i := 6) rfl) (v := .ref (a1 0)) rfl dX7_sort_101 ?_
      refine g_get C hW inX4 1 rfl rfl rfl 9 (by decide) (List.mem_of_getElem? (i := 7) rfl) (v := .ref (a1 7)) rfl dX7_sort_104 ?_
      refine lv_iload_n hx hb dX7_sort_107 rfl (lv_at hl 1 rfl) ?_
      obtain ⟨hi, hf⟩ := gd_of hf
      refine g_iald C hW 1 7 rfl (f := (v1 9)) rfl (ib_in hi) dX7_sort_108 ?_
      obtain rfl := Option.some.inj hf
      subst hQ
      exact g_iret C hr hk0 hW rfl rfl dX7_sort_109
    replace hf := (if_neg h4).symm.trans hf
    rcases Decidable.em (x2 = (5 : Int32)) with h5 | h5
    · replace hf := (if_pos h5).symm.trans hf
      refine g_tsw C (off := 99) h5 dX7_sort_11 (by decide) (by decide) (tgt := 110) (by decide) ?_
      refine lv_aload_n hx hb dX7_sort_110 rfl (lv_at hl 0 rfl) ?_
      refine g_get C hW inX7 3 rfl rfl rfl 3 (by decide) (List.mem_of_getElem? (i := 6) rfl) (v := .ref (a1 0)) rfl dX7_sort_111 ?_
      refine g_get C hW inX4 1 rfl rfl rfl 10 (by decide) (List.mem_of_getElem? (i := 8) rfl) (v := .ref (a1 8)) rfl dX7_sort_114 ?_
      refine lv_iload_n hx hb dX7_sort_117 rfl (lv_at hl 1 rfl) ?_
      obtain ⟨hi, hf⟩ := gd_of hf
      refine g_iald C hW 1 8 rfl (f := (v1 10)) rfl (ib_in hi) dX7_sort_118 ?_
      obtain rfl := Option.some.inj hf
      subst hQ
      exact g_iret C hr hk0 hW rfl rfl dX7_sort_119
    replace hf := (if_neg h5).symm.trans hf
    rcases Decidable.em (x2 = (6 : Int32)) with h6 | h6
    · replace hf := (if_pos h6).symm.trans hf
      refine g_tsw C (off := 109) h6 dX7_sort_11 (by decide) (by decide) (tgt := 120) (by decide) ?_
      refine lv_aload_n hx hb dX7_sort_120 rfl (lv_at hl 0 rfl) ?_
      refine g_get C hW inX7 3 rfl rfl rfl 3 (by decide) (List.mem_of_getElem? (i := 6) rfl) (v := .ref (a1 0)) rfl dX7_sort_121 ?_
      refine g_get C hW inX4 1 rfl rfl rfl 11 (by decide) (List.mem_of_getElem? (i := 9) rfl) (v := .ref (a1 9)) rfl dX7_sort_124 ?_
      refine lv_iload_n hx hb dX7_sort_127 rfl (lv_at hl 1 rfl) ?_
      obtain ⟨hi, hf⟩ := gd_of hf
      refine g_iald C hW 1 9 rfl (f := (v1 11)) rfl (ib_in hi) dX7_sort_128 ?_
      obtain rfl := Option.some.inj hf
      subst hQ
      exact g_iret C hr hk0 hW rfl rfl dX7_sort_129
    replace hf := (if_neg h6).symm.trans hf
    rcases Decidable.em (x2 = (7 : Int32)) with h7 | h7
    · replace hf := (if_pos h7).symm.trans hf
      refine g_tsw C (off := 119) h7 dX7_sort_11 (by decide) (by decide) (tgt := 130) (by decide) ?_
      refine lv_aload_n hx hb dX7_sort_130 rfl (lv_at hl 0 rfl) ?_
      refine g_get C hW inX7 3 rfl rfl rfl 3 (by decide) (List.mem_of_getElem? (i := 6) rfl) (v := .ref (a1 0)) rfl dX7_sort_131 ?_
      refine g_get C hW inX4 1 rfl rfl rfl 12 (by decide) (List.mem_of_getElem? (i := 10) rfl) (v := .ref (a1 10)) rfl dX7_sort_134 ?_
      refine lv_iload_n hx hb dX7_sort_137 rfl (lv_at hl 1 rfl) ?_
      obtain ⟨hi, hf⟩ := gd_of hf
      refine g_iald C hW 1 10 rfl (f := (v1 12)) rfl (ib_in hi) dX7_sort_138 ?_
      obtain rfl := Option.some.inj hf
      subst hQ
      exact g_iret C hr hk0 hW rfl rfl dX7_sort_139
    replace hf := (if_neg h7).symm.trans hf
    rcases Decidable.em (x2 = (8 : Int32)) with h8 | h8
    · replace hf := (if_pos h8).symm.trans hf
      refine g_tsw C (off := 129) h8 dX7_sort_11 (by decide) (by decide) (tgt := 140) (by decide) ?_
      refine lv_aload_n hx hb dX7_sort_140 rfl (lv_at hl 0 rfl) ?_
      refine g_get C hW inX7 3 rfl rfl rfl 3 (by decide) (List.mem_of_getElem? (i := 6) rfl) (v := .ref (a1 0)) rfl dX7_sort_141 ?_
      refine g_get C hW inX4 1 rfl rfl rfl 14 (by decide) (List.mem_of_getElem? (i := 11) rfl) (v := .ref (a2 0)) rfl dX7_sort_144 ?_
      refine lv_iload_n hx hb dX7_sort_147 rfl (lv_at hl 1 rfl) ?_
      obtain ⟨y2, hc, hf⟩ := bd_of hf
      refine g_cV (Cn := RX0) C (ct_X0_lettersOnTheWay g l N a2 x1 v2 hc) gX7_sort_X0_lettersOnTheWay rfl 1 (by decide +kernel) ⟨rfl, rfl, ⟨Nat.le_of_ble_eq_true rfl, Nat.le_of_ble_eq_true rfl⟩, Nat.le_of_ble_eq_true rfl, Nat.le_of_ble_eq_true rfl⟩ rfl hl (Nat.le_of_ble_eq_true rfl) dX7_sort_148 rfl hW hA [2] rfl rfl rfl (ch' := [kX3 g a0 v0, kX4 g a1 (a2 0) v1, kX0 g a2 v2, kX7 g a3 q0 (a0 0) q2 (a1 0) q4 q5 q6 q7 q8 q9 v3]) rfl 2 rfl rfl rfl (fun H locs hW => ?_)
      obtain rfl := Option.some.inj hf
      subst hQ
      exact g_iret C hr hk0 hW rfl rfl dX7_sort_151
    replace hf := (if_neg h8).symm.trans hf
    have t0 := lv_neT h0 (show (0 : Int32).toInt = 0 by decide)
    have t1 := lv_neT h1 (show (1 : Int32).toInt = 1 by decide)
    have t2 := lv_neT h2 (show (2 : Int32).toInt = 2 by decide)
    have t3 := lv_neT h3 (show (3 : Int32).toInt = 3 by decide)
    have t4 := lv_neT h4 (show (4 : Int32).toInt = 4 by decide)
    have t5 := lv_neT h5 (show (5 : Int32).toInt = 5 by decide)
    have t6 := lv_neT h6 (show (6 : Int32).toInt = 6 by decide)
    have t7 := lv_neT h7 (show (7 : Int32).toInt = 7 by decide)
    have t8 := lv_neT h8 (show (8 : Int32).toInt = 8 by decide)
    refine lv_tableOut hx hb dX7_sort_11 (by omega) (tgt := 152) (by decide) ?_
    refine lv_iconst (v := (-1 : Int32)) hx hb dX7_sort_152 (by decide) ?_
    obtain rfl := Option.some.inj hf
    subst hQ
    exact g_iret C hr hk0 hW rfl rfl dX7_sort_153
  · replace hf := (if_pos h).symm.trans hf
    refine lv_iconst (v := (-1 : Int32)) hx hb dX7_sort_8 (by decide) ?_
    obtain rfl := Option.some.inj hf
    subst hQ
    exact g_iret C hr hk0 hW rfl rfl dX7_sort_9
def fX7_terminal (N : Nat) (x1 : Int32) (x2 : Int32) (v0 : MM) (v1 : MM) (v2 : MM) (v3 : MM) (v4 : MM) : Option (Int32) := ((fX7_hasTerminal N x1 v0 v4).bind (fun y1 => (if y1 = 0 then some (-1 : Int32) else (if x2 = (0 : Int32) then (if ib x1 3 = true then some ((v0 6) (Int32.toNatClampNeg x1)) else none) else (if x2 = (1 : Int32) then (if ib x1 3 = true then some ((v1 3) (Int32.toNatClampNeg x1)) else none) else (if x2 = (2 : Int32) then (if ib x1 3 = true then some ((v1 4) (Int32.toNatClampNeg x1)) else none) else (if x2 = (3 : Int32) then (if ib x1 3 = true then some ((v1 5) (Int32.toNatClampNeg x1)) else none) else (if x2 = (4 : Int32) then (if ib x1 3 = true then some ((v1 6) (Int32.toNatClampNeg x1)) else none) else (if x2 = (5 : Int32) then ((fX5_waitingAt N x1 v0 v1 v3).bind (fun y2 => some y2)) else (if x2 = (6 : Int32) then (if ib x1 3 = true then some ((v1 7) (Int32.toNatClampNeg x1)) else none) else (if x2 = (7 : Int32) then (if ib x1 3 = true then some ((v1 8) (Int32.toNatClampNeg x1)) else none) else (if x2 = (8 : Int32) then ((fX0_blocksOf N x1 v2).bind (fun y3 => some y3)) else some (-1 : Int32)))))))))))))
set_option maxHeartbeats 4000000 in
set_option maxRecDepth 100000 in
theorem ct_X7_terminal (g : GT) (l : Launch) (N : Nat) (a0 : Nat → Nat) (a1 : Nat → Nat) (a2 : Nat → Nat) (a3 : Nat → Nat) (a4 : Nat → Nat) (q0 : Nat) (q2 : Nat) (q4 : Nat) (q6 : Nat) (q7 : Nat) (q8 : Nat) (q9 : Nat) (x1 : Int32) (x2 : Int32) (v0 : MM) (v1 : MM) (v2 : MM) (v3 : MM) (v4 : MM) {y : Int32} (hf : fX7_terminal N x1 x2 v0 v1 v2 v3 v4 = some y) : ct g l yX7_terminal wsX7_terminal (rmk 1 23) [.ref (a4 0), .int x1, .int x2] [kX3 g a0 v0, kX4 g a1 (a2 0) v1, kX0 g a2 v2, kX5 g a3 (a0 0) (a1 0) v3, kX7 g a4 q0 (a0 0) q2 (a1 0) q4 (a3 0) q6 q7 q8 q9 v4] (some (.int y)) [kX3 g a0 v0, kX4 g a1 (a2 0) v1, kX0 g a2 v2, kX5 g a3 (a0 0) (a1 0) v3, kX7 g a4 q0 (a0 0) q2 (a1 0) q4 (a3 0) q6 q7 q8 q9 v4] := by
  refine ct_of (cc := cX7_terminal) (maxL := 3) (ret := (some .int)) (by decide) rfl (Nat.le_of_ble_eq_true rfl) ?_
  intro p e s m args below meth c A ls C hr hk0 hA hW hl
  have hx := C.1.1
  have hb := C.1.2.1
  replace hl : lv_has ls 3 [(0, .ref (a4 0)), (1, .int x1), (2, .int x2)] := hl
  obtain ⟨Q, hQ⟩ : ∃ Q, Q = MQ below (ctQ g A (some (.int y)) [kX3 g a0 v0, kX4 g a1 (a2 0) v1, kX0 g a2 v2, kX5 g a3 (a0 0) (a1 0) v3, kX7 g a4 q0 (a0 0) q2 (a1 0) q4 (a3 0) q6 q7 q8 q9 v4]) args s 0 0 A := ⟨_, rfl⟩
  rw [← hQ]
  obtain ⟨H, hH⟩ : ∃ H, H = s.heap := ⟨_, rfl⟩
  obtain ⟨locs, hL⟩ : ∃ locs : List Loc, locs = [] := ⟨_, rfl⟩
  replace hW : wd g A s.heap [kX3 g a0 v0, kX4 g a1 (a2 0) v1, kX0 g a2 v2, kX5 g a3 (a0 0) (a1 0) v3, kX7 g a4 q0 (a0 0) q2 (a1 0) q4 (a3 0) q6 q7 q8 q9 v4] H locs := by rw [hH, hL]; exact hW
  suffices hG : W p l e (rmk 1 23) s m args below meth c H locs 0 0 Q (F0 m 0 ls []) by
    rw [hH, hL] at hG; exact hG
  clear hH hL
  have inX3 : ∀ w ∈ wsX30, w ∈ wsX7_terminal := fun _ h => List.mem_cons_of_mem _ (List.mem_append_left _ (List.mem_append_left _ (List.mem_append_left _ (List.mem_append_right _ (h)))))
  have inX4 : ∀ w ∈ wsX40, w ∈ wsX7_terminal := fun _ h => List.mem_cons_of_mem _ (List.mem_append_left _ (List.mem_append_left _ (List.mem_append_right _ (h))))
  have inX7 : ∀ w ∈ wsX70, w ∈ wsX7_terminal := fun _ h => List.mem_cons_of_mem _ (List.mem_append_left _ (List.mem_append_left _ (List.mem_append_left _ (List.mem_append_left _ (List.mem_append_right _ (h))))))
  rw [fX7_terminal] at hf
  refine lv_aload_n hx hb dX7_terminal_0 rfl (lv_at hl 0 rfl) ?_
  refine lv_iload_n hx hb dX7_terminal_1 rfl (lv_at hl 1 rfl) ?_
  obtain ⟨y1, hc, hf⟩ := bd_of hf
  refine g_cV (Cn := RX7) C (ct_X7_hasTerminal g l N a0 a4 q0 q2 (a1 0) q4 (a3 0) q6 q7 q8 q9 x1 v0 v4 hc) gX7_terminal_X7_hasTerminal rfl 1 (by decide +kernel) ⟨rfl, rfl, ⟨Nat.le_of_ble_eq_true rfl, Nat.le_of_ble_eq_true rfl⟩, Nat.le_of_ble_eq_true rfl, Nat.le_of_ble_eq_true rfl⟩ rfl hl (Nat.le_of_ble_eq_true rfl) dX7_terminal_2 rfl hW hA [0, 4] rfl rfl rfl (ch' := [kX3 g a0 v0, kX4 g a1 (a2 0) v1, kX0 g a2 v2, kX5 g a3 (a0 0) (a1 0) v3, kX7 g a4 q0 (a0 0) q2 (a1 0) q4 (a3 0) q6 q7 q8 q9 v4]) rfl 4 rfl rfl rfl (fun H locs hW => ?_)
  refine lv_if_ne (tgt := 10) hx hb dX7_terminal_5 (by decide) (fun h => ?_) (fun h => ?_)
  · replace hf := (if_neg h).symm.trans hf
    refine lv_iload_n hx hb dX7_terminal_10 rfl (lv_at hl 2 rfl) ?_
    rcases Decidable.em (x2 = (0 : Int32)) with h0 | h0
    · replace hf := (if_pos h0).symm.trans hf
      refine g_tsw C (off := 49) h0 dX7_terminal_11 (by decide) (by decide) (tgt := 60) (by decide) ?_
      refine lv_aload_n hx hb dX7_terminal_60 rfl (lv_at hl 0 rfl) ?_
      refine g_get C hW inX7 4 rfl rfl rfl 1 (by decide) (List.mem_of_getElem? (i := 1) rfl) (v := .ref (a0 0)) rfl dX7_terminal_61 ?_
      refine g_get C hW inX3 0 rfl rfl rfl 6 (by decide) (List.mem_of_getElem? (i := 2) rfl) (v := .ref (a0 1)) rfl dX7_terminal_64 ?_
      refine lv_iload_n hx hb dX7_terminal_67 rfl (lv_at hl 1 rfl) ?_
      obtain ⟨hi, hf⟩ := gd_of hf
      refine g_iald C hW 0 1 rfl (f := (v0 6)) rfl (ib_in hi) dX7_terminal_68 ?_
      obtain rfl := Option.some.inj hf
      subst hQ
      exact g_iret C hr hk0 hW rfl rfl dX7_terminal_69
    replace hf := (if_neg h0).symm.trans hf
    rcases Decidable.em (x2 = (1 : Int32)) with h1 | h1
    · replace hf := (if_pos h1).symm.trans hf
      refine g_tsw C (off := 59) h1 dX7_terminal_11 (by decide) (by decide) (tgt := 70) (by decide) ?_
      refine lv_aload_n hx hb dX7_terminal_70 rfl (lv_at hl 0 rfl) ?_
      refine g_get C hW inX7 4 rfl rfl rfl 3 (by decide) (List.mem_of_getElem? (i := 3) rfl) (v := .ref (a1 0)) rfl dX7_terminal_71 ?_
      refine g_get C hW inX4 1 rfl rfl rfl 3 (by decide) (List.mem_of_getElem? (i := 4) rfl) (v := .ref (a1 1)) rfl dX7_terminal_74 ?_
      refine lv_iload_n hx hb dX7_terminal_77 rfl (lv_at hl 1 rfl) ?_
      obtain ⟨hi, hf⟩ := gd_of hf
      refine g_iald C hW 1 1 rfl (f := (v1 3)) rfl (ib_in hi) dX7_terminal_78 ?_
      obtain rfl := Option.some.inj hf
      subst hQ
      exact g_iret C hr hk0 hW rfl rfl dX7_terminal_79
    replace hf := (if_neg h1).symm.trans hf
    rcases Decidable.em (x2 = (2 : Int32)) with h2 | h2
    · replace hf := (if_pos h2).symm.trans hf
      refine g_tsw C (off := 69) h2 dX7_terminal_11 (by decide) (by decide) (tgt := 80) (by decide) ?_
      refine lv_aload_n hx hb dX7_terminal_80 rfl (lv_at hl 0 rfl) ?_
      refine g_get C hW inX7 4 rfl rfl rfl 3 (by decide) (List.mem_of_getElem? (i := 3) rfl) (v := .ref (a1 0)) rfl dX7_terminal_81 ?_
      refine g_get C hW inX4 1 rfl rfl rfl 4 (by decide) (List.mem_of_getElem? (i := 5) rfl) (v := .ref (a1 2)) rfl dX7_terminal_84 ?_
      refine lv_iload_n hx hb dX7_terminal_87 rfl (lv_at hl 1 rfl) ?_
      obtain ⟨hi, hf⟩ := gd_of hf
      refine g_iald C hW 1 2 rfl (f := (v1 4)) rfl (ib_in hi) dX7_terminal_88 ?_
      obtain rfl := Option.some.inj hf
      subst hQ
      exact g_iret C hr hk0 hW rfl rfl dX7_terminal_89
    replace hf := (if_neg h2).symm.trans hf
    rcases Decidable.em (x2 = (3 : Int32)) with h3 | h3
    · replace hf := (if_pos h3).symm.trans hf
      refine g_tsw C (off := 79) h3 dX7_terminal_11 (by decide) (by decide) (tgt := 90) (by decide) ?_
      refine lv_aload_n hx hb dX7_terminal_90 rfl (lv_at hl 0 rfl) ?_
      refine g_get C hW inX7 4 rfl rfl rfl 3 (by decide) (List.mem_of_getElem? (i := 3) rfl) (v := .ref (a1 0)) rfl dX7_terminal_91 ?_
      refine g_get C hW inX4 1 rfl rfl rfl 5 (by decide) (List.mem_of_getElem? (i := 6) rfl) (v := .ref (a1 3)) rfl dX7_terminal_94 ?_
      refine lv_iload_n hx hb dX7_terminal_97 rfl (lv_at hl 1 rfl) ?_
      obtain ⟨hi, hf⟩ := gd_of hf
      refine g_iald C hW 1 3 rfl (f := (v1 5)) rfl (ib_in hi) dX7_terminal_98 ?_
      obtain rfl := Option.some.inj hf
      subst hQ
      exact g_iret C hr hk0 hW rfl rfl dX7_terminal_99
    replace hf := (if_neg h3).symm.trans hf
    rcases Decidable.em (x2 = (4 : Int32)) with h4 | h4
    · replace hf := (if_pos h4).symm.trans hf
      refine g_tsw C (off := 89) h4 dX7_terminal_11 (by decide) (by decide) (tgt := 100) (by decide) ?_
      refine lv_aload_n hx hb dX7_terminal_100 rfl (lv_at hl 0 rfl) ?_
      refine g_get C hW inX7 4 rfl rfl rfl 3 (by decide) (List.mem_of_getElem? (i := 3) rfl) (v := .ref (a1 0)) rfl dX7_terminal_101 ?_
      refine g_get C hW inX4 1 rfl rfl rfl 6 (by decide) (List.mem_of_getElem? (i := 7) rfl) (v := .ref (a1 4)) rfl dX7_terminal_104 ?_
      refine lv_iload_n hx hb dX7_terminal_107 rfl (lv_at hl 1 rfl) ?_
      obtain ⟨hi, hf⟩ := gd_of hf
      refine g_iald C hW 1 4 rfl (f := (v1 6)) rfl (ib_in hi) dX7_terminal_108 ?_
      obtain rfl := Option.some.inj hf
      subst hQ
      exact g_iret C hr hk0 hW rfl rfl dX7_terminal_109
    replace hf := (if_neg h4).symm.trans hf
    rcases Decidable.em (x2 = (5 : Int32)) with h5 | h5
    · replace hf := (if_pos h5).symm.trans hf
      refine g_tsw C (off := 99) h5 dX7_terminal_11 (by decide) (by decide) (tgt := 110) (by decide) ?_
      refine lv_aload_n hx hb dX7_terminal_110 rfl (lv_at hl 0 rfl) ?_
      refine g_get C hW inX7 4 rfl rfl rfl 5 (by decide) (List.mem_of_getElem? (i := 8) rfl) (v := .ref (a3 0)) rfl dX7_terminal_111 ?_
      refine lv_iload_n hx hb dX7_terminal_114 rfl (lv_at hl 1 rfl) ?_
      obtain ⟨y2, hc, hf⟩ := bd_of hf
      refine g_cV (Cn := RX5) C (ct_X5_waitingAt g l N a0 a1 a3 (a2 0) x1 v0 v1 v3 hc) gX7_terminal_X5_waitingAt rfl 1 (by decide +kernel) ⟨rfl, rfl, ⟨Nat.le_of_ble_eq_true rfl, Nat.le_of_ble_eq_true rfl⟩, Nat.le_of_ble_eq_true rfl, Nat.le_of_ble_eq_true rfl⟩ rfl hl (Nat.le_of_ble_eq_true rfl) dX7_terminal_115 rfl hW hA [0, 1, 3] rfl rfl rfl (ch' := [kX3 g a0 v0, kX4 g a1 (a2 0) v1, kX0 g a2 v2, kX5 g a3 (a0 0) (a1 0) v3, kX7 g a4 q0 (a0 0) q2 (a1 0) q4 (a3 0) q6 q7 q8 q9 v4]) rfl 3 rfl rfl rfl (fun H locs hW => ?_)
      obtain rfl := Option.some.inj hf
      subst hQ
      exact g_iret C hr hk0 hW rfl rfl dX7_terminal_118
    replace hf := (if_neg h5).symm.trans hf
    rcases Decidable.em (x2 = (6 : Int32)) with h6 | h6
    · replace hf := (if_pos h6).symm.trans hf
      refine g_tsw C (off := 108) h6 dX7_terminal_11 (by decide) (by decide) (tgt := 119) (by decide) ?_
      refine lv_aload_n hx hb dX7_terminal_119 rfl (lv_at hl 0 rfl) ?_
      refine g_get C hW inX7 4 rfl rfl rfl 3 (by decide) (List.mem_of_getElem? (i := 3) rfl) (v := .ref (a1 0)) rfl dX7_terminal_120 ?_
      refine g_get C hW inX4 1 rfl rfl rfl 7 (by decide) (List.mem_of_getElem? (i := 9) rfl) (v := .ref (a1 5)) rfl dX7_terminal_123 ?_
      refine lv_iload_n hx hb dX7_terminal_126 rfl (lv_at hl 1 rfl) ?_
      obtain ⟨hi, hf⟩ := gd_of hf
      refine g_iald C hW 1 5 rfl (f := (v1 7)) rfl (ib_in hi) dX7_terminal_127 ?_
      obtain rfl := Option.some.inj hf
      subst hQ
      exact g_iret C hr hk0 hW rfl rfl dX7_terminal_128
    replace hf := (if_neg h6).symm.trans hf
    rcases Decidable.em (x2 = (7 : Int32)) with h7 | h7
    · replace hf := (if_pos h7).symm.trans hf
      refine g_tsw C (off := 118) h7 dX7_terminal_11 (by decide) (by decide) (tgt := 129) (by decide) ?_
      refine lv_aload_n hx hb dX7_terminal_129 rfl (lv_at hl 0 rfl) ?_
      refine g_get C hW inX7 4 rfl rfl rfl 3 (by decide) (List.mem_of_getElem? (i := 3) rfl) (v := .ref (a1 0)) rfl dX7_terminal_130 ?_
      refine g_get C hW inX4 1 rfl rfl rfl 8 (by decide) (List.mem_of_getElem? (i := 10) rfl) (v := .ref (a1 6)) rfl dX7_terminal_133 ?_
      refine lv_iload_n hx hb dX7_terminal_136 rfl (lv_at hl 1 rfl) ?_
      obtain ⟨hi, hf⟩ := gd_of hf
      refine g_iald C hW 1 6 rfl (f := (v1 8)) rfl (ib_in hi) dX7_terminal_137 ?_
      obtain rfl := Option.some.inj hf
      subst hQ
      exact g_iret C hr hk0 hW rfl rfl dX7_terminal_138
    replace hf := (if_neg h7).symm.trans hf
    rcases Decidable.em (x2 = (8 : Int32)) with h8 | h8
    · replace hf := (if_pos h8).symm.trans hf
      refine g_tsw C (off := 128) h8 dX7_terminal_11 (by decide) (by decide) (tgt := 139) (by decide) ?_
      refine lv_aload_n hx hb dX7_terminal_139 rfl (lv_at hl 0 rfl) ?_
      refine g_get C hW inX7 4 rfl rfl rfl 3 (by decide) (List.mem_of_getElem? (i := 3) rfl) (v := .ref (a1 0)) rfl dX7_terminal_140 ?_
      refine g_get C hW inX4 1 rfl rfl rfl 14 (by decide) (List.mem_of_getElem? (i := 11) rfl) (v := .ref (a2 0)) rfl dX7_terminal_143 ?_
      refine lv_iload_n hx hb dX7_terminal_146 rfl (lv_at hl 1 rfl) ?_
      obtain ⟨y3, hc, hf⟩ := bd_of hf
      refine g_cV (Cn := RX0) C (ct_X0_blocksOf g l N a2 x1 v2 hc) gX7_terminal_X0_blocksOf rfl 1 (by decide +kernel) ⟨rfl, rfl, ⟨Nat.le_of_ble_eq_true rfl, Nat.le_of_ble_eq_true rfl⟩, Nat.le_of_ble_eq_true rfl, Nat.le_of_ble_eq_true rfl⟩ rfl hl (Nat.le_of_ble_eq_true rfl) dX7_terminal_147 rfl hW hA [2] rfl rfl rfl (ch' := [kX3 g a0 v0, kX4 g a1 (a2 0) v1, kX0 g a2 v2, kX5 g a3 (a0 0) (a1 0) v3, kX7 g a4 q0 (a0 0) q2 (a1 0) q4 (a3 0) q6 q7 q8 q9 v4]) rfl 2 rfl rfl rfl (fun H locs hW => ?_)
      obtain rfl := Option.some.inj hf
      subst hQ
      exact g_iret C hr hk0 hW rfl rfl dX7_terminal_150
    replace hf := (if_neg h8).symm.trans hf
    have t0 := lv_neT h0 (show (0 : Int32).toInt = 0 by decide)
    have t1 := lv_neT h1 (show (1 : Int32).toInt = 1 by decide)
    have t2 := lv_neT h2 (show (2 : Int32).toInt = 2 by decide)
    have t3 := lv_neT h3 (show (3 : Int32).toInt = 3 by decide)
    have t4 := lv_neT h4 (show (4 : Int32).toInt = 4 by decide)
    have t5 := lv_neT h5 (show (5 : Int32).toInt = 5 by decide)
    have t6 := lv_neT h6 (show (6 : Int32).toInt = 6 by decide)
    have t7 := lv_neT h7 (show (7 : Int32).toInt = 7 by decide)
    have t8 := lv_neT h8 (show (8 : Int32).toInt = 8 by decide)
    refine lv_tableOut hx hb dX7_terminal_11 (by omega) (tgt := 151) (by decide) ?_
    refine lv_iconst (v := (-1 : Int32)) hx hb dX7_terminal_151 (by decide) ?_
    obtain rfl := Option.some.inj hf
    subst hQ
    exact g_iret C hr hk0 hW rfl rfl dX7_terminal_152
  · replace hf := (if_pos h).symm.trans hf
    refine lv_iconst (v := (-1 : Int32)) hx hb dX7_terminal_8 (by decide) ?_
    obtain rfl := Option.some.inj hf
    subst hQ
    exact g_iret C hr hk0 hW rfl rfl dX7_terminal_9
def fX7_block (N : Nat) (x1 : Int32) (x2 : Int32) (v0 : MM) (v1 : MM) (v2 : MM) : Option (Int32) := (if x1 < 0 then some (-1 : Int32) else ((fX7_isWithin N x2 (0 : Int32) (4 : Int32)).bind (fun y1 => (if y1 = 0 then some (-1 : Int32) else ((fX0_placeOf N x1 v1).bind (fun y2 => (if 0 ≤ y2 then ((fX0_told N y2 x2 v1).bind (fun y3 => some y3)) else some (-9 : Int32))))))))
set_option maxHeartbeats 4000000 in
set_option maxRecDepth 100000 in
theorem ct_X7_block (g : GT) (l : Launch) (N : Nat) (a0 : Nat → Nat) (a1 : Nat → Nat) (a2 : Nat → Nat) (q0 : Nat) (q1 : Nat) (q2 : Nat) (q4 : Nat) (q5 : Nat) (q6 : Nat) (q7 : Nat) (q8 : Nat) (q9 : Nat) (x1 : Int32) (x2 : Int32) (v0 : MM) (v1 : MM) (v2 : MM) {y : Int32} (hf : fX7_block N x1 x2 v0 v1 v2 = some y) : ct g l yX7_block wsX7_block (rmk 3 67) [.ref (a2 0), .int x1, .int x2] [kX4 g a0 (a1 0) v0, kX0 g a1 v1, kX7 g a2 q0 q1 q2 (a0 0) q4 q5 q6 q7 q8 q9 v2] (some (.int y)) [kX4 g a0 (a1 0) v0, kX0 g a1 v1, kX7 g a2 q0 q1 q2 (a0 0) q4 q5 q6 q7 q8 q9 v2] := by
  refine ct_of (cc := cX7_block) (maxL := 4) (ret := (some .int)) (by decide) rfl (Nat.le_of_ble_eq_true rfl) ?_
  intro p e s m args below meth c A ls C hr hk0 hA hW hl
  have hx := C.1.1
  have hb := C.1.2.1
  replace hl : lv_has ls 4 [(0, .ref (a2 0)), (1, .int x1), (2, .int x2)] := hl
  obtain ⟨Q, hQ⟩ : ∃ Q, Q = MQ below (ctQ g A (some (.int y)) [kX4 g a0 (a1 0) v0, kX0 g a1 v1, kX7 g a2 q0 q1 q2 (a0 0) q4 q5 q6 q7 q8 q9 v2]) args s 0 0 A := ⟨_, rfl⟩
  rw [← hQ]
  obtain ⟨H, hH⟩ : ∃ H, H = s.heap := ⟨_, rfl⟩
  obtain ⟨locs, hL⟩ : ∃ locs : List Loc, locs = [] := ⟨_, rfl⟩
  replace hW : wd g A s.heap [kX4 g a0 (a1 0) v0, kX0 g a1 v1, kX7 g a2 q0 q1 q2 (a0 0) q4 q5 q6 q7 q8 q9 v2] H locs := by rw [hH, hL]; exact hW
  suffices hG : W p l e (rmk 3 67) s m args below meth c H locs 0 0 Q (F0 m 0 ls []) by
    rw [hH, hL] at hG; exact hG
  clear hH hL
  have inX4 : ∀ w ∈ wsX40, w ∈ wsX7_block := fun _ h => List.mem_cons_of_mem _ (List.mem_append_left _ (List.mem_append_right _ (h)))
  have inX7 : ∀ w ∈ wsX70, w ∈ wsX7_block := fun _ h => List.mem_cons_of_mem _ (List.mem_append_left _ (List.mem_append_left _ (List.mem_append_right _ (h))))
  rw [fX7_block] at hf
  refine lv_iload_n hx hb dX7_block_0 rfl (lv_at hl 1 rfl) ?_
  refine lv_if_lt (tgt := 13) hx hb dX7_block_1 (by decide) (fun h => ?_) (fun h => ?_)
  · replace hf := (if_pos h).symm.trans hf
    refine lv_iconst (v := (-1 : Int32)) hx hb dX7_block_13 (by decide) ?_
    obtain rfl := Option.some.inj hf
    subst hQ
    exact g_iret C hr hk0 hW rfl rfl dX7_block_14
  · replace hf := (if_neg h).symm.trans hf
    refine lv_iload_n hx hb dX7_block_4 rfl (lv_at hl 2 rfl) ?_
    refine lv_iconst (v := (0 : Int32)) hx hb dX7_block_5 (by decide) ?_
    refine lv_iconst (v := (4 : Int32)) hx hb dX7_block_6 (by decide) ?_
    obtain ⟨y1, hc, hf⟩ := bd_of hf
    refine g_cS C (ct_X7_isWithin g l N x2 (0 : Int32) (4 : Int32) hc) gX7_block_X7_isWithin rfl 3 (by decide +kernel) ⟨rfl, rfl, ⟨Nat.le_of_ble_eq_true rfl, Nat.le_of_ble_eq_true rfl⟩, Nat.le_of_ble_eq_true rfl, Nat.le_of_ble_eq_true rfl⟩ rfl hl (Nat.le_of_ble_eq_true rfl) dX7_block_7 rfl hW hA [] rfl rfl rfl (ch' := [kX4 g a0 (a1 0) v0, kX0 g a1 v1, kX7 g a2 q0 q1 q2 (a0 0) q4 q5 q6 q7 q8 q9 v2]) rfl (fun H locs hW => ?_)
    refine lv_if_ne (tgt := 15) hx hb dX7_block_10 (by decide) (fun h => ?_) (fun h => ?_)
    · replace hf := (if_neg h).symm.trans hf
      refine lv_aload_n hx hb dX7_block_15 rfl (lv_at hl 0 rfl) ?_
      refine g_get C hW inX7 2 rfl rfl rfl 3 (by decide) (List.mem_of_getElem? (i := 1) rfl) (v := .ref (a0 0)) rfl dX7_block_16 ?_
      refine g_get C hW inX4 0 rfl rfl rfl 14 (by decide) (List.mem_of_getElem? (i := 2) rfl) (v := .ref (a1 0)) rfl dX7_block_19 ?_
      refine lv_iload_n hx hb dX7_block_22 rfl (lv_at hl 1 rfl) ?_
      obtain ⟨y2, hc, hf⟩ := bd_of hf
      refine g_cV (Cn := RX0) C (ct_X0_placeOf g l N a1 x1 v1 hc) gX7_block_X0_placeOf rfl 1 (by decide +kernel) ⟨rfl, rfl, ⟨Nat.le_of_ble_eq_true rfl, Nat.le_of_ble_eq_true rfl⟩, Nat.le_of_ble_eq_true rfl, Nat.le_of_ble_eq_true rfl⟩ rfl hl (Nat.le_of_ble_eq_true rfl) dX7_block_23 rfl hW hA [1] rfl rfl rfl (ch' := [kX4 g a0 (a1 0) v0, kX0 g a1 v1, kX7 g a2 q0 q1 q2 (a0 0) q4 q5 q6 q7 q8 q9 v2]) rfl 1 rfl rfl rfl (fun H locs hW => ?_)
      refine lv_istore_n (lv' := [(3, .int y2), (0, .ref (a2 0)), (1, .int x1), (2, .int x2)]) hx hb dX7_block_26 rfl hl (by decide) rfl (fun ls hl => ?_)
      refine lv_iload_n hx hb dX7_block_27 rfl (lv_at hl 0 rfl) ?_
      refine lv_if_ge (tgt := 36) hx hb dX7_block_28 (by decide) (fun h => ?_) (fun h => ?_)
      · replace hf := (if_pos h).symm.trans hf
        refine lv_aload_n hx hb dX7_block_36 rfl (lv_at hl 1 rfl) ?_
        refine g_get C hW inX7 2 rfl rfl rfl 3 (by decide) (List.mem_of_getElem? (i := 1) rfl) (v := .ref (a0 0)) rfl dX7_block_37 ?_
        refine g_get C hW inX4 0 rfl rfl rfl 14 (by decide) (List.mem_of_getElem? (i := 2) rfl) (v := .ref (a1 0)) rfl dX7_block_40 ?_
        refine lv_iload_n hx hb dX7_block_43 rfl (lv_at hl 0 rfl) ?_
        refine lv_iload_n hx hb dX7_block_44 rfl (lv_at hl 3 rfl) ?_
        obtain ⟨y3, hc, hf⟩ := bd_of hf
        refine g_cV (Cn := RX0) C (ct_X0_told g l N a1 y2 x2 v1 hc) gX7_block_X0_told rfl 2 (by decide +kernel) ⟨rfl, rfl, ⟨Nat.le_of_ble_eq_true rfl, Nat.le_of_ble_eq_true rfl⟩, Nat.le_of_ble_eq_true rfl, Nat.le_of_ble_eq_true rfl⟩ rfl hl (Nat.le_of_ble_eq_true rfl) dX7_block_45 rfl hW hA [1] rfl rfl rfl (ch' := [kX4 g a0 (a1 0) v0, kX0 g a1 v1, kX7 g a2 q0 q1 q2 (a0 0) q4 q5 q6 q7 q8 q9 v2]) rfl 1 rfl rfl rfl (fun H locs hW => ?_)
        obtain rfl := Option.some.inj hf
        subst hQ
        exact g_iret C hr hk0 hW rfl rfl dX7_block_48
      · replace hf := (if_neg h).symm.trans hf
        refine lv_bipush (v := (-9 : Int32)) hx hb dX7_block_31 (by decide) ?_
        refine lv_goto (tgt := 48) hx hb dX7_block_33 (by decide) ?_
        obtain rfl := Option.some.inj hf
        subst hQ
        exact g_iret C hr hk0 hW rfl rfl dX7_block_48
    · replace hf := (if_pos h).symm.trans hf
      refine lv_iconst (v := (-1 : Int32)) hx hb dX7_block_13 (by decide) ?_
      obtain rfl := Option.some.inj hf
      subst hQ
      exact g_iret C hr hk0 hW rfl rfl dX7_block_14
def fX7_deaf (N : Nat) (x1 : Int32) (x2 : Int32) (v0 : MM) (v1 : MM) (v2 : MM) : Option (Int32) := ((fX7_hasTerminal N x1 v0 v2).bind (fun y1 => (if y1 = 0 then some (-1 : Int32) else ((fX7_isWithin N x2 (0 : Int32) (199 : Int32)).bind (fun y2 => (if y2 = 0 then some (-1 : Int32) else ((fX4_isDeaf N x1 x2 v1).bind (fun y3 => (if y3 = 0 then some (0 : Int32) else some (1 : Int32))))))))))
set_option maxHeartbeats 4000000 in
set_option maxRecDepth 100000 in
theorem ct_X7_deaf (g : GT) (l : Launch) (N : Nat) (a0 : Nat → Nat) (a1 : Nat → Nat) (a2 : Nat → Nat) (q3_14 : Nat) (q0 : Nat) (q2 : Nat) (q4 : Nat) (q5 : Nat) (q6 : Nat) (q7 : Nat) (q8 : Nat) (q9 : Nat) (x1 : Int32) (x2 : Int32) (v0 : MM) (v1 : MM) (v2 : MM) {y : Int32} (hf : fX7_deaf N x1 x2 v0 v1 v2 = some y) : ct g l yX7_deaf wsX7_deaf (rmk 1 22) [.ref (a2 0), .int x1, .int x2] [kX3 g a0 v0, kX4 g a1 q3_14 v1, kX7 g a2 q0 (a0 0) q2 (a1 0) q4 q5 q6 q7 q8 q9 v2] (some (.int y)) [kX3 g a0 v0, kX4 g a1 q3_14 v1, kX7 g a2 q0 (a0 0) q2 (a1 0) q4 q5 q6 q7 q8 q9 v2] := by
  refine ct_of (cc := cX7_deaf) (maxL := 3) (ret := (some .int)) (by decide) rfl (Nat.le_of_ble_eq_true rfl) ?_
  intro p e s m args below meth c A ls C hr hk0 hA hW hl
  have hx := C.1.1
  have hb := C.1.2.1
  replace hl : lv_has ls 3 [(0, .ref (a2 0)), (1, .int x1), (2, .int x2)] := hl
  obtain ⟨Q, hQ⟩ : ∃ Q, Q = MQ below (ctQ g A (some (.int y)) [kX3 g a0 v0, kX4 g a1 q3_14 v1, kX7 g a2 q0 (a0 0) q2 (a1 0) q4 q5 q6 q7 q8 q9 v2]) args s 0 0 A := ⟨_, rfl⟩
  rw [← hQ]
  obtain ⟨H, hH⟩ : ∃ H, H = s.heap := ⟨_, rfl⟩
  obtain ⟨locs, hL⟩ : ∃ locs : List Loc, locs = [] := ⟨_, rfl⟩
  replace hW : wd g A s.heap [kX3 g a0 v0, kX4 g a1 q3_14 v1, kX7 g a2 q0 (a0 0) q2 (a1 0) q4 q5 q6 q7 q8 q9 v2] H locs := by rw [hH, hL]; exact hW
  suffices hG : W p l e (rmk 1 22) s m args below meth c H locs 0 0 Q (F0 m 0 ls []) by
    rw [hH, hL] at hG; exact hG
  clear hH hL
  have inX7 : ∀ w ∈ wsX70, w ∈ wsX7_deaf := fun _ h => List.mem_cons_of_mem _ (List.mem_append_left _ (List.mem_append_left _ (List.mem_append_right _ (h))))
  rw [fX7_deaf] at hf
  refine lv_aload_n hx hb dX7_deaf_0 rfl (lv_at hl 0 rfl) ?_
  refine lv_iload_n hx hb dX7_deaf_1 rfl (lv_at hl 1 rfl) ?_
  obtain ⟨y1, hc, hf⟩ := bd_of hf
  refine g_cV (Cn := RX7) C (ct_X7_hasTerminal g l N a0 a2 q0 q2 (a1 0) q4 q5 q6 q7 q8 q9 x1 v0 v2 hc) gX7_deaf_X7_hasTerminal rfl 1 (by decide +kernel) ⟨rfl, rfl, ⟨Nat.le_of_ble_eq_true rfl, Nat.le_of_ble_eq_true rfl⟩, Nat.le_of_ble_eq_true rfl, Nat.le_of_ble_eq_true rfl⟩ rfl hl (Nat.le_of_ble_eq_true rfl) dX7_deaf_2 rfl hW hA [0, 2] rfl rfl rfl (ch' := [kX3 g a0 v0, kX4 g a1 q3_14 v1, kX7 g a2 q0 (a0 0) q2 (a1 0) q4 q5 q6 q7 q8 q9 v2]) rfl 2 rfl rfl rfl (fun H locs hW => ?_)
  refine lv_if_eq (tgt := 19) hx hb dX7_deaf_5 (by decide) (fun h => ?_) (fun h => ?_)
  · replace hf := (if_pos h).symm.trans hf
    refine lv_iconst (v := (-1 : Int32)) hx hb dX7_deaf_19 (by decide) ?_
    obtain rfl := Option.some.inj hf
    subst hQ
    exact g_iret C hr hk0 hW rfl rfl dX7_deaf_20
  · replace hf := (if_neg h).symm.trans hf
    refine lv_iload_n hx hb dX7_deaf_8 rfl (lv_at hl 2 rfl) ?_
    refine lv_iconst (v := (0 : Int32)) hx hb dX7_deaf_9 (by decide) ?_
    refine lv_sipush (v := (199 : Int32)) hx hb dX7_deaf_10 (by decide) ?_
    obtain ⟨y2, hc, hf⟩ := bd_of hf
    refine g_cS C (ct_X7_isWithin g l N x2 (0 : Int32) (199 : Int32) hc) gX7_deaf_X7_isWithin rfl 3 (by decide +kernel) ⟨rfl, rfl, ⟨Nat.le_of_ble_eq_true rfl, Nat.le_of_ble_eq_true rfl⟩, Nat.le_of_ble_eq_true rfl, Nat.le_of_ble_eq_true rfl⟩ rfl hl (Nat.le_of_ble_eq_true rfl) dX7_deaf_13 rfl hW hA [] rfl rfl rfl (ch' := [kX3 g a0 v0, kX4 g a1 q3_14 v1, kX7 g a2 q0 (a0 0) q2 (a1 0) q4 q5 q6 q7 q8 q9 v2]) rfl (fun H locs hW => ?_)
    refine lv_if_ne (tgt := 21) hx hb dX7_deaf_16 (by decide) (fun h => ?_) (fun h => ?_)
    · replace hf := (if_neg h).symm.trans hf
      refine lv_aload_n hx hb dX7_deaf_21 rfl (lv_at hl 0 rfl) ?_
      refine g_get C hW inX7 2 rfl rfl rfl 3 (by decide) (List.mem_of_getElem? (i := 1) rfl) (v := .ref (a1 0)) rfl dX7_deaf_22 ?_
      refine lv_iload_n hx hb dX7_deaf_25 rfl (lv_at hl 1 rfl) ?_
      refine lv_iload_n hx hb dX7_deaf_26 rfl (lv_at hl 2 rfl) ?_
      obtain ⟨y3, hc, hf⟩ := bd_of hf
      refine g_cV (Cn := RX4) C (ct_X4_isDeaf g l N a1 q3_14 x1 x2 v1 hc) gX7_deaf_X4_isDeaf rfl 2 (by decide +kernel) ⟨rfl, rfl, ⟨Nat.le_of_ble_eq_true rfl, Nat.le_of_ble_eq_true rfl⟩, Nat.le_of_ble_eq_true rfl, Nat.le_of_ble_eq_true rfl⟩ rfl hl (Nat.le_of_ble_eq_true rfl) dX7_deaf_27 rfl hW hA [1] rfl rfl rfl (ch' := [kX3 g a0 v0, kX4 g a1 q3_14 v1, kX7 g a2 q0 (a0 0) q2 (a1 0) q4 q5 q6 q7 q8 q9 v2]) rfl 1 rfl rfl rfl (fun H locs hW => ?_)
      refine lv_if_eq (tgt := 37) hx hb dX7_deaf_30 (by decide) (fun h => ?_) (fun h => ?_)
      · replace hf := (if_pos h).symm.trans hf
        refine lv_iconst (v := (0 : Int32)) hx hb dX7_deaf_37 (by decide) ?_
        obtain rfl := Option.some.inj hf
        subst hQ
        exact g_iret C hr hk0 hW rfl rfl dX7_deaf_38
      · replace hf := (if_neg h).symm.trans hf
        refine lv_iconst (v := (1 : Int32)) hx hb dX7_deaf_33 (by decide) ?_
        refine lv_goto (tgt := 38) hx hb dX7_deaf_34 (by decide) ?_
        obtain rfl := Option.some.inj hf
        subst hQ
        exact g_iret C hr hk0 hW rfl rfl dX7_deaf_38
    · replace hf := (if_pos h).symm.trans hf
      refine lv_iconst (v := (-1 : Int32)) hx hb dX7_deaf_19 (by decide) ?_
      obtain rfl := Option.some.inj hf
      subst hQ
      exact g_iret C hr hk0 hW rfl rfl dX7_deaf_20
def fX7_drain (N : Nat) (v0 : MM) (v1 : MM) (v2 : MM) (v3 : MM) (v4 : MM) (v5 : MM) (v6 : MM) : Option (Int32 × MM × MM × MM) := ((fX4_copyFrom N v4 v3 v1 v2).bind (fun y1 => ((fX5_drainedWithin N (100 : Int32) v0 y1.2 y1.1 v5).bind (fun y2 => some (y2.1, y2.2.1, y2.2.2.1, y2.2.2.2)))))
set_option maxHeartbeats 4000000 in
set_option maxRecDepth 100000 in
theorem ct_X7_drain (g : GT) (l : Launch) (N : Nat) (a0 : Nat → Nat) (a1 : Nat → Nat) (a2 : Nat → Nat) (a3 : Nat → Nat) (a4 : Nat → Nat) (a5 : Nat → Nat) (a6 : Nat → Nat) (q0 : Nat) (q2 : Nat) (q5 : Nat) (q7 : Nat) (q8 : Nat) (q9 : Nat) (v0 : MM) (v1 : MM) (v2 : MM) (v3 : MM) (v4 : MM) (v5 : MM) (v6 : MM) {y : Int32 × MM × MM × MM} (hf : fX7_drain N v0 v1 v2 v3 v4 v5 v6 = some y) : ct g l yX7_drain wsX7_drain (rmk 6 146) [.ref (a6 0)] [kX3 g a0 v0, kX4 g a1 (a2 0) v1, kX0 g a2 v2, kX4 g a3 (a4 0) v3, kX0 g a4 v4, kX5 g a5 (a0 0) (a3 0) v5, kX7 g a6 q0 (a0 0) q2 (a1 0) (a3 0) q5 (a5 0) q7 q8 q9 v6] (some (.int y.1)) [kX3 g a0 v0, kX4 g a1 (a2 0) v1, kX0 g a2 v2, kX4 g a3 (a4 0) y.2.1, kX0 g a4 y.2.2.1, kX5 g a5 (a0 0) (a3 0) y.2.2.2, kX7 g a6 q0 (a0 0) q2 (a1 0) (a3 0) q5 (a5 0) q7 q8 q9 v6] := by
  refine ct_of (cc := cX7_drain) (maxL := 1) (ret := (some .int)) (by decide) rfl (Nat.le_of_ble_eq_true rfl) ?_
  intro p e s m args below meth c A ls C hr hk0 hA hW hl
  have hx := C.1.1
  have hb := C.1.2.1
  replace hl : lv_has ls 1 [(0, .ref (a6 0))] := hl
  obtain ⟨Q, hQ⟩ : ∃ Q, Q = MQ below (ctQ g A (some (.int y.1)) [kX3 g a0 v0, kX4 g a1 (a2 0) v1, kX0 g a2 v2, kX4 g a3 (a4 0) y.2.1, kX0 g a4 y.2.2.1, kX5 g a5 (a0 0) (a3 0) y.2.2.2, kX7 g a6 q0 (a0 0) q2 (a1 0) (a3 0) q5 (a5 0) q7 q8 q9 v6]) args s 0 0 A := ⟨_, rfl⟩
  rw [← hQ]
  obtain ⟨H, hH⟩ : ∃ H, H = s.heap := ⟨_, rfl⟩
  obtain ⟨locs, hL⟩ : ∃ locs : List Loc, locs = [] := ⟨_, rfl⟩
  replace hW : wd g A s.heap [kX3 g a0 v0, kX4 g a1 (a2 0) v1, kX0 g a2 v2, kX4 g a3 (a4 0) v3, kX0 g a4 v4, kX5 g a5 (a0 0) (a3 0) v5, kX7 g a6 q0 (a0 0) q2 (a1 0) (a3 0) q5 (a5 0) q7 q8 q9 v6] H locs := by rw [hH, hL]; exact hW
  suffices hG : W p l e (rmk 6 146) s m args below meth c H locs 0 0 Q (F0 m 0 ls []) by
    rw [hH, hL] at hG; exact hG
  clear hH hL
  have inX7 : ∀ w ∈ wsX70, w ∈ wsX7_drain := fun _ h => List.mem_cons_of_mem _ (List.mem_append_left _ (List.mem_append_left _ (List.mem_append_left _ (List.mem_append_left _ (List.mem_append_right _ (h))))))
  rw [fX7_drain] at hf
  refine lv_aload_n hx hb dX7_drain_0 rfl (lv_at hl 0 rfl) ?_
  refine g_get C hW inX7 6 rfl rfl rfl 4 (by decide) (List.mem_of_getElem? (i := 1) rfl) (v := .ref (a3 0)) rfl dX7_drain_1 ?_
  refine lv_aload_n hx hb dX7_drain_4 rfl (lv_at hl 0 rfl) ?_
  refine g_get C hW inX7 6 rfl rfl rfl 3 (by decide) (List.mem_of_getElem? (i := 2) rfl) (v := .ref (a1 0)) rfl dX7_drain_5 ?_
  obtain ⟨y1, hc, hf⟩ := bd_of hf
  refine g_cVv (Cn := RX4) C (ct_X4_copyFrom g l N a4 a3 a1 a2 v4 v3 v1 v2 hc) gX7_drain_X4_copyFrom rfl 1 (by decide +kernel) ⟨rfl, rfl, ⟨Nat.le_of_ble_eq_true rfl, Nat.le_of_ble_eq_true rfl⟩, Nat.le_of_ble_eq_true rfl, Nat.le_of_ble_eq_true rfl⟩ rfl hl (Nat.le_of_ble_eq_true rfl) dX7_drain_8 rfl hW hA [4, 3, 1, 2] rfl rfl rfl (ch' := [kX3 g a0 v0, kX4 g a1 (a2 0) v1, kX0 g a2 v2, kX4 g a3 (a4 0) y1.2, kX0 g a4 y1.1, kX5 g a5 (a0 0) (a3 0) v5, kX7 g a6 q0 (a0 0) q2 (a1 0) (a3 0) q5 (a5 0) q7 q8 q9 v6]) rfl 3 rfl rfl rfl (fun H locs hW => ?_)
  refine lv_aload_n hx hb dX7_drain_11 rfl (lv_at hl 0 rfl) ?_
  refine g_get C hW inX7 6 rfl rfl rfl 6 (by decide) (List.mem_of_getElem? (i := 3) rfl) (v := .ref (a5 0)) rfl dX7_drain_12 ?_
  refine lv_bipush (v := (100 : Int32)) hx hb dX7_drain_15 (by decide) ?_
  obtain ⟨y2, hc, hf⟩ := bd_of hf
  refine g_cV (Cn := RX5) C (ct_X5_drainedWithin g l N a0 a3 a4 a5 (100 : Int32) v0 y1.2 y1.1 v5 hc) gX7_drain_X5_drainedWithin rfl 1 (by decide +kernel) ⟨rfl, rfl, ⟨Nat.le_of_ble_eq_true rfl, Nat.le_of_ble_eq_true rfl⟩, Nat.le_of_ble_eq_true rfl, Nat.le_of_ble_eq_true rfl⟩ rfl hl (Nat.le_of_ble_eq_true rfl) dX7_drain_17 rfl hW hA [0, 3, 4, 5] rfl rfl rfl (ch' := [kX3 g a0 v0, kX4 g a1 (a2 0) v1, kX0 g a2 v2, kX4 g a3 (a4 0) y2.2.1, kX0 g a4 y2.2.2.1, kX5 g a5 (a0 0) (a3 0) y2.2.2.2, kX7 g a6 q0 (a0 0) q2 (a1 0) (a3 0) q5 (a5 0) q7 q8 q9 v6]) rfl 5 rfl rfl rfl (fun H locs hW => ?_)
  obtain rfl := Option.some.inj hf
  subst hQ
  exact g_iret C hr hk0 hW rfl rfl dX7_drain_20
def fX7_enough_L14 (N : Nat) (k : Int32 → MM → MM → MM → Option (Int32 × MM × MM × MM)) (x1 : Int32) (v0 : MM) (v1 : MM) (v2 : MM) (v6 : MM) : Nat → Int32 → MM → MM → MM → Option (Int32 × MM × MM × MM)
  | 0, _, _, _, _ => none
  | n + 1, x2, v3, v4, v5 => (if (60 : Int32) < x2 then k x2 v3 v4 v5 else ((fX4_copyFrom N v4 v3 v1 v2).bind (fun y2 => ((fX5_drainedWithin N x1 v0 (st y2.2 1 (fun _ => x2)) y2.1 v5).bind (fun y3 => (if y3.1 = (-9 : Int32) then fX7_enough_L14 N k x1 v0 v1 v2 v6 n (x2 + 1) y3.2.1 y3.2.2.1 y3.2.2.2 else some (x2, y3.2.1, y3.2.2.1, y3.2.2.2)))))))
def fX7_enough (N : Nat) (x1 : Int32) (v0 : MM) (v1 : MM) (v2 : MM) (v3 : MM) (v4 : MM) (v5 : MM) (v6 : MM) : Option (Int32 × MM × MM × MM) := ((fX7_isWithin N x1 (0 : Int32) (40 : Int32)).bind (fun y1 => (if y1 = 0 then some ((-1 : Int32), v3, v4, v5) else (fX7_enough_L14 N (fun (x2_4 : Int32) (v3_4 : MM) (v4_4 : MM) (v5_4 : MM) => some ((-9 : Int32), v3_4, v4_4, v5_4)) x1 v0 v1 v2 v6 N (0 : Int32) v3 v4 v5))))
set_option maxHeartbeats 4000000 in
set_option maxRecDepth 100000 in
theorem ct_X7_enough (g : GT) (l : Launch) (N : Nat) (a0 : Nat → Nat) (a1 : Nat → Nat) (a2 : Nat → Nat) (a3 : Nat → Nat) (a4 : Nat → Nat) (a5 : Nat → Nat) (a6 : Nat → Nat) (q0 : Nat) (q2 : Nat) (q5 : Nat) (q7 : Nat) (q8 : Nat) (q9 : Nat) (x1 : Int32) (v0 : MM) (v1 : MM) (v2 : MM) (v3 : MM) (v4 : MM) (v5 : MM) (v6 : MM) {y : Int32 × MM × MM × MM} (hf : fX7_enough N x1 v0 v1 v2 v3 v4 v5 v6 = some y) : ct g l yX7_enough wsX7_enough (rmk 6 146) [.ref (a6 0), .int x1] [kX3 g a0 v0, kX4 g a1 (a2 0) v1, kX0 g a2 v2, kX4 g a3 (a4 0) v3, kX0 g a4 v4, kX5 g a5 (a0 0) (a3 0) v5, kX7 g a6 q0 (a0 0) q2 (a1 0) (a3 0) q5 (a5 0) q7 q8 q9 v6] (some (.int y.1)) [kX3 g a0 v0, kX4 g a1 (a2 0) v1, kX0 g a2 v2, kX4 g a3 (a4 0) y.2.1, kX0 g a4 y.2.2.1, kX5 g a5 (a0 0) (a3 0) y.2.2.2, kX7 g a6 q0 (a0 0) q2 (a1 0) (a3 0) q5 (a5 0) q7 q8 q9 v6] := by
  refine ct_of (cc := cX7_enough) (maxL := 3) (ret := (some .int)) (by decide) rfl (Nat.le_of_ble_eq_true rfl) ?_
  intro p e s m args below meth c A ls C hr hk0 hA hW hl
  have hx := C.1.1
  have hb := C.1.2.1
  replace hl : lv_has ls 3 [(0, .ref (a6 0)), (1, .int x1)] := hl
  obtain ⟨Q, hQ⟩ : ∃ Q, Q = MQ below (ctQ g A (some (.int y.1)) [kX3 g a0 v0, kX4 g a1 (a2 0) v1, kX0 g a2 v2, kX4 g a3 (a4 0) y.2.1, kX0 g a4 y.2.2.1, kX5 g a5 (a0 0) (a3 0) y.2.2.2, kX7 g a6 q0 (a0 0) q2 (a1 0) (a3 0) q5 (a5 0) q7 q8 q9 v6]) args s 0 0 A := ⟨_, rfl⟩
  rw [← hQ]
  obtain ⟨H, hH⟩ : ∃ H, H = s.heap := ⟨_, rfl⟩
  obtain ⟨locs, hL⟩ : ∃ locs : List Loc, locs = [] := ⟨_, rfl⟩
  replace hW : wd g A s.heap [kX3 g a0 v0, kX4 g a1 (a2 0) v1, kX0 g a2 v2, kX4 g a3 (a4 0) v3, kX0 g a4 v4, kX5 g a5 (a0 0) (a3 0) v5, kX7 g a6 q0 (a0 0) q2 (a1 0) (a3 0) q5 (a5 0) q7 q8 q9 v6] H locs := by rw [hH, hL]; exact hW
  suffices hG : W p l e (rmk 6 146) s m args below meth c H locs 0 0 Q (F0 m 0 ls []) by
    rw [hH, hL] at hG; exact hG
  clear hH hL
  have inX4 : ∀ w ∈ wsX40, w ∈ wsX7_enough := fun _ h => List.mem_cons_of_mem _ (List.mem_append_left _ (List.mem_append_left _ (List.mem_append_left _ (List.mem_append_right _ (h)))))
  have inX7 : ∀ w ∈ wsX70, w ∈ wsX7_enough := fun _ h => List.mem_cons_of_mem _ (List.mem_append_left _ (List.mem_append_left _ (List.mem_append_left _ (List.mem_append_left _ (List.mem_append_right _ (h))))))
  have L14 : ∀ (x1 : Int32) (k : Int32 → MM → MM → MM → Option (Int32 × MM × MM × MM)) (hk : ∀ (x2 : Int32) (v3 : MM) (v4 : MM) (v5 : MM) (H : Heap) (locs : List Loc) (ls : Array Slot), k x2 v3 v4 v5 = some y → wd g A s.heap [kX3 g a0 v0, kX4 g a1 (a2 0) v1, kX0 g a2 v2, kX4 g a3 (a4 0) v3, kX0 g a4 v4, kX5 g a5 (a0 0) (a3 0) v5, kX7 g a6 q0 (a0 0) q2 (a1 0) (a3 0) q5 (a5 0) q7 q8 q9 v6] H locs → lv_has ls 3 [(0, .ref (a6 0)), (1, .int x1), (2, .int x2)] → W p l e (rmk 6 146) s m args below meth c H locs 0 0 Q (F0 m 60 ls [])) (n : Nat) (x2 : Int32) (v3 : MM) (v4 : MM) (v5 : MM) (H : Heap) (locs : List Loc) (ls : Array Slot), fX7_enough_L14 N k x1 v0 v1 v2 v6 n x2 v3 v4 v5 = some y → wd g A s.heap [kX3 g a0 v0, kX4 g a1 (a2 0) v1, kX0 g a2 v2, kX4 g a3 (a4 0) v3, kX0 g a4 v4, kX5 g a5 (a0 0) (a3 0) v5, kX7 g a6 q0 (a0 0) q2 (a1 0) (a3 0) q5 (a5 0) q7 q8 q9 v6] H locs → lv_has ls 3 [(0, .ref (a6 0)), (1, .int x1), (2, .int x2)] → W p l e (rmk 6 146) s m args below meth c H locs 0 0 Q (F0 m 14 ls []) := by
    intro x1 k hk n
    induction n with
    | zero => intro x2 v3 v4 v5 H locs ls hf; rw [fX7_enough_L14] at hf; cases hf
    | succ n ih =>
      intro x2 v3 v4 v5 H locs ls hf hW hl
      rw [fX7_enough_L14] at hf
      refine lv_iload_n hx hb dX7_enough_14 rfl (lv_at hl 2 rfl) ?_
      refine lv_bipush (v := (60 : Int32)) hx hb dX7_enough_15 (by decide) ?_
      refine lv_icmp_gt (tgt := 60) hx hb dX7_enough_17 (by decide) (fun h => ?_) (fun h => ?_)
      · replace hf := (if_pos h).symm.trans hf
        exact hk _ _ _ _ H locs ls hf hW (lv_sub hl [0, 1, 2] rfl)
      · replace hf := (if_neg h).symm.trans hf
        refine lv_aload_n hx hb dX7_enough_20 rfl (lv_at hl 0 rfl) ?_
        refine g_get C hW inX7 6 rfl rfl rfl 4 (by decide) (List.mem_of_getElem? (i := 1) rfl) (v := .ref (a3 0)) rfl dX7_enough_21 ?_
        refine lv_aload_n hx hb dX7_enough_24 rfl (lv_at hl 0 rfl) ?_
        refine g_get C hW inX7 6 rfl rfl rfl 3 (by decide) (List.mem_of_getElem? (i := 2) rfl) (v := .ref (a1 0)) rfl dX7_enough_25 ?_
        obtain ⟨y2, hc, hf⟩ := bd_of hf
        refine g_cVv (Cn := RX4) C (ct_X4_copyFrom g l N a4 a3 a1 a2 v4 v3 v1 v2 hc) gX7_enough_X4_copyFrom rfl 1 (by decide +kernel) ⟨rfl, rfl, ⟨Nat.le_of_ble_eq_true rfl, Nat.le_of_ble_eq_true rfl⟩, Nat.le_of_ble_eq_true rfl, Nat.le_of_ble_eq_true rfl⟩ rfl hl (Nat.le_of_ble_eq_true rfl) dX7_enough_28 rfl hW hA [4, 3, 1, 2] rfl rfl rfl (ch' := [kX3 g a0 v0, kX4 g a1 (a2 0) v1, kX0 g a2 v2, kX4 g a3 (a4 0) y2.2, kX0 g a4 y2.1, kX5 g a5 (a0 0) (a3 0) v5, kX7 g a6 q0 (a0 0) q2 (a1 0) (a3 0) q5 (a5 0) q7 q8 q9 v6]) rfl 3 rfl rfl rfl (fun H locs hW => ?_)
        refine lv_aload_n hx hb dX7_enough_31 rfl (lv_at hl 0 rfl) ?_
        refine g_get C hW inX7 6 rfl rfl rfl 4 (by decide) (List.mem_of_getElem? (i := 1) rfl) (v := .ref (a3 0)) rfl dX7_enough_32 ?_
        refine lv_iload_n hx hb dX7_enough_35 rfl (lv_at hl 2 rfl) ?_
        refine g_put C hW inX4 tyX4_ok nmX4 3 rfl rfl rfl 1 (by decide) (List.mem_of_getElem? (i := 3) rfl) rfl rfl rfl rfl (kX4_s1 g a3 (a4 0) y2.2 x2) (ch' := [kX3 g a0 v0, kX4 g a1 (a2 0) v1, kX0 g a2 v2, kX4 g a3 (a4 0) (st y2.2 1 (fun _ => x2)), kX0 g a4 y2.1, kX5 g a5 (a0 0) (a3 0) v5, kX7 g a6 q0 (a0 0) q2 (a1 0) (a3 0) q5 (a5 0) q7 q8 q9 v6]) rfl dX7_enough_36 (fun H locs hW => ?_)
        refine lv_aload_n hx hb dX7_enough_39 rfl (lv_at hl 0 rfl) ?_
        refine g_get C hW inX7 6 rfl rfl rfl 6 (by decide) (List.mem_of_getElem? (i := 4) rfl) (v := .ref (a5 0)) rfl dX7_enough_40 ?_
        refine lv_iload_n hx hb dX7_enough_43 rfl (lv_at hl 1 rfl) ?_
        obtain ⟨y3, hc, hf⟩ := bd_of hf
        refine g_cV (Cn := RX5) C (ct_X5_drainedWithin g l N a0 a3 a4 a5 x1 v0 (st y2.2 1 (fun _ => x2)) y2.1 v5 hc) gX7_enough_X5_drainedWithin rfl 1 (by decide +kernel) ⟨rfl, rfl, ⟨Nat.le_of_ble_eq_true rfl, Nat.le_of_ble_eq_true rfl⟩, Nat.le_of_ble_eq_true rfl, Nat.le_of_ble_eq_true rfl⟩ rfl hl (Nat.le_of_ble_eq_true rfl) dX7_enough_44 rfl hW hA [0, 3, 4, 5] rfl rfl rfl (ch' := [kX3 g a0 v0, kX4 g a1 (a2 0) v1, kX0 g a2 v2, kX4 g a3 (a4 0) y3.2.1, kX0 g a4 y3.2.2.1, kX5 g a5 (a0 0) (a3 0) y3.2.2.2, kX7 g a6 q0 (a0 0) q2 (a1 0) (a3 0) q5 (a5 0) q7 q8 q9 v6]) rfl 5 rfl rfl rfl (fun H locs hW => ?_)
        refine lv_bipush (v := (-9 : Int32)) hx hb dX7_enough_47 (by decide) ?_
        refine lv_icmp_eq (tgt := 54) hx hb dX7_enough_49 (by decide) (fun h => ?_) (fun h => ?_)
        · replace hf := (if_pos h).symm.trans hf
          refine lv_iinc (v := (x2 + 1)) (lv' := [(2, .int (x2 + 1)), (0, .ref (a6 0)), (1, .int x1)]) hx hb dX7_enough_54 hl (k := 2) rfl (by first | rfl | decide) (by decide) rfl (fun ls hl => ?_)
          refine lv_goto (tgt := 14) hx hb dX7_enough_57 (by decide) ?_
          exact ih _ _ _ _ H locs ls hf hW (lv_sub hl [1, 2, 0] rfl)
        · replace hf := (if_neg h).symm.trans hf
          refine lv_iload_n hx hb dX7_enough_52 rfl (lv_at hl 2 rfl) ?_
          obtain rfl := Option.some.inj hf
          subst hQ
          exact g_iret C hr hk0 hW rfl rfl dX7_enough_53
  rw [fX7_enough] at hf
  refine lv_iload_n hx hb dX7_enough_0 rfl (lv_at hl 1 rfl) ?_
  refine lv_iconst (v := (0 : Int32)) hx hb dX7_enough_1 (by decide) ?_
  refine lv_bipush (v := (40 : Int32)) hx hb dX7_enough_2 (by decide) ?_
  obtain ⟨y1, hc, hf⟩ := bd_of hf
  refine g_cS C (ct_X7_isWithin g l N x1 (0 : Int32) (40 : Int32) hc) gX7_enough_X7_isWithin rfl 3 (by decide +kernel) ⟨rfl, rfl, ⟨Nat.le_of_ble_eq_true rfl, Nat.le_of_ble_eq_true rfl⟩, Nat.le_of_ble_eq_true rfl, Nat.le_of_ble_eq_true rfl⟩ rfl hl (Nat.le_of_ble_eq_true rfl) dX7_enough_4 rfl hW hA [] rfl rfl rfl (ch' := [kX3 g a0 v0, kX4 g a1 (a2 0) v1, kX0 g a2 v2, kX4 g a3 (a4 0) v3, kX0 g a4 v4, kX5 g a5 (a0 0) (a3 0) v5, kX7 g a6 q0 (a0 0) q2 (a1 0) (a3 0) q5 (a5 0) q7 q8 q9 v6]) rfl (fun H locs hW => ?_)
  refine lv_if_ne (tgt := 12) hx hb dX7_enough_7 (by decide) (fun h => ?_) (fun h => ?_)
  · replace hf := (if_neg h).symm.trans hf
    refine lv_iconst (v := (0 : Int32)) hx hb dX7_enough_12 (by decide) ?_
    refine lv_istore_n (lv' := [(2, .int (0 : Int32)), (0, .ref (a6 0)), (1, .int x1)]) hx hb dX7_enough_13 rfl hl (by decide) rfl (fun ls hl => ?_)
    refine L14 x1 _ (fun x2_4 v3_4 v4_4 v5_4 H locs ls hf hW hl => ?_) N (0 : Int32) v3 v4 v5 H locs ls hf hW (lv_sub hl [1, 2, 0] rfl)
    refine lv_bipush (v := (-9 : Int32)) hx hb dX7_enough_60 (by decide) ?_
    obtain rfl := Option.some.inj hf
    subst hQ
    exact g_iret C hr hk0 hW rfl rfl dX7_enough_62
  · replace hf := (if_pos h).symm.trans hf
    refine lv_iconst (v := (-1 : Int32)) hx hb dX7_enough_10 (by decide) ?_
    obtain rfl := Option.some.inj hf
    subst hQ
    exact g_iret C hr hk0 hW rfl rfl dX7_enough_11
def fX7_ahead (N : Nat) (x1 : Int32) (x2 : Int32) (v0 : MM) (v1 : MM) (v2 : MM) (v3 : MM) (v4 : MM) (v5 : MM) (v6 : MM) : Option (Int32 × MM × MM × MM) := ((fX7_hasClass N x1 v0 v6).bind (fun y1 => (if y1 = 0 then some ((-1 : Int32), v3, v4, v5) else ((fX7_isWithin N x2 (1 : Int32) (40 : Int32)).bind (fun y2 => (if y2 = 0 then some ((-1 : Int32), v3, v4, v5) else ((fX4_copyFrom N v4 v3 v1 v2).bind (fun y3 => ((fX5_takeSteps N x2 v0 y3.2 y3.1 v5).bind (fun y4 => (if ib x1 6 = true then (if ib x1 6 = true then some ((((y4.2.1 11) (Int32.toNatClampNeg x1)) - ((v1 11) (Int32.toNatClampNeg x1))), y4.2.1, y4.2.2.1, y4.2.2.2) else none) else none)))))))))))
set_option maxHeartbeats 4000000 in
set_option maxRecDepth 100000 in
theorem ct_X7_ahead (g : GT) (l : Launch) (N : Nat) (a0 : Nat → Nat) (a1 : Nat → Nat) (a2 : Nat → Nat) (a3 : Nat → Nat) (a4 : Nat → Nat) (a5 : Nat → Nat) (a6 : Nat → Nat) (q0 : Nat) (q2 : Nat) (q5 : Nat) (q7 : Nat) (q8 : Nat) (q9 : Nat) (x1 : Int32) (x2 : Int32) (v0 : MM) (v1 : MM) (v2 : MM) (v3 : MM) (v4 : MM) (v5 : MM) (v6 : MM) {y : Int32 × MM × MM × MM} (hf : fX7_ahead N x1 x2 v0 v1 v2 v3 v4 v5 v6 = some y) : ct g l yX7_ahead wsX7_ahead (rmk 5 124) [.ref (a6 0), .int x1, .int x2] [kX3 g a0 v0, kX4 g a1 (a2 0) v1, kX0 g a2 v2, kX4 g a3 (a4 0) v3, kX0 g a4 v4, kX5 g a5 (a0 0) (a3 0) v5, kX7 g a6 q0 (a0 0) q2 (a1 0) (a3 0) q5 (a5 0) q7 q8 q9 v6] (some (.int y.1)) [kX3 g a0 v0, kX4 g a1 (a2 0) v1, kX0 g a2 v2, kX4 g a3 (a4 0) y.2.1, kX0 g a4 y.2.2.1, kX5 g a5 (a0 0) (a3 0) y.2.2.2, kX7 g a6 q0 (a0 0) q2 (a1 0) (a3 0) q5 (a5 0) q7 q8 q9 v6] := by
  refine ct_of (cc := cX7_ahead) (maxL := 3) (ret := (some .int)) (by decide) rfl (Nat.le_of_ble_eq_true rfl) ?_
  intro p e s m args below meth c A ls C hr hk0 hA hW hl
  have hx := C.1.1
  have hb := C.1.2.1
  replace hl : lv_has ls 3 [(0, .ref (a6 0)), (1, .int x1), (2, .int x2)] := hl
  obtain ⟨Q, hQ⟩ : ∃ Q, Q = MQ below (ctQ g A (some (.int y.1)) [kX3 g a0 v0, kX4 g a1 (a2 0) v1, kX0 g a2 v2, kX4 g a3 (a4 0) y.2.1, kX0 g a4 y.2.2.1, kX5 g a5 (a0 0) (a3 0) y.2.2.2, kX7 g a6 q0 (a0 0) q2 (a1 0) (a3 0) q5 (a5 0) q7 q8 q9 v6]) args s 0 0 A := ⟨_, rfl⟩
  rw [← hQ]
  obtain ⟨H, hH⟩ : ∃ H, H = s.heap := ⟨_, rfl⟩
  obtain ⟨locs, hL⟩ : ∃ locs : List Loc, locs = [] := ⟨_, rfl⟩
  replace hW : wd g A s.heap [kX3 g a0 v0, kX4 g a1 (a2 0) v1, kX0 g a2 v2, kX4 g a3 (a4 0) v3, kX0 g a4 v4, kX5 g a5 (a0 0) (a3 0) v5, kX7 g a6 q0 (a0 0) q2 (a1 0) (a3 0) q5 (a5 0) q7 q8 q9 v6] H locs := by rw [hH, hL]; exact hW
  suffices hG : W p l e (rmk 5 124) s m args below meth c H locs 0 0 Q (F0 m 0 ls []) by
    rw [hH, hL] at hG; exact hG
  clear hH hL
  have inX4 : ∀ w ∈ wsX40, w ∈ wsX7_ahead := fun _ h => List.mem_cons_of_mem _ (List.mem_append_left _ (List.mem_append_left _ (List.mem_append_left _ (List.mem_append_right _ (h)))))
  have inX7 : ∀ w ∈ wsX70, w ∈ wsX7_ahead := fun _ h => List.mem_cons_of_mem _ (List.mem_append_left _ (List.mem_append_left _ (List.mem_append_left _ (List.mem_append_left _ (List.mem_append_right _ (h))))))
  rw [fX7_ahead] at hf
  refine lv_aload_n hx hb dX7_ahead_0 rfl (lv_at hl 0 rfl) ?_
  refine lv_iload_n hx hb dX7_ahead_1 rfl (lv_at hl 1 rfl) ?_
  obtain ⟨y1, hc, hf⟩ := bd_of hf
  refine g_cV (Cn := RX7) C (ct_X7_hasClass g l N a0 a6 q0 q2 (a1 0) (a3 0) q5 (a5 0) q7 q8 q9 x1 v0 v6 hc) gX7_ahead_X7_hasClass rfl 1 (by decide +kernel) ⟨rfl, rfl, ⟨Nat.le_of_ble_eq_true rfl, Nat.le_of_ble_eq_true rfl⟩, Nat.le_of_ble_eq_true rfl, Nat.le_of_ble_eq_true rfl⟩ rfl hl (Nat.le_of_ble_eq_true rfl) dX7_ahead_2 rfl hW hA [0, 6] rfl rfl rfl (ch' := [kX3 g a0 v0, kX4 g a1 (a2 0) v1, kX0 g a2 v2, kX4 g a3 (a4 0) v3, kX0 g a4 v4, kX5 g a5 (a0 0) (a3 0) v5, kX7 g a6 q0 (a0 0) q2 (a1 0) (a3 0) q5 (a5 0) q7 q8 q9 v6]) rfl 6 rfl rfl rfl (fun H locs hW => ?_)
  refine lv_if_eq (tgt := 18) hx hb dX7_ahead_5 (by decide) (fun h => ?_) (fun h => ?_)
  · replace hf := (if_pos h).symm.trans hf
    refine lv_iconst (v := (-1 : Int32)) hx hb dX7_ahead_18 (by decide) ?_
    obtain rfl := Option.some.inj hf
    subst hQ
    exact g_iret C hr hk0 hW rfl rfl dX7_ahead_19
  · replace hf := (if_neg h).symm.trans hf
    refine lv_iload_n hx hb dX7_ahead_8 rfl (lv_at hl 2 rfl) ?_
    refine lv_iconst (v := (1 : Int32)) hx hb dX7_ahead_9 (by decide) ?_
    refine lv_bipush (v := (40 : Int32)) hx hb dX7_ahead_10 (by decide) ?_
    obtain ⟨y2, hc, hf⟩ := bd_of hf
    refine g_cS C (ct_X7_isWithin g l N x2 (1 : Int32) (40 : Int32) hc) gX7_ahead_X7_isWithin rfl 3 (by decide +kernel) ⟨rfl, rfl, ⟨Nat.le_of_ble_eq_true rfl, Nat.le_of_ble_eq_true rfl⟩, Nat.le_of_ble_eq_true rfl, Nat.le_of_ble_eq_true rfl⟩ rfl hl (Nat.le_of_ble_eq_true rfl) dX7_ahead_12 rfl hW hA [] rfl rfl rfl (ch' := [kX3 g a0 v0, kX4 g a1 (a2 0) v1, kX0 g a2 v2, kX4 g a3 (a4 0) v3, kX0 g a4 v4, kX5 g a5 (a0 0) (a3 0) v5, kX7 g a6 q0 (a0 0) q2 (a1 0) (a3 0) q5 (a5 0) q7 q8 q9 v6]) rfl (fun H locs hW => ?_)
    refine lv_if_ne (tgt := 20) hx hb dX7_ahead_15 (by decide) (fun h => ?_) (fun h => ?_)
    · replace hf := (if_neg h).symm.trans hf
      refine lv_aload_n hx hb dX7_ahead_20 rfl (lv_at hl 0 rfl) ?_
      refine g_get C hW inX7 6 rfl rfl rfl 4 (by decide) (List.mem_of_getElem? (i := 1) rfl) (v := .ref (a3 0)) rfl dX7_ahead_21 ?_
      refine lv_aload_n hx hb dX7_ahead_24 rfl (lv_at hl 0 rfl) ?_
      refine g_get C hW inX7 6 rfl rfl rfl 3 (by decide) (List.mem_of_getElem? (i := 2) rfl) (v := .ref (a1 0)) rfl dX7_ahead_25 ?_
      obtain ⟨y3, hc, hf⟩ := bd_of hf
      refine g_cVv (Cn := RX4) C (ct_X4_copyFrom g l N a4 a3 a1 a2 v4 v3 v1 v2 hc) gX7_ahead_X4_copyFrom rfl 1 (by decide +kernel) ⟨rfl, rfl, ⟨Nat.le_of_ble_eq_true rfl, Nat.le_of_ble_eq_true rfl⟩, Nat.le_of_ble_eq_true rfl, Nat.le_of_ble_eq_true rfl⟩ rfl hl (Nat.le_of_ble_eq_true rfl) dX7_ahead_28 rfl hW hA [4, 3, 1, 2] rfl rfl rfl (ch' := [kX3 g a0 v0, kX4 g a1 (a2 0) v1, kX0 g a2 v2, kX4 g a3 (a4 0) y3.2, kX0 g a4 y3.1, kX5 g a5 (a0 0) (a3 0) v5, kX7 g a6 q0 (a0 0) q2 (a1 0) (a3 0) q5 (a5 0) q7 q8 q9 v6]) rfl 3 rfl rfl rfl (fun H locs hW => ?_)
      refine lv_aload_n hx hb dX7_ahead_31 rfl (lv_at hl 0 rfl) ?_
      refine g_get C hW inX7 6 rfl rfl rfl 6 (by decide) (List.mem_of_getElem? (i := 3) rfl) (v := .ref (a5 0)) rfl dX7_ahead_32 ?_
      refine lv_iload_n hx hb dX7_ahead_35 rfl (lv_at hl 2 rfl) ?_
      obtain ⟨y4, hc, hf⟩ := bd_of hf
      refine g_cV (Cn := RX5) C (ct_X5_takeSteps g l N a0 a3 a4 a5 x2 v0 y3.2 y3.1 v5 hc) gX7_ahead_X5_takeSteps rfl 1 (by decide +kernel) ⟨rfl, rfl, ⟨Nat.le_of_ble_eq_true rfl, Nat.le_of_ble_eq_true rfl⟩, Nat.le_of_ble_eq_true rfl, Nat.le_of_ble_eq_true rfl⟩ rfl hl (Nat.le_of_ble_eq_true rfl) dX7_ahead_36 rfl hW hA [0, 3, 4, 5] rfl rfl rfl (ch' := [kX3 g a0 v0, kX4 g a1 (a2 0) v1, kX0 g a2 v2, kX4 g a3 (a4 0) y4.2.1, kX0 g a4 y4.2.2.1, kX5 g a5 (a0 0) (a3 0) y4.2.2.2, kX7 g a6 q0 (a0 0) q2 (a1 0) (a3 0) q5 (a5 0) q7 q8 q9 v6]) rfl 5 rfl rfl rfl (fun H locs hW => ?_)
      refine lv_pop hx hb dX7_ahead_39 rfl ?_
      refine lv_aload_n hx hb dX7_ahead_40 rfl (lv_at hl 0 rfl) ?_
      refine g_get C hW inX7 6 rfl rfl rfl 4 (by decide) (List.mem_of_getElem? (i := 1) rfl) (v := .ref (a3 0)) rfl dX7_ahead_41 ?_
      refine g_get C hW inX4 3 rfl rfl rfl 11 (by decide) (List.mem_of_getElem? (i := 4) rfl) (v := .ref (a3 9)) rfl dX7_ahead_44 ?_
      refine lv_iload_n hx hb dX7_ahead_47 rfl (lv_at hl 1 rfl) ?_
      obtain ⟨hi, hf⟩ := gd_of hf
      refine g_iald C hW 3 9 rfl (f := (y4.2.1 11)) rfl (ib_in hi) dX7_ahead_48 ?_
      refine lv_aload_n hx hb dX7_ahead_49 rfl (lv_at hl 0 rfl) ?_
      refine g_get C hW inX7 6 rfl rfl rfl 3 (by decide) (List.mem_of_getElem? (i := 2) rfl) (v := .ref (a1 0)) rfl dX7_ahead_50 ?_
      refine g_get C hW inX4 1 rfl rfl rfl 11 (by decide) (List.mem_of_getElem? (i := 4) rfl) (v := .ref (a1 9)) rfl dX7_ahead_53 ?_
      refine lv_iload_n hx hb dX7_ahead_56 rfl (lv_at hl 1 rfl) ?_
      obtain ⟨hi, hf⟩ := gd_of hf
      refine g_iald C hW 1 9 rfl (f := (v1 11)) rfl (ib_in hi) dX7_ahead_57 ?_
      refine lv_isub hx hb dX7_ahead_58 ?_
      obtain rfl := Option.some.inj hf
      subst hQ
      exact g_iret C hr hk0 hW rfl rfl dX7_ahead_59
    · replace hf := (if_pos h).symm.trans hf
      refine lv_iconst (v := (-1 : Int32)) hx hb dX7_ahead_18 (by decide) ?_
      obtain rfl := Option.some.inj hf
      subst hQ
      exact g_iret C hr hk0 hW rfl rfl dX7_ahead_19
def fX7_sees (N : Nat) (x1 : Int32) (x2 : Int32) (v0 : MM) : Option (Int32 × MM) := ((fX7_isWithin N x1 (1 : Int32) (40 : Int32)).bind (fun y1 => (if y1 = 0 then some ((-1 : Int32), v0) else ((fX7_isWithin N x2 (0 : Int32) (9999 : Int32)).bind (fun y2 => (if y2 = 0 then some ((-1 : Int32), v0) else (if (v0 12 0) < (4 : Int32) then (if ib (v0 12 0) 4 = true then (if ib (v0 12 0) 4 = true then some (((v0 12 0) + (1 : Int32)), (st (st (st v0 10 (upd (v0 10) (Int32.toNatClampNeg (v0 12 0)) x1)) 11 (upd (v0 11) (Int32.toNatClampNeg (v0 12 0)) x2)) 12 (fun _ => ((v0 12 0) + (1 : Int32))))) else none) else none) else some ((-3 : Int32), v0))))))))
set_option maxHeartbeats 4000000 in
set_option maxRecDepth 100000 in
theorem ct_X7_sees (g : GT) (l : Launch) (N : Nat) (a0 : Nat → Nat) (q0 : Nat) (q1 : Nat) (q2 : Nat) (q3 : Nat) (q4 : Nat) (q5 : Nat) (q6 : Nat) (q7 : Nat) (q8 : Nat) (q9 : Nat) (x1 : Int32) (x2 : Int32) (v0 : MM) {y : Int32 × MM} (hf : fX7_sees N x1 x2 v0 = some y) : ct g l yX7_sees wsX7_sees (rmk 1 22) [.ref (a0 0), .int x1, .int x2] [kX7 g a0 q0 q1 q2 q3 q4 q5 q6 q7 q8 q9 v0] (some (.int y.1)) [kX7 g a0 q0 q1 q2 q3 q4 q5 q6 q7 q8 q9 y.2] := by
  refine ct_of (cc := cX7_sees) (maxL := 3) (ret := (some .int)) (by decide) rfl (Nat.le_of_ble_eq_true rfl) ?_
  intro p e s m args below meth c A ls C hr hk0 hA hW hl
  have hx := C.1.1
  have hb := C.1.2.1
  replace hl : lv_has ls 3 [(0, .ref (a0 0)), (1, .int x1), (2, .int x2)] := hl
  obtain ⟨Q, hQ⟩ : ∃ Q, Q = MQ below (ctQ g A (some (.int y.1)) [kX7 g a0 q0 q1 q2 q3 q4 q5 q6 q7 q8 q9 y.2]) args s 0 0 A := ⟨_, rfl⟩
  rw [← hQ]
  obtain ⟨H, hH⟩ : ∃ H, H = s.heap := ⟨_, rfl⟩
  obtain ⟨locs, hL⟩ : ∃ locs : List Loc, locs = [] := ⟨_, rfl⟩
  replace hW : wd g A s.heap [kX7 g a0 q0 q1 q2 q3 q4 q5 q6 q7 q8 q9 v0] H locs := by rw [hH, hL]; exact hW
  suffices hG : W p l e (rmk 1 22) s m args below meth c H locs 0 0 Q (F0 m 0 ls []) by
    rw [hH, hL] at hG; exact hG
  clear hH hL
  have inX7 : ∀ w ∈ wsX70, w ∈ wsX7_sees := fun _ h => List.mem_cons_of_mem _ (List.mem_append_right _ (h))
  rw [fX7_sees] at hf
  refine lv_iload_n hx hb dX7_sees_0 rfl (lv_at hl 1 rfl) ?_
  refine lv_iconst (v := (1 : Int32)) hx hb dX7_sees_1 (by decide) ?_
  refine lv_bipush (v := (40 : Int32)) hx hb dX7_sees_2 (by decide) ?_
  obtain ⟨y1, hc, hf⟩ := bd_of hf
  refine g_cS C (ct_X7_isWithin g l N x1 (1 : Int32) (40 : Int32) hc) gX7_sees_X7_isWithin rfl 3 (by decide +kernel) ⟨rfl, rfl, ⟨Nat.le_of_ble_eq_true rfl, Nat.le_of_ble_eq_true rfl⟩, Nat.le_of_ble_eq_true rfl, Nat.le_of_ble_eq_true rfl⟩ rfl hl (Nat.le_of_ble_eq_true rfl) dX7_sees_4 rfl hW hA [] rfl rfl rfl (ch' := [kX7 g a0 q0 q1 q2 q3 q4 q5 q6 q7 q8 q9 v0]) rfl (fun H locs hW => ?_)
  refine lv_if_eq (tgt := 21) hx hb dX7_sees_7 (by decide) (fun h => ?_) (fun h => ?_)
  · replace hf := (if_pos h).symm.trans hf
    refine lv_iconst (v := (-1 : Int32)) hx hb dX7_sees_21 (by decide) ?_
    obtain rfl := Option.some.inj hf
    subst hQ
    exact g_iret C hr hk0 hW rfl rfl dX7_sees_22
  · replace hf := (if_neg h).symm.trans hf
    refine lv_iload_n hx hb dX7_sees_10 rfl (lv_at hl 2 rfl) ?_
    refine lv_iconst (v := (0 : Int32)) hx hb dX7_sees_11 (by decide) ?_
    refine lv_sipush (v := (9999 : Int32)) hx hb dX7_sees_12 (by decide) ?_
    obtain ⟨y2, hc, hf⟩ := bd_of hf
    refine g_cS C (ct_X7_isWithin g l N x2 (0 : Int32) (9999 : Int32) hc) gX7_sees_X7_isWithin rfl 3 (by decide +kernel) ⟨rfl, rfl, ⟨Nat.le_of_ble_eq_true rfl, Nat.le_of_ble_eq_true rfl⟩, Nat.le_of_ble_eq_true rfl, Nat.le_of_ble_eq_true rfl⟩ rfl hl (Nat.le_of_ble_eq_true rfl) dX7_sees_15 rfl hW hA [] rfl rfl rfl (ch' := [kX7 g a0 q0 q1 q2 q3 q4 q5 q6 q7 q8 q9 v0]) rfl (fun H locs hW => ?_)
    refine lv_if_ne (tgt := 23) hx hb dX7_sees_18 (by decide) (fun h => ?_) (fun h => ?_)
    · replace hf := (if_neg h).symm.trans hf
      refine lv_aload_n hx hb dX7_sees_23 rfl (lv_at hl 0 rfl) ?_
      refine g_get C hW inX7 0 rfl rfl rfl 12 (by decide) (List.mem_of_getElem? (i := 1) rfl) (v := .int (v0 12 0)) rfl dX7_sees_24 ?_
      refine lv_iconst (v := (4 : Int32)) hx hb dX7_sees_27 (by decide) ?_
      refine lv_icmp_lt (tgt := 34) hx hb dX7_sees_28 (by decide) (fun h => ?_) (fun h => ?_)
      · replace hf := (if_pos h).symm.trans hf
        refine lv_aload_n hx hb dX7_sees_34 rfl (lv_at hl 0 rfl) ?_
        refine g_get C hW inX7 0 rfl rfl rfl 10 (by decide) (List.mem_of_getElem? (i := 2) rfl) (v := .ref (a0 1)) rfl dX7_sees_35 ?_
        refine lv_aload_n hx hb dX7_sees_38 rfl (lv_at hl 0 rfl) ?_
        refine g_get C hW inX7 0 rfl rfl rfl 12 (by decide) (List.mem_of_getElem? (i := 1) rfl) (v := .int (v0 12 0)) rfl dX7_sees_39 ?_
        refine lv_iload_n hx hb dX7_sees_42 rfl (lv_at hl 1 rfl) ?_
        obtain ⟨hi, hf⟩ := gd_of hf
        refine g_iast C hW 0 1 rfl (f := (v0 10)) rfl (ib_in hi) (kX7_w10 g a0 q0 q1 q2 q3 q4 q5 q6 q7 q8 q9 v0 (upd (v0 10) (Int32.toNatClampNeg (v0 12 0)) x1)) (ch' := [kX7 g a0 q0 q1 q2 q3 q4 q5 q6 q7 q8 q9 (st v0 10 (upd (v0 10) (Int32.toNatClampNeg (v0 12 0)) x1))]) rfl dX7_sees_43 (fun H locs hW => ?_)
        refine lv_aload_n hx hb dX7_sees_44 rfl (lv_at hl 0 rfl) ?_
        refine g_get C hW inX7 0 rfl rfl rfl 11 (by decide) (List.mem_of_getElem? (i := 3) rfl) (v := .ref (a0 2)) rfl dX7_sees_45 ?_
        refine lv_aload_n hx hb dX7_sees_48 rfl (lv_at hl 0 rfl) ?_
        refine g_get C hW inX7 0 rfl rfl rfl 12 (by decide) (List.mem_of_getElem? (i := 1) rfl) (v := .int (v0 12 0)) rfl dX7_sees_49 ?_
        refine lv_iload_n hx hb dX7_sees_52 rfl (lv_at hl 2 rfl) ?_
        obtain ⟨hi, hf⟩ := gd_of hf
        refine g_iast C hW 0 2 rfl (f := (v0 11)) rfl (ib_in hi) (kX7_w11 g a0 q0 q1 q2 q3 q4 q5 q6 q7 q8 q9 (st v0 10 (upd (v0 10) (Int32.toNatClampNeg (v0 12 0)) x1)) (upd (v0 11) (Int32.toNatClampNeg (v0 12 0)) x2)) (ch' := [kX7 g a0 q0 q1 q2 q3 q4 q5 q6 q7 q8 q9 (st (st v0 10 (upd (v0 10) (Int32.toNatClampNeg (v0 12 0)) x1)) 11 (upd (v0 11) (Int32.toNatClampNeg (v0 12 0)) x2))]) rfl dX7_sees_53 (fun H locs hW => ?_)
        refine lv_aload_n hx hb dX7_sees_54 rfl (lv_at hl 0 rfl) ?_
        refine lv_dup hx hb dX7_sees_55 rfl ?_
        refine g_get C hW inX7 0 rfl rfl rfl 12 (by decide) (List.mem_of_getElem? (i := 1) rfl) (v := .int (v0 12 0)) rfl dX7_sees_56 ?_
        refine lv_iconst (v := (1 : Int32)) hx hb dX7_sees_59 (by decide) ?_
        refine lv_iadd hx hb dX7_sees_60 ?_
        refine g_put C hW inX7 tyX7_ok nmX7 0 rfl rfl rfl 12 (by decide) (List.mem_of_getElem? (i := 1) rfl) rfl rfl rfl rfl (kX7_s12 g a0 q0 q1 q2 q3 q4 q5 q6 q7 q8 q9 (st (st v0 10 (upd (v0 10) (Int32.toNatClampNeg (v0 12 0)) x1)) 11 (upd (v0 11) (Int32.toNatClampNeg (v0 12 0)) x2)) ((v0 12 0) + (1 : Int32))) (ch' := [kX7 g a0 q0 q1 q2 q3 q4 q5 q6 q7 q8 q9 (st (st (st v0 10 (upd (v0 10) (Int32.toNatClampNeg (v0 12 0)) x1)) 11 (upd (v0 11) (Int32.toNatClampNeg (v0 12 0)) x2)) 12 (fun _ => ((v0 12 0) + (1 : Int32))))]) rfl dX7_sees_61 (fun H locs hW => ?_)
        refine lv_aload_n hx hb dX7_sees_64 rfl (lv_at hl 0 rfl) ?_
        refine g_get C hW inX7 0 rfl rfl rfl 12 (by decide) (List.mem_of_getElem? (i := 1) rfl) (v := .int ((v0 12 0) + (1 : Int32))) rfl dX7_sees_65 ?_
        obtain rfl := Option.some.inj hf
        subst hQ
        exact g_iret C hr hk0 hW rfl rfl dX7_sees_68
      · replace hf := (if_neg h).symm.trans hf
        refine lv_bipush (v := (-3 : Int32)) hx hb dX7_sees_31 (by decide) ?_
        obtain rfl := Option.some.inj hf
        subst hQ
        exact g_iret C hr hk0 hW rfl rfl dX7_sees_33
    · replace hf := (if_pos h).symm.trans hf
      refine lv_iconst (v := (-1 : Int32)) hx hb dX7_sees_21 (by decide) ?_
      obtain rfl := Option.some.inj hf
      subst hQ
      exact g_iret C hr hk0 hW rfl rfl dX7_sees_22
def fX7_forget (N : Nat) (v0 : MM) : Option (Int32 × MM) := some ((v0 12 0), (st v0 12 (fun _ => (0 : Int32))))
set_option maxHeartbeats 4000000 in
set_option maxRecDepth 100000 in
theorem ct_X7_forget (g : GT) (l : Launch) (N : Nat) (a0 : Nat → Nat) (q0 : Nat) (q1 : Nat) (q2 : Nat) (q3 : Nat) (q4 : Nat) (q5 : Nat) (q6 : Nat) (q7 : Nat) (q8 : Nat) (q9 : Nat) (v0 : MM) {y : Int32 × MM} (hf : fX7_forget N v0 = some y) : ct g l yX7_forget wsX7_forget (rmk 0 0) [.ref (a0 0)] [kX7 g a0 q0 q1 q2 q3 q4 q5 q6 q7 q8 q9 v0] (some (.int y.1)) [kX7 g a0 q0 q1 q2 q3 q4 q5 q6 q7 q8 q9 y.2] := by
  refine ct_of (cc := cX7_forget) (maxL := 2) (ret := (some .int)) (by decide) rfl (Nat.le_of_ble_eq_true rfl) ?_
  intro p e s m args below meth c A ls C hr hk0 hA hW hl
  have hx := C.1.1
  have hb := C.1.2.1
  replace hl : lv_has ls 2 [(0, .ref (a0 0))] := hl
  obtain ⟨Q, hQ⟩ : ∃ Q, Q = MQ below (ctQ g A (some (.int y.1)) [kX7 g a0 q0 q1 q2 q3 q4 q5 q6 q7 q8 q9 y.2]) args s 0 0 A := ⟨_, rfl⟩
  rw [← hQ]
  obtain ⟨H, hH⟩ : ∃ H, H = s.heap := ⟨_, rfl⟩
  obtain ⟨locs, hL⟩ : ∃ locs : List Loc, locs = [] := ⟨_, rfl⟩
  replace hW : wd g A s.heap [kX7 g a0 q0 q1 q2 q3 q4 q5 q6 q7 q8 q9 v0] H locs := by rw [hH, hL]; exact hW
  suffices hG : W p l e (rmk 0 0) s m args below meth c H locs 0 0 Q (F0 m 0 ls []) by
    rw [hH, hL] at hG; exact hG
  clear hH hL
  have inX7 : ∀ w ∈ wsX70, w ∈ wsX7_forget := fun _ h => List.mem_cons_of_mem _ (List.mem_append_right _ (h))
  rw [fX7_forget] at hf
  refine lv_aload_n hx hb dX7_forget_0 rfl (lv_at hl 0 rfl) ?_
  refine g_get C hW inX7 0 rfl rfl rfl 12 (by decide) (List.mem_of_getElem? (i := 1) rfl) (v := .int (v0 12 0)) rfl dX7_forget_1 ?_
  refine lv_istore_n (lv' := [(1, .int (v0 12 0)), (0, .ref (a0 0))]) hx hb dX7_forget_4 rfl hl (by decide) rfl (fun ls hl => ?_)
  refine lv_aload_n hx hb dX7_forget_5 rfl (lv_at hl 1 rfl) ?_
  refine lv_iconst (v := (0 : Int32)) hx hb dX7_forget_6 (by decide) ?_
  refine g_put C hW inX7 tyX7_ok nmX7 0 rfl rfl rfl 12 (by decide) (List.mem_of_getElem? (i := 1) rfl) rfl rfl rfl rfl (kX7_s12 g a0 q0 q1 q2 q3 q4 q5 q6 q7 q8 q9 v0 (0 : Int32)) (ch' := [kX7 g a0 q0 q1 q2 q3 q4 q5 q6 q7 q8 q9 (st v0 12 (fun _ => (0 : Int32)))]) rfl dX7_forget_7 (fun H locs hW => ?_)
  refine lv_iload_n hx hb dX7_forget_10 rfl (lv_at hl 0 rfl) ?_
  obtain rfl := Option.some.inj hf
  subst hQ
  exact g_iret C hr hk0 hW rfl rfl dX7_forget_11
def fX7_explainsAllSeen_L2 (N : Nat) (k : Int32 → MM → MM → MM → Option (Int32 × MM × MM × MM)) (x1 : Int32) (v0 : MM) (v1 : MM) (v2 : MM) (v6 : MM) : Nat → Int32 → MM → MM → MM → Option (Int32 × MM × MM × MM)
  | 0, _, _, _, _ => none
  | n + 1, x2, v3, v4, v5 => (if (v6 12 0) ≤ x2 then k x2 v3 v4 v5 else (if (4 : Int32) ≤ x2 then k x2 v3 v4 v5 else ((fX4_copyFrom N v4 v3 v1 v2).bind (fun y1 => (if ib x2 4 = true then ((fX4_makeDeaf N x1 (v1 0 0) (((v1 0 0) + ((v6 10) (Int32.toNatClampNeg x2))) - (1 : Int32)) y1.2).bind (fun y2 => (if ib x2 4 = true then ((fX5_takeSteps N ((v6 10) (Int32.toNatClampNeg x2)) v0 y2.2 y1.1 v5).bind (fun y3 => (if ib x2 4 = true then (if y3.1 = ((v6 11) (Int32.toNatClampNeg x2)) then fX7_explainsAllSeen_L2 N k x1 v0 v1 v2 v6 n (x2 + 1) y3.2.1 y3.2.2.1 y3.2.2.2 else some ((0 : Int32), y3.2.1, y3.2.2.1, y3.2.2.2)) else none))) else none))) else none)))))
def fX7_explainsAllSeen (N : Nat) (x1 : Int32) (v0 : MM) (v1 : MM) (v2 : MM) (v3 : MM) (v4 : MM) (v5 : MM) (v6 : MM) : Option (Int32 × MM × MM × MM) := (fX7_explainsAllSeen_L2 N (fun (x2_4 : Int32) (v3_4 : MM) (v4_4 : MM) (v5_4 : MM) => some ((1 : Int32), v3_4, v4_4, v5_4)) x1 v0 v1 v2 v6 N (0 : Int32) v3 v4 v5)
set_option maxHeartbeats 4000000 in
set_option maxRecDepth 100000 in
theorem ct_X7_explainsAllSeen (g : GT) (l : Launch) (N : Nat) (a0 : Nat → Nat) (a1 : Nat → Nat) (a2 : Nat → Nat) (a3 : Nat → Nat) (a4 : Nat → Nat) (a5 : Nat → Nat) (a6 : Nat → Nat) (q0 : Nat) (q2 : Nat) (q5 : Nat) (q7 : Nat) (q8 : Nat) (q9 : Nat) (x1 : Int32) (v0 : MM) (v1 : MM) (v2 : MM) (v3 : MM) (v4 : MM) (v5 : MM) (v6 : MM) {y : Int32 × MM × MM × MM} (hf : fX7_explainsAllSeen N x1 v0 v1 v2 v3 v4 v5 v6 = some y) : ct g l yX7_explainsAllSeen wsX7_explainsAllSeen (rmk 5 124) [.ref (a6 0), .int x1] [kX3 g a0 v0, kX4 g a1 (a2 0) v1, kX0 g a2 v2, kX4 g a3 (a4 0) v3, kX0 g a4 v4, kX5 g a5 (a0 0) (a3 0) v5, kX7 g a6 q0 (a0 0) q2 (a1 0) (a3 0) q5 (a5 0) q7 q8 q9 v6] (some (.int y.1)) [kX3 g a0 v0, kX4 g a1 (a2 0) v1, kX0 g a2 v2, kX4 g a3 (a4 0) y.2.1, kX0 g a4 y.2.2.1, kX5 g a5 (a0 0) (a3 0) y.2.2.2, kX7 g a6 q0 (a0 0) q2 (a1 0) (a3 0) q5 (a5 0) q7 q8 q9 v6] := by
  refine ct_of (cc := cX7_explainsAllSeen) (maxL := 3) (ret := (some .boolean)) (by decide) rfl (Nat.le_of_ble_eq_true rfl) ?_
  intro p e s m args below meth c A ls C hr hk0 hA hW hl
  have hx := C.1.1
  have hb := C.1.2.1
  replace hl : lv_has ls 3 [(0, .ref (a6 0)), (1, .int x1)] := hl
  obtain ⟨Q, hQ⟩ : ∃ Q, Q = MQ below (ctQ g A (some (.int y.1)) [kX3 g a0 v0, kX4 g a1 (a2 0) v1, kX0 g a2 v2, kX4 g a3 (a4 0) y.2.1, kX0 g a4 y.2.2.1, kX5 g a5 (a0 0) (a3 0) y.2.2.2, kX7 g a6 q0 (a0 0) q2 (a1 0) (a3 0) q5 (a5 0) q7 q8 q9 v6]) args s 0 0 A := ⟨_, rfl⟩
  rw [← hQ]
  obtain ⟨H, hH⟩ : ∃ H, H = s.heap := ⟨_, rfl⟩
  obtain ⟨locs, hL⟩ : ∃ locs : List Loc, locs = [] := ⟨_, rfl⟩
  replace hW : wd g A s.heap [kX3 g a0 v0, kX4 g a1 (a2 0) v1, kX0 g a2 v2, kX4 g a3 (a4 0) v3, kX0 g a4 v4, kX5 g a5 (a0 0) (a3 0) v5, kX7 g a6 q0 (a0 0) q2 (a1 0) (a3 0) q5 (a5 0) q7 q8 q9 v6] H locs := by rw [hH, hL]; exact hW
  suffices hG : W p l e (rmk 5 124) s m args below meth c H locs 0 0 Q (F0 m 0 ls []) by
    rw [hH, hL] at hG; exact hG
  clear hH hL
  have inX4 : ∀ w ∈ wsX40, w ∈ wsX7_explainsAllSeen := fun _ h => List.mem_cons_of_mem _ (List.mem_append_left _ (List.mem_append_left _ (List.mem_append_left _ (List.mem_append_right _ (h)))))
  have inX7 : ∀ w ∈ wsX70, w ∈ wsX7_explainsAllSeen := fun _ h => List.mem_cons_of_mem _ (List.mem_append_left _ (List.mem_append_left _ (List.mem_append_left _ (List.mem_append_left _ (List.mem_append_right _ (h))))))
  have L2 : ∀ (x1 : Int32) (k : Int32 → MM → MM → MM → Option (Int32 × MM × MM × MM)) (hk : ∀ (x2 : Int32) (v3 : MM) (v4 : MM) (v5 : MM) (H : Heap) (locs : List Loc) (ls : Array Slot), k x2 v3 v4 v5 = some y → wd g A s.heap [kX3 g a0 v0, kX4 g a1 (a2 0) v1, kX0 g a2 v2, kX4 g a3 (a4 0) v3, kX0 g a4 v4, kX5 g a5 (a0 0) (a3 0) v5, kX7 g a6 q0 (a0 0) q2 (a1 0) (a3 0) q5 (a5 0) q7 q8 q9 v6] H locs → lv_has ls 3 [(0, .ref (a6 0)), (1, .int x1), (2, .int x2)] → W p l e (rmk 5 124) s m args below meth c H locs 0 0 Q (F0 m 88 ls [])) (n : Nat) (x2 : Int32) (v3 : MM) (v4 : MM) (v5 : MM) (H : Heap) (locs : List Loc) (ls : Array Slot), fX7_explainsAllSeen_L2 N k x1 v0 v1 v2 v6 n x2 v3 v4 v5 = some y → wd g A s.heap [kX3 g a0 v0, kX4 g a1 (a2 0) v1, kX0 g a2 v2, kX4 g a3 (a4 0) v3, kX0 g a4 v4, kX5 g a5 (a0 0) (a3 0) v5, kX7 g a6 q0 (a0 0) q2 (a1 0) (a3 0) q5 (a5 0) q7 q8 q9 v6] H locs → lv_has ls 3 [(0, .ref (a6 0)), (1, .int x1), (2, .int x2)] → W p l e (rmk 5 124) s m args below meth c H locs 0 0 Q (F0 m 2 ls []) := by
    intro x1 k hk n
    induction n with
    | zero => intro x2 v3 v4 v5 H locs ls hf; rw [fX7_explainsAllSeen_L2] at hf; cases hf
    | succ n ih =>
      intro x2 v3 v4 v5 H locs ls hf hW hl
      rw [fX7_explainsAllSeen_L2] at hf
      refine lv_iload_n hx hb dX7_explainsAllSeen_2 rfl (lv_at hl 2 rfl) ?_
      refine lv_aload_n hx hb dX7_explainsAllSeen_3 rfl (lv_at hl 0 rfl) ?_
      refine g_get C hW inX7 6 rfl rfl rfl 12 (by decide) (List.mem_of_getElem? (i := 1) rfl) (v := .int (v6 12 0)) rfl dX7_explainsAllSeen_4 ?_
      refine lv_icmp_ge (tgt := 88) hx hb dX7_explainsAllSeen_7 (by decide) (fun h => ?_) (fun h => ?_)
      · replace hf := (if_pos h).symm.trans hf
        exact hk _ _ _ _ H locs ls hf hW (lv_sub hl [0, 1, 2] rfl)
      · replace hf := (if_neg h).symm.trans hf
        refine lv_iload_n hx hb dX7_explainsAllSeen_10 rfl (lv_at hl 2 rfl) ?_
        refine lv_iconst (v := (4 : Int32)) hx hb dX7_explainsAllSeen_11 (by decide) ?_
        refine lv_icmp_ge (tgt := 88) hx hb dX7_explainsAllSeen_12 (by decide) (fun h => ?_) (fun h => ?_)
        · replace hf := (if_pos h).symm.trans hf
          exact hk _ _ _ _ H locs ls hf hW (lv_sub hl [0, 1, 2] rfl)
        · replace hf := (if_neg h).symm.trans hf
          refine lv_aload_n hx hb dX7_explainsAllSeen_15 rfl (lv_at hl 0 rfl) ?_
          refine g_get C hW inX7 6 rfl rfl rfl 4 (by decide) (List.mem_of_getElem? (i := 2) rfl) (v := .ref (a3 0)) rfl dX7_explainsAllSeen_16 ?_
          refine lv_aload_n hx hb dX7_explainsAllSeen_19 rfl (lv_at hl 0 rfl) ?_
          refine g_get C hW inX7 6 rfl rfl rfl 3 (by decide) (List.mem_of_getElem? (i := 3) rfl) (v := .ref (a1 0)) rfl dX7_explainsAllSeen_20 ?_
          obtain ⟨y1, hc, hf⟩ := bd_of hf
          refine g_cVv (Cn := RX4) C (ct_X4_copyFrom g l N a4 a3 a1 a2 v4 v3 v1 v2 hc) gX7_explainsAllSeen_X4_copyFrom rfl 1 (by decide +kernel) ⟨rfl, rfl, ⟨Nat.le_of_ble_eq_true rfl, Nat.le_of_ble_eq_true rfl⟩, Nat.le_of_ble_eq_true rfl, Nat.le_of_ble_eq_true rfl⟩ rfl hl (Nat.le_of_ble_eq_true rfl) dX7_explainsAllSeen_23 rfl hW hA [4, 3, 1, 2] rfl rfl rfl (ch' := [kX3 g a0 v0, kX4 g a1 (a2 0) v1, kX0 g a2 v2, kX4 g a3 (a4 0) y1.2, kX0 g a4 y1.1, kX5 g a5 (a0 0) (a3 0) v5, kX7 g a6 q0 (a0 0) q2 (a1 0) (a3 0) q5 (a5 0) q7 q8 q9 v6]) rfl 3 rfl rfl rfl (fun H locs hW => ?_)
          refine lv_aload_n hx hb dX7_explainsAllSeen_26 rfl (lv_at hl 0 rfl) ?_
          refine g_get C hW inX7 6 rfl rfl rfl 4 (by decide) (List.mem_of_getElem? (i := 2) rfl) (v := .ref (a3 0)) rfl dX7_explainsAllSeen_27 ?_
          refine lv_iload_n hx hb dX7_explainsAllSeen_30 rfl (lv_at hl 1 rfl) ?_
          refine lv_aload_n hx hb dX7_explainsAllSeen_31 rfl (lv_at hl 0 rfl) ?_
          refine g_get C hW inX7 6 rfl rfl rfl 3 (by decide) (List.mem_of_getElem? (i := 3) rfl) (v := .ref (a1 0)) rfl dX7_explainsAllSeen_32 ?_
          refine g_get C hW inX4 1 rfl rfl rfl 0 (by decide) (List.mem_of_getElem? (i := 4) rfl) (v := .int (v1 0 0)) rfl dX7_explainsAllSeen_35 ?_
          refine lv_aload_n hx hb dX7_explainsAllSeen_38 rfl (lv_at hl 0 rfl) ?_
          refine g_get C hW inX7 6 rfl rfl rfl 3 (by decide) (List.mem_of_getElem? (i := 3) rfl) (v := .ref (a1 0)) rfl dX7_explainsAllSeen_39 ?_
          refine g_get C hW inX4 1 rfl rfl rfl 0 (by decide) (List.mem_of_getElem? (i := 4) rfl) (v := .int (v1 0 0)) rfl dX7_explainsAllSeen_42 ?_
          refine lv_aload_n hx hb dX7_explainsAllSeen_45 rfl (lv_at hl 0 rfl) ?_
          refine g_get C hW inX7 6 rfl rfl rfl 10 (by decide) (List.mem_of_getElem? (i := 5) rfl) (v := .ref (a6 1)) rfl dX7_explainsAllSeen_46 ?_
          refine lv_iload_n hx hb dX7_explainsAllSeen_49 rfl (lv_at hl 2 rfl) ?_
          obtain ⟨hi, hf⟩ := gd_of hf
          refine g_iald C hW 6 1 rfl (f := (v6 10)) rfl (ib_in hi) dX7_explainsAllSeen_50 ?_
          refine lv_iadd hx hb dX7_explainsAllSeen_51 ?_
          refine lv_iconst (v := (1 : Int32)) hx hb dX7_explainsAllSeen_52 (by decide) ?_
          refine lv_isub hx hb dX7_explainsAllSeen_53 ?_
          obtain ⟨y2, hc, hf⟩ := bd_of hf
          refine g_cV (Cn := RX4) C (ct_X4_makeDeaf g l N a3 (a4 0) x1 (v1 0 0) (((v1 0 0) + ((v6 10) (Int32.toNatClampNeg x2))) - (1 : Int32)) y1.2 hc) gX7_explainsAllSeen_X4_makeDeaf rfl 3 (by decide +kernel) ⟨rfl, rfl, ⟨Nat.le_of_ble_eq_true rfl, Nat.le_of_ble_eq_true rfl⟩, Nat.le_of_ble_eq_true rfl, Nat.le_of_ble_eq_true rfl⟩ rfl hl (Nat.le_of_ble_eq_true rfl) dX7_explainsAllSeen_54 rfl hW hA [3] rfl rfl rfl (ch' := [kX3 g a0 v0, kX4 g a1 (a2 0) v1, kX0 g a2 v2, kX4 g a3 (a4 0) y2.2, kX0 g a4 y1.1, kX5 g a5 (a0 0) (a3 0) v5, kX7 g a6 q0 (a0 0) q2 (a1 0) (a3 0) q5 (a5 0) q7 q8 q9 v6]) rfl 3 rfl rfl rfl (fun H locs hW => ?_)
          refine lv_pop hx hb dX7_explainsAllSeen_57 rfl ?_
          refine lv_aload_n hx hb dX7_explainsAllSeen_58 rfl (lv_at hl 0 rfl) ?_
          refine g_get C hW inX7 6 rfl rfl rfl 6 (by decide) (List.mem_of_getElem? (i := 6) rfl) (v := .ref (a5 0)) rfl dX7_explainsAllSeen_59 ?_
          refine lv_aload_n hx hb dX7_explainsAllSeen_62 rfl (lv_at hl 0 rfl) ?_
          refine g_get C hW inX7 6 rfl rfl rfl 10 (by decide) (List.mem_of_getElem? (i := 5) rfl) (v := .ref (a6 1)) rfl dX7_explainsAllSeen_63 ?_
          refine lv_iload_n hx hb dX7_explainsAllSeen_66 rfl (lv_at hl 2 rfl) ?_
          obtain ⟨hi, hf⟩ := gd_of hf
          refine g_iald C hW 6 1 rfl (f := (v6 10)) rfl (ib_in hi) dX7_explainsAllSeen_67 ?_
          obtain ⟨y3, hc, hf⟩ := bd_of hf
          refine g_cV (Cn := RX5) C (ct_X5_takeSteps g l N a0 a3 a4 a5 ((v6 10) (Int32.toNatClampNeg x2)) v0 y2.2 y1.1 v5 hc) gX7_explainsAllSeen_X5_takeSteps rfl 1 (by decide +kernel) ⟨rfl, rfl, ⟨Nat.le_of_ble_eq_true rfl, Nat.le_of_ble_eq_true rfl⟩, Nat.le_of_ble_eq_true rfl, Nat.le_of_ble_eq_true rfl⟩ rfl hl (Nat.le_of_ble_eq_true rfl) dX7_explainsAllSeen_68 rfl hW hA [0, 3, 4, 5] rfl rfl rfl (ch' := [kX3 g a0 v0, kX4 g a1 (a2 0) v1, kX0 g a2 v2, kX4 g a3 (a4 0) y3.2.1, kX0 g a4 y3.2.2.1, kX5 g a5 (a0 0) (a3 0) y3.2.2.2, kX7 g a6 q0 (a0 0) q2 (a1 0) (a3 0) q5 (a5 0) q7 q8 q9 v6]) rfl 5 rfl rfl rfl (fun H locs hW => ?_)
          refine lv_aload_n hx hb dX7_explainsAllSeen_71 rfl (lv_at hl 0 rfl) ?_
          refine g_get C hW inX7 6 rfl rfl rfl 11 (by decide) (List.mem_of_getElem? (i := 7) rfl) (v := .ref (a6 2)) rfl dX7_explainsAllSeen_72 ?_
          refine lv_iload_n hx hb dX7_explainsAllSeen_75 rfl (lv_at hl 2 rfl) ?_
          obtain ⟨hi, hf⟩ := gd_of hf
          refine g_iald C hW 6 2 rfl (f := (v6 11)) rfl (ib_in hi) dX7_explainsAllSeen_76 ?_
          refine lv_icmp_eq (tgt := 82) hx hb dX7_explainsAllSeen_77 (by decide) (fun h => ?_) (fun h => ?_)
          · replace hf := (if_pos h).symm.trans hf
            refine lv_iinc (v := (x2 + 1)) (lv' := [(2, .int (x2 + 1)), (0, .ref (a6 0)), (1, .int x1)]) hx hb dX7_explainsAllSeen_82 hl (k := 2) rfl (by first | rfl | decide) (by decide) rfl (fun ls hl => ?_)
            refine lv_goto (tgt := 2) hx hb dX7_explainsAllSeen_85 (by decide) ?_
            exact ih _ _ _ _ H locs ls hf hW (lv_sub hl [1, 2, 0] rfl)
          · replace hf := (if_neg h).symm.trans hf
            refine lv_iconst (v := (0 : Int32)) hx hb dX7_explainsAllSeen_80 (by decide) ?_
            obtain rfl := Option.some.inj hf
            subst hQ
            exact g_zret C hr hk0 hW rfl rfl rfl dX7_explainsAllSeen_81
  rw [fX7_explainsAllSeen] at hf
  refine lv_iconst (v := (0 : Int32)) hx hb dX7_explainsAllSeen_0 (by decide) ?_
  refine lv_istore_n (lv' := [(2, .int (0 : Int32)), (0, .ref (a6 0)), (1, .int x1)]) hx hb dX7_explainsAllSeen_1 rfl hl (by decide) rfl (fun ls hl => ?_)
  refine L2 x1 _ (fun x2_4 v3_4 v4_4 v5_4 H locs ls hf hW hl => ?_) N (0 : Int32) v3 v4 v5 H locs ls hf hW (lv_sub hl [1, 2, 0] rfl)
  refine lv_iconst (v := (1 : Int32)) hx hb dX7_explainsAllSeen_88 (by decide) ?_
  obtain rfl := Option.some.inj hf
  subst hQ
  exact g_zret C hr hk0 hW rfl rfl rfl dX7_explainsAllSeen_89
def fX7_unseen_L4 (N : Nat) (k : Int32 → Int32 → MM → MM → MM → Option (Int32 × MM × MM × MM)) (v0 : MM) (v1 : MM) (v2 : MM) (v6 : MM) : Nat → Int32 → Int32 → MM → MM → MM → Option (Int32 × MM × MM × MM)
  | 0, _, _, _, _, _ => none
  | n + 1, x1, x2, v3, v4, v5 => (if (v0 0 0) ≤ x2 then k x1 x2 v3 v4 v5 else ((fX7_explainsAllSeen N x2 v0 v1 v2 v3 v4 v5 v6).bind (fun y1 => (if y1.1 = 0 then fX7_unseen_L4 N k v0 v1 v2 v6 n x1 (x2 + 1) y1.2.1 y1.2.2.1 y1.2.2.2 else fX7_unseen_L4 N k v0 v1 v2 v6 n (x1 ||| ((1 : Int32) <<< (x2 &&& 31))) (x2 + 1) y1.2.1 y1.2.2.1 y1.2.2.2))))
def fX7_unseen (N : Nat) (v0 : MM) (v1 : MM) (v2 : MM) (v3 : MM) (v4 : MM) (v5 : MM) (v6 : MM) : Option (Int32 × MM × MM × MM) := (fX7_unseen_L4 N (fun (x1_2 : Int32) (x2_2 : Int32) (v3_2 : MM) (v4_2 : MM) (v5_2 : MM) => some (x1_2, v3_2, v4_2, v5_2)) v0 v1 v2 v6 N (0 : Int32) (0 : Int32) v3 v4 v5)
set_option maxHeartbeats 4000000 in
set_option maxRecDepth 100000 in
theorem ct_X7_unseen (g : GT) (l : Launch) (N : Nat) (a0 : Nat → Nat) (a1 : Nat → Nat) (a2 : Nat → Nat) (a3 : Nat → Nat) (a4 : Nat → Nat) (a5 : Nat → Nat) (a6 : Nat → Nat) (q0 : Nat) (q2 : Nat) (q5 : Nat) (q7 : Nat) (q8 : Nat) (q9 : Nat) (v0 : MM) (v1 : MM) (v2 : MM) (v3 : MM) (v4 : MM) (v5 : MM) (v6 : MM) {y : Int32 × MM × MM × MM} (hf : fX7_unseen N v0 v1 v2 v3 v4 v5 v6 = some y) : ct g l yX7_unseen wsX7_unseen (rmk 6 146) [.ref (a6 0)] [kX3 g a0 v0, kX4 g a1 (a2 0) v1, kX0 g a2 v2, kX4 g a3 (a4 0) v3, kX0 g a4 v4, kX5 g a5 (a0 0) (a3 0) v5, kX7 g a6 q0 (a0 0) q2 (a1 0) (a3 0) q5 (a5 0) q7 q8 q9 v6] (some (.int y.1)) [kX3 g a0 v0, kX4 g a1 (a2 0) v1, kX0 g a2 v2, kX4 g a3 (a4 0) y.2.1, kX0 g a4 y.2.2.1, kX5 g a5 (a0 0) (a3 0) y.2.2.2, kX7 g a6 q0 (a0 0) q2 (a1 0) (a3 0) q5 (a5 0) q7 q8 q9 v6] := by
  refine ct_of (cc := cX7_unseen) (maxL := 3) (ret := (some .int)) (by decide) rfl (Nat.le_of_ble_eq_true rfl) ?_
  intro p e s m args below meth c A ls C hr hk0 hA hW hl
  have hx := C.1.1
  have hb := C.1.2.1
  replace hl : lv_has ls 3 [(0, .ref (a6 0))] := hl
  obtain ⟨Q, hQ⟩ : ∃ Q, Q = MQ below (ctQ g A (some (.int y.1)) [kX3 g a0 v0, kX4 g a1 (a2 0) v1, kX0 g a2 v2, kX4 g a3 (a4 0) y.2.1, kX0 g a4 y.2.2.1, kX5 g a5 (a0 0) (a3 0) y.2.2.2, kX7 g a6 q0 (a0 0) q2 (a1 0) (a3 0) q5 (a5 0) q7 q8 q9 v6]) args s 0 0 A := ⟨_, rfl⟩
  rw [← hQ]
  obtain ⟨H, hH⟩ : ∃ H, H = s.heap := ⟨_, rfl⟩
  obtain ⟨locs, hL⟩ : ∃ locs : List Loc, locs = [] := ⟨_, rfl⟩
  replace hW : wd g A s.heap [kX3 g a0 v0, kX4 g a1 (a2 0) v1, kX0 g a2 v2, kX4 g a3 (a4 0) v3, kX0 g a4 v4, kX5 g a5 (a0 0) (a3 0) v5, kX7 g a6 q0 (a0 0) q2 (a1 0) (a3 0) q5 (a5 0) q7 q8 q9 v6] H locs := by rw [hH, hL]; exact hW
  suffices hG : W p l e (rmk 6 146) s m args below meth c H locs 0 0 Q (F0 m 0 ls []) by
    rw [hH, hL] at hG; exact hG
  clear hH hL
  have inX3 : ∀ w ∈ wsX30, w ∈ wsX7_unseen := fun _ h => List.mem_cons_of_mem _ (List.mem_append_left _ (List.mem_append_left _ (List.mem_append_left _ (List.mem_append_right _ (h)))))
  have inX7 : ∀ w ∈ wsX70, w ∈ wsX7_unseen := fun _ h => List.mem_cons_of_mem _ (List.mem_append_left _ (List.mem_append_left _ (List.mem_append_left _ (List.mem_append_left _ (List.mem_append_right _ (h))))))
  have L4 : ∀ (k : Int32 → Int32 → MM → MM → MM → Option (Int32 × MM × MM × MM)) (hk : ∀ (x1 : Int32) (x2 : Int32) (v3 : MM) (v4 : MM) (v5 : MM) (H : Heap) (locs : List Loc) (ls : Array Slot), k x1 x2 v3 v4 v5 = some y → wd g A s.heap [kX3 g a0 v0, kX4 g a1 (a2 0) v1, kX0 g a2 v2, kX4 g a3 (a4 0) v3, kX0 g a4 v4, kX5 g a5 (a0 0) (a3 0) v5, kX7 g a6 q0 (a0 0) q2 (a1 0) (a3 0) q5 (a5 0) q7 q8 q9 v6] H locs → lv_has ls 3 [(0, .ref (a6 0)), (1, .int x1), (2, .int x2)] → W p l e (rmk 6 146) s m args below meth c H locs 0 0 Q (F0 m 35 ls [])) (n : Nat) (x1 : Int32) (x2 : Int32) (v3 : MM) (v4 : MM) (v5 : MM) (H : Heap) (locs : List Loc) (ls : Array Slot), fX7_unseen_L4 N k v0 v1 v2 v6 n x1 x2 v3 v4 v5 = some y → wd g A s.heap [kX3 g a0 v0, kX4 g a1 (a2 0) v1, kX0 g a2 v2, kX4 g a3 (a4 0) v3, kX0 g a4 v4, kX5 g a5 (a0 0) (a3 0) v5, kX7 g a6 q0 (a0 0) q2 (a1 0) (a3 0) q5 (a5 0) q7 q8 q9 v6] H locs → lv_has ls 3 [(0, .ref (a6 0)), (1, .int x1), (2, .int x2)] → W p l e (rmk 6 146) s m args below meth c H locs 0 0 Q (F0 m 4 ls []) := by
    intro k hk n
    induction n with
    | zero => intro x1 x2 v3 v4 v5 H locs ls hf; rw [fX7_unseen_L4] at hf; cases hf
    | succ n ih =>
      intro x1 x2 v3 v4 v5 H locs ls hf hW hl
      rw [fX7_unseen_L4] at hf
      refine lv_iload_n hx hb dX7_unseen_4 rfl (lv_at hl 2 rfl) ?_
      refine lv_aload_n hx hb dX7_unseen_5 rfl (lv_at hl 0 rfl) ?_
      refine g_get C hW inX7 6 rfl rfl rfl 1 (by decide) (List.mem_of_getElem? (i := 1) rfl) (v := .ref (a0 0)) rfl dX7_unseen_6 ?_
      refine g_get C hW inX3 0 rfl rfl rfl 0 (by decide) (List.mem_of_getElem? (i := 2) rfl) (v := .int (v0 0 0)) rfl dX7_unseen_9 ?_
      refine lv_icmp_ge (tgt := 35) hx hb dX7_unseen_12 (by decide) (fun h => ?_) (fun h => ?_)
      · replace hf := (if_pos h).symm.trans hf
        exact hk _ _ _ _ _ H locs ls hf hW (lv_sub hl [0, 1, 2] rfl)
      · replace hf := (if_neg h).symm.trans hf
        refine lv_aload_n hx hb dX7_unseen_15 rfl (lv_at hl 0 rfl) ?_
        refine lv_iload_n hx hb dX7_unseen_16 rfl (lv_at hl 2 rfl) ?_
        obtain ⟨y1, hc, hf⟩ := bd_of hf
        refine g_cV (Cn := RX7) C (ct_X7_explainsAllSeen g l N a0 a1 a2 a3 a4 a5 a6 q0 q2 q5 q7 q8 q9 x2 v0 v1 v2 v3 v4 v5 v6 hc) gX7_unseen_X7_explainsAllSeen rfl 1 (by decide +kernel) ⟨rfl, rfl, ⟨Nat.le_of_ble_eq_true rfl, Nat.le_of_ble_eq_true rfl⟩, Nat.le_of_ble_eq_true rfl, Nat.le_of_ble_eq_true rfl⟩ rfl hl (Nat.le_of_ble_eq_true rfl) dX7_unseen_17 rfl hW hA [0, 1, 2, 3, 4, 5, 6] rfl rfl rfl (ch' := [kX3 g a0 v0, kX4 g a1 (a2 0) v1, kX0 g a2 v2, kX4 g a3 (a4 0) y1.2.1, kX0 g a4 y1.2.2.1, kX5 g a5 (a0 0) (a3 0) y1.2.2.2, kX7 g a6 q0 (a0 0) q2 (a1 0) (a3 0) q5 (a5 0) q7 q8 q9 v6]) rfl 6 rfl rfl rfl (fun H locs hW => ?_)
        refine lv_if_eq (tgt := 29) hx hb dX7_unseen_20 (by decide) (fun h => ?_) (fun h => ?_)
        · replace hf := (if_pos h).symm.trans hf
          refine lv_iinc (v := (x2 + 1)) (lv' := [(2, .int (x2 + 1)), (0, .ref (a6 0)), (1, .int x1)]) hx hb dX7_unseen_29 hl (k := 2) rfl (by first | rfl | decide) (by decide) rfl (fun ls hl => ?_)
          refine lv_goto (tgt := 4) hx hb dX7_unseen_32 (by decide) ?_
          exact ih _ _ _ _ _ H locs ls hf hW (lv_sub hl [1, 2, 0] rfl)
        · replace hf := (if_neg h).symm.trans hf
          refine lv_iload_n hx hb dX7_unseen_23 rfl (lv_at hl 1 rfl) ?_
          refine lv_iconst (v := (1 : Int32)) hx hb dX7_unseen_24 (by decide) ?_
          refine lv_iload_n hx hb dX7_unseen_25 rfl (lv_at hl 2 rfl) ?_
          refine lv_ishl hx hb dX7_unseen_26 ?_
          refine lv_ior hx hb dX7_unseen_27 ?_
          refine lv_istore_n (lv' := [(1, .int (x1 ||| ((1 : Int32) <<< (x2 &&& 31)))), (0, .ref (a6 0)), (2, .int x2)]) hx hb dX7_unseen_28 rfl hl (by decide) rfl (fun ls hl => ?_)
          refine lv_iinc (v := (x2 + 1)) (lv' := [(2, .int (x2 + 1)), (1, .int (x1 ||| ((1 : Int32) <<< (x2 &&& 31)))), (0, .ref (a6 0))]) hx hb dX7_unseen_29 hl (k := 2) rfl (by first | rfl | decide) (by decide) rfl (fun ls hl => ?_)
          refine lv_goto (tgt := 4) hx hb dX7_unseen_32 (by decide) ?_
          exact ih _ _ _ _ _ H locs ls hf hW (lv_sub hl [2, 1, 0] rfl)
  rw [fX7_unseen] at hf
  refine lv_iconst (v := (0 : Int32)) hx hb dX7_unseen_0 (by decide) ?_
  refine lv_istore_n (lv' := [(1, .int (0 : Int32)), (0, .ref (a6 0))]) hx hb dX7_unseen_1 rfl hl (by decide) rfl (fun ls hl => ?_)
  refine lv_iconst (v := (0 : Int32)) hx hb dX7_unseen_2 (by decide) ?_
  refine lv_istore_n (lv' := [(2, .int (0 : Int32)), (1, .int (0 : Int32)), (0, .ref (a6 0))]) hx hb dX7_unseen_3 rfl hl (by decide) rfl (fun ls hl => ?_)
  refine L4 _ (fun x1_2 x2_2 v3_2 v4_2 v5_2 H locs ls hf hW hl => ?_) N (0 : Int32) (0 : Int32) v3 v4 v5 H locs ls hf hW (lv_sub hl [2, 1, 0] rfl)
  refine lv_iload_n hx hb dX7_unseen_35 rfl (lv_at hl 1 rfl) ?_
  obtain rfl := Option.some.inj hf
  subst hQ
  exact g_iret C hr hk0 hW rfl rfl dX7_unseen_36
def fX7_keep (N : Nat) (x1 : Int32) (v0 : MM) (v1 : MM) (v2 : MM) (v3 : MM) (v4 : MM) (v5 : MM) (v6 : MM) (v7 : MM) (v8 : MM) : Option (Int32 × MM × MM × MM × MM × MM × MM) := ((fX7_isWithin N x1 (0 : Int32) (1 : Int32)).bind (fun y1 => (if y1 = 0 then some ((-1 : Int32), v2, v3, v4, v5, v6, v7) else (if x1 = (0 : Int32) then ((fX2_take N v3 v4 v2 v0 v1).bind (fun y2 => some ((v0 0 0), y2.2.2, y2.1, y2.2.1, v5, v6, v7))) else ((fX2_take N v6 v7 v5 v0 v1).bind (fun y3 => some ((v0 0 0), v2, v3, v4, y3.2.2, y3.1, y3.2.1)))))))
set_option maxHeartbeats 4000000 in
set_option maxRecDepth 100000 in
theorem ct_X7_keep (g : GT) (l : Launch) (N : Nat) (a0 : Nat → Nat) (a1 : Nat → Nat) (a2 : Nat → Nat) (a3 : Nat → Nat) (a4 : Nat → Nat) (a5 : Nat → Nat) (a6 : Nat → Nat) (a7 : Nat → Nat) (a8 : Nat → Nat) (q0 : Nat) (q1 : Nat) (q2 : Nat) (q4 : Nat) (q5 : Nat) (q6 : Nat) (q7 : Nat) (x1 : Int32) (v0 : MM) (v1 : MM) (v2 : MM) (v3 : MM) (v4 : MM) (v5 : MM) (v6 : MM) (v7 : MM) (v8 : MM) {y : Int32 × MM × MM × MM × MM × MM × MM} (hf : fX7_keep N x1 v0 v1 v2 v3 v4 v5 v6 v7 v8 = some y) : ct g l yX7_keep wsX7_keep (rmk 5 110) [.ref (a8 0), .int x1] [kX4 g a0 (a1 0) v0, kX0 g a1 v1, kX2 g a2 (a3 0) v2, kX4 g a3 (a4 0) v3, kX0 g a4 v4, kX2 g a5 (a6 0) v5, kX4 g a6 (a7 0) v6, kX0 g a7 v7, kX7 g a8 q0 q1 q2 (a0 0) q4 q5 q6 q7 (a2 0) (a5 0) v8] (some (.int y.1)) [kX4 g a0 (a1 0) v0, kX0 g a1 v1, kX2 g a2 (a3 0) y.2.1, kX4 g a3 (a4 0) y.2.2.1, kX0 g a4 y.2.2.2.1, kX2 g a5 (a6 0) y.2.2.2.2.1, kX4 g a6 (a7 0) y.2.2.2.2.2.1, kX0 g a7 y.2.2.2.2.2.2, kX7 g a8 q0 q1 q2 (a0 0) q4 q5 q6 q7 (a2 0) (a5 0) v8] := by
  refine ct_of (cc := cX7_keep) (maxL := 2) (ret := (some .int)) (by decide) rfl (Nat.le_of_ble_eq_true rfl) ?_
  intro p e s m args below meth c A ls C hr hk0 hA hW hl
  have hx := C.1.1
  have hb := C.1.2.1
  replace hl : lv_has ls 2 [(0, .ref (a8 0)), (1, .int x1)] := hl
  obtain ⟨Q, hQ⟩ : ∃ Q, Q = MQ below (ctQ g A (some (.int y.1)) [kX4 g a0 (a1 0) v0, kX0 g a1 v1, kX2 g a2 (a3 0) y.2.1, kX4 g a3 (a4 0) y.2.2.1, kX0 g a4 y.2.2.2.1, kX2 g a5 (a6 0) y.2.2.2.2.1, kX4 g a6 (a7 0) y.2.2.2.2.2.1, kX0 g a7 y.2.2.2.2.2.2, kX7 g a8 q0 q1 q2 (a0 0) q4 q5 q6 q7 (a2 0) (a5 0) v8]) args s 0 0 A := ⟨_, rfl⟩
  rw [← hQ]
  obtain ⟨H, hH⟩ : ∃ H, H = s.heap := ⟨_, rfl⟩
  obtain ⟨locs, hL⟩ : ∃ locs : List Loc, locs = [] := ⟨_, rfl⟩
  replace hW : wd g A s.heap [kX4 g a0 (a1 0) v0, kX0 g a1 v1, kX2 g a2 (a3 0) v2, kX4 g a3 (a4 0) v3, kX0 g a4 v4, kX2 g a5 (a6 0) v5, kX4 g a6 (a7 0) v6, kX0 g a7 v7, kX7 g a8 q0 q1 q2 (a0 0) q4 q5 q6 q7 (a2 0) (a5 0) v8] H locs := by rw [hH, hL]; exact hW
  suffices hG : W p l e (rmk 5 110) s m args below meth c H locs 0 0 Q (F0 m 0 ls []) by
    rw [hH, hL] at hG; exact hG
  clear hH hL
  have inX4 : ∀ w ∈ wsX40, w ∈ wsX7_keep := fun _ h => List.mem_cons_of_mem _ (List.mem_append_left _ (List.mem_append_left _ (List.mem_append_right _ (h))))
  have inX7 : ∀ w ∈ wsX70, w ∈ wsX7_keep := fun _ h => List.mem_cons_of_mem _ (List.mem_append_left _ (List.mem_append_left _ (List.mem_append_left _ (List.mem_append_right _ (h)))))
  rw [fX7_keep] at hf
  refine lv_iload_n hx hb dX7_keep_0 rfl (lv_at hl 1 rfl) ?_
  refine lv_iconst (v := (0 : Int32)) hx hb dX7_keep_1 (by decide) ?_
  refine lv_iconst (v := (1 : Int32)) hx hb dX7_keep_2 (by decide) ?_
  obtain ⟨y1, hc, hf⟩ := bd_of hf
  refine g_cS C (ct_X7_isWithin g l N x1 (0 : Int32) (1 : Int32) hc) gX7_keep_X7_isWithin rfl 3 (by decide +kernel) ⟨rfl, rfl, ⟨Nat.le_of_ble_eq_true rfl, Nat.le_of_ble_eq_true rfl⟩, Nat.le_of_ble_eq_true rfl, Nat.le_of_ble_eq_true rfl⟩ rfl hl (Nat.le_of_ble_eq_true rfl) dX7_keep_3 rfl hW hA [] rfl rfl rfl (ch' := [kX4 g a0 (a1 0) v0, kX0 g a1 v1, kX2 g a2 (a3 0) v2, kX4 g a3 (a4 0) v3, kX0 g a4 v4, kX2 g a5 (a6 0) v5, kX4 g a6 (a7 0) v6, kX0 g a7 v7, kX7 g a8 q0 q1 q2 (a0 0) q4 q5 q6 q7 (a2 0) (a5 0) v8]) rfl (fun H locs hW => ?_)
  refine lv_if_ne (tgt := 11) hx hb dX7_keep_6 (by decide) (fun h => ?_) (fun h => ?_)
  · replace hf := (if_neg h).symm.trans hf
    refine lv_aload_n hx hb dX7_keep_11 rfl (lv_at hl 0 rfl) ?_
    refine lv_iload_n hx hb dX7_keep_12 rfl (lv_at hl 1 rfl) ?_
    rcases Decidable.em (x1 = (0 : Int32)) with hz | hz
    · replace hf := (if_pos hz).symm.trans hf
      refine g_cV (Cn := RX7) C (ct_X7_imageAt_0 g l a8 q0 q1 q2 (a0 0) q4 q5 q6 q7 (a2 0) (a5 0) x1 v8 hz) gX7_keep_X7_imageAt rfl 1 (by decide +kernel) ⟨rfl, rfl, ⟨Nat.le_of_ble_eq_true rfl, Nat.le_of_ble_eq_true rfl⟩, Nat.le_of_ble_eq_true rfl, Nat.le_of_ble_eq_true rfl⟩ rfl hl (Nat.le_of_ble_eq_true rfl) dX7_keep_13 rfl hW hA [8] rfl rfl rfl (ch' := [kX4 g a0 (a1 0) v0, kX0 g a1 v1, kX2 g a2 (a3 0) v2, kX4 g a3 (a4 0) v3, kX0 g a4 v4, kX2 g a5 (a6 0) v5, kX4 g a6 (a7 0) v6, kX0 g a7 v7, kX7 g a8 q0 q1 q2 (a0 0) q4 q5 q6 q7 (a2 0) (a5 0) v8]) rfl 8 rfl rfl rfl (fun H locs hW => ?_)
      refine lv_aload_n hx hb dX7_keep_16 rfl (lv_at hl 0 rfl) ?_
      refine g_get C hW inX7 8 rfl rfl rfl 3 (by decide) (List.mem_of_getElem? (i := 1) rfl) (v := .ref (a0 0)) rfl dX7_keep_17 ?_
      obtain ⟨y2, hc, hf⟩ := bd_of hf
      refine g_cVv (Cn := RX2) C (ct_X2_take g l N a3 a4 a2 a0 a1 v3 v4 v2 v0 v1 hc) gX7_keep_X2_take rfl 1 (by decide +kernel) ⟨rfl, rfl, ⟨Nat.le_of_ble_eq_true rfl, Nat.le_of_ble_eq_true rfl⟩, Nat.le_of_ble_eq_true rfl, Nat.le_of_ble_eq_true rfl⟩ rfl hl (Nat.le_of_ble_eq_true rfl) dX7_keep_20 rfl hW hA [3, 4, 2, 0, 1] rfl rfl rfl (ch' := [kX4 g a0 (a1 0) v0, kX0 g a1 v1, kX2 g a2 (a3 0) y2.2.2, kX4 g a3 (a4 0) y2.1, kX0 g a4 y2.2.1, kX2 g a5 (a6 0) v5, kX4 g a6 (a7 0) v6, kX0 g a7 v7, kX7 g a8 q0 q1 q2 (a0 0) q4 q5 q6 q7 (a2 0) (a5 0) v8]) rfl 2 rfl rfl rfl (fun H locs hW => ?_)
      refine lv_aload_n hx hb dX7_keep_23 rfl (lv_at hl 0 rfl) ?_
      refine g_get C hW inX7 8 rfl rfl rfl 3 (by decide) (List.mem_of_getElem? (i := 1) rfl) (v := .ref (a0 0)) rfl dX7_keep_24 ?_
      refine g_get C hW inX4 0 rfl rfl rfl 0 (by decide) (List.mem_of_getElem? (i := 2) rfl) (v := .int (v0 0 0)) rfl dX7_keep_27 ?_
      obtain rfl := Option.some.inj hf
      subst hQ
      exact g_iret C hr hk0 hW rfl rfl dX7_keep_30
    · replace hf := (if_neg hz).symm.trans hf
      refine g_cV (Cn := RX7) C (ct_X7_imageAt_1 g l a8 q0 q1 q2 (a0 0) q4 q5 q6 q7 (a2 0) (a5 0) x1 v8 hz) gX7_keep_X7_imageAt rfl 1 (by decide +kernel) ⟨rfl, rfl, ⟨Nat.le_of_ble_eq_true rfl, Nat.le_of_ble_eq_true rfl⟩, Nat.le_of_ble_eq_true rfl, Nat.le_of_ble_eq_true rfl⟩ rfl hl (Nat.le_of_ble_eq_true rfl) dX7_keep_13 rfl hW hA [8] rfl rfl rfl (ch' := [kX4 g a0 (a1 0) v0, kX0 g a1 v1, kX2 g a2 (a3 0) v2, kX4 g a3 (a4 0) v3, kX0 g a4 v4, kX2 g a5 (a6 0) v5, kX4 g a6 (a7 0) v6, kX0 g a7 v7, kX7 g a8 q0 q1 q2 (a0 0) q4 q5 q6 q7 (a2 0) (a5 0) v8]) rfl 8 rfl rfl rfl (fun H locs hW => ?_)
      refine lv_aload_n hx hb dX7_keep_16 rfl (lv_at hl 0 rfl) ?_
      refine g_get C hW inX7 8 rfl rfl rfl 3 (by decide) (List.mem_of_getElem? (i := 1) rfl) (v := .ref (a0 0)) rfl dX7_keep_17 ?_
      obtain ⟨y3, hc, hf⟩ := bd_of hf
      refine g_cVv (Cn := RX2) C (ct_X2_take g l N a6 a7 a5 a0 a1 v6 v7 v5 v0 v1 hc) gX7_keep_X2_take rfl 1 (by decide +kernel) ⟨rfl, rfl, ⟨Nat.le_of_ble_eq_true rfl, Nat.le_of_ble_eq_true rfl⟩, Nat.le_of_ble_eq_true rfl, Nat.le_of_ble_eq_true rfl⟩ rfl hl (Nat.le_of_ble_eq_true rfl) dX7_keep_20 rfl hW hA [6, 7, 5, 0, 1] rfl rfl rfl (ch' := [kX4 g a0 (a1 0) v0, kX0 g a1 v1, kX2 g a2 (a3 0) v2, kX4 g a3 (a4 0) v3, kX0 g a4 v4, kX2 g a5 (a6 0) y3.2.2, kX4 g a6 (a7 0) y3.1, kX0 g a7 y3.2.1, kX7 g a8 q0 q1 q2 (a0 0) q4 q5 q6 q7 (a2 0) (a5 0) v8]) rfl 5 rfl rfl rfl (fun H locs hW => ?_)
      refine lv_aload_n hx hb dX7_keep_23 rfl (lv_at hl 0 rfl) ?_
      refine g_get C hW inX7 8 rfl rfl rfl 3 (by decide) (List.mem_of_getElem? (i := 1) rfl) (v := .ref (a0 0)) rfl dX7_keep_24 ?_
      refine g_get C hW inX4 0 rfl rfl rfl 0 (by decide) (List.mem_of_getElem? (i := 2) rfl) (v := .int (v0 0 0)) rfl dX7_keep_27 ?_
      obtain rfl := Option.some.inj hf
      subst hQ
      exact g_iret C hr hk0 hW rfl rfl dX7_keep_30
  · replace hf := (if_pos h).symm.trans hf
    refine lv_iconst (v := (-1 : Int32)) hx hb dX7_keep_9 (by decide) ?_
    obtain rfl := Option.some.inj hf
    subst hQ
    exact g_iret C hr hk0 hW rfl rfl dX7_keep_10
def fX7_back (N : Nat) (x1 : Int32) (v0 : MM) (v1 : MM) (v2 : MM) (v3 : MM) (v4 : MM) (v5 : MM) (v6 : MM) (v7 : MM) (v8 : MM) (v9 : MM) : Option (Int32 × MM × MM × MM) := ((fX7_isWithin N x1 (0 : Int32) (1 : Int32)).bind (fun y1 => (if y1 = 0 then some ((-1 : Int32), v0, v1, v2) else (if x1 = (0 : Int32) then (if (v3 0 0) = 0 then some ((-2 : Int32), v0, v1, v2) else ((fX4_copyFrom N v1 v0 v4 v5).bind (fun y2 => some ((y2.2 0 0), y2.2, y2.1, (st v2 0 (fun _ => (0 : Int32))))))) else (if (v6 0 0) = 0 then some ((-2 : Int32), v0, v1, v2) else ((fX4_copyFrom N v1 v0 v7 v8).bind (fun y3 => some ((y3.2 0 0), y3.2, y3.1, (st v2 0 (fun _ => (0 : Int32)))))))))))
set_option maxHeartbeats 4000000 in
set_option maxRecDepth 100000 in
theorem ct_X7_back (g : GT) (l : Launch) (N : Nat) (a0 : Nat → Nat) (a1 : Nat → Nat) (a2 : Nat → Nat) (a3 : Nat → Nat) (a4 : Nat → Nat) (a5 : Nat → Nat) (a6 : Nat → Nat) (a7 : Nat → Nat) (a8 : Nat → Nat) (a9 : Nat → Nat) (q7_e0 : Nat) (q7_e1 : Nat) (q7_e2 : Nat) (q7_e3 : Nat) (q7_e4 : Nat) (q7_e5 : Nat) (q7_e6 : Nat) (q7_e7 : Nat) (q0 : Nat) (q1 : Nat) (q2 : Nat) (q4 : Nat) (q5 : Nat) (q6 : Nat) (x1 : Int32) (v0 : MM) (v1 : MM) (v2 : MM) (v3 : MM) (v4 : MM) (v5 : MM) (v6 : MM) (v7 : MM) (v8 : MM) (v9 : MM) {y : Int32 × MM × MM × MM} (hf : fX7_back N x1 v0 v1 v2 v3 v4 v5 v6 v7 v8 v9 = some y) : ct g l yX7_back wsX7_back (rmk 4 89) [.ref (a9 0), .int x1] [kX4 g a0 (a1 0) v0, kX0 g a1 v1, kX1 g a2 q7_e0 q7_e1 q7_e2 q7_e3 q7_e4 q7_e5 q7_e6 q7_e7 v2, kX2 g a3 (a4 0) v3, kX4 g a4 (a5 0) v4, kX0 g a5 v5, kX2 g a6 (a7 0) v6, kX4 g a7 (a8 0) v7, kX0 g a8 v8, kX7 g a9 q0 q1 q2 (a0 0) q4 q5 q6 (a2 0) (a3 0) (a6 0) v9] (some (.int y.1)) [kX4 g a0 (a1 0) y.2.1, kX0 g a1 y.2.2.1, kX1 g a2 q7_e0 q7_e1 q7_e2 q7_e3 q7_e4 q7_e5 q7_e6 q7_e7 y.2.2.2, kX2 g a3 (a4 0) v3, kX4 g a4 (a5 0) v4, kX0 g a5 v5, kX2 g a6 (a7 0) v6, kX4 g a7 (a8 0) v7, kX0 g a8 v8, kX7 g a9 q0 q1 q2 (a0 0) q4 q5 q6 (a2 0) (a3 0) (a6 0) v9] := by
  refine ct_of (cc := cX7_back) (maxL := 3) (ret := (some .int)) (by decide) rfl (Nat.le_of_ble_eq_true rfl) ?_
  intro p e s m args below meth c A ls C hr hk0 hA hW hl
  have hx := C.1.1
  have hb := C.1.2.1
  replace hl : lv_has ls 3 [(0, .ref (a9 0)), (1, .int x1)] := hl
  obtain ⟨Q, hQ⟩ : ∃ Q, Q = MQ below (ctQ g A (some (.int y.1)) [kX4 g a0 (a1 0) y.2.1, kX0 g a1 y.2.2.1, kX1 g a2 q7_e0 q7_e1 q7_e2 q7_e3 q7_e4 q7_e5 q7_e6 q7_e7 y.2.2.2, kX2 g a3 (a4 0) v3, kX4 g a4 (a5 0) v4, kX0 g a5 v5, kX2 g a6 (a7 0) v6, kX4 g a7 (a8 0) v7, kX0 g a8 v8, kX7 g a9 q0 q1 q2 (a0 0) q4 q5 q6 (a2 0) (a3 0) (a6 0) v9]) args s 0 0 A := ⟨_, rfl⟩
  rw [← hQ]
  obtain ⟨H, hH⟩ : ∃ H, H = s.heap := ⟨_, rfl⟩
  obtain ⟨locs, hL⟩ : ∃ locs : List Loc, locs = [] := ⟨_, rfl⟩
  replace hW : wd g A s.heap [kX4 g a0 (a1 0) v0, kX0 g a1 v1, kX1 g a2 q7_e0 q7_e1 q7_e2 q7_e3 q7_e4 q7_e5 q7_e6 q7_e7 v2, kX2 g a3 (a4 0) v3, kX4 g a4 (a5 0) v4, kX0 g a5 v5, kX2 g a6 (a7 0) v6, kX4 g a7 (a8 0) v7, kX0 g a8 v8, kX7 g a9 q0 q1 q2 (a0 0) q4 q5 q6 (a2 0) (a3 0) (a6 0) v9] H locs := by rw [hH, hL]; exact hW
  suffices hG : W p l e (rmk 4 89) s m args below meth c H locs 0 0 Q (F0 m 0 ls []) by
    rw [hH, hL] at hG; exact hG
  clear hH hL
  have inX1 : ∀ w ∈ wsX10, w ∈ wsX7_back := fun _ h => List.mem_cons_of_mem _ (List.mem_append_left _ (List.mem_append_left _ (List.mem_append_right _ (h))))
  have inX2 : ∀ w ∈ wsX20, w ∈ wsX7_back := fun _ h => List.mem_cons_of_mem _ (List.mem_append_left _ (List.mem_append_left _ (List.mem_append_left _ (List.mem_append_left _ (List.mem_append_right _ (h))))))
  have inX4 : ∀ w ∈ wsX40, w ∈ wsX7_back := fun _ h => List.mem_cons_of_mem _ (List.mem_append_left _ (List.mem_append_right _ (h)))
  have inX7 : ∀ w ∈ wsX70, w ∈ wsX7_back := fun _ h => List.mem_cons_of_mem _ (List.mem_append_left _ (List.mem_append_left _ (List.mem_append_left _ (List.mem_append_right _ (h)))))
  rw [fX7_back] at hf
  refine lv_iload_n hx hb dX7_back_0 rfl (lv_at hl 1 rfl) ?_
  refine lv_iconst (v := (0 : Int32)) hx hb dX7_back_1 (by decide) ?_
  refine lv_iconst (v := (1 : Int32)) hx hb dX7_back_2 (by decide) ?_
  obtain ⟨y1, hc, hf⟩ := bd_of hf
  refine g_cS C (ct_X7_isWithin g l N x1 (0 : Int32) (1 : Int32) hc) gX7_back_X7_isWithin rfl 3 (by decide +kernel) ⟨rfl, rfl, ⟨Nat.le_of_ble_eq_true rfl, Nat.le_of_ble_eq_true rfl⟩, Nat.le_of_ble_eq_true rfl, Nat.le_of_ble_eq_true rfl⟩ rfl hl (Nat.le_of_ble_eq_true rfl) dX7_back_3 rfl hW hA [] rfl rfl rfl (ch' := [kX4 g a0 (a1 0) v0, kX0 g a1 v1, kX1 g a2 q7_e0 q7_e1 q7_e2 q7_e3 q7_e4 q7_e5 q7_e6 q7_e7 v2, kX2 g a3 (a4 0) v3, kX4 g a4 (a5 0) v4, kX0 g a5 v5, kX2 g a6 (a7 0) v6, kX4 g a7 (a8 0) v7, kX0 g a8 v8, kX7 g a9 q0 q1 q2 (a0 0) q4 q5 q6 (a2 0) (a3 0) (a6 0) v9]) rfl (fun H locs hW => ?_)
  refine lv_if_ne (tgt := 11) hx hb dX7_back_6 (by decide) (fun h => ?_) (fun h => ?_)
  · replace hf := (if_neg h).symm.trans hf
    refine lv_aload_n hx hb dX7_back_11 rfl (lv_at hl 0 rfl) ?_
    refine lv_iload_n hx hb dX7_back_12 rfl (lv_at hl 1 rfl) ?_
    rcases Decidable.em (x1 = (0 : Int32)) with hz | hz
    · replace hf := (if_pos hz).symm.trans hf
      refine g_cV (Cn := RX7) C (ct_X7_imageAt_0 g l a9 q0 q1 q2 (a0 0) q4 q5 q6 (a2 0) (a3 0) (a6 0) x1 v9 hz) gX7_back_X7_imageAt rfl 1 (by decide +kernel) ⟨rfl, rfl, ⟨Nat.le_of_ble_eq_true rfl, Nat.le_of_ble_eq_true rfl⟩, Nat.le_of_ble_eq_true rfl, Nat.le_of_ble_eq_true rfl⟩ rfl hl (Nat.le_of_ble_eq_true rfl) dX7_back_13 rfl hW hA [9] rfl rfl rfl (ch' := [kX4 g a0 (a1 0) v0, kX0 g a1 v1, kX1 g a2 q7_e0 q7_e1 q7_e2 q7_e3 q7_e4 q7_e5 q7_e6 q7_e7 v2, kX2 g a3 (a4 0) v3, kX4 g a4 (a5 0) v4, kX0 g a5 v5, kX2 g a6 (a7 0) v6, kX4 g a7 (a8 0) v7, kX0 g a8 v8, kX7 g a9 q0 q1 q2 (a0 0) q4 q5 q6 (a2 0) (a3 0) (a6 0) v9]) rfl 9 rfl rfl rfl (fun H locs hW => ?_)
      refine lv_astore_n (lv' := [(2, .ref (a3 0)), (0, .ref (a9 0)), (1, .int x1)]) hx hb dX7_back_16 rfl hl (by decide) rfl (fun ls hl => ?_)
      refine lv_aload_n hx hb dX7_back_17 rfl (lv_at hl 0 rfl) ?_
      refine g_get C hW inX2 3 rfl rfl rfl 0 (by decide) (List.mem_of_getElem? (i := 1) rfl) (v := .int (v3 0 0)) rfl dX7_back_18 ?_
      refine lv_if_ne (tgt := 27) hx hb dX7_back_21 (by decide) (fun h => ?_) (fun h => ?_)
      · replace hf := (if_neg h).symm.trans hf
        refine lv_aload_n hx hb dX7_back_27 rfl (lv_at hl 1 rfl) ?_
        refine g_get C hW inX7 9 rfl rfl rfl 3 (by decide) (List.mem_of_getElem? (i := 2) rfl) (v := .ref (a0 0)) rfl dX7_back_28 ?_
        refine lv_aload_n hx hb dX7_back_31 rfl (lv_at hl 0 rfl) ?_
        refine g_get C hW inX2 3 rfl rfl rfl 1 (by decide) (List.mem_of_getElem? (i := 3) rfl) (v := .ref (a4 0)) rfl dX7_back_32 ?_
        obtain ⟨y2, hc, hf⟩ := bd_of hf
        refine g_cVv (Cn := RX4) C (ct_X4_copyFrom g l N a1 a0 a4 a5 v1 v0 v4 v5 hc) gX7_back_X4_copyFrom rfl 1 (by decide +kernel) ⟨rfl, rfl, ⟨Nat.le_of_ble_eq_true rfl, Nat.le_of_ble_eq_true rfl⟩, Nat.le_of_ble_eq_true rfl, Nat.le_of_ble_eq_true rfl⟩ rfl hl (Nat.le_of_ble_eq_true rfl) dX7_back_35 rfl hW hA [1, 0, 4, 5] rfl rfl rfl (ch' := [kX4 g a0 (a1 0) y2.2, kX0 g a1 y2.1, kX1 g a2 q7_e0 q7_e1 q7_e2 q7_e3 q7_e4 q7_e5 q7_e6 q7_e7 v2, kX2 g a3 (a4 0) v3, kX4 g a4 (a5 0) v4, kX0 g a5 v5, kX2 g a6 (a7 0) v6, kX4 g a7 (a8 0) v7, kX0 g a8 v8, kX7 g a9 q0 q1 q2 (a0 0) q4 q5 q6 (a2 0) (a3 0) (a6 0) v9]) rfl 0 rfl rfl rfl (fun H locs hW => ?_)
        refine lv_aload_n hx hb dX7_back_38 rfl (lv_at hl 1 rfl) ?_
        refine g_get C hW inX7 9 rfl rfl rfl 7 (by decide) (List.mem_of_getElem? (i := 4) rfl) (v := .ref (a2 0)) rfl dX7_back_39 ?_
        refine lv_iconst (v := (0 : Int32)) hx hb dX7_back_42 (by decide) ?_
        refine g_put C hW inX1 tyX1_ok nmX1 2 rfl rfl rfl 0 (by decide) (List.mem_of_getElem? (i := 5) rfl) rfl rfl rfl rfl (kX1_s0 g a2 q7_e0 q7_e1 q7_e2 q7_e3 q7_e4 q7_e5 q7_e6 q7_e7 v2 (0 : Int32)) (ch' := [kX4 g a0 (a1 0) y2.2, kX0 g a1 y2.1, kX1 g a2 q7_e0 q7_e1 q7_e2 q7_e3 q7_e4 q7_e5 q7_e6 q7_e7 (st v2 0 (fun _ => (0 : Int32))), kX2 g a3 (a4 0) v3, kX4 g a4 (a5 0) v4, kX0 g a5 v5, kX2 g a6 (a7 0) v6, kX4 g a7 (a8 0) v7, kX0 g a8 v8, kX7 g a9 q0 q1 q2 (a0 0) q4 q5 q6 (a2 0) (a3 0) (a6 0) v9]) rfl dX7_back_43 (fun H locs hW => ?_)
        refine lv_aload_n hx hb dX7_back_46 rfl (lv_at hl 1 rfl) ?_
        refine g_get C hW inX7 9 rfl rfl rfl 3 (by decide) (List.mem_of_getElem? (i := 2) rfl) (v := .ref (a0 0)) rfl dX7_back_47 ?_
        refine g_get C hW inX4 0 rfl rfl rfl 0 (by decide) (List.mem_of_getElem? (i := 6) rfl) (v := .int (y2.2 0 0)) rfl dX7_back_50 ?_
        obtain rfl := Option.some.inj hf
        subst hQ
        exact g_iret C hr hk0 hW rfl rfl dX7_back_53
      · replace hf := (if_pos h).symm.trans hf
        refine lv_bipush (v := (-2 : Int32)) hx hb dX7_back_24 (by decide) ?_
        obtain rfl := Option.some.inj hf
        subst hQ
        exact g_iret C hr hk0 hW rfl rfl dX7_back_26
    · replace hf := (if_neg hz).symm.trans hf
      refine g_cV (Cn := RX7) C (ct_X7_imageAt_1 g l a9 q0 q1 q2 (a0 0) q4 q5 q6 (a2 0) (a3 0) (a6 0) x1 v9 hz) gX7_back_X7_imageAt rfl 1 (by decide +kernel) ⟨rfl, rfl, ⟨Nat.le_of_ble_eq_true rfl, Nat.le_of_ble_eq_true rfl⟩, Nat.le_of_ble_eq_true rfl, Nat.le_of_ble_eq_true rfl⟩ rfl hl (Nat.le_of_ble_eq_true rfl) dX7_back_13 rfl hW hA [9] rfl rfl rfl (ch' := [kX4 g a0 (a1 0) v0, kX0 g a1 v1, kX1 g a2 q7_e0 q7_e1 q7_e2 q7_e3 q7_e4 q7_e5 q7_e6 q7_e7 v2, kX2 g a3 (a4 0) v3, kX4 g a4 (a5 0) v4, kX0 g a5 v5, kX2 g a6 (a7 0) v6, kX4 g a7 (a8 0) v7, kX0 g a8 v8, kX7 g a9 q0 q1 q2 (a0 0) q4 q5 q6 (a2 0) (a3 0) (a6 0) v9]) rfl 9 rfl rfl rfl (fun H locs hW => ?_)
      refine lv_astore_n (lv' := [(2, .ref (a6 0)), (0, .ref (a9 0)), (1, .int x1)]) hx hb dX7_back_16 rfl hl (by decide) rfl (fun ls hl => ?_)
      refine lv_aload_n hx hb dX7_back_17 rfl (lv_at hl 0 rfl) ?_
      refine g_get C hW inX2 6 rfl rfl rfl 0 (by decide) (List.mem_of_getElem? (i := 1) rfl) (v := .int (v6 0 0)) rfl dX7_back_18 ?_
      refine lv_if_ne (tgt := 27) hx hb dX7_back_21 (by decide) (fun h => ?_) (fun h => ?_)
      · replace hf := (if_neg h).symm.trans hf
        refine lv_aload_n hx hb dX7_back_27 rfl (lv_at hl 1 rfl) ?_
        refine g_get C hW inX7 9 rfl rfl rfl 3 (by decide) (List.mem_of_getElem? (i := 2) rfl) (v := .ref (a0 0)) rfl dX7_back_28 ?_
        refine lv_aload_n hx hb dX7_back_31 rfl (lv_at hl 0 rfl) ?_
        refine g_get C hW inX2 6 rfl rfl rfl 1 (by decide) (List.mem_of_getElem? (i := 3) rfl) (v := .ref (a7 0)) rfl dX7_back_32 ?_
        obtain ⟨y3, hc, hf⟩ := bd_of hf
        refine g_cVv (Cn := RX4) C (ct_X4_copyFrom g l N a1 a0 a7 a8 v1 v0 v7 v8 hc) gX7_back_X4_copyFrom rfl 1 (by decide +kernel) ⟨rfl, rfl, ⟨Nat.le_of_ble_eq_true rfl, Nat.le_of_ble_eq_true rfl⟩, Nat.le_of_ble_eq_true rfl, Nat.le_of_ble_eq_true rfl⟩ rfl hl (Nat.le_of_ble_eq_true rfl) dX7_back_35 rfl hW hA [1, 0, 7, 8] rfl rfl rfl (ch' := [kX4 g a0 (a1 0) y3.2, kX0 g a1 y3.1, kX1 g a2 q7_e0 q7_e1 q7_e2 q7_e3 q7_e4 q7_e5 q7_e6 q7_e7 v2, kX2 g a3 (a4 0) v3, kX4 g a4 (a5 0) v4, kX0 g a5 v5, kX2 g a6 (a7 0) v6, kX4 g a7 (a8 0) v7, kX0 g a8 v8, kX7 g a9 q0 q1 q2 (a0 0) q4 q5 q6 (a2 0) (a3 0) (a6 0) v9]) rfl 0 rfl rfl rfl (fun H locs hW => ?_)
        refine lv_aload_n hx hb dX7_back_38 rfl (lv_at hl 1 rfl) ?_
        refine g_get C hW inX7 9 rfl rfl rfl 7 (by decide) (List.mem_of_getElem? (i := 4) rfl) (v := .ref (a2 0)) rfl dX7_back_39 ?_
        refine lv_iconst (v := (0 : Int32)) hx hb dX7_back_42 (by decide) ?_
        refine g_put C hW inX1 tyX1_ok nmX1 2 rfl rfl rfl 0 (by decide) (List.mem_of_getElem? (i := 5) rfl) rfl rfl rfl rfl (kX1_s0 g a2 q7_e0 q7_e1 q7_e2 q7_e3 q7_e4 q7_e5 q7_e6 q7_e7 v2 (0 : Int32)) (ch' := [kX4 g a0 (a1 0) y3.2, kX0 g a1 y3.1, kX1 g a2 q7_e0 q7_e1 q7_e2 q7_e3 q7_e4 q7_e5 q7_e6 q7_e7 (st v2 0 (fun _ => (0 : Int32))), kX2 g a3 (a4 0) v3, kX4 g a4 (a5 0) v4, kX0 g a5 v5, kX2 g a6 (a7 0) v6, kX4 g a7 (a8 0) v7, kX0 g a8 v8, kX7 g a9 q0 q1 q2 (a0 0) q4 q5 q6 (a2 0) (a3 0) (a6 0) v9]) rfl dX7_back_43 (fun H locs hW => ?_)
        refine lv_aload_n hx hb dX7_back_46 rfl (lv_at hl 1 rfl) ?_
        refine g_get C hW inX7 9 rfl rfl rfl 3 (by decide) (List.mem_of_getElem? (i := 2) rfl) (v := .ref (a0 0)) rfl dX7_back_47 ?_
        refine g_get C hW inX4 0 rfl rfl rfl 0 (by decide) (List.mem_of_getElem? (i := 6) rfl) (v := .int (y3.2 0 0)) rfl dX7_back_50 ?_
        obtain rfl := Option.some.inj hf
        subst hQ
        exact g_iret C hr hk0 hW rfl rfl dX7_back_53
      · replace hf := (if_pos h).symm.trans hf
        refine lv_bipush (v := (-2 : Int32)) hx hb dX7_back_24 (by decide) ?_
        obtain rfl := Option.some.inj hf
        subst hQ
        exact g_iret C hr hk0 hW rfl rfl dX7_back_26
  · replace hf := (if_pos h).symm.trans hf
    refine lv_iconst (v := (-1 : Int32)) hx hb dX7_back_9 (by decide) ?_
    obtain rfl := Option.some.inj hf
    subst hQ
    exact g_iret C hr hk0 hW rfl rfl dX7_back_10
def fX7_count (N : Nat) (x1 : Int32) (v0 : MM) (v1 : MM) (v2 : MM) (v3 : MM) (v4 : MM) (v5 : MM) : Option (Int32) := (if x1 = (0 : Int32) then some (v1 0 0) else (if x1 = (1 : Int32) then some (v1 1 0) else (if x1 = (2 : Int32) then some (v2 1 0) else (if x1 = (3 : Int32) then some (v1 3 0) else (if x1 = (4 : Int32) then some (v1 4 0) else (if x1 = (5 : Int32) then some (v1 5 0) else (if x1 = (6 : Int32) then some (v2 0 0) else (if x1 = (7 : Int32) then some (v3 0 0) else (if x1 = (8 : Int32) then some (v2 2 0) else (if x1 = (9 : Int32) then some (v5 12 0) else (if x1 = (10 : Int32) then some (v0 1 0) else (if x1 = (11 : Int32) then some (v4 0 0) else some (-1 : Int32)))))))))))))
set_option maxHeartbeats 4000000 in
set_option maxRecDepth 100000 in
theorem ct_X7_count (g : GT) (l : Launch) (N : Nat) (a0 : Nat → Nat) (a1 : Nat → Nat) (a2 : Nat → Nat) (a3 : Nat → Nat) (a4 : Nat → Nat) (a5 : Nat → Nat) (q7_e0 : Nat) (q7_e1 : Nat) (q7_e2 : Nat) (q7_e3 : Nat) (q7_e4 : Nat) (q7_e5 : Nat) (q7_e6 : Nat) (q7_e7 : Nat) (q2 : Nat) (q4 : Nat) (q5 : Nat) (q6 : Nat) (q8 : Nat) (q9 : Nat) (x1 : Int32) (v0 : MM) (v1 : MM) (v2 : MM) (v3 : MM) (v4 : MM) (v5 : MM) {y : Int32} (hf : fX7_count N x1 v0 v1 v2 v3 v4 v5 = some y) : ct g l yX7_count wsX7_count (rmk 0 0) [.ref (a5 0), .int x1] [kX6 g a0 v0, kX3 g a1 v1, kX4 g a2 (a3 0) v2, kX0 g a3 v3, kX1 g a4 q7_e0 q7_e1 q7_e2 q7_e3 q7_e4 q7_e5 q7_e6 q7_e7 v4, kX7 g a5 (a0 0) (a1 0) q2 (a2 0) q4 q5 q6 (a4 0) q8 q9 v5] (some (.int y)) [kX6 g a0 v0, kX3 g a1 v1, kX4 g a2 (a3 0) v2, kX0 g a3 v3, kX1 g a4 q7_e0 q7_e1 q7_e2 q7_e3 q7_e4 q7_e5 q7_e6 q7_e7 v4, kX7 g a5 (a0 0) (a1 0) q2 (a2 0) q4 q5 q6 (a4 0) q8 q9 v5] := by
  refine ct_of (cc := cX7_count) (maxL := 2) (ret := (some .int)) (by decide) rfl (Nat.le_of_ble_eq_true rfl) ?_
  intro p e s m args below meth c A ls C hr hk0 hA hW hl
  have hx := C.1.1
  have hb := C.1.2.1
  replace hl : lv_has ls 2 [(0, .ref (a5 0)), (1, .int x1)] := hl
  obtain ⟨Q, hQ⟩ : ∃ Q, Q = MQ below (ctQ g A (some (.int y)) [kX6 g a0 v0, kX3 g a1 v1, kX4 g a2 (a3 0) v2, kX0 g a3 v3, kX1 g a4 q7_e0 q7_e1 q7_e2 q7_e3 q7_e4 q7_e5 q7_e6 q7_e7 v4, kX7 g a5 (a0 0) (a1 0) q2 (a2 0) q4 q5 q6 (a4 0) q8 q9 v5]) args s 0 0 A := ⟨_, rfl⟩
  rw [← hQ]
  obtain ⟨H, hH⟩ : ∃ H, H = s.heap := ⟨_, rfl⟩
  obtain ⟨locs, hL⟩ : ∃ locs : List Loc, locs = [] := ⟨_, rfl⟩
  replace hW : wd g A s.heap [kX6 g a0 v0, kX3 g a1 v1, kX4 g a2 (a3 0) v2, kX0 g a3 v3, kX1 g a4 q7_e0 q7_e1 q7_e2 q7_e3 q7_e4 q7_e5 q7_e6 q7_e7 v4, kX7 g a5 (a0 0) (a1 0) q2 (a2 0) q4 q5 q6 (a4 0) q8 q9 v5] H locs := by rw [hH, hL]; exact hW
  suffices hG : W p l e (rmk 0 0) s m args below meth c H locs 0 0 Q (F0 m 0 ls []) by
    rw [hH, hL] at hG; exact hG
  clear hH hL
  have inX0 : ∀ w ∈ wsX00, w ∈ wsX7_count := fun _ h => List.mem_cons_of_mem _ (List.mem_append_left _ (List.mem_append_left _ (List.mem_append_right _ (h))))
  have inX1 : ∀ w ∈ wsX10, w ∈ wsX7_count := fun _ h => List.mem_cons_of_mem _ (List.mem_append_right _ (h))
  have inX3 : ∀ w ∈ wsX30, w ∈ wsX7_count := fun _ h => List.mem_cons_of_mem _ (List.mem_append_left _ (List.mem_append_left _ (List.mem_append_left _ (List.mem_append_left _ (List.mem_append_right _ (h))))))
  have inX4 : ∀ w ∈ wsX40, w ∈ wsX7_count := fun _ h => List.mem_cons_of_mem _ (List.mem_append_left _ (List.mem_append_left _ (List.mem_append_left _ (List.mem_append_right _ (h)))))
  have inX6 : ∀ w ∈ wsX60, w ∈ wsX7_count := fun _ h => List.mem_cons_of_mem _ (List.mem_append_left _ (List.mem_append_right _ (h)))
  have inX7 : ∀ w ∈ wsX70, w ∈ wsX7_count := fun _ h => List.mem_cons_of_mem _ (List.mem_append_left _ (List.mem_append_left _ (List.mem_append_left _ (List.mem_append_left _ (List.mem_append_left _ (List.mem_append_right _ (h)))))))
  rw [fX7_count] at hf
  refine lv_iload_n hx hb dX7_count_0 rfl (lv_at hl 1 rfl) ?_
  rcases Decidable.em (x1 = (0 : Int32)) with h0 | h0
  · replace hf := (if_pos h0).symm.trans hf
    refine g_tsw C (off := 63) h0 dX7_count_1 (by decide) (by decide) (tgt := 64) (by decide) ?_
    refine lv_aload_n hx hb dX7_count_64 rfl (lv_at hl 0 rfl) ?_
    refine g_get C hW inX7 5 rfl rfl rfl 1 (by decide) (List.mem_of_getElem? (i := 1) rfl) (v := .ref (a1 0)) rfl dX7_count_65 ?_
    refine g_get C hW inX3 1 rfl rfl rfl 0 (by decide) (List.mem_of_getElem? (i := 2) rfl) (v := .int (v1 0 0)) rfl dX7_count_68 ?_
    obtain rfl := Option.some.inj hf
    subst hQ
    exact g_iret C hr hk0 hW rfl rfl dX7_count_71
  replace hf := (if_neg h0).symm.trans hf
  rcases Decidable.em (x1 = (1 : Int32)) with h1 | h1
  · replace hf := (if_pos h1).symm.trans hf
    refine g_tsw C (off := 71) h1 dX7_count_1 (by decide) (by decide) (tgt := 72) (by decide) ?_
    refine lv_aload_n hx hb dX7_count_72 rfl (lv_at hl 0 rfl) ?_
    refine g_get C hW inX7 5 rfl rfl rfl 1 (by decide) (List.mem_of_getElem? (i := 1) rfl) (v := .ref (a1 0)) rfl dX7_count_73 ?_
    refine g_get C hW inX3 1 rfl rfl rfl 1 (by decide) (List.mem_of_getElem? (i := 3) rfl) (v := .int (v1 1 0)) rfl dX7_count_76 ?_
    obtain rfl := Option.some.inj hf
    subst hQ
    exact g_iret C hr hk0 hW rfl rfl dX7_count_79
  replace hf := (if_neg h1).symm.trans hf
  rcases Decidable.em (x1 = (2 : Int32)) with h2 | h2
  · replace hf := (if_pos h2).symm.trans hf
    refine g_tsw C (off := 79) h2 dX7_count_1 (by decide) (by decide) (tgt := 80) (by decide) ?_
    refine lv_aload_n hx hb dX7_count_80 rfl (lv_at hl 0 rfl) ?_
    refine g_get C hW inX7 5 rfl rfl rfl 3 (by decide) (List.mem_of_getElem? (i := 4) rfl) (v := .ref (a2 0)) rfl dX7_count_81 ?_
    refine g_get C hW inX4 2 rfl rfl rfl 1 (by decide) (List.mem_of_getElem? (i := 5) rfl) (v := .int (v2 1 0)) rfl dX7_count_84 ?_
    obtain rfl := Option.some.inj hf
    subst hQ
    exact g_iret C hr hk0 hW rfl rfl dX7_count_87
  replace hf := (if_neg h2).symm.trans hf
  rcases Decidable.em (x1 = (3 : Int32)) with h3 | h3
  · replace hf := (if_pos h3).symm.trans hf
    refine g_tsw C (off := 87) h3 dX7_count_1 (by decide) (by decide) (tgt := 88) (by decide) ?_
    refine lv_aload_n hx hb dX7_count_88 rfl (lv_at hl 0 rfl) ?_
    refine g_get C hW inX7 5 rfl rfl rfl 1 (by decide) (List.mem_of_getElem? (i := 1) rfl) (v := .ref (a1 0)) rfl dX7_count_89 ?_
    refine g_get C hW inX3 1 rfl rfl rfl 3 (by decide) (List.mem_of_getElem? (i := 6) rfl) (v := .int (v1 3 0)) rfl dX7_count_92 ?_
    obtain rfl := Option.some.inj hf
    subst hQ
    exact g_iret C hr hk0 hW rfl rfl dX7_count_95
  replace hf := (if_neg h3).symm.trans hf
  rcases Decidable.em (x1 = (4 : Int32)) with h4 | h4
  · replace hf := (if_pos h4).symm.trans hf
    refine g_tsw C (off := 95) h4 dX7_count_1 (by decide) (by decide) (tgt := 96) (by decide) ?_
    refine lv_aload_n hx hb dX7_count_96 rfl (lv_at hl 0 rfl) ?_
    refine g_get C hW inX7 5 rfl rfl rfl 1 (by decide) (List.mem_of_getElem? (i := 1) rfl) (v := .ref (a1 0)) rfl dX7_count_97 ?_
    refine g_get C hW inX3 1 rfl rfl rfl 4 (by decide) (List.mem_of_getElem? (i := 7) rfl) (v := .int (v1 4 0)) rfl dX7_count_100 ?_
    obtain rfl := Option.some.inj hf
    subst hQ
    exact g_iret C hr hk0 hW rfl rfl dX7_count_103
  replace hf := (if_neg h4).symm.trans hf
  rcases Decidable.em (x1 = (5 : Int32)) with h5 | h5
  · replace hf := (if_pos h5).symm.trans hf
    refine g_tsw C (off := 103) h5 dX7_count_1 (by decide) (by decide) (tgt := 104) (by decide) ?_
    refine lv_aload_n hx hb dX7_count_104 rfl (lv_at hl 0 rfl) ?_
    refine g_get C hW inX7 5 rfl rfl rfl 1 (by decide) (List.mem_of_getElem? (i := 1) rfl) (v := .ref (a1 0)) rfl dX7_count_105 ?_
    refine g_get C hW inX3 1 rfl rfl rfl 5 (by decide) (List.mem_of_getElem? (i := 8) rfl) (v := .int (v1 5 0)) rfl dX7_count_108 ?_
    obtain rfl := Option.some.inj hf
    subst hQ
    exact g_iret C hr hk0 hW rfl rfl dX7_count_111
  replace hf := (if_neg h5).symm.trans hf
  rcases Decidable.em (x1 = (6 : Int32)) with h6 | h6
  · replace hf := (if_pos h6).symm.trans hf
    refine g_tsw C (off := 111) h6 dX7_count_1 (by decide) (by decide) (tgt := 112) (by decide) ?_
    refine lv_aload_n hx hb dX7_count_112 rfl (lv_at hl 0 rfl) ?_
    refine g_get C hW inX7 5 rfl rfl rfl 3 (by decide) (List.mem_of_getElem? (i := 4) rfl) (v := .ref (a2 0)) rfl dX7_count_113 ?_
    refine g_get C hW inX4 2 rfl rfl rfl 0 (by decide) (List.mem_of_getElem? (i := 9) rfl) (v := .int (v2 0 0)) rfl dX7_count_116 ?_
    obtain rfl := Option.some.inj hf
    subst hQ
    exact g_iret C hr hk0 hW rfl rfl dX7_count_119
  replace hf := (if_neg h6).symm.trans hf
  rcases Decidable.em (x1 = (7 : Int32)) with h7 | h7
  · replace hf := (if_pos h7).symm.trans hf
    refine g_tsw C (off := 119) h7 dX7_count_1 (by decide) (by decide) (tgt := 120) (by decide) ?_
    refine lv_aload_n hx hb dX7_count_120 rfl (lv_at hl 0 rfl) ?_
    refine g_get C hW inX7 5 rfl rfl rfl 3 (by decide) (List.mem_of_getElem? (i := 4) rfl) (v := .ref (a2 0)) rfl dX7_count_121 ?_
    refine g_get C hW inX4 2 rfl rfl rfl 14 (by decide) (List.mem_of_getElem? (i := 10) rfl) (v := .ref (a3 0)) rfl dX7_count_124 ?_
    refine g_get C hW inX0 3 rfl rfl rfl 0 (by decide) (List.mem_of_getElem? (i := 11) rfl) (v := .int (v3 0 0)) rfl dX7_count_127 ?_
    obtain rfl := Option.some.inj hf
    subst hQ
    exact g_iret C hr hk0 hW rfl rfl dX7_count_130
  replace hf := (if_neg h7).symm.trans hf
  rcases Decidable.em (x1 = (8 : Int32)) with h8 | h8
  · replace hf := (if_pos h8).symm.trans hf
    refine g_tsw C (off := 130) h8 dX7_count_1 (by decide) (by decide) (tgt := 131) (by decide) ?_
    refine lv_aload_n hx hb dX7_count_131 rfl (lv_at hl 0 rfl) ?_
    refine g_get C hW inX7 5 rfl rfl rfl 3 (by decide) (List.mem_of_getElem? (i := 4) rfl) (v := .ref (a2 0)) rfl dX7_count_132 ?_
    refine g_get C hW inX4 2 rfl rfl rfl 2 (by decide) (List.mem_of_getElem? (i := 12) rfl) (v := .int (v2 2 0)) rfl dX7_count_135 ?_
    obtain rfl := Option.some.inj hf
    subst hQ
    exact g_iret C hr hk0 hW rfl rfl dX7_count_138
  replace hf := (if_neg h8).symm.trans hf
  rcases Decidable.em (x1 = (9 : Int32)) with h9 | h9
  · replace hf := (if_pos h9).symm.trans hf
    refine g_tsw C (off := 138) h9 dX7_count_1 (by decide) (by decide) (tgt := 139) (by decide) ?_
    refine lv_aload_n hx hb dX7_count_139 rfl (lv_at hl 0 rfl) ?_
    refine g_get C hW inX7 5 rfl rfl rfl 12 (by decide) (List.mem_of_getElem? (i := 13) rfl) (v := .int (v5 12 0)) rfl dX7_count_140 ?_
    obtain rfl := Option.some.inj hf
    subst hQ
    exact g_iret C hr hk0 hW rfl rfl dX7_count_143
  replace hf := (if_neg h9).symm.trans hf
  rcases Decidable.em (x1 = (10 : Int32)) with h10 | h10
  · replace hf := (if_pos h10).symm.trans hf
    refine g_tsw C (off := 143) h10 dX7_count_1 (by decide) (by decide) (tgt := 144) (by decide) ?_
    refine lv_aload_n hx hb dX7_count_144 rfl (lv_at hl 0 rfl) ?_
    refine g_get C hW inX7 5 rfl rfl rfl 0 (by decide) (List.mem_of_getElem? (i := 14) rfl) (v := .ref (a0 0)) rfl dX7_count_145 ?_
    refine g_get C hW inX6 0 rfl rfl rfl 1 (by decide) (List.mem_of_getElem? (i := 15) rfl) (v := .int (v0 1 0)) rfl dX7_count_148 ?_
    obtain rfl := Option.some.inj hf
    subst hQ
    exact g_iret C hr hk0 hW rfl rfl dX7_count_151
  replace hf := (if_neg h10).symm.trans hf
  rcases Decidable.em (x1 = (11 : Int32)) with h11 | h11
  · replace hf := (if_pos h11).symm.trans hf
    refine g_tsw C (off := 151) h11 dX7_count_1 (by decide) (by decide) (tgt := 152) (by decide) ?_
    refine lv_aload_n hx hb dX7_count_152 rfl (lv_at hl 0 rfl) ?_
    refine g_get C hW inX7 5 rfl rfl rfl 7 (by decide) (List.mem_of_getElem? (i := 16) rfl) (v := .ref (a4 0)) rfl dX7_count_153 ?_
    refine g_get C hW inX1 4 rfl rfl rfl 0 (by decide) (List.mem_of_getElem? (i := 17) rfl) (v := .int (v4 0 0)) rfl dX7_count_156 ?_
    obtain rfl := Option.some.inj hf
    subst hQ
    exact g_iret C hr hk0 hW rfl rfl dX7_count_159
  replace hf := (if_neg h11).symm.trans hf
  have t0 := lv_neT h0 (show (0 : Int32).toInt = 0 by decide)
  have t1 := lv_neT h1 (show (1 : Int32).toInt = 1 by decide)
  have t2 := lv_neT h2 (show (2 : Int32).toInt = 2 by decide)
  have t3 := lv_neT h3 (show (3 : Int32).toInt = 3 by decide)
  have t4 := lv_neT h4 (show (4 : Int32).toInt = 4 by decide)
  have t5 := lv_neT h5 (show (5 : Int32).toInt = 5 by decide)
  have t6 := lv_neT h6 (show (6 : Int32).toInt = 6 by decide)
  have t7 := lv_neT h7 (show (7 : Int32).toInt = 7 by decide)
  have t8 := lv_neT h8 (show (8 : Int32).toInt = 8 by decide)
  have t9 := lv_neT h9 (show (9 : Int32).toInt = 9 by decide)
  have t10 := lv_neT h10 (show (10 : Int32).toInt = 10 by decide)
  have t11 := lv_neT h11 (show (11 : Int32).toInt = 11 by decide)
  refine lv_tableOut hx hb dX7_count_1 (by omega) (tgt := 160) (by decide) ?_
  refine lv_iconst (v := (-1 : Int32)) hx hb dX7_count_160 (by decide) ?_
  obtain rfl := Option.some.inj hf
  subst hQ
  exact g_iret C hr hk0 hW rfl rfl dX7_count_161
