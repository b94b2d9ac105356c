def fX7_copyRow (N : Nat) (n0 : Nat) (n1 : Nat) (v0 : Nat → Int32) (v1 : Nat → Int32) : Option ((Nat → Int32)) := (if acb (0 : Int32) (0 : Int32) (if (Int32.ofNat n1) < (Int32.ofNat n0) then (Int32.ofNat n1) else (Int32.ofNat n0)) n0 n1 = true then some (va_cpy v0 v1 (Int32.toNatClampNeg (0 : Int32)) (Int32.toNatClampNeg (0 : Int32)) (Int32.toNatClampNeg (if (Int32.ofNat n1) < (Int32.ofNat n0) then (Int32.ofNat n1) else (Int32.ofNat n0)))) else none)
set_option maxHeartbeats 4000000 in
set_option maxRecDepth 100000 in
theorem ct_X7_copyRow (g : GT) (l : Launch) (N : Nat) (a0 : Nat) (a1 : Nat) (n0 : Nat) (n1 : Nat) (v0 : Nat → Int32) (v1 : Nat → Int32) {y : (Nat → Int32)} (hf : fX7_copyRow N n0 n1 v0 v1 = some y) : ct g l yX7_copyRow wsX7_copyRow (rmk 1 26) [.ref a0, .ref a1] [[(a0, .inl (g.2.1, n0, .inl v0))], [(a1, .inl (g.2.1, n1, .inl v1))]] none [[(a0, .inl (g.2.1, n0, .inl v0))], [(a1, .inl (g.2.1, n1, .inl y))]] := by
  refine ct_of (cc := cX7_copyRow) (maxL := 2) (ret := none) (by decide) rfl (Nat.le_of_ble_eq_true rfl) ?_
  intro p e s m args below meth c A ls C hr hk0 hA hW hl
  have hx := C.1.1
  have hb := C.1.2.1
  replace hl : lv_has ls 2 [(0, .ref a0), (1, .ref a1)] := hl
  obtain ⟨Q, hQ⟩ : ∃ Q, Q = MQ below (ctQ g A none [[(a0, .inl (g.2.1, n0, .inl v0))], [(a1, .inl (g.2.1, n1, .inl y))]]) args s 0 0 A := ⟨_, rfl⟩
  rw [← hQ]
  obtain ⟨H, hH⟩ : ∃ H, H = s.heap := ⟨_, rfl⟩
  obtain ⟨locs, hL⟩ : ∃ locs : List Loc, locs = [] := ⟨_, rfl⟩
  replace hW : wd g A s.heap [[(a0, .inl (g.2.1, n0, .inl v0))], [(a1, .inl (g.2.1, n1, .inl v1))]] H locs := by rw [hH, hL]; exact hW
  suffices hG : W p l e (rmk 1 26) s m args below meth c H locs 0 0 Q (F0 m 0 ls []) by
    rw [hH, hL] at hG; exact hG
  clear hH hL
  rw [fX7_copyRow] at hf
  refine lv_aload_n hx hb dX7_copyRow_0 rfl (lv_at hl 0 rfl) ?_
  refine lv_iconst (v := (0 : Int32)) hx hb dX7_copyRow_1 (by decide) ?_
  refine lv_aload_n hx hb dX7_copyRow_2 rfl (lv_at hl 1 rfl) ?_
  refine lv_iconst (v := (0 : Int32)) hx hb dX7_copyRow_3 (by decide) ?_
  refine lv_aload_n hx hb dX7_copyRow_4 rfl (lv_at hl 0 rfl) ?_
  refine g_alen C hW 0 0 0 rfl rfl rfl (v := (Int32.ofNat n0)) (by first | rfl | decide) dX7_copyRow_5 ?_
  refine lv_aload_n hx hb dX7_copyRow_6 rfl (lv_at hl 1 rfl) ?_
  refine g_alen C hW 1 0 0 rfl rfl rfl (v := (Int32.ofNat n1)) (by first | rfl | decide) dX7_copyRow_7 ?_
  refine g_mmin C hl (List.mem_of_getElem? (i := 1) rfl) (List.mem_of_getElem? (i := 2) rfl) (List.mem_of_getElem? (i := 3) rfl) (List.mem_of_getElem? (i := 4) rfl) ⟨Nat.le_of_ble_eq_true rfl, Nat.le_of_ble_eq_true rfl, Nat.le_of_ble_eq_true rfl, Nat.le_of_ble_eq_true rfl⟩ (Nat.le_of_ble_eq_true rfl) dX7_copyRow_8 ?_
  obtain ⟨hi, hf⟩ := gd_of hf
  refine g_acp C hW hl (List.mem_of_getElem? (i := 5) rfl) (List.mem_of_getElem? (i := 6) rfl) (List.mem_of_getElem? (i := 7) rfl) (List.mem_of_getElem? (i := 8) rfl) 0 0 1 0 rfl (f := v0) rfl rfl (f' := v1) rfl hi ⟨Nat.le_of_ble_eq_true rfl, Nat.le_of_ble_eq_true rfl⟩ (Nat.le_of_ble_eq_true rfl) (ch' := [[(a0, .inl (g.2.1, n0, .inl v0))], [(a1, .inl (g.2.1, n1, .inl (va_cpy v0 v1 (Int32.toNatClampNeg (0 : Int32)) (Int32.toNatClampNeg (0 : Int32)) (Int32.toNatClampNeg (if (Int32.ofNat n1) < (Int32.ofNat n0) then (Int32.ofNat n1) else (Int32.ofNat n0))))))]]) rfl dX7_copyRow_11 (fun H locs hW => ?_)
  obtain rfl := Option.some.inj hf
  subst hQ
  exact g_vret C hr hk0 hW rfl rfl dX7_copyRow_14
theorem sn_X0_copyFrom_53_a : (yX0_copyFrom.cls, 53, yX7_copyRow) ∈ gNest := List.mem_of_getElem? (i := 3) rfl
theorem sn_X0_copyFrom_53_b : Cond.static yX7_copyRow ∈ wsX0_copyFrom := (List.mem_of_getElem? (i := 7) rfl)
theorem sn_X0_copyFrom_53_c : Cond.initialized yX7_copyRow.cls ∈ wsX0_copyFrom := (List.mem_of_getElem? (i := 8) rfl)
theorem sn_X0_copyFrom_53_d : yX7_copyRow.cls ≠ "java/lang/invoke/MethodHandle" ∧ yX7_copyRow.cls ≠ "java/lang/invoke/VarHandle" ∧ (parseMethodDescriptor yX7_copyRow.desc).map (fun d => d.parameters.length) = some 2 := by decide +kernel
def fX0_copyFrom (N : Nat) (v0 : MM) (v1 : MM) : Option (MM) := ((fX7_copyRow N 60 60 (v1 1) (v0 1)).bind (fun y1 => ((fX7_copyRow N 60 60 (v1 2) (v0 2)).bind (fun y3 => ((fX7_copyRow N 60 60 (v1 3) (v0 3)).bind (fun y5 => ((fX7_copyRow N 60 60 (v1 4) (v0 4)).bind (fun y7 => ((fX7_copyRow N 360 360 (v1 5) (v0 5)).bind (fun y9 => some (st (st (st (st (st (st v0 0 (fun _ => (v1 0 0))) 1 y1) 2 y3) 3 y5) 4 y7) 5 y9)))))))))))
set_option maxHeartbeats 4000000 in
set_option maxRecDepth 100000 in
theorem ct_X0_copyFrom (g : GT) (l : Launch) (N : Nat) (a0 : Nat → Nat) (a1 : Nat → Nat) (v0 : MM) (v1 : MM) {y : MM} (hf : fX0_copyFrom N v0 v1 = some y) : ct g l yX0_copyFrom wsX0_copyFrom (rmk 2 47) [.ref (a0 0), .ref (a1 0)] [kX0 g a0 v0, kX0 g a1 v1] none [kX0 g a0 y, kX0 g a1 v1] := by
  refine ct_of (cc := cX0_copyFrom) (maxL := 2) (ret := none) (by decide) rfl (Nat.le_of_ble_eq_true rfl) ?_
  intro p e s m args below meth c A ls C hr hk0 hA hW hl
  have hx := C.1.1
  have hb := C.1.2.1
  replace hl : lv_has ls 2 [(0, .ref (a0 0)), (1, .ref (a1 0))] := hl
  obtain ⟨Q, hQ⟩ : ∃ Q, Q = MQ below (ctQ g A none [kX0 g a0 y, kX0 g a1 v1]) args s 0 0 A := ⟨_, rfl⟩
  rw [← hQ]
  obtain ⟨H, hH⟩ : ∃ H, H = s.heap := ⟨_, rfl⟩
  obtain ⟨locs, hL⟩ : ∃ locs : List Loc, locs = [] := ⟨_, rfl⟩
  replace hW : wd g A s.heap [kX0 g a0 v0, kX0 g a1 v1] H locs := by rw [hH, hL]; exact hW
  suffices hG : W p l e (rmk 2 47) s m args below meth c H locs 0 0 Q (F0 m 0 ls []) by
    rw [hH, hL] at hG; exact hG
  clear hH hL
  have inX0 : ∀ w ∈ wsX00, w ∈ wsX0_copyFrom := fun _ h => List.mem_cons_of_mem _ (List.mem_append_right _ (h))
  rw [fX0_copyFrom] at hf
  refine lv_aload_n hx hb dX0_copyFrom_0 rfl (lv_at hl 0 rfl) ?_
  refine lv_aload_n hx hb dX0_copyFrom_1 rfl (lv_at hl 1 rfl) ?_
  refine g_get C hW inX0 1 rfl rfl rfl 0 (by decide) (List.mem_of_getElem? (i := 1) rfl) (v := .int (v1 0 0)) rfl dX0_copyFrom_2 ?_
  refine g_put C hW inX0 tyX0_ok nmX0 0 rfl rfl rfl 0 (by decide) (List.mem_of_getElem? (i := 1) rfl) rfl rfl rfl rfl (kX0_s0 g a0 v0 (v1 0 0)) (ch' := [kX0 g a0 (st v0 0 (fun _ => (v1 0 0))), kX0 g a1 v1]) rfl dX0_copyFrom_5 (fun H locs hW => ?_)
  refine lv_aload_n hx hb dX0_copyFrom_8 rfl (lv_at hl 1 rfl) ?_
  refine g_get C hW inX0 1 rfl rfl rfl 1 (by decide) (List.mem_of_getElem? (i := 2) rfl) (v := .ref (a1 1)) rfl dX0_copyFrom_9 ?_
  refine lv_aload_n hx hb dX0_copyFrom_12 rfl (lv_at hl 0 rfl) ?_
  refine g_get C hW inX0 0 rfl rfl rfl 1 (by decide) (List.mem_of_getElem? (i := 2) rfl) (v := .ref (a0 1)) rfl dX0_copyFrom_13 ?_
  obtain ⟨y1, hc, hf⟩ := bd_of hf
  obtain ⟨V2, hV2⟩ : ∃ z : MM, z = (st v0 0 (fun _ => (v1 0 0))) := ⟨_, rfl⟩
  rw [← hV2] at hW
  replace hc : fX7_copyRow N 60 60 (v1 1) (V2 1) = some y1 := by rw [hV2]; exact hc
  replace hW := hW.re (ch' := [(kX0 g a0 V2).take 1, [(a0 1, .inl (g.2.1, 60, .inl (V2 1)))], (kX0 g a0 V2).drop 2, (kX0 g a1 v1).take 1, [(a1 1, .inl (g.2.1, 60, .inl (v1 1)))], (kX0 g a1 v1).drop 2]) rfl
  refine g_cSNv C (ct_X7_copyRow g l N (a1 1) (a0 1) 60 60 (v1 1) (V2 1) hc) gX0_copyFrom_X7_copyRow_n53 rfl 2 sn_X0_copyFrom_53_d sn_X0_copyFrom_53_a sn_X0_copyFrom_53_b sn_X0_copyFrom_53_c ⟨rfl, rfl, ⟨Nat.le_of_ble_eq_true rfl, Nat.le_of_ble_eq_true rfl⟩, Nat.le_of_ble_eq_true rfl, Nat.le_of_ble_eq_true rfl⟩ rfl hl (Nat.le_of_ble_eq_true rfl) dX0_copyFrom_16 rfl hW hA [4, 1] rfl rfl rfl (ch' := [(kX0 g a0 V2).take 1, [(a0 1, .inl (g.2.1, 60, .inl y1))], (kX0 g a0 V2).drop 2, (kX0 g a1 v1).take 1, [(a1 1, .inl (g.2.1, 60, .inl (v1 1)))], (kX0 g a1 v1).drop 2]) rfl (fun H locs hW => ?_)
  replace hW := hW.re (ch' := [kX0 g a0 (st V2 1 y1), kX0 g a1 v1]) rfl
  subst hV2
  refine lv_aload_n hx hb dX0_copyFrom_19 rfl (lv_at hl 1 rfl) ?_
  refine g_get C hW inX0 1 rfl rfl rfl 2 (by decide) (List.mem_of_getElem? (i := 3) rfl) (v := .ref (a1 2)) rfl dX0_copyFrom_20 ?_
  refine lv_aload_n hx hb dX0_copyFrom_23 rfl (lv_at hl 0 rfl) ?_
  refine g_get C hW inX0 0 rfl rfl rfl 2 (by decide) (List.mem_of_getElem? (i := 3) rfl) (v := .ref (a0 2)) rfl dX0_copyFrom_24 ?_
  obtain ⟨y3, hc, hf⟩ := bd_of hf
  obtain ⟨V4, hV4⟩ : ∃ z : MM, z = (st (st v0 0 (fun _ => (v1 0 0))) 1 y1) := ⟨_, rfl⟩
  rw [← hV4] at hW
  replace hc : fX7_copyRow N 60 60 (v1 2) (V4 2) = some y3 := by rw [hV4]; exact hc
  replace hW := hW.re (ch' := [(kX0 g a0 V4).take 2, [(a0 2, .inl (g.2.1, 60, .inl (V4 2)))], (kX0 g a0 V4).drop 3, (kX0 g a1 v1).take 2, [(a1 2, .inl (g.2.1, 60, .inl (v1 2)))], (kX0 g a1 v1).drop 3]) rfl
  refine g_cSNv C (ct_X7_copyRow g l N (a1 2) (a0 2) 60 60 (v1 2) (V4 2) hc) gX0_copyFrom_X7_copyRow_n53 rfl 2 sn_X0_copyFrom_53_d sn_X0_copyFrom_53_a sn_X0_copyFrom_53_b sn_X0_copyFrom_53_c ⟨rfl, rfl, ⟨Nat.le_of_ble_eq_true rfl, Nat.le_of_ble_eq_true rfl⟩, Nat.le_of_ble_eq_true rfl, Nat.le_of_ble_eq_true rfl⟩ rfl hl (Nat.le_of_ble_eq_true rfl) dX0_copyFrom_27 rfl hW hA [4, 1] rfl rfl rfl (ch' := [(kX0 g a0 V4).take 2, [(a0 2, .inl (g.2.1, 60, .inl y3))], (kX0 g a0 V4).drop 3, (kX0 g a1 v1).take 2, [(a1 2, .inl (g.2.1, 60, .inl (v1 2)))], (kX0 g a1 v1).drop 3]) rfl (fun H locs hW => ?_)
  replace hW := hW.re (ch' := [kX0 g a0 (st V4 2 y3), kX0 g a1 v1]) rfl
  subst hV4
  refine lv_aload_n hx hb dX0_copyFrom_30 rfl (lv_at hl 1 rfl) ?_
  refine g_get C hW inX0 1 rfl rfl rfl 3 (by decide) (List.mem_of_getElem? (i := 4) rfl) (v := .ref (a1 3)) rfl dX0_copyFrom_31 ?_
  refine lv_aload_n hx hb dX0_copyFrom_34 rfl (lv_at hl 0 rfl) ?_
  refine g_get C hW inX0 0 rfl rfl rfl 3 (by decide) (List.mem_of_getElem? (i := 4) rfl) (v := .ref (a0 3)) rfl dX0_copyFrom_35 ?_
  obtain ⟨y5, hc, hf⟩ := bd_of hf
  obtain ⟨V6, hV6⟩ : ∃ z : MM, z = (st (st (st v0 0 (fun _ => (v1 0 0))) 1 y1) 2 y3) := ⟨_, rfl⟩
  rw [← hV6] at hW
  replace hc : fX7_copyRow N 60 60 (v1 3) (V6 3) = some y5 := by rw [hV6]; exact hc
  replace hW := hW.re (ch' := [(kX0 g a0 V6).take 3, [(a0 3, .inl (g.2.1, 60, .inl (V6 3)))], (kX0 g a0 V6).drop 4, (kX0 g a1 v1).take 3, [(a1 3, .inl (g.2.1, 60, .inl (v1 3)))], (kX0 g a1 v1).drop 4]) rfl
  refine g_cSNv C (ct_X7_copyRow g l N (a1 3) (a0 3) 60 60 (v1 3) (V6 3) hc) gX0_copyFrom_X7_copyRow_n53 rfl 2 sn_X0_copyFrom_53_d sn_X0_copyFrom_53_a sn_X0_copyFrom_53_b sn_X0_copyFrom_53_c ⟨rfl, rfl, ⟨Nat.le_of_ble_eq_true rfl, Nat.le_of_ble_eq_true rfl⟩, Nat.le_of_ble_eq_true rfl, Nat.le_of_ble_eq_true rfl⟩ rfl hl (Nat.le_of_ble_eq_true rfl) dX0_copyFrom_38 rfl hW hA [4, 1] rfl rfl rfl (ch' := [(kX0 g a0 V6).take 3, [(a0 3, .inl (g.2.1, 60, .inl y5))], (kX0 g a0 V6).drop 4, (kX0 g a1 v1).take 3, [(a1 3, .inl (g.2.1, 60, .inl (v1 3)))], (kX0 g a1 v1).drop 4]) rfl (fun H locs hW => ?_)
  replace hW := hW.re (ch' := [kX0 g a0 (st V6 3 y5), kX0 g a1 v1]) rfl
  subst hV6
  refine lv_aload_n hx hb dX0_copyFrom_41 rfl (lv_at hl 1 rfl) ?_
  refine g_get C hW inX0 1 rfl rfl rfl 4 (by decide) (List.mem_of_getElem? (i := 5) rfl) (v := .ref (a1 4)) rfl dX0_copyFrom_42 ?_
  refine lv_aload_n hx hb dX0_copyFrom_45 rfl (lv_at hl 0 rfl) ?_
  refine g_get C hW inX0 0 rfl rfl rfl 4 (by decide) (List.mem_of_getElem? (i := 5) rfl) (v := .ref (a0 4)) rfl dX0_copyFrom_46 ?_
  obtain ⟨y7, hc, hf⟩ := bd_of hf
  obtain ⟨V8, hV8⟩ : ∃ z : MM, z = (st (st (st (st v0 0 (fun _ => (v1 0 0))) 1 y1) 2 y3) 3 y5) := ⟨_, rfl⟩
  rw [← hV8] at hW
  replace hc : fX7_copyRow N 60 60 (v1 4) (V8 4) = some y7 := by rw [hV8]; exact hc
  replace hW := hW.re (ch' := [(kX0 g a0 V8).take 4, [(a0 4, .inl (g.2.1, 60, .inl (V8 4)))], (kX0 g a0 V8).drop 5, (kX0 g a1 v1).take 4, [(a1 4, .inl (g.2.1, 60, .inl (v1 4)))], (kX0 g a1 v1).drop 5]) rfl
  refine g_cSNv C (ct_X7_copyRow g l N (a1 4) (a0 4) 60 60 (v1 4) (V8 4) hc) gX0_copyFrom_X7_copyRow_n53 rfl 2 sn_X0_copyFrom_53_d sn_X0_copyFrom_53_a sn_X0_copyFrom_53_b sn_X0_copyFrom_53_c ⟨rfl, rfl, ⟨Nat.le_of_ble_eq_true rfl, Nat.le_of_ble_eq_true rfl⟩, Nat.le_of_ble_eq_true rfl, Nat.le_of_ble_eq_true rfl⟩ rfl hl (Nat.le_of_ble_eq_true rfl) dX0_copyFrom_49 rfl hW hA [4, 1] rfl rfl rfl (ch' := [(kX0 g a0 V8).take 4, [(a0 4, .inl (g.2.1, 60, .inl y7))], (kX0 g a0 V8).drop 5, (kX0 g a1 v1).take 4, [(a1 4, .inl (g.2.1, 60, .inl (v1 4)))], (kX0 g a1 v1).drop 5]) rfl (fun H locs hW => ?_)
  replace hW := hW.re (ch' := [kX0 g a0 (st V8 4 y7), kX0 g a1 v1]) rfl
  subst hV8
  refine lv_aload_n hx hb dX0_copyFrom_52 rfl (lv_at hl 1 rfl) ?_
  refine g_get C hW inX0 1 rfl rfl rfl 5 (by decide) (List.mem_of_getElem? (i := 6) rfl) (v := .ref (a1 5)) rfl dX0_copyFrom_53 ?_
  refine lv_aload_n hx hb dX0_copyFrom_56 rfl (lv_at hl 0 rfl) ?_
  refine g_get C hW inX0 0 rfl rfl rfl 5 (by decide) (List.mem_of_getElem? (i := 6) rfl) (v := .ref (a0 5)) rfl dX0_copyFrom_57 ?_
  obtain ⟨y9, hc, hf⟩ := bd_of hf
  obtain ⟨V10, hV10⟩ : ∃ z : MM, z = (st (st (st (st (st v0 0 (fun _ => (v1 0 0))) 1 y1) 2 y3) 3 y5) 4 y7) := ⟨_, rfl⟩
  rw [← hV10] at hW
  replace hc : fX7_copyRow N 360 360 (v1 5) (V10 5) = some y9 := by rw [hV10]; exact hc
  replace hW := hW.re (ch' := [(kX0 g a0 V10).take 5, [(a0 5, .inl (g.2.1, 360, .inl (V10 5)))], (kX0 g a0 V10).drop 6, (kX0 g a1 v1).take 5, [(a1 5, .inl (g.2.1, 360, .inl (v1 5)))], (kX0 g a1 v1).drop 6]) rfl
  refine g_cSNv C (ct_X7_copyRow g l N (a1 5) (a0 5) 360 360 (v1 5) (V10 5) hc) gX0_copyFrom_X7_copyRow_n53 rfl 2 sn_X0_copyFrom_53_d sn_X0_copyFrom_53_a sn_X0_copyFrom_53_b sn_X0_copyFrom_53_c ⟨rfl, rfl, ⟨Nat.le_of_ble_eq_true rfl, Nat.le_of_ble_eq_true rfl⟩, Nat.le_of_ble_eq_true rfl, Nat.le_of_ble_eq_true rfl⟩ rfl hl (Nat.le_of_ble_eq_true rfl) dX0_copyFrom_60 rfl hW hA [4, 1] rfl rfl rfl (ch' := [(kX0 g a0 V10).take 5, [(a0 5, .inl (g.2.1, 360, .inl y9))], (kX0 g a0 V10).drop 6, (kX0 g a1 v1).take 5, [(a1 5, .inl (g.2.1, 360, .inl (v1 5)))], (kX0 g a1 v1).drop 6]) rfl (fun H locs hW => ?_)
  replace hW := hW.re (ch' := [kX0 g a0 (st V10 5 y9), kX0 g a1 v1]) rfl
  subst hV10
  obtain rfl := Option.some.inj hf
  subst hQ
  exact g_vret C hr hk0 hW rfl rfl dX0_copyFrom_63
theorem sn_X3_copyFrom_49_a : (yX3_copyFrom.cls, 49, yX7_copyRow) ∈ gNest := List.mem_of_getElem? (i := 0) rfl
theorem sn_X3_copyFrom_49_b : Cond.static yX7_copyRow ∈ wsX3_copyFrom := (List.mem_of_getElem? (i := 12) rfl)
theorem sn_X3_copyFrom_49_c : Cond.initialized yX7_copyRow.cls ∈ wsX3_copyFrom := (List.mem_of_getElem? (i := 13) rfl)
theorem sn_X3_copyFrom_49_d : yX7_copyRow.cls ≠ "java/lang/invoke/MethodHandle" ∧ yX7_copyRow.cls ≠ "java/lang/invoke/VarHandle" ∧ (parseMethodDescriptor yX7_copyRow.desc).map (fun d => d.parameters.length) = some 2 := by decide +kernel
def fX3_copyFrom (N : Nat) (v0 : MM) (v1 : MM) : Option (MM) := ((fX7_copyRow N 3 3 (v1 6) (v0 6)).bind (fun y1 => ((fX7_copyRow N 6 6 (v1 7) (v0 7)).bind (fun y3 => ((fX7_copyRow N 6 6 (v1 8) (v0 8)).bind (fun y5 => ((fX7_copyRow N 6 6 (v1 9) (v0 9)).bind (fun y7 => ((fX7_copyRow N 6 6 (v1 10) (v0 10)).bind (fun y9 => some (st (st (st (st (st (st (st (st (st (st (st v0 0 (fun _ => (v1 0 0))) 1 (fun _ => (v1 1 0))) 2 (fun _ => (v1 2 0))) 3 (fun _ => (v1 3 0))) 4 (fun _ => (v1 4 0))) 5 (fun _ => (v1 5 0))) 6 y1) 7 y3) 8 y5) 9 y7) 10 y9)))))))))))
set_option maxHeartbeats 4000000 in
set_option maxRecDepth 100000 in
theorem ct_X3_copyFrom (g : GT) (l : Launch) (N : Nat) (a0 : Nat → Nat) (a1 : Nat → Nat) (v0 : MM) (v1 : MM) {y : MM} (hf : fX3_copyFrom N v0 v1 = some y) : ct g l yX3_copyFrom wsX3_copyFrom (rmk 2 47) [.ref (a0 0), .ref (a1 0)] [kX3 g a0 v0, kX3 g a1 v1] none [kX3 g a0 y, kX3 g a1 v1] := by
  refine ct_of (cc := cX3_copyFrom) (maxL := 2) (ret := none) (by decide) rfl (Nat.le_of_ble_eq_true rfl) ?_
  intro p e s m args below meth c A ls C hr hk0 hA hW hl
  have hx := C.1.1
  have hb := C.1.2.1
  replace hl : lv_has ls 2 [(0, .ref (a0 0)), (1, .ref (a1 0))] := hl
  obtain ⟨Q, hQ⟩ : ∃ Q, Q = MQ below (ctQ g A none [kX3 g a0 y, kX3 g a1 v1]) args s 0 0 A := ⟨_, rfl⟩
  rw [← hQ]
  obtain ⟨H, hH⟩ : ∃ H, H = s.heap := ⟨_, rfl⟩
  obtain ⟨locs, hL⟩ : ∃ locs : List Loc, locs = [] := ⟨_, rfl⟩
  replace hW : wd g A s.heap [kX3 g a0 v0, kX3 g a1 v1] H locs := by rw [hH, hL]; exact hW
  suffices hG : W p l e (rmk 2 47) s m args below meth c H locs 0 0 Q (F0 m 0 ls []) by
    rw [hH, hL] at hG; exact hG
  clear hH hL
  have inX3 : ∀ w ∈ wsX30, w ∈ wsX3_copyFrom := fun _ h => List.mem_cons_of_mem _ (List.mem_append_right _ (h))
  rw [fX3_copyFrom] at hf
  refine lv_aload_n hx hb dX3_copyFrom_0 rfl (lv_at hl 0 rfl) ?_
  refine lv_aload_n hx hb dX3_copyFrom_1 rfl (lv_at hl 1 rfl) ?_
  refine g_get C hW inX3 1 rfl rfl rfl 0 (by decide) (List.mem_of_getElem? (i := 1) rfl) (v := .int (v1 0 0)) rfl dX3_copyFrom_2 ?_
  refine g_put C hW inX3 tyX3_ok nmX3 0 rfl rfl rfl 0 (by decide) (List.mem_of_getElem? (i := 1) rfl) rfl rfl rfl rfl (kX3_s0 g a0 v0 (v1 0 0)) (ch' := [kX3 g a0 (st v0 0 (fun _ => (v1 0 0))), kX3 g a1 v1]) rfl dX3_copyFrom_5 (fun H locs hW => ?_)
  refine lv_aload_n hx hb dX3_copyFrom_8 rfl (lv_at hl 0 rfl) ?_
  refine lv_aload_n hx hb dX3_copyFrom_9 rfl (lv_at hl 1 rfl) ?_
  refine g_get C hW inX3 1 rfl rfl rfl 1 (by decide) (List.mem_of_getElem? (i := 2) rfl) (v := .int (v1 1 0)) rfl dX3_copyFrom_10 ?_
  refine g_put C hW inX3 tyX3_ok nmX3 0 rfl rfl rfl 1 (by decide) (List.mem_of_getElem? (i := 2) rfl) rfl rfl rfl rfl (kX3_s1 g a0 (st v0 0 (fun _ => (v1 0 0))) (v1 1 0)) (ch' := [kX3 g a0 (st (st v0 0 (fun _ => (v1 0 0))) 1 (fun _ => (v1 1 0))), kX3 g a1 v1]) rfl dX3_copyFrom_13 (fun H locs hW => ?_)
  refine lv_aload_n hx hb dX3_copyFrom_16 rfl (lv_at hl 0 rfl) ?_
  refine lv_aload_n hx hb dX3_copyFrom_17 rfl (lv_at hl 1 rfl) ?_
  refine g_get C hW inX3 1 rfl rfl rfl 2 (by decide) (List.mem_of_getElem? (i := 3) rfl) (v := .int (v1 2 0)) rfl dX3_copyFrom_18 ?_
  refine g_put C hW inX3 tyX3_ok nmX3 0 rfl rfl rfl 2 (by decide) (List.mem_of_getElem? (i := 3) rfl) rfl rfl rfl rfl (kX3_s2 g a0 (st (st v0 0 (fun _ => (v1 0 0))) 1 (fun _ => (v1 1 0))) (v1 2 0)) (ch' := [kX3 g a0 (st (st (st v0 0 (fun _ => (v1 0 0))) 1 (fun _ => (v1 1 0))) 2 (fun _ => (v1 2 0))), kX3 g a1 v1]) rfl dX3_copyFrom_21 (fun H locs hW => ?_)
  refine lv_aload_n hx hb dX3_copyFrom_24 rfl (lv_at hl 0 rfl) ?_
  refine lv_aload_n hx hb dX3_copyFrom_25 rfl (lv_at hl 1 rfl) ?_
  refine g_get C hW inX3 1 rfl rfl rfl 3 (by decide) (List.mem_of_getElem? (i := 4) rfl) (v := .int (v1 3 0)) rfl dX3_copyFrom_26 ?_
  refine g_put C hW inX3 tyX3_ok nmX3 0 rfl rfl rfl 3 (by decide) (List.mem_of_getElem? (i := 4) rfl) rfl rfl rfl rfl (kX3_s3 g a0 (st (st (st v0 0 (fun _ => (v1 0 0))) 1 (fun _ => (v1 1 0))) 2 (fun _ => (v1 2 0))) (v1 3 0)) (ch' := [kX3 g a0 (st (st (st (st v0 0 (fun _ => (v1 0 0))) 1 (fun _ => (v1 1 0))) 2 (fun _ => (v1 2 0))) 3 (fun _ => (v1 3 0))), kX3 g a1 v1]) rfl dX3_copyFrom_29 (fun H locs hW => ?_)
  refine lv_aload_n hx hb dX3_copyFrom_32 rfl (lv_at hl 0 rfl) ?_
  refine lv_aload_n hx hb dX3_copyFrom_33 rfl (lv_at hl 1 rfl) ?_
  refine g_get C hW inX3 1 rfl rfl rfl 4 (by decide) (List.mem_of_getElem? (i := 5) rfl) (v := .int (v1 4 0)) rfl dX3_copyFrom_34 ?_
  refine g_put C hW inX3 tyX3_ok nmX3 0 rfl rfl rfl 4 (by decide) (List.mem_of_getElem? (i := 5) rfl) rfl rfl rfl rfl (kX3_s4 g a0 (st (st (st (st v0 0 (fun _ => (v1 0 0))) 1 (fun _ => (v1 1 0))) 2 (fun _ => (v1 2 0))) 3 (fun _ => (v1 3 0))) (v1 4 0)) (ch' := [kX3 g a0 (st (st (st (st (st v0 0 (fun _ => (v1 0 0))) 1 (fun _ => (v1 1 0))) 2 (fun _ => (v1 2 0))) 3 (fun _ => (v1 3 0))) 4 (fun _ => (v1 4 0))), kX3 g a1 v1]) rfl dX3_copyFrom_37 (fun H locs hW => ?_)
  refine lv_aload_n hx hb dX3_copyFrom_40 rfl (lv_at hl 0 rfl) ?_
  refine lv_aload_n hx hb dX3_copyFrom_41 rfl (lv_at hl 1 rfl) ?_
  refine g_get C hW inX3 1 rfl rfl rfl 5 (by decide) (List.mem_of_getElem? (i := 6) rfl) (v := .int (v1 5 0)) rfl dX3_copyFrom_42 ?_
  refine g_put C hW inX3 tyX3_ok nmX3 0 rfl rfl rfl 5 (by decide) (List.mem_of_getElem? (i := 6) rfl) rfl rfl rfl rfl (kX3_s5 g a0 (st (st (st (st (st v0 0 (fun _ => (v1 0 0))) 1 (fun _ => (v1 1 0))) 2 (fun _ => (v1 2 0))) 3 (fun _ => (v1 3 0))) 4 (fun _ => (v1 4 0))) (v1 5 0)) (ch' := [kX3 g a0 (st (st (st (st (st (st v0 0 (fun _ => (v1 0 0))) 1 (fun _ => (v1 1 0))) 2 (fun _ => (v1 2 0))) 3 (fun _ => (v1 3 0))) 4 (fun _ => (v1 4 0))) 5 (fun _ => (v1 5 0))), kX3 g a1 v1]) rfl dX3_copyFrom_45 (fun H locs hW => ?_)
  refine lv_aload_n hx hb dX3_copyFrom_48 rfl (lv_at hl 1 rfl) ?_
  refine g_get C hW inX3 1 rfl rfl rfl 6 (by decide) (List.mem_of_getElem? (i := 7) rfl) (v := .ref (a1 1)) rfl dX3_copyFrom_49 ?_
  refine lv_aload_n hx hb dX3_copyFrom_52 rfl (lv_at hl 0 rfl) ?_
  refine g_get C hW inX3 0 rfl rfl rfl 6 (by decide) (List.mem_of_getElem? (i := 7) rfl) (v := .ref (a0 1)) rfl dX3_copyFrom_53 ?_
  obtain ⟨y1, hc, hf⟩ := bd_of hf
  obtain ⟨V2, hV2⟩ : ∃ z : MM, z = (st (st (st (st (st (st v0 0 (fun _ => (v1 0 0))) 1 (fun _ => (v1 1 0))) 2 (fun _ => (v1 2 0))) 3 (fun _ => (v1 3 0))) 4 (fun _ => (v1 4 0))) 5 (fun _ => (v1 5 0))) := ⟨_, rfl⟩
  rw [← hV2] at hW
  replace hc : fX7_copyRow N 3 3 (v1 6) (V2 6) = some y1 := by rw [hV2]; exact hc
  replace hW := hW.re (ch' := [(kX3 g a0 V2).take 1, [(a0 1, .inl (g.2.1, 3, .inl (V2 6)))], (kX3 g a0 V2).drop 2, (kX3 g a1 v1).take 1, [(a1 1, .inl (g.2.1, 3, .inl (v1 6)))], (kX3 g a1 v1).drop 2]) rfl
  refine g_cSNv C (ct_X7_copyRow g l N (a1 1) (a0 1) 3 3 (v1 6) (V2 6) hc) gX3_copyFrom_X7_copyRow_n49 rfl 2 sn_X3_copyFrom_49_d sn_X3_copyFrom_49_a sn_X3_copyFrom_49_b sn_X3_copyFrom_49_c ⟨rfl, rfl, ⟨Nat.le_of_ble_eq_true rfl, Nat.le_of_ble_eq_true rfl⟩, Nat.le_of_ble_eq_true rfl, Nat.le_of_ble_eq_true rfl⟩ rfl hl (Nat.le_of_ble_eq_true rfl) dX3_copyFrom_56 rfl hW hA [4, 1] rfl rfl rfl (ch' := [(kX3 g a0 V2).take 1, [(a0 1, .inl (g.2.1, 3, .inl y1))], (kX3 g a0 V2).drop 2, (kX3 g a1 v1).take 1, [(a1 1, .inl (g.2.1, 3, .inl (v1 6)))], (kX3 g a1 v1).drop 2]) rfl (fun H locs hW => ?_)
  replace hW := hW.re (ch' := [kX3 g a0 (st V2 6 y1), kX3 g a1 v1]) rfl
  subst hV2
  refine lv_aload_n hx hb dX3_copyFrom_59 rfl (lv_at hl 1 rfl) ?_
  refine g_get C hW inX3 1 rfl rfl rfl 7 (by decide) (List.mem_of_getElem? (i := 8) rfl) (v := .ref (a1 2)) rfl dX3_copyFrom_60 ?_
  refine lv_aload_n hx hb dX3_copyFrom_63 rfl (lv_at hl 0 rfl) ?_
  refine g_get C hW inX3 0 rfl rfl rfl 7 (by decide) (List.mem_of_getElem? (i := 8) rfl) (v := .ref (a0 2)) rfl dX3_copyFrom_64 ?_
  obtain ⟨y3, hc, hf⟩ := bd_of hf
  obtain ⟨V4, hV4⟩ : ∃ z : MM, z = (st (st (st (st (st (st (st v0 0 (fun _ => (v1 0 0))) 1 (fun _ => (v1 1 0))) 2 (fun _ => (v1 2 0))) 3 (fun _ => (v1 3 0))) 4 (fun _ => (v1 4 0))) 5 (fun _ => (v1 5 0))) 6 y1) := ⟨_, rfl⟩
  rw [← hV4] at hW
  replace hc : fX7_copyRow N 6 6 (v1 7) (V4 7) = some y3 := by rw [hV4]; exact hc
  replace hW := hW.re (ch' := [(kX3 g a0 V4).take 2, [(a0 2, .inl (g.2.1, 6, .inl (V4 7)))], (kX3 g a0 V4).drop 3, (kX3 g a1 v1).take 2, [(a1 2, .inl (g.2.1, 6, .inl (v1 7)))], (kX3 g a1 v1).drop 3]) rfl
  refine g_cSNv C (ct_X7_copyRow g l N (a1 2) (a0 2) 6 6 (v1 7) (V4 7) hc) gX3_copyFrom_X7_copyRow_n49 rfl 2 sn_X3_copyFrom_49_d sn_X3_copyFrom_49_a sn_X3_copyFrom_49_b sn_X3_copyFrom_49_c ⟨rfl, rfl, ⟨Nat.le_of_ble_eq_true rfl, Nat.le_of_ble_eq_true rfl⟩, Nat.le_of_ble_eq_true rfl, Nat.le_of_ble_eq_true rfl⟩ rfl hl (Nat.le_of_ble_eq_true rfl) dX3_copyFrom_67 rfl hW hA [4, 1] rfl rfl rfl (ch' := [(kX3 g a0 V4).take 2, [(a0 2, .inl (g.2.1, 6, .inl y3))], (kX3 g a0 V4).drop 3, (kX3 g a1 v1).take 2, [(a1 2, .inl (g.2.1, 6, .inl (v1 7)))], (kX3 g a1 v1).drop 3]) rfl (fun H locs hW => ?_)
  replace hW := hW.re (ch' := [kX3 g a0 (st V4 7 y3), kX3 g a1 v1]) rfl
  subst hV4
  refine lv_aload_n hx hb dX3_copyFrom_70 rfl (lv_at hl 1 rfl) ?_
  refine g_get C hW inX3 1 rfl rfl rfl 8 (by decide) (List.mem_of_getElem? (i := 9) rfl) (v := .ref (a1 3)) rfl dX3_copyFrom_71 ?_
  refine lv_aload_n hx hb dX3_copyFrom_74 rfl (lv_at hl 0 rfl) ?_
  refine g_get C hW inX3 0 rfl rfl rfl 8 (by decide) (List.mem_of_getElem? (i := 9) rfl) (v := .ref (a0 3)) rfl dX3_copyFrom_75 ?_
  obtain ⟨y5, hc, hf⟩ := bd_of hf
  obtain ⟨V6, hV6⟩ : ∃ z : MM, z = (st (st (st (st (st (st (st (st v0 0 (fun _ => (v1 0 0))) 1 (fun _ => (v1 1 0))) 2 (fun _ => (v1 2 0))) 3 (fun _ => (v1 3 0))) 4 (fun _ => (v1 4 0))) 5 (fun _ => (v1 5 0))) 6 y1) 7 y3) := ⟨_, rfl⟩
  rw [← hV6] at hW
  replace hc : fX7_copyRow N 6 6 (v1 8) (V6 8) = some y5 := by rw [hV6]; exact hc
  replace hW := hW.re (ch' := [(kX3 g a0 V6).take 3, [(a0 3, .inl (g.2.1, 6, .inl (V6 8)))], (kX3 g a0 V6).drop 4, (kX3 g a1 v1).take 3, [(a1 3, .inl (g.2.1, 6, .inl (v1 8)))], (kX3 g a1 v1).drop 4]) rfl
  refine g_cSNv C (ct_X7_copyRow g l N (a1 3) (a0 3) 6 6 (v1 8) (V6 8) hc) gX3_copyFrom_X7_copyRow_n49 rfl 2 sn_X3_copyFrom_49_d sn_X3_copyFrom_49_a sn_X3_copyFrom_49_b sn_X3_copyFrom_49_c ⟨rfl, rfl, ⟨Nat.le_of_ble_eq_true rfl, Nat.le_of_ble_eq_true rfl⟩, Nat.le_of_ble_eq_true rfl, Nat.le_of_ble_eq_true rfl⟩ rfl hl (Nat.le_of_ble_eq_true rfl) dX3_copyFrom_78 rfl hW hA [4, 1] rfl rfl rfl (ch' := [(kX3 g a0 V6).take 3, [(a0 3, .inl (g.2.1, 6, .inl y5))], (kX3 g a0 V6).drop 4, (kX3 g a1 v1).take 3, [(a1 3, .inl (g.2.1, 6, .inl (v1 8)))], (kX3 g a1 v1).drop 4]) rfl (fun H locs hW => ?_)
  replace hW := hW.re (ch' := [kX3 g a0 (st V6 8 y5), kX3 g a1 v1]) rfl
  subst hV6
  refine lv_aload_n hx hb dX3_copyFrom_81 rfl (lv_at hl 1 rfl) ?_
  refine g_get C hW inX3 1 rfl rfl rfl 9 (by decide) (List.mem_of_getElem? (i := 10) rfl) (v := .ref (a1 4)) rfl dX3_copyFrom_82 ?_
  refine lv_aload_n hx hb dX3_copyFrom_85 rfl (lv_at hl 0 rfl) ?_
  refine g_get C hW inX3 0 rfl rfl rfl 9 (by decide) (List.mem_of_getElem? (i := 10) rfl) (v := .ref (a0 4)) rfl dX3_copyFrom_86 ?_
  obtain ⟨y7, hc, hf⟩ := bd_of hf
  obtain ⟨V8, hV8⟩ : ∃ z : MM, z = (st (st (st (st (st (st (st (st (st v0 0 (fun _ => (v1 0 0))) 1 (fun _ => (v1 1 0))) 2 (fun _ => (v1 2 0))) 3 (fun _ => (v1 3 0))) 4 (fun _ => (v1 4 0))) 5 (fun _ => (v1 5 0))) 6 y1) 7 y3) 8 y5) := ⟨_, rfl⟩
  rw [← hV8] at hW
  replace hc : fX7_copyRow N 6 6 (v1 9) (V8 9) = some y7 := by rw [hV8]; exact hc
  replace hW := hW.re (ch' := [(kX3 g a0 V8).take 4, [(a0 4, .inl (g.2.1, 6, .inl (V8 9)))], (kX3 g a0 V8).drop 5, (kX3 g a1 v1).take 4, [(a1 4, .inl (g.2.1, 6, .inl (v1 9)))], (kX3 g a1 v1).drop 5]) rfl
  refine g_cSNv C (ct_X7_copyRow g l N (a1 4) (a0 4) 6 6 (v1 9) (V8 9) hc) gX3_copyFrom_X7_copyRow_n49 rfl 2 sn_X3_copyFrom_49_d sn_X3_copyFrom_49_a sn_X3_copyFrom_49_b sn_X3_copyFrom_49_c ⟨rfl, rfl, ⟨Nat.le_of_ble_eq_true rfl, Nat.le_of_ble_eq_true rfl⟩, Nat.le_of_ble_eq_true rfl, Nat.le_of_ble_eq_true rfl⟩ rfl hl (Nat.le_of_ble_eq_true rfl) dX3_copyFrom_89 rfl hW hA [4, 1] rfl rfl rfl (ch' := [(kX3 g a0 V8).take 4, [(a0 4, .inl (g.2.1, 6, .inl y7))], (kX3 g a0 V8).drop 5, (kX3 g a1 v1).take 4, [(a1 4, .inl (g.2.1, 6, .inl (v1 9)))], (kX3 g a1 v1).drop 5]) rfl (fun H locs hW => ?_)
  replace hW := hW.re (ch' := [kX3 g a0 (st V8 9 y7), kX3 g a1 v1]) rfl
  subst hV8
  refine lv_aload_n hx hb dX3_copyFrom_92 rfl (lv_at hl 1 rfl) ?_
  refine g_get C hW inX3 1 rfl rfl rfl 10 (by decide) (List.mem_of_getElem? (i := 11) rfl) (v := .ref (a1 5)) rfl dX3_copyFrom_93 ?_
  refine lv_aload_n hx hb dX3_copyFrom_96 rfl (lv_at hl 0 rfl) ?_
  refine g_get C hW inX3 0 rfl rfl rfl 10 (by decide) (List.mem_of_getElem? (i := 11) rfl) (v := .ref (a0 5)) rfl dX3_copyFrom_97 ?_
  obtain ⟨y9, hc, hf⟩ := bd_of hf
  obtain ⟨V10, hV10⟩ : ∃ z : MM, z = (st (st (st (st (st (st (st (st (st (st v0 0 (fun _ => (v1 0 0))) 1 (fun _ => (v1 1 0))) 2 (fun _ => (v1 2 0))) 3 (fun _ => (v1 3 0))) 4 (fun _ => (v1 4 0))) 5 (fun _ => (v1 5 0))) 6 y1) 7 y3) 8 y5) 9 y7) := ⟨_, rfl⟩
  rw [← hV10] at hW
  replace hc : fX7_copyRow N 6 6 (v1 10) (V10 10) = some y9 := by rw [hV10]; exact hc
  replace hW := hW.re (ch' := [(kX3 g a0 V10).take 5, [(a0 5, .inl (g.2.1, 6, .inl (V10 10)))], (kX3 g a0 V10).drop 6, (kX3 g a1 v1).take 5, [(a1 5, .inl (g.2.1, 6, .inl (v1 10)))], (kX3 g a1 v1).drop 6]) rfl
  refine g_cSNv C (ct_X7_copyRow g l N (a1 5) (a0 5) 6 6 (v1 10) (V10 10) hc) gX3_copyFrom_X7_copyRow_n49 rfl 2 sn_X3_copyFrom_49_d sn_X3_copyFrom_49_a sn_X3_copyFrom_49_b sn_X3_copyFrom_49_c ⟨rfl, rfl, ⟨Nat.le_of_ble_eq_true rfl, Nat.le_of_ble_eq_true rfl⟩, Nat.le_of_ble_eq_true rfl, Nat.le_of_ble_eq_true rfl⟩ rfl hl (Nat.le_of_ble_eq_true rfl) dX3_copyFrom_100 rfl hW hA [4, 1] rfl rfl rfl (ch' := [(kX3 g a0 V10).take 5, [(a0 5, .inl (g.2.1, 6, .inl y9))], (kX3 g a0 V10).drop 6, (kX3 g a1 v1).take 5, [(a1 5, .inl (g.2.1, 6, .inl (v1 10)))], (kX3 g a1 v1).drop 6]) rfl (fun H locs hW => ?_)
  replace hW := hW.re (ch' := [kX3 g a0 (st V10 10 y9), kX3 g a1 v1]) rfl
  subst hV10
  obtain rfl := Option.some.inj hf
  subst hQ
  exact g_vret C hr hk0 hW rfl rfl dX3_copyFrom_103
theorem sn_X4_copyFrom_71_a : (yX4_copyFrom.cls, 71, yX7_copyRow) ∈ gNest := List.mem_of_getElem? (i := 2) rfl
theorem sn_X4_copyFrom_71_b : Cond.static yX7_copyRow ∈ wsX4_copyFrom := (List.mem_of_getElem? (i := 16) rfl)
theorem sn_X4_copyFrom_71_c : Cond.initialized yX7_copyRow.cls ∈ wsX4_copyFrom := (List.mem_of_getElem? (i := 17) rfl)
theorem sn_X4_copyFrom_71_d : yX7_copyRow.cls ≠ "java/lang/invoke/MethodHandle" ∧ yX7_copyRow.cls ≠ "java/lang/invoke/VarHandle" ∧ (parseMethodDescriptor yX7_copyRow.desc).map (fun d => d.parameters.length) = some 2 := by decide +kernel
def fX4_copyFrom (N : Nat) (v0 : MM) (v1 : MM) (v2 : MM) (v3 : MM) : Option (MM × MM) := ((fX7_copyRow N 3 3 (v2 3) (v1 3)).bind (fun y1 => ((fX7_copyRow N 3 3 (v2 4) (v1 4)).bind (fun y3 => ((fX7_copyRow N 3 3 (v2 5) (v1 5)).bind (fun y5 => ((fX7_copyRow N 3 3 (v2 6) (v1 6)).bind (fun y7 => ((fX7_copyRow N 3 3 (v2 7) (v1 7)).bind (fun y9 => ((fX7_copyRow N 3 3 (v2 8) (v1 8)).bind (fun y11 => ((fX7_copyRow N 6 6 (v2 9) (v1 9)).bind (fun y13 => ((fX7_copyRow N 6 6 (v2 10) (v1 10)).bind (fun y15 => ((fX7_copyRow N 6 6 (v2 11) (v1 11)).bind (fun y17 => ((fX7_copyRow N 6 6 (v2 12) (v1 12)).bind (fun y19 => ((fX7_copyRow N 200 200 (v2 13) (v1 13)).bind (fun y21 => ((fX0_copyFrom N v0 v3).bind (fun y23 => some (y23, (st (st (st (st (st (st (st (st (st (st (st (st (st (st v1 0 (fun _ => (v2 0 0))) 1 (fun _ => (v2 1 0))) 2 (fun _ => (v2 2 0))) 3 y1) 4 y3) 5 y5) 6 y7) 7 y9) 8 y11) 9 y13) 10 y15) 11 y17) 12 y19) 13 y21))))))))))))))))))))))))))
set_option maxHeartbeats 4000000 in
set_option maxRecDepth 100000 in
theorem ct_X4_copyFrom (g : GT) (l : Launch) (N : Nat) (a0 : Nat → Nat) (a1 : Nat → Nat) (a2 : Nat → Nat) (a3 : Nat → Nat) (v0 : MM) (v1 : MM) (v2 : MM) (v3 : MM) {y : MM × MM} (hf : fX4_copyFrom N v0 v1 v2 v3 = some y) : ct g l yX4_copyFrom wsX4_copyFrom (rmk 3 68) [.ref (a1 0), .ref (a2 0)] [kX0 g a0 v0, kX4 g a1 (a0 0) v1, kX4 g a2 (a3 0) v2, kX0 g a3 v3] none [kX0 g a0 y.1, kX4 g a1 (a0 0) y.2, kX4 g a2 (a3 0) v2, kX0 g a3 v3] := by
  refine ct_of (cc := cX4_copyFrom) (maxL := 2) (ret := none) (by decide) rfl (Nat.le_of_ble_eq_true rfl) ?_
  intro p e s m args below meth c A ls C hr hk0 hA hW hl
  have hx := C.1.1
  have hb := C.1.2.1
  replace hl : lv_has ls 2 [(0, .ref (a1 0)), (1, .ref (a2 0))] := hl
  obtain ⟨Q, hQ⟩ : ∃ Q, Q = MQ below (ctQ g A none [kX0 g a0 y.1, kX4 g a1 (a0 0) y.2, kX4 g a2 (a3 0) v2, kX0 g a3 v3]) args s 0 0 A := ⟨_, rfl⟩
  rw [← hQ]
  obtain ⟨H, hH⟩ : ∃ H, H = s.heap := ⟨_, rfl⟩
  obtain ⟨locs, hL⟩ : ∃ locs : List Loc, locs = [] := ⟨_, rfl⟩
  replace hW : wd g A s.heap [kX0 g a0 v0, kX4 g a1 (a0 0) v1, kX4 g a2 (a3 0) v2, kX0 g a3 v3] H locs := by rw [hH, hL]; exact hW
  suffices hG : W p l e (rmk 3 68) s m args below meth c H locs 0 0 Q (F0 m 0 ls []) by
    rw [hH, hL] at hG; exact hG
  clear hH hL
  have inX4 : ∀ w ∈ wsX40, w ∈ wsX4_copyFrom := fun _ h => List.mem_cons_of_mem _ (List.mem_append_left _ (List.mem_append_right _ (h)))
  rw [fX4_copyFrom] at hf
  refine lv_aload_n hx hb dX4_copyFrom_0 rfl (lv_at hl 0 rfl) ?_
  refine lv_aload_n hx hb dX4_copyFrom_1 rfl (lv_at hl 1 rfl) ?_
  refine g_get C hW inX4 2 rfl rfl rfl 0 (by decide) (List.mem_of_getElem? (i := 1) rfl) (v := .int (v2 0 0)) rfl dX4_copyFrom_2 ?_
  refine g_put C hW inX4 tyX4_ok nmX4 1 rfl rfl rfl 0 (by decide) (List.mem_of_getElem? (i := 1) rfl) rfl rfl rfl rfl (kX4_s0 g a1 (a0 0) v1 (v2 0 0)) (ch' := [kX0 g a0 v0, kX4 g a1 (a0 0) (st v1 0 (fun _ => (v2 0 0))), kX4 g a2 (a3 0) v2, kX0 g a3 v3]) rfl dX4_copyFrom_5 (fun H locs hW => ?_)
  refine lv_aload_n hx hb dX4_copyFrom_8 rfl (lv_at hl 0 rfl) ?_
  refine lv_aload_n hx hb dX4_copyFrom_9 rfl (lv_at hl 1 rfl) ?_
  refine g_get C hW inX4 2 rfl rfl rfl 1 (by decide) (List.mem_of_getElem? (i := 2) rfl) (v := .int (v2 1 0)) rfl dX4_copyFrom_10 ?_
  refine g_put C hW inX4 tyX4_ok nmX4 1 rfl rfl rfl 1 (by decide) (List.mem_of_getElem? (i := 2) rfl) rfl rfl rfl rfl (kX4_s1 g a1 (a0 0) (st v1 0 (fun _ => (v2 0 0))) (v2 1 0)) (ch' := [kX0 g a0 v0, kX4 g a1 (a0 0) (st (st v1 0 (fun _ => (v2 0 0))) 1 (fun _ => (v2 1 0))), kX4 g a2 (a3 0) v2, kX0 g a3 v3]) rfl dX4_copyFrom_13 (fun H locs hW => ?_)
  refine lv_aload_n hx hb dX4_copyFrom_16 rfl (lv_at hl 0 rfl) ?_
  refine lv_aload_n hx hb dX4_copyFrom_17 rfl (lv_at hl 1 rfl) ?_
  refine g_get C hW inX4 2 rfl rfl rfl 2 (by decide) (List.mem_of_getElem? (i := 3) rfl) (v := .int (v2 2 0)) rfl dX4_copyFrom_18 ?_
  refine g_put C hW inX4 tyX4_ok nmX4 1 rfl rfl rfl 2 (by decide) (List.mem_of_getElem? (i := 3) rfl) rfl rfl rfl rfl (kX4_s2 g a1 (a0 0) (st (st v1 0 (fun _ => (v2 0 0))) 1 (fun _ => (v2 1 0))) (v2 2 0)) (ch' := [kX0 g a0 v0, kX4 g a1 (a0 0) (st (st (st v1 0 (fun _ => (v2 0 0))) 1 (fun _ => (v2 1 0))) 2 (fun _ => (v2 2 0))), kX4 g a2 (a3 0) v2, kX0 g a3 v3]) rfl dX4_copyFrom_21 (fun H locs hW => ?_)
  refine lv_aload_n hx hb dX4_copyFrom_24 rfl (lv_at hl 1 rfl) ?_
  refine g_get C hW inX4 2 rfl rfl rfl 3 (by decide) (List.mem_of_getElem? (i := 4) rfl) (v := .ref (a2 1)) rfl dX4_copyFrom_25 ?_
  refine lv_aload_n hx hb dX4_copyFrom_28 rfl (lv_at hl 0 rfl) ?_
  refine g_get C hW inX4 1 rfl rfl rfl 3 (by decide) (List.mem_of_getElem? (i := 4) rfl) (v := .ref (a1 1)) rfl dX4_copyFrom_29 ?_
  obtain ⟨y1, hc, hf⟩ := bd_of hf
  obtain ⟨V2, hV2⟩ : ∃ z : MM, z = (st (st (st v1 0 (fun _ => (v2 0 0))) 1 (fun _ => (v2 1 0))) 2 (fun _ => (v2 2 0))) := ⟨_, rfl⟩
  rw [← hV2] at hW
  replace hc : fX7_copyRow N 3 3 (v2 3) (V2 3) = some y1 := by rw [hV2]; exact hc
  replace hW := hW.re (ch' := [kX0 g a0 v0, (kX4 g a1 (a0 0) V2).take 1, [(a1 1, .inl (g.2.1, 3, .inl (V2 3)))], (kX4 g a1 (a0 0) V2).drop 2, (kX4 g a2 (a3 0) v2).take 1, [(a2 1, .inl (g.2.1, 3, .inl (v2 3)))], (kX4 g a2 (a3 0) v2).drop 2, kX0 g a3 v3]) rfl
  refine g_cSNv C (ct_X7_copyRow g l N (a2 1) (a1 1) 3 3 (v2 3) (V2 3) hc) gX4_copyFrom_X7_copyRow_n71 rfl 2 sn_X4_copyFrom_71_d sn_X4_copyFrom_71_a sn_X4_copyFrom_71_b sn_X4_copyFrom_71_c ⟨rfl, rfl, ⟨Nat.le_of_ble_eq_true rfl, Nat.le_of_ble_eq_true rfl⟩, Nat.le_of_ble_eq_true rfl, Nat.le_of_ble_eq_true rfl⟩ rfl hl (Nat.le_of_ble_eq_true rfl) dX4_copyFrom_32 rfl hW hA [5, 2] rfl rfl rfl (ch' := [kX0 g a0 v0, (kX4 g a1 (a0 0) V2).take 1, [(a1 1, .inl (g.2.1, 3, .inl y1))], (kX4 g a1 (a0 0) V2).drop 2, (kX4 g a2 (a3 0) v2).take 1, [(a2 1, .inl (g.2.1, 3, .inl (v2 3)))], (kX4 g a2 (a3 0) v2).drop 2, kX0 g a3 v3]) rfl (fun H locs hW => ?_)
  replace hW := hW.re (ch' := [kX0 g a0 v0, kX4 g a1 (a0 0) (st V2 3 y1), kX4 g a2 (a3 0) v2, kX0 g a3 v3]) rfl
  subst hV2
  refine lv_aload_n hx hb dX4_copyFrom_35 rfl (lv_at hl 1 rfl) ?_
  refine g_get C hW inX4 2 rfl rfl rfl 4 (by decide) (List.mem_of_getElem? (i := 5) rfl) (v := .ref (a2 2)) rfl dX4_copyFrom_36 ?_
  refine lv_aload_n hx hb dX4_copyFrom_39 rfl (lv_at hl 0 rfl) ?_
  refine g_get C hW inX4 1 rfl rfl rfl 4 (by decide) (List.mem_of_getElem? (i := 5) rfl) (v := .ref (a1 2)) rfl dX4_copyFrom_40 ?_
  obtain ⟨y3, hc, hf⟩ := bd_of hf
  obtain ⟨V4, hV4⟩ : ∃ z : MM, z = (st (st (st (st v1 0 (fun _ => (v2 0 0))) 1 (fun _ => (v2 1 0))) 2 (fun _ => (v2 2 0))) 3 y1) := ⟨_, rfl⟩
  rw [← hV4] at hW
  replace hc : fX7_copyRow N 3 3 (v2 4) (V4 4) = some y3 := by rw [hV4]; exact hc
  replace hW := hW.re (ch' := [kX0 g a0 v0, (kX4 g a1 (a0 0) V4).take 2, [(a1 2, .inl (g.2.1, 3, .inl (V4 4)))], (kX4 g a1 (a0 0) V4).drop 3, (kX4 g a2 (a3 0) v2).take 2, [(a2 2, .inl (g.2.1, 3, .inl (v2 4)))], (kX4 g a2 (a3 0) v2).drop 3, kX0 g a3 v3]) rfl
  refine g_cSNv C (ct_X7_copyRow g l N (a2 2) (a1 2) 3 3 (v2 4) (V4 4) hc) gX4_copyFrom_X7_copyRow_n71 rfl 2 sn_X4_copyFrom_71_d sn_X4_copyFrom_71_a sn_X4_copyFrom_71_b sn_X4_copyFrom_71_c ⟨rfl, rfl, ⟨Nat.le_of_ble_eq_true rfl, Nat.le_of_ble_eq_true rfl⟩, Nat.le_of_ble_eq_true rfl, Nat.le_of_ble_eq_true rfl⟩ rfl hl (Nat.le_of_ble_eq_true rfl) dX4_copyFrom_43 rfl hW hA [5, 2] rfl rfl rfl (ch' := [kX0 g a0 v0, (kX4 g a1 (a0 0) V4).take 2, [(a1 2, .inl (g.2.1, 3, .inl y3))], (kX4 g a1 (a0 0) V4).drop 3, (kX4 g a2 (a3 0) v2).take 2, [(a2 2, .inl (g.2.1, 3, .inl (v2 4)))], (kX4 g a2 (a3 0) v2).drop 3, kX0 g a3 v3]) rfl (fun H locs hW => ?_)
  replace hW := hW.re (ch' := [kX0 g a0 v0, kX4 g a1 (a0 0) (st V4 4 y3), kX4 g a2 (a3 0) v2, kX0 g a3 v3]) rfl
  subst hV4
  refine lv_aload_n hx hb dX4_copyFrom_46 rfl (lv_at hl 1 rfl) ?_
  refine g_get C hW inX4 2 rfl rfl rfl 5 (by decide) (List.mem_of_getElem? (i := 6) rfl) (v := .ref (a2 3)) rfl dX4_copyFrom_47 ?_
  refine lv_aload_n hx hb dX4_copyFrom_50 rfl (lv_at hl 0 rfl) ?_
  refine g_get C hW inX4 1 rfl rfl rfl 5 (by decide) (List.mem_of_getElem? (i := 6) rfl) (v := .ref (a1 3)) rfl dX4_copyFrom_51 ?_
  obtain ⟨y5, hc, hf⟩ := bd_of hf
  obtain ⟨V6, hV6⟩ : ∃ z : MM, z = (st (st (st (st (st v1 0 (fun _ => (v2 0 0))) 1 (fun _ => (v2 1 0))) 2 (fun _ => (v2 2 0))) 3 y1) 4 y3) := ⟨_, rfl⟩
  rw [← hV6] at hW
  replace hc : fX7_copyRow N 3 3 (v2 5) (V6 5) = some y5 := by rw [hV6]; exact hc
  replace hW := hW.re (ch' := [kX0 g a0 v0, (kX4 g a1 (a0 0) V6).take 3, [(a1 3, .inl (g.2.1, 3, .inl (V6 5)))], (kX4 g a1 (a0 0) V6).drop 4, (kX4 g a2 (a3 0) v2).take 3, [(a2 3, .inl (g.2.1, 3, .inl (v2 5)))], (kX4 g a2 (a3 0) v2).drop 4, kX0 g a3 v3]) rfl
  refine g_cSNv C (ct_X7_copyRow g l N (a2 3) (a1 3) 3 3 (v2 5) (V6 5) hc) gX4_copyFrom_X7_copyRow_n71 rfl 2 sn_X4_copyFrom_71_d sn_X4_copyFrom_71_a sn_X4_copyFrom_71_b sn_X4_copyFrom_71_c ⟨rfl, rfl, ⟨Nat.le_of_ble_eq_true rfl, Nat.le_of_ble_eq_true rfl⟩, Nat.le_of_ble_eq_true rfl, Nat.le_of_ble_eq_true rfl⟩ rfl hl (Nat.le_of_ble_eq_true rfl) dX4_copyFrom_54 rfl hW hA [5, 2] rfl rfl rfl (ch' := [kX0 g a0 v0, (kX4 g a1 (a0 0) V6).take 3, [(a1 3, .inl (g.2.1, 3, .inl y5))], (kX4 g a1 (a0 0) V6).drop 4, (kX4 g a2 (a3 0) v2).take 3, [(a2 3, .inl (g.2.1, 3, .inl (v2 5)))], (kX4 g a2 (a3 0) v2).drop 4, kX0 g a3 v3]) rfl (fun H locs hW => ?_)
  replace hW := hW.re (ch' := [kX0 g a0 v0, kX4 g a1 (a0 0) (st V6 5 y5), kX4 g a2 (a3 0) v2, kX0 g a3 v3]) rfl
  subst hV6
  refine lv_aload_n hx hb dX4_copyFrom_57 rfl (lv_at hl 1 rfl) ?_
  refine g_get C hW inX4 2 rfl rfl rfl 6 (by decide) (List.mem_of_getElem? (i := 7) rfl) (v := .ref (a2 4)) rfl dX4_copyFrom_58 ?_
  refine lv_aload_n hx hb dX4_copyFrom_61 rfl (lv_at hl 0 rfl) ?_
  refine g_get C hW inX4 1 rfl rfl rfl 6 (by decide) (List.mem_of_getElem? (i := 7) rfl) (v := .ref (a1 4)) rfl dX4_copyFrom_62 ?_
  obtain ⟨y7, hc, hf⟩ := bd_of hf
  obtain ⟨V8, hV8⟩ : ∃ z : MM, z = (st (st (st (st (st (st v1 0 (fun _ => (v2 0 0))) 1 (fun _ => (v2 1 0))) 2 (fun _ => (v2 2 0))) 3 y1) 4 y3) 5 y5) := ⟨_, rfl⟩
  rw [← hV8] at hW
  replace hc : fX7_copyRow N 3 3 (v2 6) (V8 6) = some y7 := by rw [hV8]; exact hc
  replace hW := hW.re (ch' := [kX0 g a0 v0, (kX4 g a1 (a0 0) V8).take 4, [(a1 4, .inl (g.2.1, 3, .inl (V8 6)))], (kX4 g a1 (a0 0) V8).drop 5, (kX4 g a2 (a3 0) v2).take 4, [(a2 4, .inl (g.2.1, 3, .inl (v2 6)))], (kX4 g a2 (a3 0) v2).drop 5, kX0 g a3 v3]) rfl
  refine g_cSNv C (ct_X7_copyRow g l N (a2 4) (a1 4) 3 3 (v2 6) (V8 6) hc) gX4_copyFrom_X7_copyRow_n71 rfl 2 sn_X4_copyFrom_71_d sn_X4_copyFrom_71_a sn_X4_copyFrom_71_b sn_X4_copyFrom_71_c ⟨rfl, rfl, ⟨Nat.le_of_ble_eq_true rfl, Nat.le_of_ble_eq_true rfl⟩, Nat.le_of_ble_eq_true rfl, Nat.le_of_ble_eq_true rfl⟩ rfl hl (Nat.le_of_ble_eq_true rfl) dX4_copyFrom_65 rfl hW hA [5, 2] rfl rfl rfl (ch' := [kX0 g a0 v0, (kX4 g a1 (a0 0) V8).take 4, [(a1 4, .inl (g.2.1, 3, .inl y7))], (kX4 g a1 (a0 0) V8).drop 5, (kX4 g a2 (a3 0) v2).take 4, [(a2 4, .inl (g.2.1, 3, .inl (v2 6)))], (kX4 g a2 (a3 0) v2).drop 5, kX0 g a3 v3]) rfl (fun H locs hW => ?_)
  replace hW := hW.re (ch' := [kX0 g a0 v0, kX4 g a1 (a0 0) (st V8 6 y7), kX4 g a2 (a3 0) v2, kX0 g a3 v3]) rfl
  subst hV8
  refine lv_aload_n hx hb dX4_copyFrom_68 rfl (lv_at hl 1 rfl) ?_
  refine g_get C hW inX4 2 rfl rfl rfl 7 (by decide) (List.mem_of_getElem? (i := 8) rfl) (v := .ref (a2 5)) rfl dX4_copyFrom_69 ?_
  refine lv_aload_n hx hb dX4_copyFrom_72 rfl (lv_at hl 0 rfl) ?_
  refine g_get C hW inX4 1 rfl rfl rfl 7 (by decide) (List.mem_of_getElem? (i := 8) rfl) (v := .ref (a1 5)) rfl dX4_copyFrom_73 ?_
  obtain ⟨y9, hc, hf⟩ := bd_of hf
  obtain ⟨V10, hV10⟩ : ∃ z : MM, z = (st (st (st (st (st (st (st v1 0 (fun _ => (v2 0 0))) 1 (fun _ => (v2 1 0))) 2 (fun _ => (v2 2 0))) 3 y1) 4 y3) 5 y5) 6 y7) := ⟨_, rfl⟩
  rw [← hV10] at hW
  replace hc : fX7_copyRow N 3 3 (v2 7) (V10 7) = some y9 := by rw [hV10]; exact hc
  replace hW := hW.re (ch' := [kX0 g a0 v0, (kX4 g a1 (a0 0) V10).take 5, [(a1 5, .inl (g.2.1, 3, .inl (V10 7)))], (kX4 g a1 (a0 0) V10).drop 6, (kX4 g a2 (a3 0) v2).take 5, [(a2 5, .inl (g.2.1, 3, .inl (v2 7)))], (kX4 g a2 (a3 0) v2).drop 6, kX0 g a3 v3]) rfl
  refine g_cSNv C (ct_X7_copyRow g l N (a2 5) (a1 5) 3 3 (v2 7) (V10 7) hc) gX4_copyFrom_X7_copyRow_n71 rfl 2 sn_X4_copyFrom_71_d sn_X4_copyFrom_71_a sn_X4_copyFrom_71_b sn_X4_copyFrom_71_c ⟨rfl, rfl, ⟨Nat.le_of_ble_eq_true rfl, Nat.le_of_ble_eq_true rfl⟩, Nat.le_of_ble_eq_true rfl, Nat.le_of_ble_eq_true rfl⟩ rfl hl (Nat.le_of_ble_eq_true rfl) dX4_copyFrom_76 rfl hW hA [5, 2] rfl rfl rfl (ch' := [kX0 g a0 v0, (kX4 g a1 (a0 0) V10).take 5, [(a1 5, .inl (g.2.1, 3, .inl y9))], (kX4 g a1 (a0 0) V10).drop 6, (kX4 g a2 (a3 0) v2).take 5, [(a2 5, .inl (g.2.1, 3, .inl (v2 7)))], (kX4 g a2 (a3 0) v2).drop 6, kX0 g a3 v3]) rfl (fun H locs hW => ?_)
  replace hW := hW.re (ch' := [kX0 g a0 v0, kX4 g a1 (a0 0) (st V10 7 y9), kX4 g a2 (a3 0) v2, kX0 g a3 v3]) rfl
  subst hV10
  refine lv_aload_n hx hb dX4_copyFrom_79 rfl (lv_at hl 1 rfl) ?_
  refine g_get C hW inX4 2 rfl rfl rfl 8 (by decide) (List.mem_of_getElem? (i := 9) rfl) (v := .ref (a2 6)) rfl dX4_copyFrom_80 ?_
  refine lv_aload_n hx hb dX4_copyFrom_83 rfl (lv_at hl 0 rfl) ?_
  refine g_get C hW inX4 1 rfl rfl rfl 8 (by decide) (List.mem_of_getElem? (i := 9) rfl) (v := .ref (a1 6)) rfl dX4_copyFrom_84 ?_
  obtain ⟨y11, hc, hf⟩ := bd_of hf
  obtain ⟨V12, hV12⟩ : ∃ z : MM, z = (st (st (st (st (st (st (st (st v1 0 (fun _ => (v2 0 0))) 1 (fun _ => (v2 1 0))) 2 (fun _ => (v2 2 0))) 3 y1) 4 y3) 5 y5) 6 y7) 7 y9) := ⟨_, rfl⟩
  rw [← hV12] at hW
  replace hc : fX7_copyRow N 3 3 (v2 8) (V12 8) = some y11 := by rw [hV12]; exact hc
  replace hW := hW.re (ch' := [kX0 g a0 v0, (kX4 g a1 (a0 0) V12).take 6, [(a1 6, .inl (g.2.1, 3, .inl (V12 8)))], (kX4 g a1 (a0 0) V12).drop 7, (kX4 g a2 (a3 0) v2).take 6, [(a2 6, .inl (g.2.1, 3, .inl (v2 8)))], (kX4 g a2 (a3 0) v2).drop 7, kX0 g a3 v3]) rfl
  refine g_cSNv C (ct_X7_copyRow g l N (a2 6) (a1 6) 3 3 (v2 8) (V12 8) hc) gX4_copyFrom_X7_copyRow_n71 rfl 2 sn_X4_copyFrom_71_d sn_X4_copyFrom_71_a sn_X4_copyFrom_71_b sn_X4_copyFrom_71_c ⟨rfl, rfl, ⟨Nat.le_of_ble_eq_true rfl, Nat.le_of_ble_eq_true rfl⟩, Nat.le_of_ble_eq_true rfl, Nat.le_of_ble_eq_true rfl⟩ rfl hl (Nat.le_of_ble_eq_true rfl) dX4_copyFrom_87 rfl hW hA [5, 2] rfl rfl rfl (ch' := [kX0 g a0 v0, (kX4 g a1 (a0 0) V12).take 6, [(a1 6, .inl (g.2.1, 3, .inl y11))], (kX4 g a1 (a0 0) V12).drop 7, (kX4 g a2 (a3 0) v2).take 6, [(a2 6, .inl (g.2.1, 3, .inl (v2 8)))], (kX4 g a2 (a3 0) v2).drop 7, kX0 g a3 v3]) rfl (fun H locs hW => ?_)
  replace hW := hW.re (ch' := [kX0 g a0 v0, kX4 g a1 (a0 0) (st V12 8 y11), kX4 g a2 (a3 0) v2, kX0 g a3 v3]) rfl
  subst hV12
  refine lv_aload_n hx hb dX4_copyFrom_90 rfl (lv_at hl 1 rfl) ?_
  refine g_get C hW inX4 2 rfl rfl rfl 9 (by decide) (List.mem_of_getElem? (i := 10) rfl) (v := .ref (a2 7)) rfl dX4_copyFrom_91 ?_
  refine lv_aload_n hx hb dX4_copyFrom_94 rfl (lv_at hl 0 rfl) ?_
  refine g_get C hW inX4 1 rfl rfl rfl 9 (by decide) (List.mem_of_getElem? (i := 10) rfl) (v := .ref (a1 7)) rfl dX4_copyFrom_95 ?_
  obtain ⟨y13, hc, hf⟩ := bd_of hf
  obtain ⟨V14, hV14⟩ : ∃ z : MM, z = (st (st (st (st (st (st (st (st (st v1 0 (fun _ => (v2 0 0))) 1 (fun _ => (v2 1 0))) 2 (fun _ => (v2 2 0))) 3 y1) 4 y3) 5 y5) 6 y7) 7 y9) 8 y11) := ⟨_, rfl⟩
  rw [← hV14] at hW
  replace hc : fX7_copyRow N 6 6 (v2 9) (V14 9) = some y13 := by rw [hV14]; exact hc
  replace hW := hW.re (ch' := [kX0 g a0 v0, (kX4 g a1 (a0 0) V14).take 7, [(a1 7, .inl (g.2.1, 6, .inl (V14 9)))], (kX4 g a1 (a0 0) V14).drop 8, (kX4 g a2 (a3 0) v2).take 7, [(a2 7, .inl (g.2.1, 6, .inl (v2 9)))], (kX4 g a2 (a3 0) v2).drop 8, kX0 g a3 v3]) rfl
  refine g_cSNv C (ct_X7_copyRow g l N (a2 7) (a1 7) 6 6 (v2 9) (V14 9) hc) gX4_copyFrom_X7_copyRow_n71 rfl 2 sn_X4_copyFrom_71_d sn_X4_copyFrom_71_a sn_X4_copyFrom_71_b sn_X4_copyFrom_71_c ⟨rfl, rfl, ⟨Nat.le_of_ble_eq_true rfl, Nat.le_of_ble_eq_true rfl⟩, Nat.le_of_ble_eq_true rfl, Nat.le_of_ble_eq_true rfl⟩ rfl hl (Nat.le_of_ble_eq_true rfl) dX4_copyFrom_98 rfl hW hA [5, 2] rfl rfl rfl (ch' := [kX0 g a0 v0, (kX4 g a1 (a0 0) V14).take 7, [(a1 7, .inl (g.2.1, 6, .inl y13))], (kX4 g a1 (a0 0) V14).drop 8, (kX4 g a2 (a3 0) v2).take 7, [(a2 7, .inl (g.2.1, 6, .inl (v2 9)))], (kX4 g a2 (a3 0) v2).drop 8, kX0 g a3 v3]) rfl (fun H locs hW => ?_)
  replace hW := hW.re (ch' := [kX0 g a0 v0, kX4 g a1 (a0 0) (st V14 9 y13), kX4 g a2 (a3 0) v2, kX0 g a3 v3]) rfl
  subst hV14
  refine lv_aload_n hx hb dX4_copyFrom_101 rfl (lv_at hl 1 rfl) ?_
  refine g_get C hW inX4 2 rfl rfl rfl 10 (by decide) (List.mem_of_getElem? (i := 11) rfl) (v := .ref (a2 8)) rfl dX4_copyFrom_102 ?_
  refine lv_aload_n hx hb dX4_copyFrom_105 rfl (lv_at hl 0 rfl) ?_
  refine g_get C hW inX4 1 rfl rfl rfl 10 (by decide) (List.mem_of_getElem? (i := 11) rfl) (v := .ref (a1 8)) rfl dX4_copyFrom_106 ?_
  obtain ⟨y15, hc, hf⟩ := bd_of hf
  obtain ⟨V16, hV16⟩ : ∃ z : MM, z = (st (st (st (st (st (st (st (st (st (st v1 0 (fun _ => (v2 0 0))) 1 (fun _ => (v2 1 0))) 2 (fun _ => (v2 2 0))) 3 y1) 4 y3) 5 y5) 6 y7) 7 y9) 8 y11) 9 y13) := ⟨_, rfl⟩
  rw [← hV16] at hW
  replace hc : fX7_copyRow N 6 6 (v2 10) (V16 10) = some y15 := by rw [hV16]; exact hc
  replace hW := hW.re (ch' := [kX0 g a0 v0, (kX4 g a1 (a0 0) V16).take 8, [(a1 8, .inl (g.2.1, 6, .inl (V16 10)))], (kX4 g a1 (a0 0) V16).drop 9, (kX4 g a2 (a3 0) v2).take 8, [(a2 8, .inl (g.2.1, 6, .inl (v2 10)))], (kX4 g a2 (a3 0) v2).drop 9, kX0 g a3 v3]) rfl
  refine g_cSNv C (ct_X7_copyRow g l N (a2 8) (a1 8) 6 6 (v2 10) (V16 10) hc) gX4_copyFrom_X7_copyRow_n71 rfl 2 sn_X4_copyFrom_71_d sn_X4_copyFrom_71_a sn_X4_copyFrom_71_b sn_X4_copyFrom_71_c ⟨rfl, rfl, ⟨Nat.le_of_ble_eq_true rfl, Nat.le_of_ble_eq_true rfl⟩, Nat.le_of_ble_eq_true rfl, Nat.le_of_ble_eq_true rfl⟩ rfl hl (Nat.le_of_ble_eq_true rfl) dX4_copyFrom_109 rfl hW hA [5, 2] rfl rfl rfl (ch' := [kX0 g a0 v0, (kX4 g a1 (a0 0) V16).take 8, [(a1 8, .inl (g.2.1, 6, .inl y15))], (kX4 g a1 (a0 0) V16).drop 9, (kX4 g a2 (a3 0) v2).take 8, [(a2 8, .inl (g.2.1, 6, .inl (v2 10)))], (kX4 g a2 (a3 0) v2).drop 9, kX0 g a3 v3]) rfl (fun H locs hW => ?_)
  replace hW := hW.re (ch' := [kX0 g a0 v0, kX4 g a1 (a0 0) (st V16 10 y15), kX4 g a2 (a3 0) v2, kX0 g a3 v3]) rfl
  subst hV16
  refine lv_aload_n hx hb dX4_copyFrom_112 rfl (lv_at hl 1 rfl) ?_
  refine g_get C hW inX4 2 rfl rfl rfl 11 (by decide) (List.mem_of_getElem? (i := 12) rfl) (v := .ref (a2 9)) rfl dX4_copyFrom_113 ?_
  refine lv_aload_n hx hb dX4_copyFrom_116 rfl (lv_at hl 0 rfl) ?_
  refine g_get C hW inX4 1 rfl rfl rfl 11 (by decide) (List.mem_of_getElem? (i := 12) rfl) (v := .ref (a1 9)) rfl dX4_copyFrom_117 ?_
  obtain ⟨y17, hc, hf⟩ := bd_of hf
  obtain ⟨V18, hV18⟩ : ∃ z : MM, z = (st (st (st (st (st (st (st (st (st (st (st v1 0 (fun _ => (v2 0 0))) 1 (fun _ => (v2 1 0))) 2 (fun _ => (v2 2 0))) 3 y1) 4 y3) 5 y5) 6 y7) 7 y9) 8 y11) 9 y13) 10 y15) := ⟨_, rfl⟩
  rw [← hV18] at hW
  replace hc : fX7_copyRow N 6 6 (v2 11) (V18 11) = some y17 := by rw [hV18]; exact hc
  replace hW := hW.re (ch' := [kX0 g a0 v0, (kX4 g a1 (a0 0) V18).take 9, [(a1 9, .inl (g.2.1, 6, .inl (V18 11)))], (kX4 g a1 (a0 0) V18).drop 10, (kX4 g a2 (a3 0) v2).take 9, [(a2 9, .inl (g.2.1, 6, .inl (v2 11)))], (kX4 g a2 (a3 0) v2).drop 10, kX0 g a3 v3]) rfl
  refine g_cSNv C (ct_X7_copyRow g l N (a2 9) (a1 9) 6 6 (v2 11) (V18 11) hc) gX4_copyFrom_X7_copyRow_n71 rfl 2 sn_X4_copyFrom_71_d sn_X4_copyFrom_71_a sn_X4_copyFrom_71_b sn_X4_copyFrom_71_c ⟨rfl, rfl, ⟨Nat.le_of_ble_eq_true rfl, Nat.le_of_ble_eq_true rfl⟩, Nat.le_of_ble_eq_true rfl, Nat.le_of_ble_eq_true rfl⟩ rfl hl (Nat.le_of_ble_eq_true rfl) dX4_copyFrom_120 rfl hW hA [5, 2] rfl rfl rfl (ch' := [kX0 g a0 v0, (kX4 g a1 (a0 0) V18).take 9, [(a1 9, .inl (g.2.1, 6, .inl y17))], (kX4 g a1 (a0 0) V18).drop 10, (kX4 g a2 (a3 0) v2).take 9, [(a2 9, .inl (g.2.1, 6, .inl (v2 11)))], (kX4 g a2 (a3 0) v2).drop 10, kX0 g a3 v3]) rfl (fun H locs hW => ?_)
  replace hW := hW.re (ch' := [kX0 g a0 v0, kX4 g a1 (a0 0) (st V18 11 y17), kX4 g a2 (a3 0) v2, kX0 g a3 v3]) rfl
  subst hV18
  refine lv_aload_n hx hb dX4_copyFrom_123 rfl (lv_at hl 1 rfl) ?_
  refine g_get C hW inX4 2 rfl rfl rfl 12 (by decide) (List.mem_of_getElem? (i := 13) rfl) (v := .ref (a2 10)) rfl dX4_copyFrom_124 ?_
  refine lv_aload_n hx hb dX4_copyFrom_127 rfl (lv_at hl 0 rfl) ?_
  refine g_get C hW inX4 1 rfl rfl rfl 12 (by decide) (List.mem_of_getElem? (i := 13) rfl) (v := .ref (a1 10)) rfl dX4_copyFrom_128 ?_
  obtain ⟨y19, hc, hf⟩ := bd_of hf
  obtain ⟨V20, hV20⟩ : ∃ z : MM, z = (st (st (st (st (st (st (st (st (st (st (st (st v1 0 (fun _ => (v2 0 0))) 1 (fun _ => (v2 1 0))) 2 (fun _ => (v2 2 0))) 3 y1) 4 y3) 5 y5) 6 y7) 7 y9) 8 y11) 9 y13) 10 y15) 11 y17) := ⟨_, rfl⟩
  rw [← hV20] at hW
  replace hc : fX7_copyRow N 6 6 (v2 12) (V20 12) = some y19 := by rw [hV20]; exact hc
  replace hW := hW.re (ch' := [kX0 g a0 v0, (kX4 g a1 (a0 0) V20).take 10, [(a1 10, .inl (g.2.1, 6, .inl (V20 12)))], (kX4 g a1 (a0 0) V20).drop 11, (kX4 g a2 (a3 0) v2).take 10, [(a2 10, .inl (g.2.1, 6, .inl (v2 12)))], (kX4 g a2 (a3 0) v2).drop 11, kX0 g a3 v3]) rfl
  refine g_cSNv C (ct_X7_copyRow g l N (a2 10) (a1 10) 6 6 (v2 12) (V20 12) hc) gX4_copyFrom_X7_copyRow_n71 rfl 2 sn_X4_copyFrom_71_d sn_X4_copyFrom_71_a sn_X4_copyFrom_71_b sn_X4_copyFrom_71_c ⟨rfl, rfl, ⟨Nat.le_of_ble_eq_true rfl, Nat.le_of_ble_eq_true rfl⟩, Nat.le_of_ble_eq_true rfl, Nat.le_of_ble_eq_true rfl⟩ rfl hl (Nat.le_of_ble_eq_true rfl) dX4_copyFrom_131 rfl hW hA [5, 2] rfl rfl rfl (ch' := [kX0 g a0 v0, (kX4 g a1 (a0 0) V20).take 10, [(a1 10, .inl (g.2.1, 6, .inl y19))], (kX4 g a1 (a0 0) V20).drop 11, (kX4 g a2 (a3 0) v2).take 10, [(a2 10, .inl (g.2.1, 6, .inl (v2 12)))], (kX4 g a2 (a3 0) v2).drop 11, kX0 g a3 v3]) rfl (fun H locs hW => ?_)
  replace hW := hW.re (ch' := [kX0 g a0 v0, kX4 g a1 (a0 0) (st V20 12 y19), kX4 g a2 (a3 0) v2, kX0 g a3 v3]) rfl
  subst hV20
  refine lv_aload_n hx hb dX4_copyFrom_134 rfl (lv_at hl 1 rfl) ?_
  refine g_get C hW inX4 2 rfl rfl rfl 13 (by decide) (List.mem_of_getElem? (i := 14) rfl) (v := .ref (a2 11)) rfl dX4_copyFrom_135 ?_
  refine lv_aload_n hx hb dX4_copyFrom_138 rfl (lv_at hl 0 rfl) ?_
  refine g_get C hW inX4 1 rfl rfl rfl 13 (by decide) (List.mem_of_getElem? (i := 14) rfl) (v := .ref (a1 11)) rfl dX4_copyFrom_139 ?_
  obtain ⟨y21, hc, hf⟩ := bd_of hf
  obtain ⟨V22, hV22⟩ : ∃ z : MM, z = (st (st (st (st (st (st (st (st (st (st (st (st (st v1 0 (fun _ => (v2 0 0))) 1 (fun _ => (v2 1 0))) 2 (fun _ => (v2 2 0))) 3 y1) 4 y3) 5 y5) 6 y7) 7 y9) 8 y11) 9 y13) 10 y15) 11 y17) 12 y19) := ⟨_, rfl⟩
  rw [← hV22] at hW
  replace hc : fX7_copyRow N 200 200 (v2 13) (V22 13) = some y21 := by rw [hV22]; exact hc
  replace hW := hW.re (ch' := [kX0 g a0 v0, (kX4 g a1 (a0 0) V22).take 11, [(a1 11, .inl (g.2.1, 200, .inl (V22 13)))], (kX4 g a1 (a0 0) V22).drop 12, (kX4 g a2 (a3 0) v2).take 11, [(a2 11, .inl (g.2.1, 200, .inl (v2 13)))], (kX4 g a2 (a3 0) v2).drop 12, kX0 g a3 v3]) rfl
  refine g_cSNv C (ct_X7_copyRow g l N (a2 11) (a1 11) 200 200 (v2 13) (V22 13) hc) gX4_copyFrom_X7_copyRow_n71 rfl 2 sn_X4_copyFrom_71_d sn_X4_copyFrom_71_a sn_X4_copyFrom_71_b sn_X4_copyFrom_71_c ⟨rfl, rfl, ⟨Nat.le_of_ble_eq_true rfl, Nat.le_of_ble_eq_true rfl⟩, Nat.le_of_ble_eq_true rfl, Nat.le_of_ble_eq_true rfl⟩ rfl hl (Nat.le_of_ble_eq_true rfl) dX4_copyFrom_142 rfl hW hA [5, 2] rfl rfl rfl (ch' := [kX0 g a0 v0, (kX4 g a1 (a0 0) V22).take 11, [(a1 11, .inl (g.2.1, 200, .inl y21))], (kX4 g a1 (a0 0) V22).drop 12, (kX4 g a2 (a3 0) v2).take 11, [(a2 11, .inl (g.2.1, 200, .inl (v2 13)))], (kX4 g a2 (a3 0) v2).drop 12, kX0 g a3 v3]) rfl (fun H locs hW => ?_)
  replace hW := hW.re (ch' := [kX0 g a0 v0, kX4 g a1 (a0 0) (st V22 13 y21), kX4 g a2 (a3 0) v2, kX0 g a3 v3]) rfl
  subst hV22
  refine lv_aload_n hx hb dX4_copyFrom_145 rfl (lv_at hl 0 rfl) ?_
  refine g_get C hW inX4 1 rfl rfl rfl 14 (by decide) (List.mem_of_getElem? (i := 15) rfl) (v := .ref (a0 0)) rfl dX4_copyFrom_146 ?_
  refine lv_aload_n hx hb dX4_copyFrom_149 rfl (lv_at hl 1 rfl) ?_
  refine g_get C hW inX4 2 rfl rfl rfl 14 (by decide) (List.mem_of_getElem? (i := 15) rfl) (v := .ref (a3 0)) rfl dX4_copyFrom_150 ?_
  obtain ⟨y23, hc, hf⟩ := bd_of hf
  refine g_cVv (Cn := RX0) C (ct_X0_copyFrom g l N a0 a3 v0 v3 hc) gX4_copyFrom_X0_copyFrom rfl 1 (by decide +kernel) ⟨rfl, rfl, ⟨Nat.le_of_ble_eq_true rfl, Nat.le_of_ble_eq_true rfl⟩, Nat.le_of_ble_eq_true rfl, Nat.le_of_ble_eq_true rfl⟩ rfl hl (Nat.le_of_ble_eq_true rfl) dX4_copyFrom_153 rfl hW hA [0, 3] rfl rfl rfl (ch' := [kX0 g a0 y23, kX4 g a1 (a0 0) (st (st (st (st (st (st (st (st (st (st (st (st (st (st v1 0 (fun _ => (v2 0 0))) 1 (fun _ => (v2 1 0))) 2 (fun _ => (v2 2 0))) 3 y1) 4 y3) 5 y5) 6 y7) 7 y9) 8 y11) 9 y13) 10 y15) 11 y17) 12 y19) 13 y21), kX4 g a2 (a3 0) v2, kX0 g a3 v3]) rfl 0 rfl rfl rfl (fun H locs hW => ?_)
  obtain rfl := Option.some.inj hf
  subst hQ
  exact g_vret C hr hk0 hW rfl rfl dX4_copyFrom_156
def fJ7_fill_53178_L5 (N : Nat) (k : Int32 → (Nat → Int32) → Option ((Nat → Int32))) (x1 : Int32) (x3 : Int32) (n0 : Nat) : Nat → Int32 → (Nat → Int32) → Option ((Nat → Int32))
  | 0, _, _ => none
  | n + 1, x2, v0 => (if x3 ≤ x2 then k x2 v0 else (if ib x2 n0 = true then fJ7_fill_53178_L5 N k x1 x3 n0 n (x2 + 1) (upd v0 (Int32.toNatClampNeg x2) x1) else none))
def fJ7_fill_53178 (N : Nat) (x1 : Int32) (n0 : Nat) (v0 : Nat → Int32) : Option ((Nat → Int32)) := (fJ7_fill_53178_L5 N (fun (x2_1 : Int32) (v0_1 : (Nat → Int32)) => some v0_1) x1 (Int32.ofNat n0) n0 N (0 : Int32) v0)
set_option maxHeartbeats 4000000 in
set_option maxRecDepth 100000 in
theorem ct_J7_fill_53178 (g : GT) (l : Launch) (N : Nat) (a0 : Nat) (x1 : Int32) (n0 : Nat) (v0 : Nat → Int32) {y : (Nat → Int32)} (hf : fJ7_fill_53178 N x1 n0 v0 = some y) : ct g l yJ7_fill_53178 wsJ7_fill_53178 (rmk 0 0) [.ref a0, .int x1] [[(a0, .inl (g.2.1, n0, .inl v0))]] none [[(a0, .inl (g.2.1, n0, .inl y))]] := by
  refine ct_of (cc := cJ7_fill_53178) (maxL := 4) (ret := none) (by decide) rfl (Nat.le_of_ble_eq_true rfl) ?_
  intro p e s m args below meth c A ls C hr hk0 hA hW hl
  have hx := C.1.1
  have hb := C.1.2.1
  replace hl : lv_has ls 4 [(0, .ref a0), (1, .int x1)] := hl
  obtain ⟨Q, hQ⟩ : ∃ Q, Q = MQ below (ctQ g A none [[(a0, .inl (g.2.1, n0, .inl y))]]) args s 0 0 A := ⟨_, rfl⟩
  rw [← hQ]
  obtain ⟨H, hH⟩ : ∃ H, H = s.heap := ⟨_, rfl⟩
  obtain ⟨locs, hL⟩ : ∃ locs : List Loc, locs = [] := ⟨_, rfl⟩
  replace hW : wd g A s.heap [[(a0, .inl (g.2.1, n0, .inl v0))]] H locs := by rw [hH, hL]; exact hW
  suffices hG : W p l e (rmk 0 0) s m args below meth c H locs 0 0 Q (F0 m 0 ls []) by
    rw [hH, hL] at hG; exact hG
  clear hH hL
  have L5 : ∀ (x1 : Int32) (x3 : Int32) (k : Int32 → (Nat → Int32) → Option ((Nat → Int32))) (hk : ∀ (x2 : Int32) (v0 : (Nat → Int32)) (H : Heap) (locs : List Loc) (ls : Array Slot), k x2 v0 = some y → wd g A s.heap [[(a0, .inl (g.2.1, n0, .inl v0))]] H locs → lv_has ls 4 [(0, .ref a0), (1, .int x1), (2, .int x2), (3, .int x3)] → W p l e (rmk 0 0) s m args below meth c H locs 0 0 Q (F0 m 20 ls [])) (n : Nat) (x2 : Int32) (v0 : (Nat → Int32)) (H : Heap) (locs : List Loc) (ls : Array Slot), fJ7_fill_53178_L5 N k x1 x3 n0 n x2 v0 = some y → wd g A s.heap [[(a0, .inl (g.2.1, n0, .inl v0))]] H locs → lv_has ls 4 [(0, .ref a0), (1, .int x1), (2, .int x2), (3, .int x3)] → W p l e (rmk 0 0) s m args below meth c H locs 0 0 Q (F0 m 5 ls []) := by
    intro x1 x3 k hk n
    induction n with
    | zero => intro x2 v0 H locs ls hf; rw [fJ7_fill_53178_L5] at hf; cases hf
    | succ n ih =>
      intro x2 v0 H locs ls hf hW hl
      rw [fJ7_fill_53178_L5] at hf
      refine lv_iload_n hx hb dJ7_fill_53178_5 rfl (lv_at hl 2 rfl) ?_
      refine lv_iload_n hx hb dJ7_fill_53178_6 rfl (lv_at hl 3 rfl) ?_
      refine lv_icmp_ge (tgt := 20) hx hb dJ7_fill_53178_7 (by decide) (fun h => ?_) (fun h => ?_)
      · replace hf := (if_pos h).symm.trans hf
        exact hk _ _ H locs ls hf hW (lv_sub hl [0, 1, 2, 3] rfl)
      · replace hf := (if_neg h).symm.trans hf
        refine lv_aload_n hx hb dJ7_fill_53178_10 rfl (lv_at hl 0 rfl) ?_
        refine lv_iload_n hx hb dJ7_fill_53178_11 rfl (lv_at hl 2 rfl) ?_
        refine lv_iload_n hx hb dJ7_fill_53178_12 rfl (lv_at hl 1 rfl) ?_
        obtain ⟨hi, hf⟩ := gd_of hf
        refine g_iast C hW 0 0 rfl (f := v0) rfl (ib_in hi) (rfl) (ch' := [[(a0, .inl (g.2.1, n0, .inl (upd v0 (Int32.toNatClampNeg x2) x1)))]]) rfl dJ7_fill_53178_13 (fun H locs hW => ?_)
        refine lv_iinc (v := (x2 + 1)) (lv' := [(2, .int (x2 + 1)), (0, .ref a0), (1, .int x1), (3, .int x3)]) hx hb dJ7_fill_53178_14 hl (k := 2) rfl (by first | rfl | decide) (by decide) rfl (fun ls hl => ?_)
        refine lv_goto (tgt := 5) hx hb dJ7_fill_53178_17 (by decide) ?_
        exact ih _ _ H locs ls hf hW (lv_sub hl [1, 2, 0, 3] rfl)
  rw [fJ7_fill_53178] at hf
  refine lv_iconst (v := (0 : Int32)) hx hb dJ7_fill_53178_0 (by decide) ?_
  refine lv_istore_n (lv' := [(2, .int (0 : Int32)), (0, .ref a0), (1, .int x1)]) hx hb dJ7_fill_53178_1 rfl hl (by decide) rfl (fun ls hl => ?_)
  refine lv_aload_n hx hb dJ7_fill_53178_2 rfl (lv_at hl 1 rfl) ?_
  refine g_alen C hW 0 0 0 rfl rfl rfl (v := (Int32.ofNat n0)) (by first | rfl | decide) dJ7_fill_53178_3 ?_
  refine lv_istore_n (lv' := [(3, .int (Int32.ofNat n0)), (2, .int (0 : Int32)), (0, .ref a0), (1, .int x1)]) hx hb dJ7_fill_53178_4 rfl hl (by decide) rfl (fun ls hl => ?_)
  refine L5 x1 (Int32.ofNat n0) _ (fun x2_1 v0_1 H locs ls hf hW hl => ?_) N (0 : Int32) v0 H locs ls hf hW (lv_sub hl [2, 3, 1, 0] rfl)
  obtain rfl := Option.some.inj hf
  subst hQ
  exact g_vret C hr hk0 hW rfl rfl dJ7_fill_53178_20
def fX4_begin (N : Nat) (x1 : Int32) (v0 : MM) (v1 : MM) : Option (MM × MM) := ((fJ7_fill_53178 N (0 : Int32) 3 (v1 3)).bind (fun y1 => ((fJ7_fill_53178 N (0 : Int32) 3 (v1 4)).bind (fun y3 => ((fJ7_fill_53178 N (0 : Int32) 3 (v1 5)).bind (fun y5 => ((fJ7_fill_53178 N (0 : Int32) 3 (v1 6)).bind (fun y7 => ((fJ7_fill_53178 N (0 : Int32) 3 (v1 7)).bind (fun y9 => ((fJ7_fill_53178 N (0 : Int32) 3 (v1 8)).bind (fun y11 => ((fJ7_fill_53178 N (0 : Int32) 6 (v1 9)).bind (fun y13 => ((fJ7_fill_53178 N (0 : Int32) 6 (v1 10)).bind (fun y15 => ((fJ7_fill_53178 N (0 : Int32) 6 (v1 11)).bind (fun y17 => ((fJ7_fill_53178 N (0 : Int32) 6 (v1 12)).bind (fun y19 => ((fJ7_fill_53178 N (0 : Int32) 200 (v1 13)).bind (fun y21 => some ((st v0 0 (fun _ => (0 : Int32))), (st (st (st (st (st (st (st (st (st (st (st (st (st (st v1 0 (fun _ => (0 : Int32))) 1 (fun _ => x1)) 2 (fun _ => (-9 : Int32))) 3 y1) 4 y3) 5 y5) 6 y7) 7 y9) 8 y11) 9 y13) 10 y15) 11 y17) 12 y19) 13 y21))))))))))))))))))))))))
set_option maxHeartbeats 4000000 in
set_option maxRecDepth 100000 in
theorem ct_X4_begin (g : GT) (l : Launch) (N : Nat) (a0 : Nat → Nat) (a1 : Nat → Nat) (x1 : Int32) (v0 : MM) (v1 : MM) {y : MM × MM} (hf : fX4_begin N x1 v0 v1 = some y) : ct g l yX4_begin wsX4_begin (rmk 1 23) [.ref (a1 0), .int x1] [kX0 g a0 v0, kX4 g a1 (a0 0) v1] none [kX0 g a0 y.1, kX4 g a1 (a0 0) y.2] := by
  refine ct_of (cc := cX4_begin) (maxL := 2) (ret := none) (by decide) rfl (Nat.le_of_ble_eq_true rfl) ?_
  intro p e s m args below meth c A ls C hr hk0 hA hW hl
  have hx := C.1.1
  have hb := C.1.2.1
  replace hl : lv_has ls 2 [(0, .ref (a1 0)), (1, .int x1)] := hl
  obtain ⟨Q, hQ⟩ : ∃ Q, Q = MQ below (ctQ g A none [kX0 g a0 y.1, kX4 g a1 (a0 0) y.2]) args s 0 0 A := ⟨_, rfl⟩
  rw [← hQ]
  obtain ⟨H, hH⟩ : ∃ H, H = s.heap := ⟨_, rfl⟩
  obtain ⟨locs, hL⟩ : ∃ locs : List Loc, locs = [] := ⟨_, rfl⟩
  replace hW : wd g A s.heap [kX0 g a0 v0, kX4 g a1 (a0 0) v1] H locs := by rw [hH, hL]; exact hW
  suffices hG : W p l e (rmk 1 23) s m args below meth c H locs 0 0 Q (F0 m 0 ls []) by
    rw [hH, hL] at hG; exact hG
  clear hH hL
  have inX0 : ∀ w ∈ wsX00, w ∈ wsX4_begin := fun _ h => List.mem_cons_of_mem _ (List.mem_append_right _ (h))
  have inX4 : ∀ w ∈ wsX40, w ∈ wsX4_begin := fun _ h => List.mem_cons_of_mem _ (List.mem_append_left _ (List.mem_append_right _ (h)))
  rw [fX4_begin] at hf
  refine lv_aload_n hx hb dX4_begin_0 rfl (lv_at hl 0 rfl) ?_
  refine lv_iconst (v := (0 : Int32)) hx hb dX4_begin_1 (by decide) ?_
  refine g_put C hW inX4 tyX4_ok nmX4 1 rfl rfl rfl 0 (by decide) (List.mem_of_getElem? (i := 1) rfl) rfl rfl rfl rfl (kX4_s0 g a1 (a0 0) v1 (0 : Int32)) (ch' := [kX0 g a0 v0, kX4 g a1 (a0 0) (st v1 0 (fun _ => (0 : Int32)))]) rfl dX4_begin_2 (fun H locs hW => ?_)
  refine lv_aload_n hx hb dX4_begin_5 rfl (lv_at hl 0 rfl) ?_
  refine lv_iload_n hx hb dX4_begin_6 rfl (lv_at hl 1 rfl) ?_
  refine g_put C hW inX4 tyX4_ok nmX4 1 rfl rfl rfl 1 (by decide) (List.mem_of_getElem? (i := 2) rfl) rfl rfl rfl rfl (kX4_s1 g a1 (a0 0) (st v1 0 (fun _ => (0 : Int32))) x1) (ch' := [kX0 g a0 v0, kX4 g a1 (a0 0) (st (st v1 0 (fun _ => (0 : Int32))) 1 (fun _ => x1))]) rfl dX4_begin_7 (fun H locs hW => ?_)
  refine lv_aload_n hx hb dX4_begin_10 rfl (lv_at hl 0 rfl) ?_
  refine lv_bipush (v := (-9 : Int32)) hx hb dX4_begin_11 (by decide) ?_
  refine g_put C hW inX4 tyX4_ok nmX4 1 rfl rfl rfl 2 (by decide) (List.mem_of_getElem? (i := 3) rfl) rfl rfl rfl rfl (kX4_s2 g a1 (a0 0) (st (st v1 0 (fun _ => (0 : Int32))) 1 (fun _ => x1)) (-9 : Int32)) (ch' := [kX0 g a0 v0, kX4 g a1 (a0 0) (st (st (st v1 0 (fun _ => (0 : Int32))) 1 (fun _ => x1)) 2 (fun _ => (-9 : Int32)))]) rfl dX4_begin_13 (fun H locs hW => ?_)
  refine lv_aload_n hx hb dX4_begin_16 rfl (lv_at hl 0 rfl) ?_
  refine g_get C hW inX4 1 rfl rfl rfl 3 (by decide) (List.mem_of_getElem? (i := 4) rfl) (v := .ref (a1 1)) rfl dX4_begin_17 ?_
  refine lv_iconst (v := (0 : Int32)) hx hb dX4_begin_20 (by decide) ?_
  obtain ⟨y1, hc, hf⟩ := bd_of hf
  obtain ⟨V2, hV2⟩ : ∃ z : MM, z = (st (st (st v1 0 (fun _ => (0 : Int32))) 1 (fun _ => x1)) 2 (fun _ => (-9 : Int32))) := ⟨_, rfl⟩
  rw [← hV2] at hW
  replace hc : fJ7_fill_53178 N (0 : Int32) 3 (V2 3) = some y1 := by rw [hV2]; exact hc
  replace hW := hW.re (ch' := [kX0 g a0 v0, (kX4 g a1 (a0 0) V2).take 1, [(a1 1, .inl (g.2.1, 3, .inl (V2 3)))], (kX4 g a1 (a0 0) V2).drop 2]) rfl
  refine g_cSv C (ct_J7_fill_53178 g l N (a1 1) (0 : Int32) 3 (V2 3) hc) gX4_begin_J7_fill_53178 rfl 2 (by decide +kernel) ⟨rfl, rfl, ⟨Nat.le_of_ble_eq_true rfl, Nat.le_of_ble_eq_true rfl⟩, Nat.le_of_ble_eq_true rfl, Nat.le_of_ble_eq_true rfl⟩ rfl hl (Nat.le_of_ble_eq_true rfl) dX4_begin_21 rfl hW hA [2] rfl rfl rfl (ch' := [kX0 g a0 v0, (kX4 g a1 (a0 0) V2).take 1, [(a1 1, .inl (g.2.1, 3, .inl y1))], (kX4 g a1 (a0 0) V2).drop 2]) rfl (fun H locs hW => ?_)
  replace hW := hW.re (ch' := [kX0 g a0 v0, kX4 g a1 (a0 0) (st V2 3 y1)]) rfl
  subst hV2
  refine lv_aload_n hx hb dX4_begin_24 rfl (lv_at hl 0 rfl) ?_
  refine g_get C hW inX4 1 rfl rfl rfl 4 (by decide) (List.mem_of_getElem? (i := 5) rfl) (v := .ref (a1 2)) rfl dX4_begin_25 ?_
  refine lv_iconst (v := (0 : Int32)) hx hb dX4_begin_28 (by decide) ?_
  obtain ⟨y3, hc, hf⟩ := bd_of hf
  obtain ⟨V4, hV4⟩ : ∃ z : MM, z = (st (st (st (st v1 0 (fun _ => (0 : Int32))) 1 (fun _ => x1)) 2 (fun _ => (-9 : Int32))) 3 y1) := ⟨_, rfl⟩
  rw [← hV4] at hW
  replace hc : fJ7_fill_53178 N (0 : Int32) 3 (V4 4) = some y3 := by rw [hV4]; exact hc
  replace hW := hW.re (ch' := [kX0 g a0 v0, (kX4 g a1 (a0 0) V4).take 2, [(a1 2, .inl (g.2.1, 3, .inl (V4 4)))], (kX4 g a1 (a0 0) V4).drop 3]) rfl
  refine g_cSv C (ct_J7_fill_53178 g l N (a1 2) (0 : Int32) 3 (V4 4) hc) gX4_begin_J7_fill_53178 rfl 2 (by decide +kernel) ⟨rfl, rfl, ⟨Nat.le_of_ble_eq_true rfl, Nat.le_of_ble_eq_true rfl⟩, Nat.le_of_ble_eq_true rfl, Nat.le_of_ble_eq_true rfl⟩ rfl hl (Nat.le_of_ble_eq_true rfl) dX4_begin_29 rfl hW hA [2] rfl rfl rfl (ch' := [kX0 g a0 v0, (kX4 g a1 (a0 0) V4).take 2, [(a1 2, .inl (g.2.1, 3, .inl y3))], (kX4 g a1 (a0 0) V4).drop 3]) rfl (fun H locs hW => ?_)
  replace hW := hW.re (ch' := [kX0 g a0 v0, kX4 g a1 (a0 0) (st V4 4 y3)]) rfl
  subst hV4
  refine lv_aload_n hx hb dX4_begin_32 rfl (lv_at hl 0 rfl) ?_
  refine g_get C hW inX4 1 rfl rfl rfl 5 (by decide) (List.mem_of_getElem? (i := 6) rfl) (v := .ref (a1 3)) rfl dX4_begin_33 ?_
  refine lv_iconst (v := (0 : Int32)) hx hb dX4_begin_36 (by decide) ?_
  obtain ⟨y5, hc, hf⟩ := bd_of hf
  obtain ⟨V6, hV6⟩ : ∃ z : MM, z = (st (st (st (st (st v1 0 (fun _ => (0 : Int32))) 1 (fun _ => x1)) 2 (fun _ => (-9 : Int32))) 3 y1) 4 y3) := ⟨_, rfl⟩
  rw [← hV6] at hW
  replace hc : fJ7_fill_53178 N (0 : Int32) 3 (V6 5) = some y5 := by rw [hV6]; exact hc
  replace hW := hW.re (ch' := [kX0 g a0 v0, (kX4 g a1 (a0 0) V6).take 3, [(a1 3, .inl (g.2.1, 3, .inl (V6 5)))], (kX4 g a1 (a0 0) V6).drop 4]) rfl
  refine g_cSv C (ct_J7_fill_53178 g l N (a1 3) (0 : Int32) 3 (V6 5) hc) gX4_begin_J7_fill_53178 rfl 2 (by decide +kernel) ⟨rfl, rfl, ⟨Nat.le_of_ble_eq_true rfl, Nat.le_of_ble_eq_true rfl⟩, Nat.le_of_ble_eq_true rfl, Nat.le_of_ble_eq_true rfl⟩ rfl hl (Nat.le_of_ble_eq_true rfl) dX4_begin_37 rfl hW hA [2] rfl rfl rfl (ch' := [kX0 g a0 v0, (kX4 g a1 (a0 0) V6).take 3, [(a1 3, .inl (g.2.1, 3, .inl y5))], (kX4 g a1 (a0 0) V6).drop 4]) rfl (fun H locs hW => ?_)
  replace hW := hW.re (ch' := [kX0 g a0 v0, kX4 g a1 (a0 0) (st V6 5 y5)]) rfl
  subst hV6
  refine lv_aload_n hx hb dX4_begin_40 rfl (lv_at hl 0 rfl) ?_
  refine g_get C hW inX4 1 rfl rfl rfl 6 (by decide) (List.mem_of_getElem? (i := 7) rfl) (v := .ref (a1 4)) rfl dX4_begin_41 ?_
  refine lv_iconst (v := (0 : Int32)) hx hb dX4_begin_44 (by decide) ?_
  obtain ⟨y7, hc, hf⟩ := bd_of hf
  obtain ⟨V8, hV8⟩ : ∃ z : MM, z = (st (st (st (st (st (st v1 0 (fun _ => (0 : Int32))) 1 (fun _ => x1)) 2 (fun _ => (-9 : Int32))) 3 y1) 4 y3) 5 y5) := ⟨_, rfl⟩
  rw [← hV8] at hW
  replace hc : fJ7_fill_53178 N (0 : Int32) 3 (V8 6) = some y7 := by rw [hV8]; exact hc
  replace hW := hW.re (ch' := [kX0 g a0 v0, (kX4 g a1 (a0 0) V8).take 4, [(a1 4, .inl (g.2.1, 3, .inl (V8 6)))], (kX4 g a1 (a0 0) V8).drop 5]) rfl
  refine g_cSv C (ct_J7_fill_53178 g l N (a1 4) (0 : Int32) 3 (V8 6) hc) gX4_begin_J7_fill_53178 rfl 2 (by decide +kernel) ⟨rfl, rfl, ⟨Nat.le_of_ble_eq_true rfl, Nat.le_of_ble_eq_true rfl⟩, Nat.le_of_ble_eq_true rfl, Nat.le_of_ble_eq_true rfl⟩ rfl hl (Nat.le_of_ble_eq_true rfl) dX4_begin_45 rfl hW hA [2] rfl rfl rfl (ch' := [kX0 g a0 v0, (kX4 g a1 (a0 0) V8).take 4, [(a1 4, .inl (g.2.1, 3, .inl y7))], (kX4 g a1 (a0 0) V8).drop 5]) rfl (fun H locs hW => ?_)
  replace hW := hW.re (ch' := [kX0 g a0 v0, kX4 g a1 (a0 0) (st V8 6 y7)]) rfl
  subst hV8
  refine lv_aload_n hx hb dX4_begin_48 rfl (lv_at hl 0 rfl) ?_
  refine g_get C hW inX4 1 rfl rfl rfl 7 (by decide) (List.mem_of_getElem? (i := 8) rfl) (v := .ref (a1 5)) rfl dX4_begin_49 ?_
  refine lv_iconst (v := (0 : Int32)) hx hb dX4_begin_52 (by decide) ?_
  obtain ⟨y9, hc, hf⟩ := bd_of hf
  obtain ⟨V10, hV10⟩ : ∃ z : MM, z = (st (st (st (st (st (st (st v1 0 (fun _ => (0 : Int32))) 1 (fun _ => x1)) 2 (fun _ => (-9 : Int32))) 3 y1) 4 y3) 5 y5) 6 y7) := ⟨_, rfl⟩
  rw [← hV10] at hW
  replace hc : fJ7_fill_53178 N (0 : Int32) 3 (V10 7) = some y9 := by rw [hV10]; exact hc
  replace hW := hW.re (ch' := [kX0 g a0 v0, (kX4 g a1 (a0 0) V10).take 5, [(a1 5, .inl (g.2.1, 3, .inl (V10 7)))], (kX4 g a1 (a0 0) V10).drop 6]) rfl
  refine g_cSv C (ct_J7_fill_53178 g l N (a1 5) (0 : Int32) 3 (V10 7) hc) gX4_begin_J7_fill_53178 rfl 2 (by decide +kernel) ⟨rfl, rfl, ⟨Nat.le_of_ble_eq_true rfl, Nat.le_of_ble_eq_true rfl⟩, Nat.le_of_ble_eq_true rfl, Nat.le_of_ble_eq_true rfl⟩ rfl hl (Nat.le_of_ble_eq_true rfl) dX4_begin_53 rfl hW hA [2] rfl rfl rfl (ch' := [kX0 g a0 v0, (kX4 g a1 (a0 0) V10).take 5, [(a1 5, .inl (g.2.1, 3, .inl y9))], (kX4 g a1 (a0 0) V10).drop 6]) rfl (fun H locs hW => ?_)
  replace hW := hW.re (ch' := [kX0 g a0 v0, kX4 g a1 (a0 0) (st V10 7 y9)]) rfl
  subst hV10
  refine lv_aload_n hx hb dX4_begin_56 rfl (lv_at hl 0 rfl) ?_
  refine g_get C hW inX4 1 rfl rfl rfl 8 (by decide) (List.mem_of_getElem? (i := 9) rfl) (v := .ref (a1 6)) rfl dX4_begin_57 ?_
  refine lv_iconst (v := (0 : Int32)) hx hb dX4_begin_60 (by decide) ?_
  obtain ⟨y11, hc, hf⟩ := bd_of hf
  obtain ⟨V12, hV12⟩ : ∃ z : MM, z = (st (st (st (st (st (st (st (st v1 0 (fun _ => (0 : Int32))) 1 (fun _ => x1)) 2 (fun _ => (-9 : Int32))) 3 y1) 4 y3) 5 y5) 6 y7) 7 y9) := ⟨_, rfl⟩
  rw [← hV12] at hW
  replace hc : fJ7_fill_53178 N (0 : Int32) 3 (V12 8) = some y11 := by rw [hV12]; exact hc
  replace hW := hW.re (ch' := [kX0 g a0 v0, (kX4 g a1 (a0 0) V12).take 6, [(a1 6, .inl (g.2.1, 3, .inl (V12 8)))], (kX4 g a1 (a0 0) V12).drop 7]) rfl
  refine g_cSv C (ct_J7_fill_53178 g l N (a1 6) (0 : Int32) 3 (V12 8) hc) gX4_begin_J7_fill_53178 rfl 2 (by decide +kernel) ⟨rfl, rfl, ⟨Nat.le_of_ble_eq_true rfl, Nat.le_of_ble_eq_true rfl⟩, Nat.le_of_ble_eq_true rfl, Nat.le_of_ble_eq_true rfl⟩ rfl hl (Nat.le_of_ble_eq_true rfl) dX4_begin_61 rfl hW hA [2] rfl rfl rfl (ch' := [kX0 g a0 v0, (kX4 g a1 (a0 0) V12).take 6, [(a1 6, .inl (g.2.1, 3, .inl y11))], (kX4 g a1 (a0 0) V12).drop 7]) rfl (fun H locs hW => ?_)
  replace hW := hW.re (ch' := [kX0 g a0 v0, kX4 g a1 (a0 0) (st V12 8 y11)]) rfl
  subst hV12
  refine lv_aload_n hx hb dX4_begin_64 rfl (lv_at hl 0 rfl) ?_
  refine g_get C hW inX4 1 rfl rfl rfl 9 (by decide) (List.mem_of_getElem? (i := 10) rfl) (v := .ref (a1 7)) rfl dX4_begin_65 ?_
  refine lv_iconst (v := (0 : Int32)) hx hb dX4_begin_68 (by decide) ?_
  obtain ⟨y13, hc, hf⟩ := bd_of hf
  obtain ⟨V14, hV14⟩ : ∃ z : MM, z = (st (st (st (st (st (st (st (st (st v1 0 (fun _ => (0 : Int32))) 1 (fun _ => x1)) 2 (fun _ => (-9 : Int32))) 3 y1) 4 y3) 5 y5) 6 y7) 7 y9) 8 y11) := ⟨_, rfl⟩
  rw [← hV14] at hW
  replace hc : fJ7_fill_53178 N (0 : Int32) 6 (V14 9) = some y13 := by rw [hV14]; exact hc
  replace hW := hW.re (ch' := [kX0 g a0 v0, (kX4 g a1 (a0 0) V14).take 7, [(a1 7, .inl (g.2.1, 6, .inl (V14 9)))], (kX4 g a1 (a0 0) V14).drop 8]) rfl
  refine g_cSv C (ct_J7_fill_53178 g l N (a1 7) (0 : Int32) 6 (V14 9) hc) gX4_begin_J7_fill_53178 rfl 2 (by decide +kernel) ⟨rfl, rfl, ⟨Nat.le_of_ble_eq_true rfl, Nat.le_of_ble_eq_true rfl⟩, Nat.le_of_ble_eq_true rfl, Nat.le_of_ble_eq_true rfl⟩ rfl hl (Nat.le_of_ble_eq_true rfl) dX4_begin_69 rfl hW hA [2] rfl rfl rfl (ch' := [kX0 g a0 v0, (kX4 g a1 (a0 0) V14).take 7, [(a1 7, .inl (g.2.1, 6, .inl y13))], (kX4 g a1 (a0 0) V14).drop 8]) rfl (fun H locs hW => ?_)
  replace hW := hW.re (ch' := [kX0 g a0 v0, kX4 g a1 (a0 0) (st V14 9 y13)]) rfl
  subst hV14
  refine lv_aload_n hx hb dX4_begin_72 rfl (lv_at hl 0 rfl) ?_
  refine g_get C hW inX4 1 rfl rfl rfl 10 (by decide) (List.mem_of_getElem? (i := 11) rfl) (v := .ref (a1 8)) rfl dX4_begin_73 ?_
  refine lv_iconst (v := (0 : Int32)) hx hb dX4_begin_76 (by decide) ?_
  obtain ⟨y15, hc, hf⟩ := bd_of hf
  obtain ⟨V16, hV16⟩ : ∃ z : MM, z = (st (st (st (st (st (st (st (st (st (st v1 0 (fun _ => (0 : Int32))) 1 (fun _ => x1)) 2 (fun _ => (-9 : Int32))) 3 y1) 4 y3) 5 y5) 6 y7) 7 y9) 8 y11) 9 y13) := ⟨_, rfl⟩
  rw [← hV16] at hW
  replace hc : fJ7_fill_53178 N (0 : Int32) 6 (V16 10) = some y15 := by rw [hV16]; exact hc
  replace hW := hW.re (ch' := [kX0 g a0 v0, (kX4 g a1 (a0 0) V16).take 8, [(a1 8, .inl (g.2.1, 6, .inl (V16 10)))], (kX4 g a1 (a0 0) V16).drop 9]) rfl
  refine g_cSv C (ct_J7_fill_53178 g l N (a1 8) (0 : Int32) 6 (V16 10) hc) gX4_begin_J7_fill_53178 rfl 2 (by decide +kernel) ⟨rfl, rfl, ⟨Nat.le_of_ble_eq_true rfl, Nat.le_of_ble_eq_true rfl⟩, Nat.le_of_ble_eq_true rfl, Nat.le_of_ble_eq_true rfl⟩ rfl hl (Nat.le_of_ble_eq_true rfl) dX4_begin_77 rfl hW hA [2] rfl rfl rfl (ch' := [kX0 g a0 v0, (kX4 g a1 (a0 0) V16).take 8, [(a1 8, .inl (g.2.1, 6, .inl y15))], (kX4 g a1 (a0 0) V16).drop 9]) rfl (fun H locs hW => ?_)
  replace hW := hW.re (ch' := [kX0 g a0 v0, kX4 g a1 (a0 0) (st V16 10 y15)]) rfl
  subst hV16
  refine lv_aload_n hx hb dX4_begin_80 rfl (lv_at hl 0 rfl) ?_
  refine g_get C hW inX4 1 rfl rfl rfl 11 (by decide) (List.mem_of_getElem? (i := 12) rfl) (v := .ref (a1 9)) rfl dX4_begin_81 ?_
  refine lv_iconst (v := (0 : Int32)) hx hb dX4_begin_84 (by decide) ?_
  obtain ⟨y17, hc, hf⟩ := bd_of hf
  obtain ⟨V18, hV18⟩ : ∃ z : MM, z = (st (st (st (st (st (st (st (st (st (st (st v1 0 (fun _ => (0 : Int32))) 1 (fun _ => x1)) 2 (fun _ => (-9 : Int32))) 3 y1) 4 y3) 5 y5) 6 y7) 7 y9) 8 y11) 9 y13) 10 y15) := ⟨_, rfl⟩
  rw [← hV18] at hW
  replace hc : fJ7_fill_53178 N (0 : Int32) 6 (V18 11) = some y17 := by rw [hV18]; exact hc
  replace hW := hW.re (ch' := [kX0 g a0 v0, (kX4 g a1 (a0 0) V18).take 9, [(a1 9, .inl (g.2.1, 6, .inl (V18 11)))], (kX4 g a1 (a0 0) V18).drop 10]) rfl
  refine g_cSv C (ct_J7_fill_53178 g l N (a1 9) (0 : Int32) 6 (V18 11) hc) gX4_begin_J7_fill_53178 rfl 2 (by decide +kernel) ⟨rfl, rfl, ⟨Nat.le_of_ble_eq_true rfl, Nat.le_of_ble_eq_true rfl⟩, Nat.le_of_ble_eq_true rfl, Nat.le_of_ble_eq_true rfl⟩ rfl hl (Nat.le_of_ble_eq_true rfl) dX4_begin_85 rfl hW hA [2] rfl rfl rfl (ch' := [kX0 g a0 v0, (kX4 g a1 (a0 0) V18).take 9, [(a1 9, .inl (g.2.1, 6, .inl y17))], (kX4 g a1 (a0 0) V18).drop 10]) rfl (fun H locs hW => ?_)
  replace hW := hW.re (ch' := [kX0 g a0 v0, kX4 g a1 (a0 0) (st V18 11 y17)]) rfl
  subst hV18
  refine lv_aload_n hx hb dX4_begin_88 rfl (lv_at hl 0 rfl) ?_
  refine g_get C hW inX4 1 rfl rfl rfl 12 (by decide) (List.mem_of_getElem? (i := 13) rfl) (v := .ref (a1 10)) rfl dX4_begin_89 ?_
  refine lv_iconst (v := (0 : Int32)) hx hb dX4_begin_92 (by decide) ?_
  obtain ⟨y19, hc, hf⟩ := bd_of hf
  obtain ⟨V20, hV20⟩ : ∃ z : MM, z = (st (st (st (st (st (st (st (st (st (st (st (st v1 0 (fun _ => (0 : Int32))) 1 (fun _ => x1)) 2 (fun _ => (-9 : Int32))) 3 y1) 4 y3) 5 y5) 6 y7) 7 y9) 8 y11) 9 y13) 10 y15) 11 y17) := ⟨_, rfl⟩
  rw [← hV20] at hW
  replace hc : fJ7_fill_53178 N (0 : Int32) 6 (V20 12) = some y19 := by rw [hV20]; exact hc
  replace hW := hW.re (ch' := [kX0 g a0 v0, (kX4 g a1 (a0 0) V20).take 10, [(a1 10, .inl (g.2.1, 6, .inl (V20 12)))], (kX4 g a1 (a0 0) V20).drop 11]) rfl
  refine g_cSv C (ct_J7_fill_53178 g l N (a1 10) (0 : Int32) 6 (V20 12) hc) gX4_begin_J7_fill_53178 rfl 2 (by decide +kernel) ⟨rfl, rfl, ⟨Nat.le_of_ble_eq_true rfl, Nat.le_of_ble_eq_true rfl⟩, Nat.le_of_ble_eq_true rfl, Nat.le_of_ble_eq_true rfl⟩ rfl hl (Nat.le_of_ble_eq_true rfl) dX4_begin_93 rfl hW hA [2] rfl rfl rfl (ch' := [kX0 g a0 v0, (kX4 g a1 (a0 0) V20).take 10, [(a1 10, .inl (g.2.1, 6, .inl y19))], (kX4 g a1 (a0 0) V20).drop 11]) rfl (fun H locs hW => ?_)
  replace hW := hW.re (ch' := [kX0 g a0 v0, kX4 g a1 (a0 0) (st V20 12 y19)]) rfl
  subst hV20
  refine lv_aload_n hx hb dX4_begin_96 rfl (lv_at hl 0 rfl) ?_
  refine g_get C hW inX4 1 rfl rfl rfl 13 (by decide) (List.mem_of_getElem? (i := 14) rfl) (v := .ref (a1 11)) rfl dX4_begin_97 ?_
  refine lv_iconst (v := (0 : Int32)) hx hb dX4_begin_100 (by decide) ?_
  obtain ⟨y21, hc, hf⟩ := bd_of hf
  obtain ⟨V22, hV22⟩ : ∃ z : MM, z = (st (st (st (st (st (st (st (st (st (st (st (st (st v1 0 (fun _ => (0 : Int32))) 1 (fun _ => x1)) 2 (fun _ => (-9 : Int32))) 3 y1) 4 y3) 5 y5) 6 y7) 7 y9) 8 y11) 9 y13) 10 y15) 11 y17) 12 y19) := ⟨_, rfl⟩
  rw [← hV22] at hW
  replace hc : fJ7_fill_53178 N (0 : Int32) 200 (V22 13) = some y21 := by rw [hV22]; exact hc
  replace hW := hW.re (ch' := [kX0 g a0 v0, (kX4 g a1 (a0 0) V22).take 11, [(a1 11, .inl (g.2.1, 200, .inl (V22 13)))], (kX4 g a1 (a0 0) V22).drop 12]) rfl
  refine g_cSv C (ct_J7_fill_53178 g l N (a1 11) (0 : Int32) 200 (V22 13) hc) gX4_begin_J7_fill_53178 rfl 2 (by decide +kernel) ⟨rfl, rfl, ⟨Nat.le_of_ble_eq_true rfl, Nat.le_of_ble_eq_true rfl⟩, Nat.le_of_ble_eq_true rfl, Nat.le_of_ble_eq_true rfl⟩ rfl hl (Nat.le_of_ble_eq_true rfl) dX4_begin_101 rfl hW hA [2] rfl rfl rfl (ch' := [kX0 g a0 v0, (kX4 g a1 (a0 0) V22).take 11, [(a1 11, .inl (g.2.1, 200, .inl y21))], (kX4 g a1 (a0 0) V22).drop 12]) rfl (fun H locs hW => ?_)
  replace hW := hW.re (ch' := [kX0 g a0 v0, kX4 g a1 (a0 0) (st V22 13 y21)]) rfl
  subst hV22
  refine lv_aload_n hx hb dX4_begin_104 rfl (lv_at hl 0 rfl) ?_
  refine g_get C hW inX4 1 rfl rfl rfl 14 (by decide) (List.mem_of_getElem? (i := 15) rfl) (v := .ref (a0 0)) rfl dX4_begin_105 ?_
  refine lv_iconst (v := (0 : Int32)) hx hb dX4_begin_108 (by decide) ?_
  refine g_put C hW inX0 tyX0_ok nmX0 0 rfl rfl rfl 0 (by decide) (List.mem_of_getElem? (i := 16) rfl) rfl rfl rfl rfl (kX0_s0 g a0 v0 (0 : Int32)) (ch' := [kX0 g a0 (st v0 0 (fun _ => (0 : Int32))), kX4 g a1 (a0 0) (st (st (st (st (st (st (st (st (st (st (st (st (st (st v1 0 (fun _ => (0 : Int32))) 1 (fun _ => x1)) 2 (fun _ => (-9 : Int32))) 3 y1) 4 y3) 5 y5) 6 y7) 7 y9) 8 y11) 9 y13) 10 y15) 11 y17) 12 y19) 13 y21)]) rfl dX4_begin_109 (fun H locs hW => ?_)
  obtain rfl := Option.some.inj hf
  subst hQ
  exact g_vret C hr hk0 hW rfl rfl dX4_begin_112
def fX5_send (N : Nat) (x1 : Int32) (x2 : Int32) (v0 : MM) (v1 : MM) (v2 : MM) (v3 : MM) : Option (MM × MM) := ((fX0_countSending N x1 v2).bind (fun y1 => ((fX4_isDeaf N x2 (v1 0 0) v1).bind (fun y2 => (if y2 = 0 then ((fX0_reportOf N x1 y1.2).bind (fun y7 => (if ib x2 3 = true then ((fX0_allLetters N x1 y1.2).bind (fun y8 => (if y7 = (-9 : Int32) then (if ib x2 3 = true then ((fX0_addLettersTo N x1 6 y1.2 (v1 11)).bind (fun y12 => ((fX0_markGone N x1 y1.2).bind (fun y14 => some ((st (st v1 6 (upd (v1 6) (Int32.toNatClampNeg x2) (if (0 : Int32) < (((v1 6) (Int32.toNatClampNeg x2)) - y8) then (((v1 6) (Int32.toNatClampNeg x2)) - y8) else (0 : Int32)))) 11 y12), y14))))) else none) else (if ib x2 3 = true then ((fX0_addLettersTo N x1 6 y1.2 (v1 11)).bind (fun y9 => ((fX0_markGone N x1 y1.2).bind (fun y11 => some ((st (st v1 6 (upd (v1 6) (Int32.toNatClampNeg x2) y7)) 11 y9), y11))))) else none)))) else none))) else (if (v0 5 0) ≤ y1.1 then (if ib x2 3 = true then ((fX0_addLettersTo N x1 6 y1.2 (v1 12)).bind (fun y3 => ((fX0_markGone N x1 y1.2).bind (fun y5 => some ((st (st v1 3 (upd (v1 3) (Int32.toNatClampNeg x2) (1 : Int32))) 12 y3), y5))))) else none) else ((fX0_putDue N x1 ((v1 0 0) + (v0 4 0)) y1.2).bind (fun y6 => some (v1, y6)))))))))
set_option maxHeartbeats 4000000 in
set_option maxRecDepth 100000 in
theorem ct_X5_send (g : GT) (l : Launch) (N : Nat) (a0 : Nat → Nat) (a1 : Nat → Nat) (a2 : Nat → Nat) (a3 : Nat → Nat) (x1 : Int32) (x2 : Int32) (v0 : MM) (v1 : MM) (v2 : MM) (v3 : MM) {y : MM × MM} (hf : fX5_send N x1 x2 v0 v1 v2 v3 = some y) : ct g l yX5_send wsX5_send (rmk 1 25) [.ref (a3 0), .int x1, .int x2] [kX3 g a0 v0, kX4 g a1 (a2 0) v1, kX0 g a2 v2, kX5 g a3 (a0 0) (a1 0) v3] none [kX3 g a0 v0, kX4 g a1 (a2 0) y.1, kX0 g a2 y.2, kX5 g a3 (a0 0) (a1 0) v3] := by
  refine ct_of (cc := cX5_send) (maxL := 7) (ret := none) (by decide) rfl (Nat.le_of_ble_eq_true rfl) ?_
  intro p e s m args below meth c A ls C hr hk0 hA hW hl
  have hx := C.1.1
  have hb := C.1.2.1
  replace hl : lv_has ls 7 [(0, .ref (a3 0)), (1, .int x1), (2, .int x2)] := hl
  obtain ⟨Q, hQ⟩ : ∃ Q, Q = MQ below (ctQ g A none [kX3 g a0 v0, kX4 g a1 (a2 0) y.1, kX0 g a2 y.2, kX5 g a3 (a0 0) (a1 0) v3]) args s 0 0 A := ⟨_, rfl⟩
  rw [← hQ]
  obtain ⟨H, hH⟩ : ∃ H, H = s.heap := ⟨_, rfl⟩
  obtain ⟨locs, hL⟩ : ∃ locs : List Loc, locs = [] := ⟨_, rfl⟩
  replace hW : wd g A s.heap [kX3 g a0 v0, kX4 g a1 (a2 0) v1, kX0 g a2 v2, kX5 g a3 (a0 0) (a1 0) v3] H locs := by rw [hH, hL]; exact hW
  suffices hG : W p l e (rmk 1 25) s m args below meth c H locs 0 0 Q (F0 m 0 ls []) by
    rw [hH, hL] at hG; exact hG
  clear hH hL
  have inX3 : ∀ w ∈ wsX30, w ∈ wsX5_send := fun _ h => List.mem_cons_of_mem _ (List.mem_append_left _ (List.mem_append_right _ (h)))
  have inX4 : ∀ w ∈ wsX40, w ∈ wsX5_send := fun _ h => List.mem_cons_of_mem _ (List.mem_append_left _ (List.mem_append_left _ (List.mem_append_right _ (h))))
  have inX5 : ∀ w ∈ wsX50, w ∈ wsX5_send := fun _ h => List.mem_cons_of_mem _ (List.mem_append_left _ (List.mem_append_left _ (List.mem_append_left _ (List.mem_append_right _ (h)))))
  rw [fX5_send] at hf
  refine lv_aload_n hx hb dX5_send_0 rfl (lv_at hl 0 rfl) ?_
  refine g_get C hW inX5 3 rfl rfl rfl 1 (by decide) (List.mem_of_getElem? (i := 1) rfl) (v := .ref (a1 0)) rfl dX5_send_1 ?_
  refine g_get C hW inX4 1 rfl rfl rfl 14 (by decide) (List.mem_of_getElem? (i := 2) rfl) (v := .ref (a2 0)) rfl dX5_send_4 ?_
  refine lv_astore_n (lv' := [(3, .ref (a2 0)), (0, .ref (a3 0)), (1, .int x1), (2, .int x2)]) hx hb dX5_send_7 rfl hl (by decide) rfl (fun ls hl => ?_)
  refine lv_aload_n hx hb dX5_send_8 rfl (lv_at hl 0 rfl) ?_
  refine lv_iload_n hx hb dX5_send_9 rfl (lv_at hl 2 rfl) ?_
  obtain ⟨y1, hc, hf⟩ := bd_of hf
  refine g_cV (Cn := RX0) C (ct_X0_countSending g l N a2 x1 v2 hc) gX5_send_X0_countSending rfl 1 (by decide +kernel) ⟨rfl, rfl, ⟨Nat.le_of_ble_eq_true rfl, Nat.le_of_ble_eq_true rfl⟩, Nat.le_of_ble_eq_true rfl, Nat.le_of_ble_eq_true rfl⟩ rfl hl (Nat.le_of_ble_eq_true rfl) dX5_send_10 rfl hW hA [2] rfl rfl rfl (ch' := [kX3 g a0 v0, kX4 g a1 (a2 0) v1, kX0 g a2 y1.2, kX5 g a3 (a0 0) (a1 0) v3]) rfl 2 rfl rfl rfl (fun H locs hW => ?_)
  refine lv_istore (lv' := [(4, .int y1.1), (3, .ref (a2 0)), (0, .ref (a3 0)), (1, .int x1), (2, .int x2)]) hx hb dX5_send_13 hl (by decide) rfl (fun ls hl => ?_)
  refine lv_aload_n hx hb dX5_send_15 rfl (lv_at hl 2 rfl) ?_
  refine g_get C hW inX5 3 rfl rfl rfl 1 (by decide) (List.mem_of_getElem? (i := 1) rfl) (v := .ref (a1 0)) rfl dX5_send_16 ?_
  refine lv_iload_n hx hb dX5_send_19 rfl (lv_at hl 4 rfl) ?_
  refine lv_aload_n hx hb dX5_send_20 rfl (lv_at hl 2 rfl) ?_
  refine g_get C hW inX5 3 rfl rfl rfl 1 (by decide) (List.mem_of_getElem? (i := 1) rfl) (v := .ref (a1 0)) rfl dX5_send_21 ?_
  refine g_get C hW inX4 1 rfl rfl rfl 0 (by decide) (List.mem_of_getElem? (i := 3) rfl) (v := .int (v1 0 0)) rfl dX5_send_24 ?_
  obtain ⟨y2, hc, hf⟩ := bd_of hf
  refine g_cV (Cn := RX4) C (ct_X4_isDeaf g l N a1 (a2 0) x2 (v1 0 0) v1 hc) gX5_send_X4_isDeaf rfl 2 (by decide +kernel) ⟨rfl, rfl, ⟨Nat.le_of_ble_eq_true rfl, Nat.le_of_ble_eq_true rfl⟩, Nat.le_of_ble_eq_true rfl, Nat.le_of_ble_eq_true rfl⟩ rfl hl (Nat.le_of_ble_eq_true rfl) dX5_send_27 rfl hW hA [1] rfl rfl rfl (ch' := [kX3 g a0 v0, kX4 g a1 (a2 0) v1, kX0 g a2 y1.2, kX5 g a3 (a0 0) (a1 0) v3]) rfl 1 rfl rfl rfl (fun H locs hW => ?_)
  refine lv_if_ne (tgt := 104) hx hb dX5_send_30 (by decide) (fun h => ?_) (fun h => ?_)
  · replace hf := (if_neg h).symm.trans hf
    refine lv_iload hx hb dX5_send_104 (lv_at hl 0 rfl) ?_
    refine lv_aload_n hx hb dX5_send_106 rfl (lv_at hl 2 rfl) ?_
    refine g_get C hW inX5 3 rfl rfl rfl 0 (by decide) (List.mem_of_getElem? (i := 10) rfl) (v := .ref (a0 0)) rfl dX5_send_107 ?_
    refine g_get C hW inX3 0 rfl rfl rfl 5 (by decide) (List.mem_of_getElem? (i := 11) rfl) (v := .int (v0 5 0)) rfl dX5_send_110 ?_
    refine lv_icmp_ge (tgt := 139) hx hb dX5_send_113 (by decide) (fun h => ?_) (fun h => ?_)
    · replace hf := (if_pos h).symm.trans hf
      refine lv_aload_n hx hb dX5_send_139 rfl (lv_at hl 2 rfl) ?_
      refine g_get C hW inX5 3 rfl rfl rfl 1 (by decide) (List.mem_of_getElem? (i := 1) rfl) (v := .ref (a1 0)) rfl dX5_send_140 ?_
      refine g_get C hW inX4 1 rfl rfl rfl 3 (by decide) (List.mem_of_getElem? (i := 13) rfl) (v := .ref (a1 1)) rfl dX5_send_143 ?_
      refine lv_iload_n hx hb dX5_send_146 rfl (lv_at hl 4 rfl) ?_
      refine lv_iconst (v := (1 : Int32)) hx hb dX5_send_147 (by decide) ?_
      obtain ⟨hi, hf⟩ := gd_of hf
      refine g_iast C hW 1 1 rfl (f := (v1 3)) rfl (ib_in hi) (kX4_w3 g a1 (a2 0) v1 (upd (v1 3) (Int32.toNatClampNeg x2) (1 : Int32))) (ch' := [kX3 g a0 v0, kX4 g a1 (a2 0) (st v1 3 (upd (v1 3) (Int32.toNatClampNeg x2) (1 : Int32))), kX0 g a2 y1.2, kX5 g a3 (a0 0) (a1 0) v3]) rfl dX5_send_148 (fun H locs hW => ?_)
      refine lv_aload_n hx hb dX5_send_149 rfl (lv_at hl 1 rfl) ?_
      refine lv_aload_n hx hb dX5_send_150 rfl (lv_at hl 2 rfl) ?_
      refine g_get C hW inX5 3 rfl rfl rfl 1 (by decide) (List.mem_of_getElem? (i := 1) rfl) (v := .ref (a1 0)) rfl dX5_send_151 ?_
      refine g_get C hW inX4 1 rfl rfl rfl 12 (by decide) (List.mem_of_getElem? (i := 14) rfl) (v := .ref (a1 10)) rfl dX5_send_154 ?_
      refine lv_iload_n hx hb dX5_send_157 rfl (lv_at hl 3 rfl) ?_
      obtain ⟨y3, hc, hf⟩ := bd_of hf
      obtain ⟨V4, hV4⟩ : ∃ z : MM, z = (st v1 3 (upd (v1 3) (Int32.toNatClampNeg x2) (1 : Int32))) := ⟨_, rfl⟩
      rw [← hV4] at hW
      replace hc : fX0_addLettersTo N x1 6 y1.2 (V4 12) = some y3 := by rw [hV4]; exact hc
      replace hW := hW.re (ch' := [kX3 g a0 v0, (kX4 g a1 (a2 0) V4).take 10, [(a1 10, .inl (g.2.1, 6, .inl (V4 12)))], (kX4 g a1 (a2 0) V4).drop 11, kX0 g a2 y1.2, kX5 g a3 (a0 0) (a1 0) v3]) rfl
      refine g_cVv (Cn := RX0) C (ct_X0_addLettersTo g l N a2 (a1 10) x1 6 y1.2 (V4 12) hc) gX5_send_X0_addLettersTo rfl 2 (by decide +kernel) ⟨rfl, rfl, ⟨Nat.le_of_ble_eq_true rfl, Nat.le_of_ble_eq_true rfl⟩, Nat.le_of_ble_eq_true rfl, Nat.le_of_ble_eq_true rfl⟩ rfl hl (Nat.le_of_ble_eq_true rfl) dX5_send_158 rfl hW hA [4, 2] rfl rfl rfl (ch' := [kX3 g a0 v0, (kX4 g a1 (a2 0) V4).take 10, [(a1 10, .inl (g.2.1, 6, .inl y3))], (kX4 g a1 (a2 0) V4).drop 11, kX0 g a2 y1.2, kX5 g a3 (a0 0) (a1 0) v3]) rfl 4 rfl rfl rfl (fun H locs hW => ?_)
      replace hW := hW.re (ch' := [kX3 g a0 v0, kX4 g a1 (a2 0) (st V4 12 y3), kX0 g a2 y1.2, kX5 g a3 (a0 0) (a1 0) v3]) rfl
      subst hV4
      refine lv_aload_n hx hb dX5_send_161 rfl (lv_at hl 1 rfl) ?_
      refine lv_iload_n hx hb dX5_send_162 rfl (lv_at hl 3 rfl) ?_
      obtain ⟨y5, hc, hf⟩ := bd_of hf
      refine g_cVv (Cn := RX0) C (ct_X0_markGone g l N a2 x1 y1.2 hc) gX5_send_X0_markGone rfl 1 (by decide +kernel) ⟨rfl, rfl, ⟨Nat.le_of_ble_eq_true rfl, Nat.le_of_ble_eq_true rfl⟩, Nat.le_of_ble_eq_true rfl, Nat.le_of_ble_eq_true rfl⟩ rfl hl (Nat.le_of_ble_eq_true rfl) dX5_send_163 rfl hW hA [2] rfl rfl rfl (ch' := [kX3 g a0 v0, kX4 g a1 (a2 0) (st (st v1 3 (upd (v1 3) (Int32.toNatClampNeg x2) (1 : Int32))) 12 y3), kX0 g a2 y5, kX5 g a3 (a0 0) (a1 0) v3]) rfl 2 rfl rfl rfl (fun H locs hW => ?_)
      obtain rfl := Option.some.inj hf
      subst hQ
      exact g_vret C hr hk0 hW rfl rfl dX5_send_166
    · replace hf := (if_neg h).symm.trans hf
      refine lv_aload_n hx hb dX5_send_116 rfl (lv_at hl 1 rfl) ?_
      refine lv_iload_n hx hb dX5_send_117 rfl (lv_at hl 3 rfl) ?_
      refine lv_aload_n hx hb dX5_send_118 rfl (lv_at hl 2 rfl) ?_
      refine g_get C hW inX5 3 rfl rfl rfl 1 (by decide) (List.mem_of_getElem? (i := 1) rfl) (v := .ref (a1 0)) rfl dX5_send_119 ?_
      refine g_get C hW inX4 1 rfl rfl rfl 0 (by decide) (List.mem_of_getElem? (i := 3) rfl) (v := .int (v1 0 0)) rfl dX5_send_122 ?_
      refine lv_aload_n hx hb dX5_send_125 rfl (lv_at hl 2 rfl) ?_
      refine g_get C hW inX5 3 rfl rfl rfl 0 (by decide) (List.mem_of_getElem? (i := 10) rfl) (v := .ref (a0 0)) rfl dX5_send_126 ?_
      refine g_get C hW inX3 0 rfl rfl rfl 4 (by decide) (List.mem_of_getElem? (i := 12) rfl) (v := .int (v0 4 0)) rfl dX5_send_129 ?_
      refine lv_iadd hx hb dX5_send_132 ?_
      obtain ⟨y6, hc, hf⟩ := bd_of hf
      refine g_cVv (Cn := RX0) C (ct_X0_putDue g l N a2 x1 ((v1 0 0) + (v0 4 0)) y1.2 hc) gX5_send_X0_putDue rfl 2 (by decide +kernel) ⟨rfl, rfl, ⟨Nat.le_of_ble_eq_true rfl, Nat.le_of_ble_eq_true rfl⟩, Nat.le_of_ble_eq_true rfl, Nat.le_of_ble_eq_true rfl⟩ rfl hl (Nat.le_of_ble_eq_true rfl) dX5_send_133 rfl hW hA [2] rfl rfl rfl (ch' := [kX3 g a0 v0, kX4 g a1 (a2 0) v1, kX0 g a2 y6, kX5 g a3 (a0 0) (a1 0) v3]) rfl 2 rfl rfl rfl (fun H locs hW => ?_)
      refine lv_goto (tgt := 166) hx hb dX5_send_136 (by decide) ?_
      obtain rfl := Option.some.inj hf
      subst hQ
      exact g_vret C hr hk0 hW rfl rfl dX5_send_166
  · replace hf := (if_pos h).symm.trans hf
    refine lv_aload_n hx hb dX5_send_33 rfl (lv_at hl 1 rfl) ?_
    refine lv_iload_n hx hb dX5_send_34 rfl (lv_at hl 3 rfl) ?_
    obtain ⟨y7, hc, hf⟩ := bd_of hf
    refine g_cV (Cn := RX0) C (ct_X0_reportOf g l N a2 x1 y1.2 hc) gX5_send_X0_reportOf rfl 1 (by decide +kernel) ⟨rfl, rfl, ⟨Nat.le_of_ble_eq_true rfl, Nat.le_of_ble_eq_true rfl⟩, Nat.le_of_ble_eq_true rfl, Nat.le_of_ble_eq_true rfl⟩ rfl hl (Nat.le_of_ble_eq_true rfl) dX5_send_35 rfl hW hA [2] rfl rfl rfl (ch' := [kX3 g a0 v0, kX4 g a1 (a2 0) v1, kX0 g a2 y1.2, kX5 g a3 (a0 0) (a1 0) v3]) rfl 2 rfl rfl rfl (fun H locs hW => ?_)
    refine lv_istore (lv' := [(5, .int y7), (4, .int y1.1), (3, .ref (a2 0)), (0, .ref (a3 0)), (1, .int x1), (2, .int x2)]) hx hb dX5_send_38 hl (by decide) rfl (fun ls hl => ?_)
    refine lv_iconst (v := (0 : Int32)) hx hb dX5_send_40 (by decide) ?_
    refine lv_aload_n hx hb dX5_send_41 rfl (lv_at hl 3 rfl) ?_
    refine g_get C hW inX5 3 rfl rfl rfl 1 (by decide) (List.mem_of_getElem? (i := 1) rfl) (v := .ref (a1 0)) rfl dX5_send_42 ?_
    refine g_get C hW inX4 1 rfl rfl rfl 6 (by decide) (List.mem_of_getElem? (i := 4) rfl) (v := .ref (a1 4)) rfl dX5_send_45 ?_
    refine lv_iload_n hx hb dX5_send_48 rfl (lv_at hl 5 rfl) ?_
    obtain ⟨hi, hf⟩ := gd_of hf
    refine g_iald C hW 1 4 rfl (f := (v1 6)) rfl (ib_in hi) dX5_send_49 ?_
    refine lv_aload_n hx hb dX5_send_50 rfl (lv_at hl 2 rfl) ?_
    refine lv_iload_n hx hb dX5_send_51 rfl (lv_at hl 4 rfl) ?_
    obtain ⟨y8, hc, hf⟩ := bd_of hf
    refine g_cV (Cn := RX0) C (ct_X0_allLetters g l N a2 x1 y1.2 hc) gX5_send_X0_allLetters rfl 1 (by decide +kernel) ⟨rfl, rfl, ⟨Nat.le_of_ble_eq_true rfl, Nat.le_of_ble_eq_true rfl⟩, Nat.le_of_ble_eq_true rfl, Nat.le_of_ble_eq_true rfl⟩ rfl hl (Nat.le_of_ble_eq_true rfl) dX5_send_52 rfl hW hA [2] rfl rfl rfl (ch' := [kX3 g a0 v0, kX4 g a1 (a2 0) v1, kX0 g a2 y1.2, kX5 g a3 (a0 0) (a1 0) v3]) rfl 2 rfl rfl rfl (fun H locs hW => ?_)
    refine lv_isub hx hb dX5_send_55 ?_
    refine g_mmax C hl (List.mem_of_getElem? (i := 5) rfl) (List.mem_of_getElem? (i := 6) rfl) (List.mem_of_getElem? (i := 7) rfl) (List.mem_of_getElem? (i := 8) rfl) ⟨Nat.le_of_ble_eq_true rfl, Nat.le_of_ble_eq_true rfl, Nat.le_of_ble_eq_true rfl, Nat.le_of_ble_eq_true rfl⟩ (Nat.le_of_ble_eq_true rfl) dX5_send_56 ?_
    refine lv_istore (lv' := [(6, .int (if (0 : Int32) < (((v1 6) (Int32.toNatClampNeg x2)) - y8) then (((v1 6) (Int32.toNatClampNeg x2)) - y8) else (0 : Int32))), (5, .int y7), (4, .int y1.1), (3, .ref (a2 0)), (0, .ref (a3 0)), (1, .int x1), (2, .int x2)]) hx hb dX5_send_59 hl (by decide) rfl (fun ls hl => ?_)
    refine lv_aload_n hx hb dX5_send_61 rfl (lv_at hl 4 rfl) ?_
    refine g_get C hW inX5 3 rfl rfl rfl 1 (by decide) (List.mem_of_getElem? (i := 1) rfl) (v := .ref (a1 0)) rfl dX5_send_62 ?_
    refine g_get C hW inX4 1 rfl rfl rfl 6 (by decide) (List.mem_of_getElem? (i := 4) rfl) (v := .ref (a1 4)) rfl dX5_send_65 ?_
    refine lv_iload_n hx hb dX5_send_68 rfl (lv_at hl 6 rfl) ?_
    refine lv_iload hx hb dX5_send_69 (lv_at hl 1 rfl) ?_
    refine lv_bipush (v := (-9 : Int32)) hx hb dX5_send_71 (by decide) ?_
    refine lv_icmp_ne (tgt := 81) hx hb dX5_send_73 (by decide) (fun h => ?_) (fun h => ?_)
    · replace hf := (if_neg h).symm.trans hf
      refine lv_iload hx hb dX5_send_81 (lv_at hl 1 rfl) ?_
      obtain ⟨hi, hf⟩ := gd_of hf
      refine g_iast C hW 1 4 rfl (f := (v1 6)) rfl (ib_in hi) (kX4_w6 g a1 (a2 0) v1 (upd (v1 6) (Int32.toNatClampNeg x2) y7)) (ch' := [kX3 g a0 v0, kX4 g a1 (a2 0) (st v1 6 (upd (v1 6) (Int32.toNatClampNeg x2) y7)), kX0 g a2 y1.2, kX5 g a3 (a0 0) (a1 0) v3]) rfl dX5_send_83 (fun H locs hW => ?_)
      refine lv_aload_n hx hb dX5_send_84 rfl (lv_at hl 3 rfl) ?_
      refine lv_aload_n hx hb dX5_send_85 rfl (lv_at hl 4 rfl) ?_
      refine g_get C hW inX5 3 rfl rfl rfl 1 (by decide) (List.mem_of_getElem? (i := 1) rfl) (v := .ref (a1 0)) rfl dX5_send_86 ?_
      refine g_get C hW inX4 1 rfl rfl rfl 11 (by decide) (List.mem_of_getElem? (i := 9) rfl) (v := .ref (a1 9)) rfl dX5_send_89 ?_
      refine lv_iload_n hx hb dX5_send_92 rfl (lv_at hl 5 rfl) ?_
      obtain ⟨y9, hc, hf⟩ := bd_of hf
      obtain ⟨V10, hV10⟩ : ∃ z : MM, z = (st v1 6 (upd (v1 6) (Int32.toNatClampNeg x2) y7)) := ⟨_, rfl⟩
      rw [← hV10] at hW
      replace hc : fX0_addLettersTo N x1 6 y1.2 (V10 11) = some y9 := by rw [hV10]; exact hc
      replace hW := hW.re (ch' := [kX3 g a0 v0, (kX4 g a1 (a2 0) V10).take 9, [(a1 9, .inl (g.2.1, 6, .inl (V10 11)))], (kX4 g a1 (a2 0) V10).drop 10, kX0 g a2 y1.2, kX5 g a3 (a0 0) (a1 0) v3]) rfl
      refine g_cVv (Cn := RX0) C (ct_X0_addLettersTo g l N a2 (a1 9) x1 6 y1.2 (V10 11) hc) gX5_send_X0_addLettersTo rfl 2 (by decide +kernel) ⟨rfl, rfl, ⟨Nat.le_of_ble_eq_true rfl, Nat.le_of_ble_eq_true rfl⟩, Nat.le_of_ble_eq_true rfl, Nat.le_of_ble_eq_true rfl⟩ rfl hl (Nat.le_of_ble_eq_true rfl) dX5_send_93 rfl hW hA [4, 2] rfl rfl rfl (ch' := [kX3 g a0 v0, (kX4 g a1 (a2 0) V10).take 9, [(a1 9, .inl (g.2.1, 6, .inl y9))], (kX4 g a1 (a2 0) V10).drop 10, kX0 g a2 y1.2, kX5 g a3 (a0 0) (a1 0) v3]) rfl 4 rfl rfl rfl (fun H locs hW => ?_)
      replace hW := hW.re (ch' := [kX3 g a0 v0, kX4 g a1 (a2 0) (st V10 11 y9), kX0 g a2 y1.2, kX5 g a3 (a0 0) (a1 0) v3]) rfl
      subst hV10
      refine lv_aload_n hx hb dX5_send_96 rfl (lv_at hl 3 rfl) ?_
      refine lv_iload_n hx hb dX5_send_97 rfl (lv_at hl 5 rfl) ?_
      obtain ⟨y11, hc, hf⟩ := bd_of hf
      refine g_cVv (Cn := RX0) C (ct_X0_markGone g l N a2 x1 y1.2 hc) gX5_send_X0_markGone rfl 1 (by decide +kernel) ⟨rfl, rfl, ⟨Nat.le_of_ble_eq_true rfl, Nat.le_of_ble_eq_true rfl⟩, Nat.le_of_ble_eq_true rfl, Nat.le_of_ble_eq_true rfl⟩ rfl hl (Nat.le_of_ble_eq_true rfl) dX5_send_98 rfl hW hA [2] rfl rfl rfl (ch' := [kX3 g a0 v0, kX4 g a1 (a2 0) (st (st v1 6 (upd (v1 6) (Int32.toNatClampNeg x2) y7)) 11 y9), kX0 g a2 y11, kX5 g a3 (a0 0) (a1 0) v3]) rfl 2 rfl rfl rfl (fun H locs hW => ?_)
      refine lv_goto (tgt := 166) hx hb dX5_send_101 (by decide) ?_
      obtain rfl := Option.some.inj hf
      subst hQ
      exact g_vret C hr hk0 hW rfl rfl dX5_send_166
    · replace hf := (if_pos h).symm.trans hf
      refine lv_iload hx hb dX5_send_76 (lv_at hl 0 rfl) ?_
      refine lv_goto (tgt := 83) hx hb dX5_send_78 (by decide) ?_
      obtain ⟨hi, hf⟩ := gd_of hf
      refine g_iast C hW 1 4 rfl (f := (v1 6)) rfl (ib_in hi) (kX4_w6 g a1 (a2 0) v1 (upd (v1 6) (Int32.toNatClampNeg x2) (if (0 : Int32) < (((v1 6) (Int32.toNatClampNeg x2)) - y8) then (((v1 6) (Int32.toNatClampNeg x2)) - y8) else (0 : Int32)))) (ch' := [kX3 g a0 v0, kX4 g a1 (a2 0) (st v1 6 (upd (v1 6) (Int32.toNatClampNeg x2) (if (0 : Int32) < (((v1 6) (Int32.toNatClampNeg x2)) - y8) then (((v1 6) (Int32.toNatClampNeg x2)) - y8) else (0 : Int32)))), kX0 g a2 y1.2, kX5 g a3 (a0 0) (a1 0) v3]) rfl dX5_send_83 (fun H locs hW => ?_)
      refine lv_aload_n hx hb dX5_send_84 rfl (lv_at hl 3 rfl) ?_
      refine lv_aload_n hx hb dX5_send_85 rfl (lv_at hl 4 rfl) ?_
      refine g_get C hW inX5 3 rfl rfl rfl 1 (by decide) (List.mem_of_getElem? (i := 1) rfl) (v := .ref (a1 0)) rfl dX5_send_86 ?_
      refine g_get C hW inX4 1 rfl rfl rfl 11 (by decide) (List.mem_of_getElem? (i := 9) rfl) (v := .ref (a1 9)) rfl dX5_send_89 ?_
      refine lv_iload_n hx hb dX5_send_92 rfl (lv_at hl 5 rfl) ?_
      obtain ⟨y12, hc, hf⟩ := bd_of hf
      obtain ⟨V13, hV13⟩ : ∃ z : MM, z = (st v1 6 (upd (v1 6) (Int32.toNatClampNeg x2) (if (0 : Int32) < (((v1 6) (Int32.toNatClampNeg x2)) - y8) then (((v1 6) (Int32.toNatClampNeg x2)) - y8) else (0 : Int32)))) := ⟨_, rfl⟩
      rw [← hV13] at hW
      replace hc : fX0_addLettersTo N x1 6 y1.2 (V13 11) = some y12 := by rw [hV13]; exact hc
      replace hW := hW.re (ch' := [kX3 g a0 v0, (kX4 g a1 (a2 0) V13).take 9, [(a1 9, .inl (g.2.1, 6, .inl (V13 11)))], (kX4 g a1 (a2 0) V13).drop 10, kX0 g a2 y1.2, kX5 g a3 (a0 0) (a1 0) v3]) rfl
      refine g_cVv (Cn := RX0) C (ct_X0_addLettersTo g l N a2 (a1 9) x1 6 y1.2 (V13 11) hc) gX5_send_X0_addLettersTo rfl 2 (by decide +kernel) ⟨rfl, rfl, ⟨Nat.le_of_ble_eq_true rfl, Nat.le_of_ble_eq_true rfl⟩, Nat.le_of_ble_eq_true rfl, Nat.le_of_ble_eq_true rfl⟩ rfl hl (Nat.le_of_ble_eq_true rfl) dX5_send_93 rfl hW hA [4, 2] rfl rfl rfl (ch' := [kX3 g a0 v0, (kX4 g a1 (a2 0) V13).take 9, [(a1 9, .inl (g.2.1, 6, .inl y12))], (kX4 g a1 (a2 0) V13).drop 10, kX0 g a2 y1.2, kX5 g a3 (a0 0) (a1 0) v3]) rfl 4 rfl rfl rfl (fun H locs hW => ?_)
      replace hW := hW.re (ch' := [kX3 g a0 v0, kX4 g a1 (a2 0) (st V13 11 y12), kX0 g a2 y1.2, kX5 g a3 (a0 0) (a1 0) v3]) rfl
      subst hV13
      refine lv_aload_n hx hb dX5_send_96 rfl (lv_at hl 3 rfl) ?_
      refine lv_iload_n hx hb dX5_send_97 rfl (lv_at hl 5 rfl) ?_
      obtain ⟨y14, hc, hf⟩ := bd_of hf
      refine g_cVv (Cn := RX0) C (ct_X0_markGone g l N a2 x1 y1.2 hc) gX5_send_X0_markGone rfl 1 (by decide +kernel) ⟨rfl, rfl, ⟨Nat.le_of_ble_eq_true rfl, Nat.le_of_ble_eq_true rfl⟩, Nat.le_of_ble_eq_true rfl, Nat.le_of_ble_eq_true rfl⟩ rfl hl (Nat.le_of_ble_eq_true rfl) dX5_send_98 rfl hW hA [2] rfl rfl rfl (ch' := [kX3 g a0 v0, kX4 g a1 (a2 0) (st (st v1 6 (upd (v1 6) (Int32.toNatClampNeg x2) (if (0 : Int32) < (((v1 6) (Int32.toNatClampNeg x2)) - y8) then (((v1 6) (Int32.toNatClampNeg x2)) - y8) else (0 : Int32)))) 11 y12), kX0 g a2 y14, kX5 g a3 (a0 0) (a1 0) v3]) rfl 2 rfl rfl rfl (fun H locs hW => ?_)
      refine lv_goto (tgt := 166) hx hb dX5_send_101 (by decide) ?_
      obtain rfl := Option.some.inj hf
      subst hQ
      exact g_vret C hr hk0 hW rfl rfl dX5_send_166
