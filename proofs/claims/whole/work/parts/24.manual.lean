theorem g_aaldv {p : Program} {l : Launch} {e : Env} {R : Room} {s : State} {m : MethodId} {args : Array Value} {below : List Frame} {meth : Method} {c : Code} {H : Heap} {locs : List Loc} {cells slots : Nat} {Q : State → Prop} {cc : ByteArray} {pc nL : Nat} {ls : Array Slot} {rest : List Value} {g : GT} {A : Nat → Prop} {H0 : Heap} {Ts : List Cond} {own : String} {ch : List va_W} (C : cx g p m c cc nL s args Ts own) (hW : wd g A H0 ch H locs) (i j : Nat) {k : va_W} (hi : ch[i]? = some k) {a n : Nat} {f : Nat → Option Nat} (hj : k[j]? = some (a, .inl (g.2.2.2.2, n, .inr (.inr (.inr (.inr f)))))) {ix : Int32} (hin : vp_in ix n) {v : Value} (hv : va_rf (f ix.toNatClampNeg) = v) (hdg : decode cc pc = .ok (.aaload, 1))
    (kk : W p l e R s m args below meth c H locs cells slots Q (F0 m (pc + 1) ls (v :: rest))) : W p l e R s m args below meth c H locs cells slots Q (F0 m pc ls (.int ix :: .ref a :: rest)) := by
  subst hv
  exact g_aald C hW i j hi hj hin hdg kk
set_option maxHeartbeats 4000000 in
set_option maxRecDepth 100000 in
theorem ct_X1_rowAt_0 (g : GT) (l : Launch) (a : Nat → Nat) (be0 be1 be2 be3 be4 be5 be6 be7 : Nat) (x : Int32) (v : MM) (h : x = (0 : Int32)) : ct g l yX1_rowAt wsX1_rowAt (rmk 1 22) [.ref (a 0), .int x] [kX1 g a be0 be1 be2 be3 be4 be5 be6 be7 v] (some (.ref be0)) [kX1 g a be0 be1 be2 be3 be4 be5 be6 be7 v] := by
  subst h
  have hc : fX7_isWithin 0 (0 : Int32) (0 : Int32) (7 : Int32) = some (1 : Int32) := by decide
  have hz : Int32.toNatClampNeg (0 : Int32) = 0 := by decide
  refine ct_of (cc := cX1_rowAt) (maxL := 2) (ret := (some (.object "UpwardGrants$State"))) (by decide) rfl (Nat.le_of_ble_eq_true rfl) ?_
  intro p e s m args below meth c A ls C hr hk0 hA hW hl
  have hx := C.1.1
  have hb := C.1.2.1
  replace hl : lv_has ls 2 [(0, .ref (a 0)), (1, .int (0 : Int32))] := hl
  have inX1 : ∀ w ∈ wsX10, w ∈ wsX1_rowAt := fun _ h => List.mem_cons_of_mem _ (List.mem_append_right _ h)
  refine lv_iload_n hx hb dX1_rowAt_0 rfl (lv_at hl 1 rfl) ?_
  refine lv_iconst (v := (0 : Int32)) hx hb dX1_rowAt_1 (by decide) ?_
  refine lv_bipush (v := (7 : Int32)) hx hb dX1_rowAt_2 (by decide) ?_
  refine g_cSN C (ct_X7_isWithin g l 0 (0 : Int32) (0 : Int32) (7 : Int32) hc) gX1_rowAt_X7_isWithin_n39 rfl 3 (by decide +kernel) (List.mem_of_getElem? (i := 1) rfl) (List.mem_of_getElem? (i := 2) rfl) (List.mem_of_getElem? (i := 3) rfl) ⟨rfl, rfl, ⟨Nat.le_of_ble_eq_true rfl, Nat.le_of_ble_eq_true rfl⟩, Nat.le_of_ble_eq_true rfl, Nat.le_of_ble_eq_true rfl⟩ rfl hl (Nat.le_of_ble_eq_true rfl) dX1_rowAt_4 rfl hW hA [] rfl rfl rfl (ch' := [kX1 g a be0 be1 be2 be3 be4 be5 be6 be7 v]) rfl (fun H locs hW => ?_)
  refine lv_if_eq (tgt := 19) hx hb dX1_rowAt_7 (by decide) (fun h => absurd h (by decide)) (fun _ => ?_)
  refine lv_aload_n hx hb dX1_rowAt_10 rfl (lv_at hl 0 rfl) ?_
  refine g_get C hW inX1 0 rfl rfl rfl 2 (by decide) (List.mem_of_getElem? (i := 1) rfl) (v := .ref (a 1)) rfl dX1_rowAt_11 ?_
  refine lv_iload_n hx hb dX1_rowAt_14 rfl (lv_at hl 1 rfl) ?_
  refine g_aaldv C hW 0 1 rfl (f := rw8 be0 be1 be2 be3 be4 be5 be6 be7) rfl (ib_in (by decide)) (v := .ref be0) (by rw [hz]; rfl) dX1_rowAt_15 ?_
  refine lv_goto (tgt := 20) hx hb dX1_rowAt_16 (by decide) ?_
  exact g_aret C hr hk0 hW (Or.inr ⟨_, rfl⟩) rfl rfl dX1_rowAt_20
set_option maxHeartbeats 4000000 in
set_option maxRecDepth 100000 in
theorem ct_X1_rowAt_1 (g : GT) (l : Launch) (a : Nat → Nat) (be0 be1 be2 be3 be4 be5 be6 be7 : Nat) (x : Int32) (v : MM) (h : x = (1 : Int32)) : ct g l yX1_rowAt wsX1_rowAt (rmk 1 22) [.ref (a 0), .int x] [kX1 g a be0 be1 be2 be3 be4 be5 be6 be7 v] (some (.ref be1)) [kX1 g a be0 be1 be2 be3 be4 be5 be6 be7 v] := by
  subst h
  have hc : fX7_isWithin 0 (1 : Int32) (0 : Int32) (7 : Int32) = some (1 : Int32) := by decide
  have hz : Int32.toNatClampNeg (1 : Int32) = 1 := by decide
  refine ct_of (cc := cX1_rowAt) (maxL := 2) (ret := (some (.object "UpwardGrants$State"))) (by decide) rfl (Nat.le_of_ble_eq_true rfl) ?_
  intro p e s m args below meth c A ls C hr hk0 hA hW hl
  have hx := C.1.1
  have hb := C.1.2.1
  replace hl : lv_has ls 2 [(0, .ref (a 0)), (1, .int (1 : Int32))] := hl
  have inX1 : ∀ w ∈ wsX10, w ∈ wsX1_rowAt := fun _ h => List.mem_cons_of_mem _ (List.mem_append_right _ h)
  refine lv_iload_n hx hb dX1_rowAt_0 rfl (lv_at hl 1 rfl) ?_
  refine lv_iconst (v := (0 : Int32)) hx hb dX1_rowAt_1 (by decide) ?_
  refine lv_bipush (v := (7 : Int32)) hx hb dX1_rowAt_2 (by decide) ?_
  refine g_cSN C (ct_X7_isWithin g l 0 (1 : Int32) (0 : Int32) (7 : Int32) hc) gX1_rowAt_X7_isWithin_n39 rfl 3 (by decide +kernel) (List.mem_of_getElem? (i := 1) rfl) (List.mem_of_getElem? (i := 2) rfl) (List.mem_of_getElem? (i := 3) rfl) ⟨rfl, rfl, ⟨Nat.le_of_ble_eq_true rfl, Nat.le_of_ble_eq_true rfl⟩, Nat.le_of_ble_eq_true rfl, Nat.le_of_ble_eq_true rfl⟩ rfl hl (Nat.le_of_ble_eq_true rfl) dX1_rowAt_4 rfl hW hA [] rfl rfl rfl (ch' := [kX1 g a be0 be1 be2 be3 be4 be5 be6 be7 v]) rfl (fun H locs hW => ?_)
  refine lv_if_eq (tgt := 19) hx hb dX1_rowAt_7 (by decide) (fun h => absurd h (by decide)) (fun _ => ?_)
  refine lv_aload_n hx hb dX1_rowAt_10 rfl (lv_at hl 0 rfl) ?_
  refine g_get C hW inX1 0 rfl rfl rfl 2 (by decide) (List.mem_of_getElem? (i := 1) rfl) (v := .ref (a 1)) rfl dX1_rowAt_11 ?_
  refine lv_iload_n hx hb dX1_rowAt_14 rfl (lv_at hl 1 rfl) ?_
  refine g_aaldv C hW 0 1 rfl (f := rw8 be0 be1 be2 be3 be4 be5 be6 be7) rfl (ib_in (by decide)) (v := .ref be1) (by rw [hz]; rfl) dX1_rowAt_15 ?_
  refine lv_goto (tgt := 20) hx hb dX1_rowAt_16 (by decide) ?_
  exact g_aret C hr hk0 hW (Or.inr ⟨_, rfl⟩) rfl rfl dX1_rowAt_20
set_option maxHeartbeats 4000000 in
set_option maxRecDepth 100000 in
theorem ct_X1_rowAt_2 (g : GT) (l : Launch) (a : Nat → Nat) (be0 be1 be2 be3 be4 be5 be6 be7 : Nat) (x : Int32) (v : MM) (h : x = (2 : Int32)) : ct g l yX1_rowAt wsX1_rowAt (rmk 1 22) [.ref (a 0), .int x] [kX1 g a be0 be1 be2 be3 be4 be5 be6 be7 v] (some (.ref be2)) [kX1 g a be0 be1 be2 be3 be4 be5 be6 be7 v] := by
  subst h
  have hc : fX7_isWithin 0 (2 : Int32) (0 : Int32) (7 : Int32) = some (1 : Int32) := by decide
  have hz : Int32.toNatClampNeg (2 : Int32) = 2 := by decide
  refine ct_of (cc := cX1_rowAt) (maxL := 2) (ret := (some (.object "UpwardGrants$State"))) (by decide) rfl (Nat.le_of_ble_eq_true rfl) ?_
  intro p e s m args below meth c A ls C hr hk0 hA hW hl
  have hx := C.1.1
  have hb := C.1.2.1
  replace hl : lv_has ls 2 [(0, .ref (a 0)), (1, .int (2 : Int32))] := hl
  have inX1 : ∀ w ∈ wsX10, w ∈ wsX1_rowAt := fun _ h => List.mem_cons_of_mem _ (List.mem_append_right _ h)
  refine lv_iload_n hx hb dX1_rowAt_0 rfl (lv_at hl 1 rfl) ?_
  refine lv_iconst (v := (0 : Int32)) hx hb dX1_rowAt_1 (by decide) ?_
  refine lv_bipush (v := (7 : Int32)) hx hb dX1_rowAt_2 (by decide) ?_
  refine g_cSN C (ct_X7_isWithin g l 0 (2 : Int32) (0 : Int32) (7 : Int32) hc) gX1_rowAt_X7_isWithin_n39 rfl 3 (by decide +kernel) (List.mem_of_getElem? (i := 1) rfl) (List.mem_of_getElem? (i := 2) rfl) (List.mem_of_getElem? (i := 3) rfl) ⟨rfl, rfl, ⟨Nat.le_of_ble_eq_true rfl, Nat.le_of_ble_eq_true rfl⟩, Nat.le_of_ble_eq_true rfl, Nat.le_of_ble_eq_true rfl⟩ rfl hl (Nat.le_of_ble_eq_true rfl) dX1_rowAt_4 rfl hW hA [] rfl rfl rfl (ch' := [kX1 g a be0 be1 be2 be3 be4 be5 be6 be7 v]) rfl (fun H locs hW => ?_)
  refine lv_if_eq (tgt := 19) hx hb dX1_rowAt_7 (by decide) (fun h => absurd h (by decide)) (fun _ => ?_)
  refine lv_aload_n hx hb dX1_rowAt_10 rfl (lv_at hl 0 rfl) ?_
  refine g_get C hW inX1 0 rfl rfl rfl 2 (by decide) (List.mem_of_getElem? (i := 1) rfl) (v := .ref (a 1)) rfl dX1_rowAt_11 ?_
  refine lv_iload_n hx hb dX1_rowAt_14 rfl (lv_at hl 1 rfl) ?_
  refine g_aaldv C hW 0 1 rfl (f := rw8 be0 be1 be2 be3 be4 be5 be6 be7) rfl (ib_in (by decide)) (v := .ref be2) (by rw [hz]; rfl) dX1_rowAt_15 ?_
  refine lv_goto (tgt := 20) hx hb dX1_rowAt_16 (by decide) ?_
  exact g_aret C hr hk0 hW (Or.inr ⟨_, rfl⟩) rfl rfl dX1_rowAt_20
set_option maxHeartbeats 4000000 in
set_option maxRecDepth 100000 in
theorem ct_X1_rowAt_3 (g : GT) (l : Launch) (a : Nat → Nat) (be0 be1 be2 be3 be4 be5 be6 be7 : Nat) (x : Int32) (v : MM) (h : x = (3 : Int32)) : ct g l yX1_rowAt wsX1_rowAt (rmk 1 22) [.ref (a 0), .int x] [kX1 g a be0 be1 be2 be3 be4 be5 be6 be7 v] (some (.ref be3)) [kX1 g a be0 be1 be2 be3 be4 be5 be6 be7 v] := by
  subst h
  have hc : fX7_isWithin 0 (3 : Int32) (0 : Int32) (7 : Int32) = some (1 : Int32) := by decide
  have hz : Int32.toNatClampNeg (3 : Int32) = 3 := by decide
  refine ct_of (cc := cX1_rowAt) (maxL := 2) (ret := (some (.object "UpwardGrants$State"))) (by decide) rfl (Nat.le_of_ble_eq_true rfl) ?_
  intro p e s m args below meth c A ls C hr hk0 hA hW hl
  have hx := C.1.1
  have hb := C.1.2.1
  replace hl : lv_has ls 2 [(0, .ref (a 0)), (1, .int (3 : Int32))] := hl
  have inX1 : ∀ w ∈ wsX10, w ∈ wsX1_rowAt := fun _ h => List.mem_cons_of_mem _ (List.mem_append_right _ h)
  refine lv_iload_n hx hb dX1_rowAt_0 rfl (lv_at hl 1 rfl) ?_
  refine lv_iconst (v := (0 : Int32)) hx hb dX1_rowAt_1 (by decide) ?_
  refine lv_bipush (v := (7 : Int32)) hx hb dX1_rowAt_2 (by decide) ?_
  refine g_cSN C (ct_X7_isWithin g l 0 (3 : Int32) (0 : Int32) (7 : Int32) hc) gX1_rowAt_X7_isWithin_n39 rfl 3 (by decide +kernel) (List.mem_of_getElem? (i := 1) rfl) (List.mem_of_getElem? (i := 2) rfl) (List.mem_of_getElem? (i := 3) rfl) ⟨rfl, rfl, ⟨Nat.le_of_ble_eq_true rfl, Nat.le_of_ble_eq_true rfl⟩, Nat.le_of_ble_eq_true rfl, Nat.le_of_ble_eq_true rfl⟩ rfl hl (Nat.le_of_ble_eq_true rfl) dX1_rowAt_4 rfl hW hA [] rfl rfl rfl (ch' := [kX1 g a be0 be1 be2 be3 be4 be5 be6 be7 v]) rfl (fun H locs hW => ?_)
  refine lv_if_eq (tgt := 19) hx hb dX1_rowAt_7 (by decide) (fun h => absurd h (by decide)) (fun _ => ?_)
  refine lv_aload_n hx hb dX1_rowAt_10 rfl (lv_at hl 0 rfl) ?_
  refine g_get C hW inX1 0 rfl rfl rfl 2 (by decide) (List.mem_of_getElem? (i := 1) rfl) (v := .ref (a 1)) rfl dX1_rowAt_11 ?_
  refine lv_iload_n hx hb dX1_rowAt_14 rfl (lv_at hl 1 rfl) ?_
  refine g_aaldv C hW 0 1 rfl (f := rw8 be0 be1 be2 be3 be4 be5 be6 be7) rfl (ib_in (by decide)) (v := .ref be3) (by rw [hz]; rfl) dX1_rowAt_15 ?_
  refine lv_goto (tgt := 20) hx hb dX1_rowAt_16 (by decide) ?_
  exact g_aret C hr hk0 hW (Or.inr ⟨_, rfl⟩) rfl rfl dX1_rowAt_20
set_option maxHeartbeats 4000000 in
set_option maxRecDepth 100000 in
theorem ct_X1_rowAt_4 (g : GT) (l : Launch) (a : Nat → Nat) (be0 be1 be2 be3 be4 be5 be6 be7 : Nat) (x : Int32) (v : MM) (h : x = (4 : Int32)) : ct g l yX1_rowAt wsX1_rowAt (rmk 1 22) [.ref (a 0), .int x] [kX1 g a be0 be1 be2 be3 be4 be5 be6 be7 v] (some (.ref be4)) [kX1 g a be0 be1 be2 be3 be4 be5 be6 be7 v] := by
  subst h
  have hc : fX7_isWithin 0 (4 : Int32) (0 : Int32) (7 : Int32) = some (1 : Int32) := by decide
  have hz : Int32.toNatClampNeg (4 : Int32) = 4 := by decide
  refine ct_of (cc := cX1_rowAt) (maxL := 2) (ret := (some (.object "UpwardGrants$State"))) (by decide) rfl (Nat.le_of_ble_eq_true rfl) ?_
  intro p e s m args below meth c A ls C hr hk0 hA hW hl
  have hx := C.1.1
  have hb := C.1.2.1
  replace hl : lv_has ls 2 [(0, .ref (a 0)), (1, .int (4 : Int32))] := hl
  have inX1 : ∀ w ∈ wsX10, w ∈ wsX1_rowAt := fun _ h => List.mem_cons_of_mem _ (List.mem_append_right _ h)
  refine lv_iload_n hx hb dX1_rowAt_0 rfl (lv_at hl 1 rfl) ?_
  refine lv_iconst (v := (0 : Int32)) hx hb dX1_rowAt_1 (by decide) ?_
  refine lv_bipush (v := (7 : Int32)) hx hb dX1_rowAt_2 (by decide) ?_
  refine g_cSN C (ct_X7_isWithin g l 0 (4 : Int32) (0 : Int32) (7 : Int32) hc) gX1_rowAt_X7_isWithin_n39 rfl 3 (by decide +kernel) (List.mem_of_getElem? (i := 1) rfl) (List.mem_of_getElem? (i := 2) rfl) (List.mem_of_getElem? (i := 3) rfl) ⟨rfl, rfl, ⟨Nat.le_of_ble_eq_true rfl, Nat.le_of_ble_eq_true rfl⟩, Nat.le_of_ble_eq_true rfl, Nat.le_of_ble_eq_true rfl⟩ rfl hl (Nat.le_of_ble_eq_true rfl) dX1_rowAt_4 rfl hW hA [] rfl rfl rfl (ch' := [kX1 g a be0 be1 be2 be3 be4 be5 be6 be7 v]) rfl (fun H locs hW => ?_)
  refine lv_if_eq (tgt := 19) hx hb dX1_rowAt_7 (by decide) (fun h => absurd h (by decide)) (fun _ => ?_)
  refine lv_aload_n hx hb dX1_rowAt_10 rfl (lv_at hl 0 rfl) ?_
  refine g_get C hW inX1 0 rfl rfl rfl 2 (by decide) (List.mem_of_getElem? (i := 1) rfl) (v := .ref (a 1)) rfl dX1_rowAt_11 ?_
  refine lv_iload_n hx hb dX1_rowAt_14 rfl (lv_at hl 1 rfl) ?_
  refine g_aaldv C hW 0 1 rfl (f := rw8 be0 be1 be2 be3 be4 be5 be6 be7) rfl (ib_in (by decide)) (v := .ref be4) (by rw [hz]; rfl) dX1_rowAt_15 ?_
  refine lv_goto (tgt := 20) hx hb dX1_rowAt_16 (by decide) ?_
  exact g_aret C hr hk0 hW (Or.inr ⟨_, rfl⟩) rfl rfl dX1_rowAt_20
set_option maxHeartbeats 4000000 in
set_option maxRecDepth 100000 in
theorem ct_X1_rowAt_5 (g : GT) (l : Launch) (a : Nat → Nat) (be0 be1 be2 be3 be4 be5 be6 be7 : Nat) (x : Int32) (v : MM) (h : x = (5 : Int32)) : ct g l yX1_rowAt wsX1_rowAt (rmk 1 22) [.ref (a 0), .int x] [kX1 g a be0 be1 be2 be3 be4 be5 be6 be7 v] (some (.ref be5)) [kX1 g a be0 be1 be2 be3 be4 be5 be6 be7 v] := by
  subst h
  have hc : fX7_isWithin 0 (5 : Int32) (0 : Int32) (7 : Int32) = some (1 : Int32) := by decide
  have hz : Int32.toNatClampNeg (5 : Int32) = 5 := by decide
  refine ct_of (cc := cX1_rowAt) (maxL := 2) (ret := (some (.object "UpwardGrants$State"))) (by decide) rfl (Nat.le_of_ble_eq_true rfl) ?_
  intro p e s m args below meth c A ls C hr hk0 hA hW hl
  have hx := C.1.1
  have hb := C.1.2.1
  replace hl : lv_has ls 2 [(0, .ref (a 0)), (1, .int (5 : Int32))] := hl
  have inX1 : ∀ w ∈ wsX10, w ∈ wsX1_rowAt := fun _ h => List.mem_cons_of_mem _ (List.mem_append_right _ h)
  refine lv_iload_n hx hb dX1_rowAt_0 rfl (lv_at hl 1 rfl) ?_
  refine lv_iconst (v := (0 : Int32)) hx hb dX1_rowAt_1 (by decide) ?_
  refine lv_bipush (v := (7 : Int32)) hx hb dX1_rowAt_2 (by decide) ?_
  refine g_cSN C (ct_X7_isWithin g l 0 (5 : Int32) (0 : Int32) (7 : Int32) hc) gX1_rowAt_X7_isWithin_n39 rfl 3 (by decide +kernel) (List.mem_of_getElem? (i := 1) rfl) (List.mem_of_getElem? (i := 2) rfl) (List.mem_of_getElem? (i := 3) rfl) ⟨rfl, rfl, ⟨Nat.le_of_ble_eq_true rfl, Nat.le_of_ble_eq_true rfl⟩, Nat.le_of_ble_eq_true rfl, Nat.le_of_ble_eq_true rfl⟩ rfl hl (Nat.le_of_ble_eq_true rfl) dX1_rowAt_4 rfl hW hA [] rfl rfl rfl (ch' := [kX1 g a be0 be1 be2 be3 be4 be5 be6 be7 v]) rfl (fun H locs hW => ?_)
  refine lv_if_eq (tgt := 19) hx hb dX1_rowAt_7 (by decide) (fun h => absurd h (by decide)) (fun _ => ?_)
  refine lv_aload_n hx hb dX1_rowAt_10 rfl (lv_at hl 0 rfl) ?_
  refine g_get C hW inX1 0 rfl rfl rfl 2 (by decide) (List.mem_of_getElem? (i := 1) rfl) (v := .ref (a 1)) rfl dX1_rowAt_11 ?_
  refine lv_iload_n hx hb dX1_rowAt_14 rfl (lv_at hl 1 rfl) ?_
  refine g_aaldv C hW 0 1 rfl (f := rw8 be0 be1 be2 be3 be4 be5 be6 be7) rfl (ib_in (by decide)) (v := .ref be5) (by rw [hz]; rfl) dX1_rowAt_15 ?_
  refine lv_goto (tgt := 20) hx hb dX1_rowAt_16 (by decide) ?_
  exact g_aret C hr hk0 hW (Or.inr ⟨_, rfl⟩) rfl rfl dX1_rowAt_20
set_option maxHeartbeats 4000000 in
set_option maxRecDepth 100000 in
theorem ct_X1_rowAt_6 (g : GT) (l : Launch) (a : Nat → Nat) (be0 be1 be2 be3 be4 be5 be6 be7 : Nat) (x : Int32) (v : MM) (h : x = (6 : Int32)) : ct g l yX1_rowAt wsX1_rowAt (rmk 1 22) [.ref (a 0), .int x] [kX1 g a be0 be1 be2 be3 be4 be5 be6 be7 v] (some (.ref be6)) [kX1 g a be0 be1 be2 be3 be4 be5 be6 be7 v] := by
  subst h
  have hc : fX7_isWithin 0 (6 : Int32) (0 : Int32) (7 : Int32) = some (1 : Int32) := by decide
  have hz : Int32.toNatClampNeg (6 : Int32) = 6 := by decide
  refine ct_of (cc := cX1_rowAt) (maxL := 2) (ret := (some (.object "UpwardGrants$State"))) (by decide) rfl (Nat.le_of_ble_eq_true rfl) ?_
  intro p e s m args below meth c A ls C hr hk0 hA hW hl
  have hx := C.1.1
  have hb := C.1.2.1
  replace hl : lv_has ls 2 [(0, .ref (a 0)), (1, .int (6 : Int32))] := hl
  have inX1 : ∀ w ∈ wsX10, w ∈ wsX1_rowAt := fun _ h => List.mem_cons_of_mem _ (List.mem_append_right _ h)
  refine lv_iload_n hx hb dX1_rowAt_0 rfl (lv_at hl 1 rfl) ?_
  refine lv_iconst (v := (0 : Int32)) hx hb dX1_rowAt_1 (by decide) ?_
  refine lv_bipush (v := (7 : Int32)) hx hb dX1_rowAt_2 (by decide) ?_
  refine g_cSN C (ct_X7_isWithin g l 0 (6 : Int32) (0 : Int32) (7 : Int32) hc) gX1_rowAt_X7_isWithin_n39 rfl 3 (by decide +kernel) (List.mem_of_getElem? (i := 1) rfl) (List.mem_of_getElem? (i := 2) rfl) (List.mem_of_getElem? (i := 3) rfl) ⟨rfl, rfl, ⟨Nat.le_of_ble_eq_true rfl, Nat.le_of_ble_eq_true rfl⟩, Nat.le_of_ble_eq_true rfl, Nat.le_of_ble_eq_true rfl⟩ rfl hl (Nat.le_of_ble_eq_true rfl) dX1_rowAt_4 rfl hW hA [] rfl rfl rfl (ch' := [kX1 g a be0 be1 be2 be3 be4 be5 be6 be7 v]) rfl (fun H locs hW => ?_)
  refine lv_if_eq (tgt := 19) hx hb dX1_rowAt_7 (by decide) (fun h => absurd h (by decide)) (fun _ => ?_)
  refine lv_aload_n hx hb dX1_rowAt_10 rfl (lv_at hl 0 rfl) ?_
  refine g_get C hW inX1 0 rfl rfl rfl 2 (by decide) (List.mem_of_getElem? (i := 1) rfl) (v := .ref (a 1)) rfl dX1_rowAt_11 ?_
  refine lv_iload_n hx hb dX1_rowAt_14 rfl (lv_at hl 1 rfl) ?_
  refine g_aaldv C hW 0 1 rfl (f := rw8 be0 be1 be2 be3 be4 be5 be6 be7) rfl (ib_in (by decide)) (v := .ref be6) (by rw [hz]; rfl) dX1_rowAt_15 ?_
  refine lv_goto (tgt := 20) hx hb dX1_rowAt_16 (by decide) ?_
  exact g_aret C hr hk0 hW (Or.inr ⟨_, rfl⟩) rfl rfl dX1_rowAt_20
set_option maxHeartbeats 4000000 in
set_option maxRecDepth 100000 in
theorem ct_X1_rowAt_7 (g : GT) (l : Launch) (a : Nat → Nat) (be0 be1 be2 be3 be4 be5 be6 be7 : Nat) (x : Int32) (v : MM) (h : x = (7 : Int32)) : ct g l yX1_rowAt wsX1_rowAt (rmk 1 22) [.ref (a 0), .int x] [kX1 g a be0 be1 be2 be3 be4 be5 be6 be7 v] (some (.ref be7)) [kX1 g a be0 be1 be2 be3 be4 be5 be6 be7 v] := by
  subst h
  have hc : fX7_isWithin 0 (7 : Int32) (0 : Int32) (7 : Int32) = some (1 : Int32) := by decide
  have hz : Int32.toNatClampNeg (7 : Int32) = 7 := by decide
  refine ct_of (cc := cX1_rowAt) (maxL := 2) (ret := (some (.object "UpwardGrants$State"))) (by decide) rfl (Nat.le_of_ble_eq_true rfl) ?_
  intro p e s m args below meth c A ls C hr hk0 hA hW hl
  have hx := C.1.1
  have hb := C.1.2.1
  replace hl : lv_has ls 2 [(0, .ref (a 0)), (1, .int (7 : Int32))] := hl
  have inX1 : ∀ w ∈ wsX10, w ∈ wsX1_rowAt := fun _ h => List.mem_cons_of_mem _ (List.mem_append_right _ h)
  refine lv_iload_n hx hb dX1_rowAt_0 rfl (lv_at hl 1 rfl) ?_
  refine lv_iconst (v := (0 : Int32)) hx hb dX1_rowAt_1 (by decide) ?_
  refine lv_bipush (v := (7 : Int32)) hx hb dX1_rowAt_2 (by decide) ?_
  refine g_cSN C (ct_X7_isWithin g l 0 (7 : Int32) (0 : Int32) (7 : Int32) hc) gX1_rowAt_X7_isWithin_n39 rfl 3 (by decide +kernel) (List.mem_of_getElem? (i := 1) rfl) (List.mem_of_getElem? (i := 2) rfl) (List.mem_of_getElem? (i := 3) rfl) ⟨rfl, rfl, ⟨Nat.le_of_ble_eq_true rfl, Nat.le_of_ble_eq_true rfl⟩, Nat.le_of_ble_eq_true rfl, Nat.le_of_ble_eq_true rfl⟩ rfl hl (Nat.le_of_ble_eq_true rfl) dX1_rowAt_4 rfl hW hA [] rfl rfl rfl (ch' := [kX1 g a be0 be1 be2 be3 be4 be5 be6 be7 v]) rfl (fun H locs hW => ?_)
  refine lv_if_eq (tgt := 19) hx hb dX1_rowAt_7 (by decide) (fun h => absurd h (by decide)) (fun _ => ?_)
  refine lv_aload_n hx hb dX1_rowAt_10 rfl (lv_at hl 0 rfl) ?_
  refine g_get C hW inX1 0 rfl rfl rfl 2 (by decide) (List.mem_of_getElem? (i := 1) rfl) (v := .ref (a 1)) rfl dX1_rowAt_11 ?_
  refine lv_iload_n hx hb dX1_rowAt_14 rfl (lv_at hl 1 rfl) ?_
  refine g_aaldv C hW 0 1 rfl (f := rw8 be0 be1 be2 be3 be4 be5 be6 be7) rfl (ib_in (by decide)) (v := .ref be7) (by rw [hz]; rfl) dX1_rowAt_15 ?_
  refine lv_goto (tgt := 20) hx hb dX1_rowAt_16 (by decide) ?_
  exact g_aret C hr hk0 hW (Or.inr ⟨_, rfl⟩) rfl rfl dX1_rowAt_20
set_option maxHeartbeats 4000000 in
set_option maxRecDepth 100000 in
theorem ct_X1_rowAt_n (g : GT) (l : Launch) (a : Nat → Nat) (be0 be1 be2 be3 be4 be5 be6 be7 : Nat) (x : Int32) (v : MM) (h0 : ¬ x = (0 : Int32)) (h1 : ¬ x = (1 : Int32)) (h2 : ¬ x = (2 : Int32)) (h3 : ¬ x = (3 : Int32)) (h4 : ¬ x = (4 : Int32)) (h5 : ¬ x = (5 : Int32)) (h6 : ¬ x = (6 : Int32)) (h7 : ¬ x = (7 : Int32)) : ct g l yX1_rowAt wsX1_rowAt (rmk 1 22) [.ref (a 0), .int x] [kX1 g a be0 be1 be2 be3 be4 be5 be6 be7 v] (some .null) [kX1 g a be0 be1 be2 be3 be4 be5 be6 be7 v] := by
  have hc : fX7_isWithin 0 x (0 : Int32) (7 : Int32) = some (0 : Int32) := by
    unfold fX7_isWithin
    by_cases a1 : x < 0
    · rw [if_pos a1]
    · rw [if_neg a1]
      by_cases a2 : (7 : Int32) < x
      · rw [if_pos a2]
      · exfalso
        rw [Int32.lt_iff_toInt_lt] at a1 a2
        have z0 : (0 : Int32).toInt = 0 := by decide
        have z7 : (7 : Int32).toInt = 7 := by decide
        have t0 := lv_neT h0 (show (0 : Int32).toInt = 0 by decide)
        have t1 := lv_neT h1 (show (1 : Int32).toInt = 1 by decide)
        have t2 := lv_neT h2 (show (2 : Int32).toInt = 2 by decide)
        have t3 := lv_neT h3 (show (3 : Int32).toInt = 3 by decide)
        have t4 := lv_neT h4 (show (4 : Int32).toInt = 4 by decide)
        have t5 := lv_neT h5 (show (5 : Int32).toInt = 5 by decide)
        have t6 := lv_neT h6 (show (6 : Int32).toInt = 6 by decide)
        have t7 := lv_neT h7 (show (7 : Int32).toInt = 7 by decide)
        omega
  refine ct_of (cc := cX1_rowAt) (maxL := 2) (ret := (some (.object "UpwardGrants$State"))) (by decide) rfl (Nat.le_of_ble_eq_true rfl) ?_
  intro p e s m args below meth c A ls C hr hk0 hA hW hl
  have hx := C.1.1
  have hb := C.1.2.1
  replace hl : lv_has ls 2 [(0, .ref (a 0)), (1, .int x)] := hl
  have inX1 : ∀ w ∈ wsX10, w ∈ wsX1_rowAt := fun _ h => List.mem_cons_of_mem _ (List.mem_append_right _ h)
  refine lv_iload_n hx hb dX1_rowAt_0 rfl (lv_at hl 1 rfl) ?_
  refine lv_iconst (v := (0 : Int32)) hx hb dX1_rowAt_1 (by decide) ?_
  refine lv_bipush (v := (7 : Int32)) hx hb dX1_rowAt_2 (by decide) ?_
  refine g_cSN C (ct_X7_isWithin g l 0 x (0 : Int32) (7 : Int32) hc) gX1_rowAt_X7_isWithin_n39 rfl 3 (by decide +kernel) (List.mem_of_getElem? (i := 1) rfl) (List.mem_of_getElem? (i := 2) rfl) (List.mem_of_getElem? (i := 3) rfl) ⟨rfl, rfl, ⟨Nat.le_of_ble_eq_true rfl, Nat.le_of_ble_eq_true rfl⟩, Nat.le_of_ble_eq_true rfl, Nat.le_of_ble_eq_true rfl⟩ rfl hl (Nat.le_of_ble_eq_true rfl) dX1_rowAt_4 rfl hW hA [] rfl rfl rfl (ch' := [kX1 g a be0 be1 be2 be3 be4 be5 be6 be7 v]) rfl (fun H locs hW => ?_)
  refine lv_if_eq (tgt := 19) hx hb dX1_rowAt_7 (by decide) (fun _ => ?_) (fun h => absurd rfl h)
  refine lv_null hx hb dX1_rowAt_19 ?_
  exact g_aret C hr hk0 hW (Or.inl rfl) rfl rfl dX1_rowAt_20
set_option maxHeartbeats 4000000 in
set_option maxRecDepth 100000 in
theorem ct_X7_imageAt_0 (g : GT) (l : Launch) (a : Nat → Nat) (b0 b1 b2 b3 b4 b5 b6 b7 b8 b9 : Nat) (x : Int32) (v : MM) (h : x = (0 : Int32)) : ct g l yX7_imageAt wsX7_imageAt (rmk 0 0) [.ref (a 0), .int x] [kX7 g a b0 b1 b2 b3 b4 b5 b6 b7 b8 b9 v] (some (.ref b8)) [kX7 g a b0 b1 b2 b3 b4 b5 b6 b7 b8 b9 v] := by
  refine ct_of (cc := cX7_imageAt) (maxL := 2) (ret := (some (.object "UpwardGrants$Image"))) (by decide) rfl (Nat.le_of_ble_eq_true rfl) ?_
  intro p e s m args below meth c A ls C hr hk0 hA hW hl
  have hx := C.1.1
  have hb := C.1.2.1
  replace hl : lv_has ls 2 [(0, .ref (a 0)), (1, .int x)] := hl
  have inX7 : ∀ w ∈ wsX70, w ∈ wsX7_imageAt := fun _ h => List.mem_cons_of_mem _ (List.mem_append_right _ h)
  refine lv_iload_n hx hb dX7_imageAt_0 rfl (lv_at hl 1 rfl) ?_
  refine lv_if_ne (tgt := 11) hx hb dX7_imageAt_1 (by decide) (fun q => absurd h q) (fun _ => ?_)
  refine lv_aload_n hx hb dX7_imageAt_4 rfl (lv_at hl 0 rfl) ?_
  refine g_get C hW inX7 0 rfl rfl rfl 8 (by decide) (List.mem_of_getElem? (i := 1) rfl) (v := .ref b8) rfl dX7_imageAt_5 ?_
  refine lv_goto (tgt := 15) hx hb dX7_imageAt_8 (by decide) ?_
  exact g_aret C hr hk0 hW (Or.inr ⟨_, rfl⟩) rfl rfl dX7_imageAt_15
set_option maxHeartbeats 4000000 in
set_option maxRecDepth 100000 in
theorem ct_X7_imageAt_1 (g : GT) (l : Launch) (a : Nat → Nat) (b0 b1 b2 b3 b4 b5 b6 b7 b8 b9 : Nat) (x : Int32) (v : MM) (h : ¬ x = (0 : Int32)) : ct g l yX7_imageAt wsX7_imageAt (rmk 0 0) [.ref (a 0), .int x] [kX7 g a b0 b1 b2 b3 b4 b5 b6 b7 b8 b9 v] (some (.ref b9)) [kX7 g a b0 b1 b2 b3 b4 b5 b6 b7 b8 b9 v] := by
  refine ct_of (cc := cX7_imageAt) (maxL := 2) (ret := (some (.object "UpwardGrants$Image"))) (by decide) rfl (Nat.le_of_ble_eq_true rfl) ?_
  intro p e s m args below meth c A ls C hr hk0 hA hW hl
  have hx := C.1.1
  have hb := C.1.2.1
  replace hl : lv_has ls 2 [(0, .ref (a 0)), (1, .int x)] := hl
  have inX7 : ∀ w ∈ wsX70, w ∈ wsX7_imageAt := fun _ h => List.mem_cons_of_mem _ (List.mem_append_right _ h)
  refine lv_iload_n hx hb dX7_imageAt_0 rfl (lv_at hl 1 rfl) ?_
  refine lv_if_ne (tgt := 11) hx hb dX7_imageAt_1 (by decide) (fun _ => ?_) (fun q => absurd q h)
  refine lv_aload_n hx hb dX7_imageAt_11 rfl (lv_at hl 0 rfl) ?_
  refine g_get C hW inX7 0 rfl rfl rfl 9 (by decide) (List.mem_of_getElem? (i := 2) rfl) (v := .ref b9) rfl dX7_imageAt_12 ?_
  exact g_aret C hr hk0 hW (Or.inr ⟨_, rfl⟩) rfl rfl dX7_imageAt_15
