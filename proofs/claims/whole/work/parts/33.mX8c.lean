def fX8_copies_L3 (N : Nat) (k : Int32 → (Nat → Int32) → Option ((Nat → Int32))) (x3 : Int32) (x4 : Int32) (n0 : Nat) (n1 : Nat) (v0 : (Nat → Int32)) : Nat → Int32 → (Nat → Int32) → Option ((Nat → Int32))
  | 0, _, _ => none
  | n + 1, x5, v1 => (if (667 : Int32) ≤ x5 then k x5 v1 else (if ib (x3 + x5) n0 = true then (if ib (x4 + x5) n1 = true then fX8_copies_L3 N k x3 x4 n0 n1 v0 n (x5 + 1) (upd v1 (Int32.toNatClampNeg (x4 + x5)) (v0 (Int32.toNatClampNeg (x3 + x5)))) else none) else none))
def fX8_copies (N : Nat) (x3 : Int32) (x4 : Int32) (n0 : Nat) (n1 : Nat) (v0 : Nat → Int32) (v1 : Nat → Int32) : Option ((Nat → Int32)) := (fX8_copies_L3 N (fun (x5_1 : Int32) (v1_1 : (Nat → Int32)) => some v1_1) x3 x4 n0 n1 v0 N (0 : Int32) v1)
set_option maxHeartbeats 4000000 in
set_option maxRecDepth 100000 in
theorem ct_X8_copies (g : GT) (l : Launch) (N : Nat) (a0 : Nat) (a1 : Nat) (q : Nat) (x3 : Int32) (x4 : Int32) (n0 : Nat) (n1 : Nat) (v0 : Nat → Int32) (v1 : Nat → Int32) {y : (Nat → Int32)} (hf : fX8_copies N x3 x4 n0 n1 v0 v1 = some y) : ct g l yX8_copies wsX8_copies (rmk 0 0) [.ref q, .ref a0, .ref a1, .int x3, .int x4] [[(a0, .inl (g.2.1, n0, .inl v0))], [(a1, .inl (g.2.1, n1, .inl v1))]] none [[(a0, .inl (g.2.1, n0, .inl v0))], [(a1, .inl (g.2.1, n1, .inl y))]] := by
  refine ct_of (cc := cX8_copies) (maxL := 6) (ret := none) (by decide) rfl (Nat.le_of_ble_eq_true rfl) ?_
  intro p e s m args below meth c A ls C hr hk0 hA hW hl
  have hx := C.1.1
  have hb := C.1.2.1
  replace hl : lv_has ls 6 [(0, .ref q), (1, .ref a0), (2, .ref a1), (3, .int x3), (4, .int x4)] := hl
  obtain ⟨Q, hQ⟩ : ∃ Q, Q = MQ below (ctQ g A none [[(a0, .inl (g.2.1, n0, .inl v0))], [(a1, .inl (g.2.1, n1, .inl y))]]) args s 0 0 A := ⟨_, rfl⟩
  rw [← hQ]
  obtain ⟨H, hH⟩ : ∃ H, H = s.heap := ⟨_, rfl⟩
  obtain ⟨locs, hL⟩ : ∃ locs : List Loc, locs = [] := ⟨_, rfl⟩
  replace hW : wd g A s.heap [[(a0, .inl (g.2.1, n0, .inl v0))], [(a1, .inl (g.2.1, n1, .inl v1))]] H locs := by rw [hH, hL]; exact hW
  suffices hG : W p l e (rmk 0 0) s m args below meth c H locs 0 0 Q (F0 m 0 ls []) by
    rw [hH, hL] at hG; exact hG
  clear hH hL
  have L3 : ∀ (x3 : Int32) (x4 : Int32) (k : Int32 → (Nat → Int32) → Option ((Nat → Int32))) (hk : ∀ (x5 : Int32) (v1 : (Nat → Int32)) (H : Heap) (locs : List Loc) (ls : Array Slot), k x5 v1 = some y → wd g A s.heap [[(a0, .inl (g.2.1, n0, .inl v0))], [(a1, .inl (g.2.1, n1, .inl v1))]] H locs → lv_has ls 6 [(0, .ref q), (1, .ref a0), (2, .ref a1), (3, .int x3), (4, .int x4), (5, .int x5)] → W p l e (rmk 0 0) s m args below meth c H locs 0 0 Q (F0 m 30 ls [])) (n : Nat) (x5 : Int32) (v1 : (Nat → Int32)) (H : Heap) (locs : List Loc) (ls : Array Slot), fX8_copies_L3 N k x3 x4 n0 n1 v0 n x5 v1 = some y → wd g A s.heap [[(a0, .inl (g.2.1, n0, .inl v0))], [(a1, .inl (g.2.1, n1, .inl v1))]] H locs → lv_has ls 6 [(0, .ref q), (1, .ref a0), (2, .ref a1), (3, .int x3), (4, .int x4), (5, .int x5)] → W p l e (rmk 0 0) s m args below meth c H locs 0 0 Q (F0 m 3 ls []) := by
    intro x3 x4 k hk n
    induction n with
    | zero => intro x5 v1 H locs ls hf; rw [fX8_copies_L3] at hf; cases hf
    | succ n ih =>
      intro x5 v1 H locs ls hf hW hl
      rw [fX8_copies_L3] at hf
      refine lv_iload hx hb dX8_copies_3 (lv_at hl 5 rfl) ?_
      refine lv_sipush (v := (667 : Int32)) hx hb dX8_copies_5 (by decide) ?_
      refine lv_icmp_ge (tgt := 30) hx hb dX8_copies_8 (by decide) (fun h => ?_) (fun h => ?_)
      · replace hf := (if_pos h).symm.trans hf
        exact hk _ _ H locs ls hf hW (lv_sub hl [0, 1, 2, 3, 4, 5] rfl)
      · replace hf := (if_neg h).symm.trans hf
        refine lv_aload_n hx hb dX8_copies_11 rfl (lv_at hl 2 rfl) ?_
        refine lv_iload hx hb dX8_copies_12 (lv_at hl 4 rfl) ?_
        refine lv_iload hx hb dX8_copies_14 (lv_at hl 5 rfl) ?_
        refine lv_iadd hx hb dX8_copies_16 ?_
        refine lv_aload_n hx hb dX8_copies_17 rfl (lv_at hl 1 rfl) ?_
        refine lv_iload_n hx hb dX8_copies_18 rfl (lv_at hl 3 rfl) ?_
        refine lv_iload hx hb dX8_copies_19 (lv_at hl 5 rfl) ?_
        refine lv_iadd hx hb dX8_copies_21 ?_
        obtain ⟨hi, hf⟩ := gd_of hf
        refine g_iald C hW 0 0 rfl (f := v0) rfl (ib_in hi) dX8_copies_22 ?_
        obtain ⟨hi, hf⟩ := gd_of hf
        refine g_iast C hW 1 0 rfl (f := v1) rfl (ib_in hi) (rfl) (ch' := [[(a0, .inl (g.2.1, n0, .inl v0))], [(a1, .inl (g.2.1, n1, .inl (upd v1 (Int32.toNatClampNeg (x4 + x5)) (v0 (Int32.toNatClampNeg (x3 + x5))))))]]) rfl dX8_copies_23 (fun H locs hW => ?_)
        refine lv_iinc (v := (x5 + 1)) (lv' := [(5, .int (x5 + 1)), (0, .ref q), (1, .ref a0), (2, .ref a1), (3, .int x3), (4, .int x4)]) hx hb dX8_copies_24 hl (k := 5) rfl (by first | rfl | decide) (by decide) rfl (fun ls hl => ?_)
        refine lv_goto (tgt := 3) hx hb dX8_copies_27 (by decide) ?_
        exact ih _ _ H locs ls hf hW (lv_sub hl [1, 2, 3, 4, 5, 0] rfl)
  rw [fX8_copies] at hf
  refine lv_iconst (v := (0 : Int32)) hx hb dX8_copies_0 (by decide) ?_
  refine lv_istore (lv' := [(5, .int (0 : Int32)), (0, .ref q), (1, .ref a0), (2, .ref a1), (3, .int x3), (4, .int x4)]) hx hb dX8_copies_1 hl (by decide) rfl (fun ls hl => ?_)
  refine L3 x3 x4 _ (fun x5_1 v1_1 H locs ls hf hW hl => ?_) N (0 : Int32) v1 H locs ls hf hW (lv_sub hl [1, 2, 3, 4, 5, 0] rfl)
  obtain rfl := Option.some.inj hf
  subst hQ
  exact g_vret C hr hk0 hW rfl rfl dX8_copies_30
def fX8_notes_L11 (N : Nat) (k : Int32 → MM → Option (MM)) : Nat → Int32 → MM → Option (MM)
  | 0, _, _ => none
  | n + 1, x1, v0 => (if (4669 : Int32) ≤ x1 then k x1 v0 else (if ib (x1 + (667 : Int32)) 5336 = true then (if ib x1 5336 = true then fX8_notes_L11 N k n (x1 + 1) (st v0 18 (upd (v0 18) (Int32.toNatClampNeg x1) ((v0 18) (Int32.toNatClampNeg (x1 + (667 : Int32)))))) else none) else none))
def fX8_notes (N : Nat) (v0 : MM) : Option (MM) := (if (v0 17 0) = (8 : Int32) then (fX8_notes_L11 N (fun (x1_2 : Int32) (v0_2 : MM) => ((fX8_copies N (0 : Int32) ((667 : Int32) * ((v0_2 17 0) - (1 : Int32))) 667 5336 (v0_2 16) (v0_2 18)).bind (fun y3 => some (st (st (st v0_2 17 (fun _ => ((v0_2 17 0) - (1 : Int32)))) 18 y3) 17 (fun _ => (((v0_2 17 0) - (1 : Int32)) + (1 : Int32))))))) N (0 : Int32) v0) else ((fX8_copies N (0 : Int32) ((667 : Int32) * (v0 17 0)) 667 5336 (v0 16) (v0 18)).bind (fun y1 => some (st (st v0 18 y1) 17 (fun _ => ((v0 17 0) + (1 : Int32)))))))
set_option maxHeartbeats 4000000 in
set_option maxRecDepth 100000 in
theorem ct_X8_notes (g : GT) (l : Launch) (N : Nat) (a0 : Nat → Nat) (v0 : MM) {y : MM} (hf : fX8_notes N v0 = some y) : ct g l yX8_notes wsX8_notes (rmk 1 25) [.ref (a0 0)] [kX8 g a0 v0] none [kX8 g a0 y] := by
  refine ct_of (cc := cX8_notes) (maxL := 2) (ret := none) (by decide) rfl (Nat.le_of_ble_eq_true rfl) ?_
  intro p e s m args below meth c A ls C hr hk0 hA hW hl
  have hx := C.1.1
  have hb := C.1.2.1
  replace hl : lv_has ls 2 [(0, .ref (a0 0))] := hl
  obtain ⟨Q, hQ⟩ : ∃ Q, Q = MQ below (ctQ g A none [kX8 g a0 y]) args s 0 0 A := ⟨_, rfl⟩
  rw [← hQ]
  obtain ⟨H, hH⟩ : ∃ H, H = s.heap := ⟨_, rfl⟩
  obtain ⟨locs, hL⟩ : ∃ locs : List Loc, locs = [] := ⟨_, rfl⟩
  replace hW : wd g A s.heap [kX8 g a0 v0] H locs := by rw [hH, hL]; exact hW
  suffices hG : W p l e (rmk 1 25) s m args below meth c H locs 0 0 Q (F0 m 0 ls []) by
    rw [hH, hL] at hG; exact hG
  clear hH hL
  have inX8 : ∀ w ∈ wsX80, w ∈ wsX8_notes := fun _ h => List.mem_cons_of_mem _ (List.mem_append_right _ (h))
  have L11 : ∀ (k : Int32 → MM → Option (MM)) (hk : ∀ (x1 : Int32) (v0 : MM) (H : Heap) (locs : List Loc) (ls : Array Slot), k x1 v0 = some y → wd g A s.heap [kX8 g a0 v0] H locs → lv_has ls 2 [(0, .ref (a0 0)), (1, .int x1)] → W p l e (rmk 1 25) s m args below meth c H locs 0 0 Q (F0 m 40 ls [])) (n : Nat) (x1 : Int32) (v0 : MM) (H : Heap) (locs : List Loc) (ls : Array Slot), fX8_notes_L11 N k n x1 v0 = some y → wd g A s.heap [kX8 g a0 v0] H locs → lv_has ls 2 [(0, .ref (a0 0)), (1, .int x1)] → W p l e (rmk 1 25) s m args below meth c H locs 0 0 Q (F0 m 11 ls []) := by
    intro k hk n
    induction n with
    | zero => intro x1 v0 H locs ls hf; rw [fX8_notes_L11] at hf; cases hf
    | succ n ih =>
      intro x1 v0 H locs ls hf hW hl
      rw [fX8_notes_L11] at hf
      refine lv_iload_n hx hb dX8_notes_11 rfl (lv_at hl 1 rfl) ?_
      refine lv_sipush (v := (4669 : Int32)) hx hb dX8_notes_12 (by decide) ?_
      refine lv_icmp_ge (tgt := 40) hx hb dX8_notes_15 (by decide) (fun h => ?_) (fun h => ?_)
      · replace hf := (if_pos h).symm.trans hf
        exact hk _ _ H locs ls hf hW (lv_sub hl [0, 1] rfl)
      · replace hf := (if_neg h).symm.trans hf
        refine lv_aload_n hx hb dX8_notes_18 rfl (lv_at hl 0 rfl) ?_
        refine g_get C hW inX8 0 rfl rfl rfl 18 (by decide) (List.mem_of_getElem? (i := 2) rfl) (v := .ref (a0 6)) rfl dX8_notes_19 ?_
        refine lv_iload_n hx hb dX8_notes_22 rfl (lv_at hl 1 rfl) ?_
        refine lv_aload_n hx hb dX8_notes_23 rfl (lv_at hl 0 rfl) ?_
        refine g_get C hW inX8 0 rfl rfl rfl 18 (by decide) (List.mem_of_getElem? (i := 2) rfl) (v := .ref (a0 6)) rfl dX8_notes_24 ?_
        refine lv_iload_n hx hb dX8_notes_27 rfl (lv_at hl 1 rfl) ?_
        refine lv_sipush (v := (667 : Int32)) hx hb dX8_notes_28 (by decide) ?_
        refine lv_iadd hx hb dX8_notes_31 ?_
        obtain ⟨hi, hf⟩ := gd_of hf
        refine g_iald C hW 0 6 rfl (f := (v0 18)) rfl (ib_in hi) dX8_notes_32 ?_
        obtain ⟨hi, hf⟩ := gd_of hf
        refine g_iast C hW 0 6 rfl (f := (v0 18)) rfl (ib_in hi) (kX8_w18 g a0 v0 (upd (v0 18) (Int32.toNatClampNeg x1) ((v0 18) (Int32.toNatClampNeg (x1 + (667 : Int32)))))) (ch' := [kX8 g a0 (st v0 18 (upd (v0 18) (Int32.toNatClampNeg x1) ((v0 18) (Int32.toNatClampNeg (x1 + (667 : Int32))))))]) rfl dX8_notes_33 (fun H locs hW => ?_)
        refine lv_iinc (v := (x1 + 1)) (lv' := [(1, .int (x1 + 1)), (0, .ref (a0 0))]) hx hb dX8_notes_34 hl (k := 1) rfl (by first | rfl | decide) (by decide) rfl (fun ls hl => ?_)
        refine lv_goto (tgt := 11) hx hb dX8_notes_37 (by decide) ?_
        exact ih _ _ H locs ls hf hW (lv_sub hl [1, 0] rfl)
  rw [fX8_notes] at hf
  refine lv_aload_n hx hb dX8_notes_0 rfl (lv_at hl 0 rfl) ?_
  refine g_get C hW inX8 0 rfl rfl rfl 17 (by decide) (List.mem_of_getElem? (i := 1) rfl) (v := .int (v0 17 0)) rfl dX8_notes_1 ?_
  refine lv_bipush (v := (8 : Int32)) hx hb dX8_notes_4 (by decide) ?_
  refine lv_icmp_ne (tgt := 50) hx hb dX8_notes_6 (by decide) (fun h => ?_) (fun h => ?_)
  · replace hf := (if_neg h).symm.trans hf
    refine lv_aload_n hx hb dX8_notes_50 rfl (lv_at hl 0 rfl) ?_
    refine lv_aload_n hx hb dX8_notes_51 rfl (lv_at hl 0 rfl) ?_
    refine g_get C hW inX8 0 rfl rfl rfl 16 (by decide) (List.mem_of_getElem? (i := 3) rfl) (v := .ref (a0 5)) rfl dX8_notes_52 ?_
    refine lv_aload_n hx hb dX8_notes_55 rfl (lv_at hl 0 rfl) ?_
    refine g_get C hW inX8 0 rfl rfl rfl 18 (by decide) (List.mem_of_getElem? (i := 2) rfl) (v := .ref (a0 6)) rfl dX8_notes_56 ?_
    refine lv_iconst (v := (0 : Int32)) hx hb dX8_notes_59 (by decide) ?_
    refine lv_sipush (v := (667 : Int32)) hx hb dX8_notes_60 (by decide) ?_
    refine lv_aload_n hx hb dX8_notes_63 rfl (lv_at hl 0 rfl) ?_
    refine g_get C hW inX8 0 rfl rfl rfl 17 (by decide) (List.mem_of_getElem? (i := 1) rfl) (v := .int (v0 17 0)) rfl dX8_notes_64 ?_
    refine lv_imul hx hb dX8_notes_67 ?_
    obtain ⟨y1, hc, hf⟩ := bd_of hf
    replace hW := hW.re (ch' := [(kX8 g a0 v0).take 5, [(a0 5, .inl (g.2.1, 667, .inl (v0 16)))], ((kX8 g a0 v0).drop 6 |>.take 0), [(a0 6, .inl (g.2.1, 5336, .inl (v0 18)))], (kX8 g a0 v0).drop 7]) rfl
    refine g_cVv (Cn := RX8) C (ct_X8_copies g l N (a0 5) (a0 6) (a0 0) (0 : Int32) ((667 : Int32) * (v0 17 0)) 667 5336 (v0 16) (v0 18) hc) gX8_notes_X8_copies rfl 4 (by decide +kernel) ⟨rfl, rfl, ⟨Nat.le_of_ble_eq_true rfl, Nat.le_of_ble_eq_true rfl⟩, Nat.le_of_ble_eq_true rfl, Nat.le_of_ble_eq_true rfl⟩ rfl hl (Nat.le_of_ble_eq_true rfl) dX8_notes_68 rfl hW hA [1, 3] rfl rfl rfl (ch' := [(kX8 g a0 v0).take 5, [(a0 5, .inl (g.2.1, 667, .inl (v0 16)))], ((kX8 g a0 v0).drop 6 |>.take 0), [(a0 6, .inl (g.2.1, 5336, .inl y1))], (kX8 g a0 v0).drop 7]) rfl 0 rfl rfl rfl (fun H locs hW => ?_)
    replace hW := hW.re (ch' := [kX8 g a0 (st v0 18 y1)]) rfl
    refine lv_aload_n hx hb dX8_notes_71 rfl (lv_at hl 0 rfl) ?_
    refine lv_dup hx hb dX8_notes_72 rfl ?_
    refine g_get C hW inX8 0 rfl rfl rfl 17 (by decide) (List.mem_of_getElem? (i := 1) rfl) (v := .int (v0 17 0)) rfl dX8_notes_73 ?_
    refine lv_iconst (v := (1 : Int32)) hx hb dX8_notes_76 (by decide) ?_
    refine lv_iadd hx hb dX8_notes_77 ?_
    refine g_put C hW inX8 tyX8_ok nmX8 0 rfl rfl rfl 17 (by decide) (List.mem_of_getElem? (i := 1) rfl) rfl rfl rfl rfl (kX8_s17 g a0 (st v0 18 y1) ((v0 17 0) + (1 : Int32))) (ch' := [kX8 g a0 (st (st v0 18 y1) 17 (fun _ => ((v0 17 0) + (1 : Int32))))]) rfl dX8_notes_78 (fun H locs hW => ?_)
    obtain rfl := Option.some.inj hf
    subst hQ
    exact g_vret C hr hk0 hW rfl rfl dX8_notes_81
  · replace hf := (if_pos h).symm.trans hf
    refine lv_iconst (v := (0 : Int32)) hx hb dX8_notes_9 (by decide) ?_
    refine lv_istore_n (lv' := [(1, .int (0 : Int32)), (0, .ref (a0 0))]) hx hb dX8_notes_10 rfl hl (by decide) rfl (fun ls hl => ?_)
    refine L11 _ (fun x1_2 v0_2 H locs ls hf hW hl => ?_) N (0 : Int32) v0 H locs ls hf hW (lv_sub hl [1, 0] rfl)
    refine lv_aload_n hx hb dX8_notes_40 rfl (lv_at hl 0 rfl) ?_
    refine lv_dup hx hb dX8_notes_41 rfl ?_
    refine g_get C hW inX8 0 rfl rfl rfl 17 (by decide) (List.mem_of_getElem? (i := 1) rfl) (v := .int (v0_2 17 0)) rfl dX8_notes_42 ?_
    refine lv_iconst (v := (1 : Int32)) hx hb dX8_notes_45 (by decide) ?_
    refine lv_isub hx hb dX8_notes_46 ?_
    refine g_put C hW inX8 tyX8_ok nmX8 0 rfl rfl rfl 17 (by decide) (List.mem_of_getElem? (i := 1) rfl) rfl rfl rfl rfl (kX8_s17 g a0 v0_2 ((v0_2 17 0) - (1 : Int32))) (ch' := [kX8 g a0 (st v0_2 17 (fun _ => ((v0_2 17 0) - (1 : Int32))))]) rfl dX8_notes_47 (fun H locs hW => ?_)
    refine lv_aload_n hx hb dX8_notes_50 rfl (lv_at hl 0 rfl) ?_
    refine lv_aload_n hx hb dX8_notes_51 rfl (lv_at hl 0 rfl) ?_
    refine g_get C hW inX8 0 rfl rfl rfl 16 (by decide) (List.mem_of_getElem? (i := 3) rfl) (v := .ref (a0 5)) rfl dX8_notes_52 ?_
    refine lv_aload_n hx hb dX8_notes_55 rfl (lv_at hl 0 rfl) ?_
    refine g_get C hW inX8 0 rfl rfl rfl 18 (by decide) (List.mem_of_getElem? (i := 2) rfl) (v := .ref (a0 6)) rfl dX8_notes_56 ?_
    refine lv_iconst (v := (0 : Int32)) hx hb dX8_notes_59 (by decide) ?_
    refine lv_sipush (v := (667 : Int32)) hx hb dX8_notes_60 (by decide) ?_
    refine lv_aload_n hx hb dX8_notes_63 rfl (lv_at hl 0 rfl) ?_
    refine g_get C hW inX8 0 rfl rfl rfl 17 (by decide) (List.mem_of_getElem? (i := 1) rfl) (v := .int ((v0_2 17 0) - (1 : Int32))) rfl dX8_notes_64 ?_
    refine lv_imul hx hb dX8_notes_67 ?_
    obtain ⟨y3, hc, hf⟩ := bd_of hf
    obtain ⟨V4, hV4⟩ : ∃ z : MM, z = (st v0_2 17 (fun _ => ((v0_2 17 0) - (1 : Int32)))) := ⟨_, rfl⟩
    rw [← hV4] at hW
    replace hc : fX8_copies N (0 : Int32) ((667 : Int32) * ((v0_2 17 0) - (1 : Int32))) 667 5336 (V4 16) (V4 18) = some y3 := by rw [hV4]; exact hc
    replace hW := hW.re (ch' := [(kX8 g a0 V4).take 5, [(a0 5, .inl (g.2.1, 667, .inl (V4 16)))], ((kX8 g a0 V4).drop 6 |>.take 0), [(a0 6, .inl (g.2.1, 5336, .inl (V4 18)))], (kX8 g a0 V4).drop 7]) rfl
    refine g_cVv (Cn := RX8) C (ct_X8_copies g l N (a0 5) (a0 6) (a0 0) (0 : Int32) ((667 : Int32) * ((v0_2 17 0) - (1 : Int32))) 667 5336 (V4 16) (V4 18) hc) gX8_notes_X8_copies rfl 4 (by decide +kernel) ⟨rfl, rfl, ⟨Nat.le_of_ble_eq_true rfl, Nat.le_of_ble_eq_true rfl⟩, Nat.le_of_ble_eq_true rfl, Nat.le_of_ble_eq_true rfl⟩ rfl hl (Nat.le_of_ble_eq_true rfl) dX8_notes_68 rfl hW hA [1, 3] rfl rfl rfl (ch' := [(kX8 g a0 V4).take 5, [(a0 5, .inl (g.2.1, 667, .inl (V4 16)))], ((kX8 g a0 V4).drop 6 |>.take 0), [(a0 6, .inl (g.2.1, 5336, .inl y3))], (kX8 g a0 V4).drop 7]) rfl 0 rfl rfl rfl (fun H locs hW => ?_)
    replace hW := hW.re (ch' := [kX8 g a0 (st V4 18 y3)]) rfl
    subst hV4
    refine lv_aload_n hx hb dX8_notes_71 rfl (lv_at hl 0 rfl) ?_
    refine lv_dup hx hb dX8_notes_72 rfl ?_
    refine g_get C hW inX8 0 rfl rfl rfl 17 (by decide) (List.mem_of_getElem? (i := 1) rfl) (v := .int ((v0_2 17 0) - (1 : Int32))) rfl dX8_notes_73 ?_
    refine lv_iconst (v := (1 : Int32)) hx hb dX8_notes_76 (by decide) ?_
    refine lv_iadd hx hb dX8_notes_77 ?_
    refine g_put C hW inX8 tyX8_ok nmX8 0 rfl rfl rfl 17 (by decide) (List.mem_of_getElem? (i := 1) rfl) rfl rfl rfl rfl (kX8_s17 g a0 (st (st v0_2 17 (fun _ => ((v0_2 17 0) - (1 : Int32)))) 18 y3) (((v0_2 17 0) - (1 : Int32)) + (1 : Int32))) (ch' := [kX8 g a0 (st (st (st v0_2 17 (fun _ => ((v0_2 17 0) - (1 : Int32)))) 18 y3) 17 (fun _ => (((v0_2 17 0) - (1 : Int32)) + (1 : Int32))))]) rfl dX8_notes_78 (fun H locs hW => ?_)
    obtain rfl := Option.some.inj hf
    subst hQ
    exact g_vret C hr hk0 hW rfl rfl dX8_notes_81
def fX8_comes_L65 (N : Nat) (k : Int32 → Int32 → Option (Int32 × MM)) (x1 : Int32) (x2 : Int32) (x3 : Int32) (v0 : MM) : Nat → Int32 → Int32 → Option (Int32 × MM)
  | 0, _, _ => none
  | n + 1, x4, x5 => (if (v0 2 0) ≤ x5 then k x4 x5 else (if ib ((4 : Int32) * x5) 24 = true then (if ((v0 7) (Int32.toNatClampNeg ((4 : Int32) * x5))) = x3 then ((fX8_isAhead N x1 x5 v0).bind (fun y5 => (if y5 = 0 then ((fX8_ofClass N x5 (0 : Int32)).bind (fun y6 => (if ib y6 667 = true then fX8_comes_L65 N k x1 x2 x3 v0 n (x4 + ((v0 16) (Int32.toNatClampNeg y6))) (x5 + 1) else none))) else fX8_comes_L65 N k x1 x2 x3 v0 n (x4 + (0 : Int32)) (x5 + 1)))) else fX8_comes_L65 N k x1 x2 x3 v0 n (x4 + (0 : Int32)) (x5 + 1)) else none))
def fX8_comes (N : Nat) (x1 : Int32) (x2 : Int32) (v0 : MM) : Option (Int32 × MM) := ((fX8_isClass N x1 (st v0 0 (fun _ => (0 : Int32)))).bind (fun y1 => (if y1 = 0 then some ((-1 : Int32), (st v0 0 (fun _ => (0 : Int32)))) else ((fX8_in N x2 (1 : Int32) (99 : Int32)).bind (fun y2 => (if y2 = 0 then some ((-1 : Int32), (st v0 0 (fun _ => (0 : Int32)))) else ((fX8_ofClass N x1 (0 : Int32)).bind (fun y3 => (if ib y3 667 = true then (if (((v0 16) (Int32.toNatClampNeg y3)) + x2) ≤ (999 : Int32) then ((fX8_notes N (st v0 0 (fun _ => (0 : Int32)))).bind (fun y4 => (if ib ((4 : Int32) * x1) 24 = true then (fX8_comes_L65 N (fun (x4_7 : Int32) (x5_7 : Int32) => ((fX8_ofTerminal N ((y4 7) (Int32.toNatClampNeg ((4 : Int32) * x1))) (0 : Int32)).bind (fun y8 => (if x4_7 = 0 then (if ib y8 667 = true then ((fX8_ofClass N x1 (0 : Int32)).bind (fun y12 => (if ib y12 667 = true then (if ib y12 667 = true then ((fX8_ofClass N x1 (0 : Int32)).bind (fun y13 => (if ib y13 667 = true then some (((upd (upd (y4 16) (Int32.toNatClampNeg y8) (1 : Int32)) (Int32.toNatClampNeg y12) (((upd (y4 16) (Int32.toNatClampNeg y8) (1 : Int32)) (Int32.toNatClampNeg y12)) + x2)) (Int32.toNatClampNeg y13)), (st (st y4 16 (upd (y4 16) (Int32.toNatClampNeg y8) (1 : Int32))) 16 (upd (upd (y4 16) (Int32.toNatClampNeg y8) (1 : Int32)) (Int32.toNatClampNeg y12) (((upd (y4 16) (Int32.toNatClampNeg y8) (1 : Int32)) (Int32.toNatClampNeg y12)) + x2)))) else none))) else none) else none))) else none) else ((fX8_ofTerminal N ((y4 7) (Int32.toNatClampNeg ((4 : Int32) * x1))) (0 : Int32)).bind (fun y9 => (if ib y9 667 = true then (if ib y8 667 = true then ((fX8_ofClass N x1 (0 : Int32)).bind (fun y10 => (if ib y10 667 = true then (if ib y10 667 = true then ((fX8_ofClass N x1 (0 : Int32)).bind (fun y11 => (if ib y11 667 = true then some (((upd (upd (y4 16) (Int32.toNatClampNeg y8) ((y4 16) (Int32.toNatClampNeg y9))) (Int32.toNatClampNeg y10) (((upd (y4 16) (Int32.toNatClampNeg y8) ((y4 16) (Int32.toNatClampNeg y9))) (Int32.toNatClampNeg y10)) + x2)) (Int32.toNatClampNeg y11)), (st (st y4 16 (upd (y4 16) (Int32.toNatClampNeg y8) ((y4 16) (Int32.toNatClampNeg y9)))) 16 (upd (upd (y4 16) (Int32.toNatClampNeg y8) ((y4 16) (Int32.toNatClampNeg y9))) (Int32.toNatClampNeg y10) (((upd (y4 16) (Int32.toNatClampNeg y8) ((y4 16) (Int32.toNatClampNeg y9))) (Int32.toNatClampNeg y10)) + x2)))) else none))) else none) else none))) else none) else none))))))) x1 x2 ((y4 7) (Int32.toNatClampNeg ((4 : Int32) * x1))) y4 N (0 : Int32) (0 : Int32)) else none))) else some ((-3 : Int32), (st v0 0 (fun _ => (0 : Int32))))) else none)))))))))
set_option maxHeartbeats 4000000 in
set_option maxRecDepth 100000 in
theorem ct_X8_comes (g : GT) (l : Launch) (N : Nat) (a0 : Nat → Nat) (x1 : Int32) (x2 : Int32) (v0 : MM) {y : Int32 × MM} (hf : fX8_comes N x1 x2 v0 = some y) : ct g l yX8_comes wsX8_comes (rmk 2 46) [.ref (a0 0), .int x1, .int x2] [kX8 g a0 v0] (some (.int y.1)) [kX8 g a0 y.2] := by
  refine ct_of (cc := cX8_comes) (maxL := 6) (ret := (some .int)) (by decide) rfl (Nat.le_of_ble_eq_true rfl) ?_
  intro p e s m args below meth c A ls C hr hk0 hA hW hl
  have hx := C.1.1
  have hb := C.1.2.1
  replace hl : lv_has ls 6 [(0, .ref (a0 0)), (1, .int x1), (2, .int x2)] := hl
  obtain ⟨Q, hQ⟩ : ∃ Q, Q = MQ below (ctQ g A (some (.int y.1)) [kX8 g a0 y.2]) args s 0 0 A := ⟨_, rfl⟩
  rw [← hQ]
  obtain ⟨H, hH⟩ : ∃ H, H = s.heap := ⟨_, rfl⟩
  obtain ⟨locs, hL⟩ : ∃ locs : List Loc, locs = [] := ⟨_, rfl⟩
  replace hW : wd g A s.heap [kX8 g a0 v0] H locs := by rw [hH, hL]; exact hW
  suffices hG : W p l e (rmk 2 46) s m args below meth c H locs 0 0 Q (F0 m 0 ls []) by
    rw [hH, hL] at hG; exact hG
  clear hH hL
  have inX8 : ∀ w ∈ wsX80, w ∈ wsX8_comes := fun _ h => List.mem_cons_of_mem _ (List.mem_append_right _ (h))
  have L65 : ∀ (x1 : Int32) (x2 : Int32) (x3 : Int32) (v0 : MM) (k : Int32 → Int32 → Option (Int32 × MM)) (hk : ∀ (x4 : Int32) (x5 : Int32) (H : Heap) (locs : List Loc) (ls : Array Slot), k x4 x5 = some y → wd g A s.heap [kX8 g a0 v0] H locs → lv_has ls 6 [(0, .ref (a0 0)), (1, .int x1), (2, .int x2), (3, .int x3), (4, .int x4), (5, .int x5)] → W p l e (rmk 2 46) s m args below meth c H locs 0 0 Q (F0 m 123 ls [])) (n : Nat) (x4 : Int32) (x5 : Int32) (H : Heap) (locs : List Loc) (ls : Array Slot), fX8_comes_L65 N k x1 x2 x3 v0 n x4 x5 = some y → wd g A s.heap [kX8 g a0 v0] H locs → lv_has ls 6 [(0, .ref (a0 0)), (1, .int x1), (2, .int x2), (3, .int x3), (4, .int x4), (5, .int x5)] → W p l e (rmk 2 46) s m args below meth c H locs 0 0 Q (F0 m 65 ls []) := by
    intro x1 x2 x3 v0 k hk n
    induction n with
    | zero => intro x4 x5 H locs ls hf; rw [fX8_comes_L65] at hf; cases hf
    | succ n ih =>
      intro x4 x5 H locs ls hf hW hl
      rw [fX8_comes_L65] at hf
      refine lv_iload hx hb dX8_comes_65 (lv_at hl 5 rfl) ?_
      refine lv_aload_n hx hb dX8_comes_67 rfl (lv_at hl 0 rfl) ?_
      refine g_get C hW inX8 0 rfl rfl rfl 2 (by decide) (List.mem_of_getElem? (i := 4) rfl) (v := .int (v0 2 0)) rfl dX8_comes_68 ?_
      refine lv_icmp_ge (tgt := 123) hx hb dX8_comes_71 (by decide) (fun h => ?_) (fun h => ?_)
      · replace hf := (if_pos h).symm.trans hf
        exact hk _ _ H locs ls hf hW (lv_sub hl [0, 1, 2, 3, 4, 5] rfl)
      · replace hf := (if_neg h).symm.trans hf
        refine lv_iload hx hb dX8_comes_74 (lv_at hl 4 rfl) ?_
        refine lv_aload_n hx hb dX8_comes_76 rfl (lv_at hl 0 rfl) ?_
        refine g_get C hW inX8 0 rfl rfl rfl 7 (by decide) (List.mem_of_getElem? (i := 3) rfl) (v := .ref (a0 2)) rfl dX8_comes_77 ?_
        refine lv_iconst (v := (4 : Int32)) hx hb dX8_comes_80 (by decide) ?_
        refine lv_iload hx hb dX8_comes_81 (lv_at hl 5 rfl) ?_
        refine lv_imul hx hb dX8_comes_83 ?_
        obtain ⟨hi, hf⟩ := gd_of hf
        refine g_iald C hW 0 2 rfl (f := (v0 7)) rfl (ib_in hi) dX8_comes_84 ?_
        refine lv_iload_n hx hb dX8_comes_85 rfl (lv_at hl 3 rfl) ?_
        refine lv_icmp_ne (tgt := 113) hx hb dX8_comes_86 (by decide) (fun h => ?_) (fun h => ?_)
        · replace hf := (if_neg h).symm.trans hf
          refine lv_iconst (v := (0 : Int32)) hx hb dX8_comes_113 (by decide) ?_
          refine lv_iadd hx hb dX8_comes_114 ?_
          refine lv_istore (lv' := [(4, .int (x4 + (0 : Int32))), (0, .ref (a0 0)), (1, .int x1), (2, .int x2), (3, .int x3), (5, .int x5)]) hx hb dX8_comes_115 hl (by decide) rfl (fun ls hl => ?_)
          refine lv_iinc (v := (x5 + 1)) (lv' := [(5, .int (x5 + 1)), (4, .int (x4 + (0 : Int32))), (0, .ref (a0 0)), (1, .int x1), (2, .int x2), (3, .int x3)]) hx hb dX8_comes_117 hl (k := 5) rfl (by first | rfl | decide) (by decide) rfl (fun ls hl => ?_)
          refine lv_goto (tgt := 65) hx hb dX8_comes_120 (by decide) ?_
          exact ih _ _ H locs ls hf hW (lv_sub hl [2, 3, 4, 5, 1, 0] rfl)
        · replace hf := (if_pos h).symm.trans hf
          refine lv_aload_n hx hb dX8_comes_89 rfl (lv_at hl 0 rfl) ?_
          refine lv_iload_n hx hb dX8_comes_90 rfl (lv_at hl 1 rfl) ?_
          refine lv_iload hx hb dX8_comes_91 (lv_at hl 5 rfl) ?_
          obtain ⟨y5, hc, hf⟩ := bd_of hf
          refine g_cV (Cn := RX8) C (ct_X8_isAhead g l N a0 x1 x5 v0 hc) gX8_comes_X8_isAhead rfl 2 (by decide +kernel) ⟨rfl, rfl, ⟨Nat.le_of_ble_eq_true rfl, Nat.le_of_ble_eq_true rfl⟩, Nat.le_of_ble_eq_true rfl, Nat.le_of_ble_eq_true rfl⟩ rfl hl (Nat.le_of_ble_eq_true rfl) dX8_comes_93 rfl hW hA [0] rfl rfl rfl (ch' := [kX8 g a0 v0]) rfl 0 rfl rfl rfl (fun H locs hW => ?_)
          refine lv_if_ne (tgt := 113) hx hb dX8_comes_96 (by decide) (fun h => ?_) (fun h => ?_)
          · replace hf := (if_neg h).symm.trans hf
            refine lv_iconst (v := (0 : Int32)) hx hb dX8_comes_113 (by decide) ?_
            refine lv_iadd hx hb dX8_comes_114 ?_
            refine lv_istore (lv' := [(4, .int (x4 + (0 : Int32))), (0, .ref (a0 0)), (1, .int x1), (2, .int x2), (3, .int x3), (5, .int x5)]) hx hb dX8_comes_115 hl (by decide) rfl (fun ls hl => ?_)
            refine lv_iinc (v := (x5 + 1)) (lv' := [(5, .int (x5 + 1)), (4, .int (x4 + (0 : Int32))), (0, .ref (a0 0)), (1, .int x1), (2, .int x2), (3, .int x3)]) hx hb dX8_comes_117 hl (k := 5) rfl (by first | rfl | decide) (by decide) rfl (fun ls hl => ?_)
            refine lv_goto (tgt := 65) hx hb dX8_comes_120 (by decide) ?_
            exact ih _ _ H locs ls hf hW (lv_sub hl [2, 3, 4, 5, 1, 0] rfl)
          · replace hf := (if_pos h).symm.trans hf
            refine lv_aload_n hx hb dX8_comes_99 rfl (lv_at hl 0 rfl) ?_
            refine g_get C hW inX8 0 rfl rfl rfl 16 (by decide) (List.mem_of_getElem? (i := 2) rfl) (v := .ref (a0 5)) rfl dX8_comes_100 ?_
            refine lv_iload hx hb dX8_comes_103 (lv_at hl 5 rfl) ?_
            refine lv_iconst (v := (0 : Int32)) hx hb dX8_comes_105 (by decide) ?_
            obtain ⟨y6, hc, hf⟩ := bd_of hf
            refine g_cS C (ct_X8_ofClass g l N x5 (0 : Int32) hc) gX8_comes_X8_ofClass rfl 2 (by decide +kernel) ⟨rfl, rfl, ⟨Nat.le_of_ble_eq_true rfl, Nat.le_of_ble_eq_true rfl⟩, Nat.le_of_ble_eq_true rfl, Nat.le_of_ble_eq_true rfl⟩ rfl hl (Nat.le_of_ble_eq_true rfl) dX8_comes_106 rfl hW hA [] rfl rfl rfl (ch' := [kX8 g a0 v0]) rfl (fun H locs hW => ?_)
            obtain ⟨hi, hf⟩ := gd_of hf
            refine g_iald C hW 0 5 rfl (f := (v0 16)) rfl (ib_in hi) dX8_comes_109 ?_
            refine lv_goto (tgt := 114) hx hb dX8_comes_110 (by decide) ?_
            refine lv_iadd hx hb dX8_comes_114 ?_
            refine lv_istore (lv' := [(4, .int (x4 + ((v0 16) (Int32.toNatClampNeg y6)))), (0, .ref (a0 0)), (1, .int x1), (2, .int x2), (3, .int x3), (5, .int x5)]) hx hb dX8_comes_115 hl (by decide) rfl (fun ls hl => ?_)
            refine lv_iinc (v := (x5 + 1)) (lv' := [(5, .int (x5 + 1)), (4, .int (x4 + ((v0 16) (Int32.toNatClampNeg y6)))), (0, .ref (a0 0)), (1, .int x1), (2, .int x2), (3, .int x3)]) hx hb dX8_comes_117 hl (k := 5) rfl (by first | rfl | decide) (by decide) rfl (fun ls hl => ?_)
            refine lv_goto (tgt := 65) hx hb dX8_comes_120 (by decide) ?_
            exact ih _ _ H locs ls hf hW (lv_sub hl [2, 3, 4, 5, 1, 0] rfl)
  rw [fX8_comes] at hf
  refine lv_aload_n hx hb dX8_comes_0 rfl (lv_at hl 0 rfl) ?_
  refine lv_iconst (v := (0 : Int32)) hx hb dX8_comes_1 (by decide) ?_
  refine g_put C hW inX8 tyX8_ok nmX8 0 rfl rfl rfl 0 (by decide) (List.mem_of_getElem? (i := 1) rfl) rfl rfl rfl rfl (kX8_s0 g a0 v0 (0 : Int32)) (ch' := [kX8 g a0 (st v0 0 (fun _ => (0 : Int32)))]) rfl dX8_comes_2 (fun H locs hW => ?_)
  refine lv_aload_n hx hb dX8_comes_5 rfl (lv_at hl 0 rfl) ?_
  refine lv_iload_n hx hb dX8_comes_6 rfl (lv_at hl 1 rfl) ?_
  obtain ⟨y1, hc, hf⟩ := bd_of hf
  refine g_cV (Cn := RX8) C (ct_X8_isClass g l N a0 x1 (st v0 0 (fun _ => (0 : Int32))) hc) gX8_comes_X8_isClass rfl 1 (by decide +kernel) ⟨rfl, rfl, ⟨Nat.le_of_ble_eq_true rfl, Nat.le_of_ble_eq_true rfl⟩, Nat.le_of_ble_eq_true rfl, Nat.le_of_ble_eq_true rfl⟩ rfl hl (Nat.le_of_ble_eq_true rfl) dX8_comes_7 rfl hW hA [0] rfl rfl rfl (ch' := [kX8 g a0 (st v0 0 (fun _ => (0 : Int32)))]) rfl 0 rfl rfl rfl (fun H locs hW => ?_)
  refine lv_if_eq (tgt := 23) hx hb dX8_comes_10 (by decide) (fun h => ?_) (fun h => ?_)
  · replace hf := (if_pos h).symm.trans hf
    refine lv_iconst (v := (-1 : Int32)) hx hb dX8_comes_23 (by decide) ?_
    obtain rfl := Option.some.inj hf
    subst hQ
    exact g_iret C hr hk0 hW rfl rfl dX8_comes_24
  · replace hf := (if_neg h).symm.trans hf
    refine lv_iload_n hx hb dX8_comes_13 rfl (lv_at hl 2 rfl) ?_
    refine lv_iconst (v := (1 : Int32)) hx hb dX8_comes_14 (by decide) ?_
    refine lv_bipush (v := (99 : Int32)) hx hb dX8_comes_15 (by decide) ?_
    obtain ⟨y2, hc, hf⟩ := bd_of hf
    refine g_cS C (ct_X8_in g l N x2 (1 : Int32) (99 : Int32) hc) gX8_comes_X8_in rfl 3 (by decide +kernel) ⟨rfl, rfl, ⟨Nat.le_of_ble_eq_true rfl, Nat.le_of_ble_eq_true rfl⟩, Nat.le_of_ble_eq_true rfl, Nat.le_of_ble_eq_true rfl⟩ rfl hl (Nat.le_of_ble_eq_true rfl) dX8_comes_17 rfl hW hA [] rfl rfl rfl (ch' := [kX8 g a0 (st v0 0 (fun _ => (0 : Int32)))]) rfl (fun H locs hW => ?_)
    refine lv_if_ne (tgt := 25) hx hb dX8_comes_20 (by decide) (fun h => ?_) (fun h => ?_)
    · replace hf := (if_neg h).symm.trans hf
      refine lv_aload_n hx hb dX8_comes_25 rfl (lv_at hl 0 rfl) ?_
      refine g_get C hW inX8 0 rfl rfl rfl 16 (by decide) (List.mem_of_getElem? (i := 2) rfl) (v := .ref (a0 5)) rfl dX8_comes_26 ?_
      refine lv_iload_n hx hb dX8_comes_29 rfl (lv_at hl 1 rfl) ?_
      refine lv_iconst (v := (0 : Int32)) hx hb dX8_comes_30 (by decide) ?_
      obtain ⟨y3, hc, hf⟩ := bd_of hf
      refine g_cS C (ct_X8_ofClass g l N x1 (0 : Int32) hc) gX8_comes_X8_ofClass rfl 2 (by decide +kernel) ⟨rfl, rfl, ⟨Nat.le_of_ble_eq_true rfl, Nat.le_of_ble_eq_true rfl⟩, Nat.le_of_ble_eq_true rfl, Nat.le_of_ble_eq_true rfl⟩ rfl hl (Nat.le_of_ble_eq_true rfl) dX8_comes_31 rfl hW hA [] rfl rfl rfl (ch' := [kX8 g a0 (st v0 0 (fun _ => (0 : Int32)))]) rfl (fun H locs hW => ?_)
      obtain ⟨hi, hf⟩ := gd_of hf
      refine g_iald C hW 0 5 rfl (f := (v0 16)) rfl (ib_in hi) dX8_comes_34 ?_
      refine lv_iload_n hx hb dX8_comes_35 rfl (lv_at hl 2 rfl) ?_
      refine lv_iadd hx hb dX8_comes_36 ?_
      refine lv_sipush (v := (999 : Int32)) hx hb dX8_comes_37 (by decide) ?_
      refine lv_icmp_le (tgt := 46) hx hb dX8_comes_40 (by decide) (fun h => ?_) (fun h => ?_)
      · replace hf := (if_pos h).symm.trans hf
        refine lv_aload_n hx hb dX8_comes_46 rfl (lv_at hl 0 rfl) ?_
        obtain ⟨y4, hc, hf⟩ := bd_of hf
        refine g_cVv (Cn := RX8) C (ct_X8_notes g l N a0 (st v0 0 (fun _ => (0 : Int32))) hc) gX8_comes_X8_notes rfl 0 (by decide +kernel) ⟨rfl, rfl, ⟨Nat.le_of_ble_eq_true rfl, Nat.le_of_ble_eq_true rfl⟩, Nat.le_of_ble_eq_true rfl, Nat.le_of_ble_eq_true rfl⟩ rfl hl (Nat.le_of_ble_eq_true rfl) dX8_comes_47 rfl hW hA [0] rfl rfl rfl (ch' := [kX8 g a0 y4]) rfl 0 rfl rfl rfl (fun H locs hW => ?_)
        refine lv_aload_n hx hb dX8_comes_50 rfl (lv_at hl 0 rfl) ?_
        refine g_get C hW inX8 0 rfl rfl rfl 7 (by decide) (List.mem_of_getElem? (i := 3) rfl) (v := .ref (a0 2)) rfl dX8_comes_51 ?_
        refine lv_iconst (v := (4 : Int32)) hx hb dX8_comes_54 (by decide) ?_
        refine lv_iload_n hx hb dX8_comes_55 rfl (lv_at hl 1 rfl) ?_
        refine lv_imul hx hb dX8_comes_56 ?_
        obtain ⟨hi, hf⟩ := gd_of hf
        refine g_iald C hW 0 2 rfl (f := (y4 7)) rfl (ib_in hi) dX8_comes_57 ?_
        refine lv_istore_n (lv' := [(3, .int ((y4 7) (Int32.toNatClampNeg ((4 : Int32) * x1)))), (0, .ref (a0 0)), (1, .int x1), (2, .int x2)]) hx hb dX8_comes_58 rfl hl (by decide) rfl (fun ls hl => ?_)
        refine lv_iconst (v := (0 : Int32)) hx hb dX8_comes_59 (by decide) ?_
        refine lv_istore (lv' := [(4, .int (0 : Int32)), (3, .int ((y4 7) (Int32.toNatClampNeg ((4 : Int32) * x1)))), (0, .ref (a0 0)), (1, .int x1), (2, .int x2)]) hx hb dX8_comes_60 hl (by decide) rfl (fun ls hl => ?_)
        refine lv_iconst (v := (0 : Int32)) hx hb dX8_comes_62 (by decide) ?_
        refine lv_istore (lv' := [(5, .int (0 : Int32)), (4, .int (0 : Int32)), (3, .int ((y4 7) (Int32.toNatClampNeg ((4 : Int32) * x1)))), (0, .ref (a0 0)), (1, .int x1), (2, .int x2)]) hx hb dX8_comes_63 hl (by decide) rfl (fun ls hl => ?_)
        refine L65 x1 x2 ((y4 7) (Int32.toNatClampNeg ((4 : Int32) * x1))) y4 _ (fun x4_7 x5_7 H locs ls hf hW hl => ?_) N (0 : Int32) (0 : Int32) H locs ls hf hW (lv_sub hl [3, 4, 5, 2, 1, 0] rfl)
        refine lv_aload_n hx hb dX8_comes_123 rfl (lv_at hl 0 rfl) ?_
        refine g_get C hW inX8 0 rfl rfl rfl 16 (by decide) (List.mem_of_getElem? (i := 2) rfl) (v := .ref (a0 5)) rfl dX8_comes_124 ?_
        refine lv_iload_n hx hb dX8_comes_127 rfl (lv_at hl 3 rfl) ?_
        refine lv_iconst (v := (0 : Int32)) hx hb dX8_comes_128 (by decide) ?_
        obtain ⟨y8, hc, hf⟩ := bd_of hf
        refine g_cS C (ct_X8_ofTerminal g l N ((y4 7) (Int32.toNatClampNeg ((4 : Int32) * x1))) (0 : Int32) hc) gX8_comes_X8_ofTerminal rfl 2 (by decide +kernel) ⟨rfl, rfl, ⟨Nat.le_of_ble_eq_true rfl, Nat.le_of_ble_eq_true rfl⟩, Nat.le_of_ble_eq_true rfl, Nat.le_of_ble_eq_true rfl⟩ rfl hl (Nat.le_of_ble_eq_true rfl) dX8_comes_129 rfl hW hA [] rfl rfl rfl (ch' := [kX8 g a0 y4]) rfl (fun H locs hW => ?_)
        refine lv_iload hx hb dX8_comes_132 (lv_at hl 4 rfl) ?_
        refine lv_if_ne (tgt := 141) hx hb dX8_comes_134 (by decide) (fun h => ?_) (fun h => ?_)
        · replace hf := (if_neg h).symm.trans hf
          refine lv_aload_n hx hb dX8_comes_141 rfl (lv_at hl 0 rfl) ?_
          refine g_get C hW inX8 0 rfl rfl rfl 16 (by decide) (List.mem_of_getElem? (i := 2) rfl) (v := .ref (a0 5)) rfl dX8_comes_142 ?_
          refine lv_iload_n hx hb dX8_comes_145 rfl (lv_at hl 3 rfl) ?_
          refine lv_iconst (v := (0 : Int32)) hx hb dX8_comes_146 (by decide) ?_
          obtain ⟨y9, hc, hf⟩ := bd_of hf
          refine g_cS C (ct_X8_ofTerminal g l N ((y4 7) (Int32.toNatClampNeg ((4 : Int32) * x1))) (0 : Int32) hc) gX8_comes_X8_ofTerminal rfl 2 (by decide +kernel) ⟨rfl, rfl, ⟨Nat.le_of_ble_eq_true rfl, Nat.le_of_ble_eq_true rfl⟩, Nat.le_of_ble_eq_true rfl, Nat.le_of_ble_eq_true rfl⟩ rfl hl (Nat.le_of_ble_eq_true rfl) dX8_comes_147 rfl hW hA [] rfl rfl rfl (ch' := [kX8 g a0 y4]) rfl (fun H locs hW => ?_)
          obtain ⟨hi, hf⟩ := gd_of hf
          refine g_iald C hW 0 5 rfl (f := (y4 16)) rfl (ib_in hi) dX8_comes_150 ?_
          obtain ⟨hi, hf⟩ := gd_of hf
          refine g_iast C hW 0 5 rfl (f := (y4 16)) rfl (ib_in hi) (kX8_w16 g a0 y4 (upd (y4 16) (Int32.toNatClampNeg y8) ((y4 16) (Int32.toNatClampNeg y9)))) (ch' := [kX8 g a0 (st y4 16 (upd (y4 16) (Int32.toNatClampNeg y8) ((y4 16) (Int32.toNatClampNeg y9))))]) rfl dX8_comes_151 (fun H locs hW => ?_)
          refine lv_aload_n hx hb dX8_comes_152 rfl (lv_at hl 0 rfl) ?_
          refine g_get C hW inX8 0 rfl rfl rfl 16 (by decide) (List.mem_of_getElem? (i := 2) rfl) (v := .ref (a0 5)) rfl dX8_comes_153 ?_
          refine lv_iload_n hx hb dX8_comes_156 rfl (lv_at hl 1 rfl) ?_
          refine lv_iconst (v := (0 : Int32)) hx hb dX8_comes_157 (by decide) ?_
          obtain ⟨y10, hc, hf⟩ := bd_of hf
          refine g_cS C (ct_X8_ofClass g l N x1 (0 : Int32) hc) gX8_comes_X8_ofClass rfl 2 (by decide +kernel) ⟨rfl, rfl, ⟨Nat.le_of_ble_eq_true rfl, Nat.le_of_ble_eq_true rfl⟩, Nat.le_of_ble_eq_true rfl, Nat.le_of_ble_eq_true rfl⟩ rfl hl (Nat.le_of_ble_eq_true rfl) dX8_comes_158 rfl hW hA [] rfl rfl rfl (ch' := [kX8 g a0 (st y4 16 (upd (y4 16) (Int32.toNatClampNeg y8) ((y4 16) (Int32.toNatClampNeg y9))))]) rfl (fun H locs hW => ?_)
          refine lv_dup2_11 hx hb dX8_comes_161 rfl rfl ?_
          obtain ⟨hi, hf⟩ := gd_of hf
          refine g_iald C hW 0 5 rfl (f := (upd (y4 16) (Int32.toNatClampNeg y8) ((y4 16) (Int32.toNatClampNeg y9)))) rfl (ib_in hi) dX8_comes_162 ?_
          refine lv_iload_n hx hb dX8_comes_163 rfl (lv_at hl 2 rfl) ?_
          refine lv_iadd hx hb dX8_comes_164 ?_
          obtain ⟨hi, hf⟩ := gd_of hf
          refine g_iast C hW 0 5 rfl (f := (upd (y4 16) (Int32.toNatClampNeg y8) ((y4 16) (Int32.toNatClampNeg y9)))) rfl (ib_in hi) (kX8_w16 g a0 (st y4 16 (upd (y4 16) (Int32.toNatClampNeg y8) ((y4 16) (Int32.toNatClampNeg y9)))) (upd (upd (y4 16) (Int32.toNatClampNeg y8) ((y4 16) (Int32.toNatClampNeg y9))) (Int32.toNatClampNeg y10) (((upd (y4 16) (Int32.toNatClampNeg y8) ((y4 16) (Int32.toNatClampNeg y9))) (Int32.toNatClampNeg y10)) + x2))) (ch' := [kX8 g a0 (st (st y4 16 (upd (y4 16) (Int32.toNatClampNeg y8) ((y4 16) (Int32.toNatClampNeg y9)))) 16 (upd (upd (y4 16) (Int32.toNatClampNeg y8) ((y4 16) (Int32.toNatClampNeg y9))) (Int32.toNatClampNeg y10) (((upd (y4 16) (Int32.toNatClampNeg y8) ((y4 16) (Int32.toNatClampNeg y9))) (Int32.toNatClampNeg y10)) + x2)))]) rfl dX8_comes_165 (fun H locs hW => ?_)
          refine lv_aload_n hx hb dX8_comes_166 rfl (lv_at hl 0 rfl) ?_
          refine g_get C hW inX8 0 rfl rfl rfl 16 (by decide) (List.mem_of_getElem? (i := 2) rfl) (v := .ref (a0 5)) rfl dX8_comes_167 ?_
          refine lv_iload_n hx hb dX8_comes_170 rfl (lv_at hl 1 rfl) ?_
          refine lv_iconst (v := (0 : Int32)) hx hb dX8_comes_171 (by decide) ?_
          obtain ⟨y11, hc, hf⟩ := bd_of hf
          refine g_cS C (ct_X8_ofClass g l N x1 (0 : Int32) hc) gX8_comes_X8_ofClass rfl 2 (by decide +kernel) ⟨rfl, rfl, ⟨Nat.le_of_ble_eq_true rfl, Nat.le_of_ble_eq_true rfl⟩, Nat.le_of_ble_eq_true rfl, Nat.le_of_ble_eq_true rfl⟩ rfl hl (Nat.le_of_ble_eq_true rfl) dX8_comes_172 rfl hW hA [] rfl rfl rfl (ch' := [kX8 g a0 (st (st y4 16 (upd (y4 16) (Int32.toNatClampNeg y8) ((y4 16) (Int32.toNatClampNeg y9)))) 16 (upd (upd (y4 16) (Int32.toNatClampNeg y8) ((y4 16) (Int32.toNatClampNeg y9))) (Int32.toNatClampNeg y10) (((upd (y4 16) (Int32.toNatClampNeg y8) ((y4 16) (Int32.toNatClampNeg y9))) (Int32.toNatClampNeg y10)) + x2)))]) rfl (fun H locs hW => ?_)
          obtain ⟨hi, hf⟩ := gd_of hf
          refine g_iald C hW 0 5 rfl (f := (upd (upd (y4 16) (Int32.toNatClampNeg y8) ((y4 16) (Int32.toNatClampNeg y9))) (Int32.toNatClampNeg y10) (((upd (y4 16) (Int32.toNatClampNeg y8) ((y4 16) (Int32.toNatClampNeg y9))) (Int32.toNatClampNeg y10)) + x2))) rfl (ib_in hi) dX8_comes_175 ?_
          obtain rfl := Option.some.inj hf
          subst hQ
          exact g_iret C hr hk0 hW rfl rfl dX8_comes_176
        · replace hf := (if_pos h).symm.trans hf
          refine lv_iconst (v := (1 : Int32)) hx hb dX8_comes_137 (by decide) ?_
          refine lv_goto (tgt := 151) hx hb dX8_comes_138 (by decide) ?_
          obtain ⟨hi, hf⟩ := gd_of hf
          refine g_iast C hW 0 5 rfl (f := (y4 16)) rfl (ib_in hi) (kX8_w16 g a0 y4 (upd (y4 16) (Int32.toNatClampNeg y8) (1 : Int32))) (ch' := [kX8 g a0 (st y4 16 (upd (y4 16) (Int32.toNatClampNeg y8) (1 : Int32)))]) rfl dX8_comes_151 (fun H locs hW => ?_)
          refine lv_aload_n hx hb dX8_comes_152 rfl (lv_at hl 0 rfl) ?_
          refine g_get C hW inX8 0 rfl rfl rfl 16 (by decide) (List.mem_of_getElem? (i := 2) rfl) (v := .ref (a0 5)) rfl dX8_comes_153 ?_
          refine lv_iload_n hx hb dX8_comes_156 rfl (lv_at hl 1 rfl) ?_
          refine lv_iconst (v := (0 : Int32)) hx hb dX8_comes_157 (by decide) ?_
          obtain ⟨y12, hc, hf⟩ := bd_of hf
          refine g_cS C (ct_X8_ofClass g l N x1 (0 : Int32) hc) gX8_comes_X8_ofClass rfl 2 (by decide +kernel) ⟨rfl, rfl, ⟨Nat.le_of_ble_eq_true rfl, Nat.le_of_ble_eq_true rfl⟩, Nat.le_of_ble_eq_true rfl, Nat.le_of_ble_eq_true rfl⟩ rfl hl (Nat.le_of_ble_eq_true rfl) dX8_comes_158 rfl hW hA [] rfl rfl rfl (ch' := [kX8 g a0 (st y4 16 (upd (y4 16) (Int32.toNatClampNeg y8) (1 : Int32)))]) rfl (fun H locs hW => ?_)
          refine lv_dup2_11 hx hb dX8_comes_161 rfl rfl ?_
          obtain ⟨hi, hf⟩ := gd_of hf
          refine g_iald C hW 0 5 rfl (f := (upd (y4 16) (Int32.toNatClampNeg y8) (1 : Int32))) rfl (ib_in hi) dX8_comes_162 ?_
          refine lv_iload_n hx hb dX8_comes_163 rfl (lv_at hl 2 rfl) ?_
          refine lv_iadd hx hb dX8_comes_164 ?_
          obtain ⟨hi, hf⟩ := gd_of hf
          refine g_iast C hW 0 5 rfl (f := (upd (y4 16) (Int32.toNatClampNeg y8) (1 : Int32))) rfl (ib_in hi) (kX8_w16 g a0 (st y4 16 (upd (y4 16) (Int32.toNatClampNeg y8) (1 : Int32))) (upd (upd (y4 16) (Int32.toNatClampNeg y8) (1 : Int32)) (Int32.toNatClampNeg y12) (((upd (y4 16) (Int32.toNatClampNeg y8) (1 : Int32)) (Int32.toNatClampNeg y12)) + x2))) (ch' := [kX8 g a0 (st (st y4 16 (upd (y4 16) (Int32.toNatClampNeg y8) (1 : Int32))) 16 (upd (upd (y4 16) (Int32.toNatClampNeg y8) (1 : Int32)) (Int32.toNatClampNeg y12) (((upd (y4 16) (Int32.toNatClampNeg y8) (1 : Int32)) (Int32.toNatClampNeg y12)) + x2)))]) rfl dX8_comes_165 (fun H locs hW => ?_)
          refine lv_aload_n hx hb dX8_comes_166 rfl (lv_at hl 0 rfl) ?_
          refine g_get C hW inX8 0 rfl rfl rfl 16 (by decide) (List.mem_of_getElem? (i := 2) rfl) (v := .ref (a0 5)) rfl dX8_comes_167 ?_
          refine lv_iload_n hx hb dX8_comes_170 rfl (lv_at hl 1 rfl) ?_
          refine lv_iconst (v := (0 : Int32)) hx hb dX8_comes_171 (by decide) ?_
          obtain ⟨y13, hc, hf⟩ := bd_of hf
          refine g_cS C (ct_X8_ofClass g l N x1 (0 : Int32) hc) gX8_comes_X8_ofClass rfl 2 (by decide +kernel) ⟨rfl, rfl, ⟨Nat.le_of_ble_eq_true rfl, Nat.le_of_ble_eq_true rfl⟩, Nat.le_of_ble_eq_true rfl, Nat.le_of_ble_eq_true rfl⟩ rfl hl (Nat.le_of_ble_eq_true rfl) dX8_comes_172 rfl hW hA [] rfl rfl rfl (ch' := [kX8 g a0 (st (st y4 16 (upd (y4 16) (Int32.toNatClampNeg y8) (1 : Int32))) 16 (upd (upd (y4 16) (Int32.toNatClampNeg y8) (1 : Int32)) (Int32.toNatClampNeg y12) (((upd (y4 16) (Int32.toNatClampNeg y8) (1 : Int32)) (Int32.toNatClampNeg y12)) + x2)))]) rfl (fun H locs hW => ?_)
          obtain ⟨hi, hf⟩ := gd_of hf
          refine g_iald C hW 0 5 rfl (f := (upd (upd (y4 16) (Int32.toNatClampNeg y8) (1 : Int32)) (Int32.toNatClampNeg y12) (((upd (y4 16) (Int32.toNatClampNeg y8) (1 : Int32)) (Int32.toNatClampNeg y12)) + x2))) rfl (ib_in hi) dX8_comes_175 ?_
          obtain rfl := Option.some.inj hf
          subst hQ
          exact g_iret C hr hk0 hW rfl rfl dX8_comes_176
      · replace hf := (if_neg h).symm.trans hf
        refine lv_bipush (v := (-3 : Int32)) hx hb dX8_comes_43 (by decide) ?_
        obtain rfl := Option.some.inj hf
        subst hQ
        exact g_iret C hr hk0 hW rfl rfl dX8_comes_45
    · replace hf := (if_pos h).symm.trans hf
      refine lv_iconst (v := (-1 : Int32)) hx hb dX8_comes_23 (by decide) ?_
      obtain rfl := Option.some.inj hf
      subst hQ
      exact g_iret C hr hk0 hW rfl rfl dX8_comes_24
def fX8_steps_L45 (N : Nat) (k : Int32 → MM → Option (Int32 × MM)) (x1 : Int32) : Nat → Int32 → MM → Option (Int32 × MM)
  | 0, _, _ => none
  | n + 1, x2, v0 => (if x1 ≤ x2 then k x2 v0 else ((fX8_step N v0).bind (fun y3 => fX8_steps_L45 N k x1 n (x2 + 1) y3)))
def fX8_steps (N : Nat) (x1 : Int32) (v0 : MM) : Option (Int32 × MM) := ((fX8_in N x1 (1 : Int32) (40 : Int32)).bind (fun y1 => (if y1 = 0 then some ((-1 : Int32), (st v0 0 (fun _ => (0 : Int32)))) else (if ib (0 : Int32) 667 = true then (if (((v0 16) (Int32.toNatClampNeg (0 : Int32))) + x1) ≤ (199 : Int32) then ((fX8_notes N (st v0 0 (fun _ => (0 : Int32)))).bind (fun y2 => (fX8_steps_L45 N (fun (x2_4 : Int32) (v0_4 : MM) => some ((v0_4 31 0), v0_4)) x1 N (0 : Int32) (st y2 31 (fun _ => (0 : Int32)))))) else some ((-2 : Int32), (st v0 0 (fun _ => (0 : Int32))))) else none))))
set_option maxHeartbeats 4000000 in
set_option maxRecDepth 100000 in
theorem ct_X8_steps (g : GT) (l : Launch) (N : Nat) (a0 : Nat → Nat) (x1 : Int32) (v0 : MM) {y : Int32 × MM} (hf : fX8_steps N x1 v0 = some y) : ct g l yX8_steps wsX8_steps (rmk 6 148) [.ref (a0 0), .int x1] [kX8 g a0 v0] (some (.int y.1)) [kX8 g a0 y.2] := by
  refine ct_of (cc := cX8_steps) (maxL := 3) (ret := (some .int)) (by decide) rfl (Nat.le_of_ble_eq_true rfl) ?_
  intro p e s m args below meth c A ls C hr hk0 hA hW hl
  have hx := C.1.1
  have hb := C.1.2.1
  replace hl : lv_has ls 3 [(0, .ref (a0 0)), (1, .int x1)] := hl
  obtain ⟨Q, hQ⟩ : ∃ Q, Q = MQ below (ctQ g A (some (.int y.1)) [kX8 g a0 y.2]) args s 0 0 A := ⟨_, rfl⟩
  rw [← hQ]
  obtain ⟨H, hH⟩ : ∃ H, H = s.heap := ⟨_, rfl⟩
  obtain ⟨locs, hL⟩ : ∃ locs : List Loc, locs = [] := ⟨_, rfl⟩
  replace hW : wd g A s.heap [kX8 g a0 v0] H locs := by rw [hH, hL]; exact hW
  suffices hG : W p l e (rmk 6 148) s m args below meth c H locs 0 0 Q (F0 m 0 ls []) by
    rw [hH, hL] at hG; exact hG
  clear hH hL
  have inX8 : ∀ w ∈ wsX80, w ∈ wsX8_steps := fun _ h => List.mem_cons_of_mem _ (List.mem_append_right _ (h))
  have L45 : ∀ (x1 : Int32) (k : Int32 → MM → Option (Int32 × MM)) (hk : ∀ (x2 : Int32) (v0 : MM) (H : Heap) (locs : List Loc) (ls : Array Slot), k x2 v0 = some y → wd g A s.heap [kX8 g a0 v0] H locs → lv_has ls 3 [(0, .ref (a0 0)), (1, .int x1), (2, .int x2)] → W p l e (rmk 6 148) s m args below meth c H locs 0 0 Q (F0 m 60 ls [])) (n : Nat) (x2 : Int32) (v0 : MM) (H : Heap) (locs : List Loc) (ls : Array Slot), fX8_steps_L45 N k x1 n x2 v0 = some y → wd g A s.heap [kX8 g a0 v0] H locs → lv_has ls 3 [(0, .ref (a0 0)), (1, .int x1), (2, .int x2)] → W p l e (rmk 6 148) s m args below meth c H locs 0 0 Q (F0 m 45 ls []) := by
    intro x1 k hk n
    induction n with
    | zero => intro x2 v0 H locs ls hf; rw [fX8_steps_L45] at hf; cases hf
    | succ n ih =>
      intro x2 v0 H locs ls hf hW hl
      rw [fX8_steps_L45] at hf
      refine lv_iload_n hx hb dX8_steps_45 rfl (lv_at hl 2 rfl) ?_
      refine lv_iload_n hx hb dX8_steps_46 rfl (lv_at hl 1 rfl) ?_
      refine lv_icmp_ge (tgt := 60) hx hb dX8_steps_47 (by decide) (fun h => ?_) (fun h => ?_)
      · replace hf := (if_pos h).symm.trans hf
        exact hk _ _ H locs ls hf hW (lv_sub hl [0, 1, 2] rfl)
      · replace hf := (if_neg h).symm.trans hf
        refine lv_aload_n hx hb dX8_steps_50 rfl (lv_at hl 0 rfl) ?_
        obtain ⟨y3, hc, hf⟩ := bd_of hf
        refine g_cVv (Cn := RX8) C (ct_X8_step g l N a0 v0 hc) gX8_steps_X8_step rfl 0 (by decide +kernel) ⟨rfl, rfl, ⟨Nat.le_of_ble_eq_true rfl, Nat.le_of_ble_eq_true rfl⟩, Nat.le_of_ble_eq_true rfl, Nat.le_of_ble_eq_true rfl⟩ rfl hl (Nat.le_of_ble_eq_true rfl) dX8_steps_51 rfl hW hA [0] rfl rfl rfl (ch' := [kX8 g a0 y3]) rfl 0 rfl rfl rfl (fun H locs hW => ?_)
        refine lv_iinc (v := (x2 + 1)) (lv' := [(2, .int (x2 + 1)), (0, .ref (a0 0)), (1, .int x1)]) hx hb dX8_steps_54 hl (k := 2) rfl (by first | rfl | decide) (by decide) rfl (fun ls hl => ?_)
        refine lv_goto (tgt := 45) hx hb dX8_steps_57 (by decide) ?_
        exact ih _ _ H locs ls hf hW (lv_sub hl [1, 2, 0] rfl)
  rw [fX8_steps] at hf
  refine lv_aload_n hx hb dX8_steps_0 rfl (lv_at hl 0 rfl) ?_
  refine lv_iconst (v := (0 : Int32)) hx hb dX8_steps_1 (by decide) ?_
  refine g_put C hW inX8 tyX8_ok nmX8 0 rfl rfl rfl 0 (by decide) (List.mem_of_getElem? (i := 1) rfl) rfl rfl rfl rfl (kX8_s0 g a0 v0 (0 : Int32)) (ch' := [kX8 g a0 (st v0 0 (fun _ => (0 : Int32)))]) rfl dX8_steps_2 (fun H locs hW => ?_)
  refine lv_iload_n hx hb dX8_steps_5 rfl (lv_at hl 1 rfl) ?_
  refine lv_iconst (v := (1 : Int32)) hx hb dX8_steps_6 (by decide) ?_
  refine lv_bipush (v := (40 : Int32)) hx hb dX8_steps_7 (by decide) ?_
  obtain ⟨y1, hc, hf⟩ := bd_of hf
  refine g_cS C (ct_X8_in g l N x1 (1 : Int32) (40 : Int32) hc) gX8_steps_X8_in rfl 3 (by decide +kernel) ⟨rfl, rfl, ⟨Nat.le_of_ble_eq_true rfl, Nat.le_of_ble_eq_true rfl⟩, Nat.le_of_ble_eq_true rfl, Nat.le_of_ble_eq_true rfl⟩ rfl hl (Nat.le_of_ble_eq_true rfl) dX8_steps_9 rfl hW hA [] rfl rfl rfl (ch' := [kX8 g a0 (st v0 0 (fun _ => (0 : Int32)))]) rfl (fun H locs hW => ?_)
  refine lv_if_ne (tgt := 17) hx hb dX8_steps_12 (by decide) (fun h => ?_) (fun h => ?_)
  · replace hf := (if_neg h).symm.trans hf
    refine lv_aload_n hx hb dX8_steps_17 rfl (lv_at hl 0 rfl) ?_
    refine g_get C hW inX8 0 rfl rfl rfl 16 (by decide) (List.mem_of_getElem? (i := 2) rfl) (v := .ref (a0 5)) rfl dX8_steps_18 ?_
    refine lv_iconst (v := (0 : Int32)) hx hb dX8_steps_21 (by decide) ?_
    obtain ⟨hi, hf⟩ := gd_of hf
    refine g_iald C hW 0 5 rfl (f := (v0 16)) rfl (ib_in hi) dX8_steps_22 ?_
    refine lv_iload_n hx hb dX8_steps_23 rfl (lv_at hl 1 rfl) ?_
    refine lv_iadd hx hb dX8_steps_24 ?_
    refine lv_sipush (v := (199 : Int32)) hx hb dX8_steps_25 (by decide) ?_
    refine lv_icmp_le (tgt := 34) hx hb dX8_steps_28 (by decide) (fun h => ?_) (fun h => ?_)
    · replace hf := (if_pos h).symm.trans hf
      refine lv_aload_n hx hb dX8_steps_34 rfl (lv_at hl 0 rfl) ?_
      obtain ⟨y2, hc, hf⟩ := bd_of hf
      refine g_cVv (Cn := RX8) C (ct_X8_notes g l N a0 (st v0 0 (fun _ => (0 : Int32))) hc) gX8_steps_X8_notes rfl 0 (by decide +kernel) ⟨rfl, rfl, ⟨Nat.le_of_ble_eq_true rfl, Nat.le_of_ble_eq_true rfl⟩, Nat.le_of_ble_eq_true rfl, Nat.le_of_ble_eq_true rfl⟩ rfl hl (Nat.le_of_ble_eq_true rfl) dX8_steps_35 rfl hW hA [0] rfl rfl rfl (ch' := [kX8 g a0 y2]) rfl 0 rfl rfl rfl (fun H locs hW => ?_)
      refine lv_aload_n hx hb dX8_steps_38 rfl (lv_at hl 0 rfl) ?_
      refine lv_iconst (v := (0 : Int32)) hx hb dX8_steps_39 (by decide) ?_
      refine g_put C hW inX8 tyX8_ok nmX8 0 rfl rfl rfl 31 (by decide) (List.mem_of_getElem? (i := 3) rfl) rfl rfl rfl rfl (kX8_s31 g a0 y2 (0 : Int32)) (ch' := [kX8 g a0 (st y2 31 (fun _ => (0 : Int32)))]) rfl dX8_steps_40 (fun H locs hW => ?_)
      refine lv_iconst (v := (0 : Int32)) hx hb dX8_steps_43 (by decide) ?_
      refine lv_istore_n (lv' := [(2, .int (0 : Int32)), (0, .ref (a0 0)), (1, .int x1)]) hx hb dX8_steps_44 rfl hl (by decide) rfl (fun ls hl => ?_)
      refine L45 x1 _ (fun x2_4 v0_4 H locs ls hf hW hl => ?_) N (0 : Int32) (st y2 31 (fun _ => (0 : Int32))) H locs ls hf hW (lv_sub hl [1, 2, 0] rfl)
      refine lv_aload_n hx hb dX8_steps_60 rfl (lv_at hl 0 rfl) ?_
      refine g_get C hW inX8 0 rfl rfl rfl 31 (by decide) (List.mem_of_getElem? (i := 3) rfl) (v := .int (v0_4 31 0)) rfl dX8_steps_61 ?_
      obtain rfl := Option.some.inj hf
      subst hQ
      exact g_iret C hr hk0 hW rfl rfl dX8_steps_64
    · replace hf := (if_neg h).symm.trans hf
      refine lv_bipush (v := (-2 : Int32)) hx hb dX8_steps_31 (by decide) ?_
      obtain rfl := Option.some.inj hf
      subst hQ
      exact g_iret C hr hk0 hW rfl rfl dX8_steps_33
  · replace hf := (if_pos h).symm.trans hf
    refine lv_iconst (v := (-1 : Int32)) hx hb dX8_steps_15 (by decide) ?_
    obtain rfl := Option.some.inj hf
    subst hQ
    exact g_iret C hr hk0 hW rfl rfl dX8_steps_16
def fX8_deafen_L6 (N : Nat) (k : Int32 → Int32 → MM → Option (Int32 × MM)) (x1 : Int32) (x2 : Int32) (x3 : Int32) : Nat → Int32 → Int32 → MM → Option (Int32 × MM)
  | 0, _, _, _ => none
  | n + 1, x4, x5, v0 => (if x3 < x5 then k x4 x5 v0 else (if (199 : Int32) < x5 then k x4 x5 v0 else ((fX8_isDeaf N x1 x5 v0).bind (fun y1 => (if y1 = 0 then ((fX8_ofTerminal N x1 ((6 : Int32) + (x5 / (30 : Int32)))).bind (fun y2 => (if ib y2 667 = true then (if ib y2 667 = true then fX8_deafen_L6 N k x1 x2 x3 n (x4 + (1 : Int32)) (x5 + 1) (st v0 16 (upd (v0 16) (Int32.toNatClampNeg y2) (((v0 16) (Int32.toNatClampNeg y2)) ||| ((1 : Int32) <<< ((x5 - x5 / (30 : Int32) * (30 : Int32)) &&& 31))))) else none) else none))) else ((fX8_ofTerminal N x1 ((6 : Int32) + (x5 / (30 : Int32)))).bind (fun y3 => (if ib y3 667 = true then (if ib y3 667 = true then fX8_deafen_L6 N k x1 x2 x3 n (x4 + (0 : Int32)) (x5 + 1) (st v0 16 (upd (v0 16) (Int32.toNatClampNeg y3) (((v0 16) (Int32.toNatClampNeg y3)) ||| ((1 : Int32) <<< ((x5 - x5 / (30 : Int32) * (30 : Int32)) &&& 31))))) else none) else none))))))))
def fX8_deafen (N : Nat) (x1 : Int32) (x2 : Int32) (x3 : Int32) (v0 : MM) : Option (Int32 × MM) := (fX8_deafen_L6 N (fun (x4_4 : Int32) (x5_4 : Int32) (v0_4 : MM) => some (x4_4, v0_4)) x1 x2 x3 N (0 : Int32) x2 v0)
set_option maxHeartbeats 4000000 in
set_option maxRecDepth 100000 in
theorem ct_X8_deafen (g : GT) (l : Launch) (N : Nat) (a0 : Nat → Nat) (x1 : Int32) (x2 : Int32) (x3 : Int32) (v0 : MM) {y : Int32 × MM} (hf : fX8_deafen N x1 x2 x3 v0 = some y) : ct g l yX8_deafen wsX8_deafen (rmk 2 43) [.ref (a0 0), .int x1, .int x2, .int x3] [kX8 g a0 v0] (some (.int y.1)) [kX8 g a0 y.2] := by
  refine ct_of (cc := cX8_deafen) (maxL := 6) (ret := (some .int)) (by decide) rfl (Nat.le_of_ble_eq_true rfl) ?_
  intro p e s m args below meth c A ls C hr hk0 hA hW hl
  have hx := C.1.1
  have hb := C.1.2.1
  replace hl : lv_has ls 6 [(0, .ref (a0 0)), (1, .int x1), (2, .int x2), (3, .int x3)] := hl
  obtain ⟨Q, hQ⟩ : ∃ Q, Q = MQ below (ctQ g A (some (.int y.1)) [kX8 g a0 y.2]) args s 0 0 A := ⟨_, rfl⟩
  rw [← hQ]
  obtain ⟨H, hH⟩ : ∃ H, H = s.heap := ⟨_, rfl⟩
  obtain ⟨locs, hL⟩ : ∃ locs : List Loc, locs = [] := ⟨_, rfl⟩
  replace hW : wd g A s.heap [kX8 g a0 v0] H locs := by rw [hH, hL]; exact hW
  suffices hG : W p l e (rmk 2 43) s m args below meth c H locs 0 0 Q (F0 m 0 ls []) by
    rw [hH, hL] at hG; exact hG
  clear hH hL
  have inX8 : ∀ w ∈ wsX80, w ∈ wsX8_deafen := fun _ h => List.mem_cons_of_mem _ (List.mem_append_right _ (h))
  have L6 : ∀ (x1 : Int32) (x2 : Int32) (x3 : Int32) (k : Int32 → Int32 → MM → Option (Int32 × MM)) (hk : ∀ (x4 : Int32) (x5 : Int32) (v0 : MM) (H : Heap) (locs : List Loc) (ls : Array Slot), k x4 x5 v0 = some y → wd g A s.heap [kX8 g a0 v0] H locs → lv_has ls 6 [(0, .ref (a0 0)), (1, .int x1), (2, .int x2), (3, .int x3), (4, .int x4), (5, .int x5)] → W p l e (rmk 2 43) s m args below meth c H locs 0 0 Q (F0 m 73 ls [])) (n : Nat) (x4 : Int32) (x5 : Int32) (v0 : MM) (H : Heap) (locs : List Loc) (ls : Array Slot), fX8_deafen_L6 N k x1 x2 x3 n x4 x5 v0 = some y → wd g A s.heap [kX8 g a0 v0] H locs → lv_has ls 6 [(0, .ref (a0 0)), (1, .int x1), (2, .int x2), (3, .int x3), (4, .int x4), (5, .int x5)] → W p l e (rmk 2 43) s m args below meth c H locs 0 0 Q (F0 m 6 ls []) := by
    intro x1 x2 x3 k hk n
    induction n with
    | zero => intro x4 x5 v0 H locs ls hf; rw [fX8_deafen_L6] at hf; cases hf
    | succ n ih =>
      intro x4 x5 v0 H locs ls hf hW hl
      rw [fX8_deafen_L6] at hf
      refine lv_iload hx hb dX8_deafen_6 (lv_at hl 5 rfl) ?_
      refine lv_iload_n hx hb dX8_deafen_8 rfl (lv_at hl 3 rfl) ?_
      refine lv_icmp_gt (tgt := 73) hx hb dX8_deafen_9 (by decide) (fun h => ?_) (fun h => ?_)
      · replace hf := (if_pos h).symm.trans hf
        exact hk _ _ _ H locs ls hf hW (lv_sub hl [0, 1, 2, 3, 4, 5] rfl)
      · replace hf := (if_neg h).symm.trans hf
        refine lv_iload hx hb dX8_deafen_12 (lv_at hl 5 rfl) ?_
        refine lv_sipush (v := (199 : Int32)) hx hb dX8_deafen_14 (by decide) ?_
        refine lv_icmp_gt (tgt := 73) hx hb dX8_deafen_17 (by decide) (fun h => ?_) (fun h => ?_)
        · replace hf := (if_pos h).symm.trans hf
          exact hk _ _ _ H locs ls hf hW (lv_sub hl [0, 1, 2, 3, 4, 5] rfl)
        · replace hf := (if_neg h).symm.trans hf
          refine lv_iload hx hb dX8_deafen_20 (lv_at hl 4 rfl) ?_
          refine lv_aload_n hx hb dX8_deafen_22 rfl (lv_at hl 0 rfl) ?_
          refine lv_iload_n hx hb dX8_deafen_23 rfl (lv_at hl 1 rfl) ?_
          refine lv_iload hx hb dX8_deafen_24 (lv_at hl 5 rfl) ?_
          obtain ⟨y1, hc, hf⟩ := bd_of hf
          refine g_cV (Cn := RX8) C (ct_X8_isDeaf g l N a0 x1 x5 v0 hc) gX8_deafen_X8_isDeaf rfl 2 (by decide +kernel) ⟨rfl, rfl, ⟨Nat.le_of_ble_eq_true rfl, Nat.le_of_ble_eq_true rfl⟩, Nat.le_of_ble_eq_true rfl, Nat.le_of_ble_eq_true rfl⟩ rfl hl (Nat.le_of_ble_eq_true rfl) dX8_deafen_26 rfl hW hA [0] rfl rfl rfl (ch' := [kX8 g a0 v0]) rfl 0 rfl rfl rfl (fun H locs hW => ?_)
          refine lv_if_eq (tgt := 36) hx hb dX8_deafen_29 (by decide) (fun h => ?_) (fun h => ?_)
          · replace hf := (if_pos h).symm.trans hf
            refine lv_iconst (v := (1 : Int32)) hx hb dX8_deafen_36 (by decide) ?_
            refine lv_iadd hx hb dX8_deafen_37 ?_
            refine lv_istore (lv' := [(4, .int (x4 + (1 : Int32))), (0, .ref (a0 0)), (1, .int x1), (2, .int x2), (3, .int x3), (5, .int x5)]) hx hb dX8_deafen_38 hl (by decide) rfl (fun ls hl => ?_)
            refine lv_aload_n hx hb dX8_deafen_40 rfl (lv_at hl 1 rfl) ?_
            refine g_get C hW inX8 0 rfl rfl rfl 16 (by decide) (List.mem_of_getElem? (i := 1) rfl) (v := .ref (a0 5)) rfl dX8_deafen_41 ?_
            refine lv_iload_n hx hb dX8_deafen_44 rfl (lv_at hl 2 rfl) ?_
            refine lv_bipush (v := (6 : Int32)) hx hb dX8_deafen_45 (by decide) ?_
            refine lv_iload hx hb dX8_deafen_47 (lv_at hl 5 rfl) ?_
            refine lv_bipush (v := (30 : Int32)) hx hb dX8_deafen_49 (by decide) ?_
            refine lv_idiv hx hb dX8_deafen_51 (by decide) ?_
            refine lv_iadd hx hb dX8_deafen_52 ?_
            obtain ⟨y2, hc, hf⟩ := bd_of hf
            refine g_cS C (ct_X8_ofTerminal g l N x1 ((6 : Int32) + (x5 / (30 : Int32))) hc) gX8_deafen_X8_ofTerminal rfl 2 (by decide +kernel) ⟨rfl, rfl, ⟨Nat.le_of_ble_eq_true rfl, Nat.le_of_ble_eq_true rfl⟩, Nat.le_of_ble_eq_true rfl, Nat.le_of_ble_eq_true rfl⟩ rfl hl (Nat.le_of_ble_eq_true rfl) dX8_deafen_53 rfl hW hA [] rfl rfl rfl (ch' := [kX8 g a0 v0]) rfl (fun H locs hW => ?_)
            refine lv_dup2_11 hx hb dX8_deafen_56 rfl rfl ?_
            obtain ⟨hi, hf⟩ := gd_of hf
            refine g_iald C hW 0 5 rfl (f := (v0 16)) rfl (ib_in hi) dX8_deafen_57 ?_
            refine lv_iconst (v := (1 : Int32)) hx hb dX8_deafen_58 (by decide) ?_
            refine lv_iload hx hb dX8_deafen_59 (lv_at hl 5 rfl) ?_
            refine lv_bipush (v := (30 : Int32)) hx hb dX8_deafen_61 (by decide) ?_
            refine lv_irem hx hb dX8_deafen_63 (by decide) ?_
            refine lv_ishl hx hb dX8_deafen_64 ?_
            refine lv_ior hx hb dX8_deafen_65 ?_
            obtain ⟨hi, hf⟩ := gd_of hf
            refine g_iast C hW 0 5 rfl (f := (v0 16)) rfl (ib_in hi) (kX8_w16 g a0 v0 (upd (v0 16) (Int32.toNatClampNeg y2) (((v0 16) (Int32.toNatClampNeg y2)) ||| ((1 : Int32) <<< ((x5 - x5 / (30 : Int32) * (30 : Int32)) &&& 31))))) (ch' := [kX8 g a0 (st v0 16 (upd (v0 16) (Int32.toNatClampNeg y2) (((v0 16) (Int32.toNatClampNeg y2)) ||| ((1 : Int32) <<< ((x5 - x5 / (30 : Int32) * (30 : Int32)) &&& 31)))))]) rfl dX8_deafen_66 (fun H locs hW => ?_)
            refine lv_iinc (v := (x5 + 1)) (lv' := [(5, .int (x5 + 1)), (4, .int (x4 + (1 : Int32))), (0, .ref (a0 0)), (1, .int x1), (2, .int x2), (3, .int x3)]) hx hb dX8_deafen_67 hl (k := 5) rfl (by first | rfl | decide) (by decide) rfl (fun ls hl => ?_)
            refine lv_goto (tgt := 6) hx hb dX8_deafen_70 (by decide) ?_
            exact ih _ _ _ H locs ls hf hW (lv_sub hl [2, 3, 4, 5, 1, 0] rfl)
          · replace hf := (if_neg h).symm.trans hf
            refine lv_iconst (v := (0 : Int32)) hx hb dX8_deafen_32 (by decide) ?_
            refine lv_goto (tgt := 37) hx hb dX8_deafen_33 (by decide) ?_
            refine lv_iadd hx hb dX8_deafen_37 ?_
            refine lv_istore (lv' := [(4, .int (x4 + (0 : Int32))), (0, .ref (a0 0)), (1, .int x1), (2, .int x2), (3, .int x3), (5, .int x5)]) hx hb dX8_deafen_38 hl (by decide) rfl (fun ls hl => ?_)
            refine lv_aload_n hx hb dX8_deafen_40 rfl (lv_at hl 1 rfl) ?_
            refine g_get C hW inX8 0 rfl rfl rfl 16 (by decide) (List.mem_of_getElem? (i := 1) rfl) (v := .ref (a0 5)) rfl dX8_deafen_41 ?_
            refine lv_iload_n hx hb dX8_deafen_44 rfl (lv_at hl 2 rfl) ?_
            refine lv_bipush (v := (6 : Int32)) hx hb dX8_deafen_45 (by decide) ?_
            refine lv_iload hx hb dX8_deafen_47 (lv_at hl 5 rfl) ?_
            refine lv_bipush (v := (30 : Int32)) hx hb dX8_deafen_49 (by decide) ?_
            refine lv_idiv hx hb dX8_deafen_51 (by decide) ?_
            refine lv_iadd hx hb dX8_deafen_52 ?_
            obtain ⟨y3, hc, hf⟩ := bd_of hf
            refine g_cS C (ct_X8_ofTerminal g l N x1 ((6 : Int32) + (x5 / (30 : Int32))) hc) gX8_deafen_X8_ofTerminal rfl 2 (by decide +kernel) ⟨rfl, rfl, ⟨Nat.le_of_ble_eq_true rfl, Nat.le_of_ble_eq_true rfl⟩, Nat.le_of_ble_eq_true rfl, Nat.le_of_ble_eq_true rfl⟩ rfl hl (Nat.le_of_ble_eq_true rfl) dX8_deafen_53 rfl hW hA [] rfl rfl rfl (ch' := [kX8 g a0 v0]) rfl (fun H locs hW => ?_)
            refine lv_dup2_11 hx hb dX8_deafen_56 rfl rfl ?_
            obtain ⟨hi, hf⟩ := gd_of hf
            refine g_iald C hW 0 5 rfl (f := (v0 16)) rfl (ib_in hi) dX8_deafen_57 ?_
            refine lv_iconst (v := (1 : Int32)) hx hb dX8_deafen_58 (by decide) ?_
            refine lv_iload hx hb dX8_deafen_59 (lv_at hl 5 rfl) ?_
            refine lv_bipush (v := (30 : Int32)) hx hb dX8_deafen_61 (by decide) ?_
            refine lv_irem hx hb dX8_deafen_63 (by decide) ?_
            refine lv_ishl hx hb dX8_deafen_64 ?_
            refine lv_ior hx hb dX8_deafen_65 ?_
            obtain ⟨hi, hf⟩ := gd_of hf
            refine g_iast C hW 0 5 rfl (f := (v0 16)) rfl (ib_in hi) (kX8_w16 g a0 v0 (upd (v0 16) (Int32.toNatClampNeg y3) (((v0 16) (Int32.toNatClampNeg y3)) ||| ((1 : Int32) <<< ((x5 - x5 / (30 : Int32) * (30 : Int32)) &&& 31))))) (ch' := [kX8 g a0 (st v0 16 (upd (v0 16) (Int32.toNatClampNeg y3) (((v0 16) (Int32.toNatClampNeg y3)) ||| ((1 : Int32) <<< ((x5 - x5 / (30 : Int32) * (30 : Int32)) &&& 31)))))]) rfl dX8_deafen_66 (fun H locs hW => ?_)
            refine lv_iinc (v := (x5 + 1)) (lv' := [(5, .int (x5 + 1)), (4, .int (x4 + (0 : Int32))), (0, .ref (a0 0)), (1, .int x1), (2, .int x2), (3, .int x3)]) hx hb dX8_deafen_67 hl (k := 5) rfl (by first | rfl | decide) (by decide) rfl (fun ls hl => ?_)
            refine lv_goto (tgt := 6) hx hb dX8_deafen_70 (by decide) ?_
            exact ih _ _ _ H locs ls hf hW (lv_sub hl [2, 3, 4, 5, 1, 0] rfl)
  rw [fX8_deafen] at hf
  refine lv_iconst (v := (0 : Int32)) hx hb dX8_deafen_0 (by decide) ?_
  refine lv_istore (lv' := [(4, .int (0 : Int32)), (0, .ref (a0 0)), (1, .int x1), (2, .int x2), (3, .int x3)]) hx hb dX8_deafen_1 hl (by decide) rfl (fun ls hl => ?_)
  refine lv_iload_n hx hb dX8_deafen_3 rfl (lv_at hl 3 rfl) ?_
  refine lv_istore (lv' := [(5, .int x2), (4, .int (0 : Int32)), (0, .ref (a0 0)), (1, .int x1), (2, .int x2), (3, .int x3)]) hx hb dX8_deafen_4 hl (by decide) rfl (fun ls hl => ?_)
  refine L6 x1 x2 x3 _ (fun x4_4 x5_4 v0_4 H locs ls hf hW hl => ?_) N (0 : Int32) x2 v0 H locs ls hf hW (lv_sub hl [2, 3, 4, 5, 1, 0] rfl)
  refine lv_iload hx hb dX8_deafen_73 (lv_at hl 4 rfl) ?_
  obtain rfl := Option.some.inj hf
  subst hQ
  exact g_iret C hr hk0 hW rfl rfl dX8_deafen_75
def fX8_deafens (N : Nat) (x1 : Int32) (x2 : Int32) (x3 : Int32) (v0 : MM) : Option (Int32 × MM) := ((fX8_isTerminal N x1 (st v0 0 (fun _ => (0 : Int32)))).bind (fun y1 => (if y1 = 0 then some ((-1 : Int32), (st v0 0 (fun _ => (0 : Int32)))) else (if ib (0 : Int32) 667 = true then ((fX8_in N x2 ((v0 16) (Int32.toNatClampNeg (0 : Int32))) (199 : Int32)).bind (fun y2 => (if y2 = 0 then some ((-1 : Int32), (st v0 0 (fun _ => (0 : Int32)))) else ((fX8_in N x3 x2 (199 : Int32)).bind (fun y3 => (if y3 = 0 then some ((-1 : Int32), (st v0 0 (fun _ => (0 : Int32)))) else ((fX8_notes N (st v0 0 (fun _ => (0 : Int32)))).bind (fun y4 => ((fX8_deafen N x1 x2 x3 y4).bind (fun y5 => some (y5.1, y5.2))))))))))) else none))))
set_option maxHeartbeats 4000000 in
set_option maxRecDepth 100000 in
theorem ct_X8_deafens (g : GT) (l : Launch) (N : Nat) (a0 : Nat → Nat) (x1 : Int32) (x2 : Int32) (x3 : Int32) (v0 : MM) {y : Int32 × MM} (hf : fX8_deafens N x1 x2 x3 v0 = some y) : ct g l yX8_deafens wsX8_deafens (rmk 3 68) [.ref (a0 0), .int x1, .int x2, .int x3] [kX8 g a0 v0] (some (.int y.1)) [kX8 g a0 y.2] := by
  refine ct_of (cc := cX8_deafens) (maxL := 4) (ret := (some .int)) (by decide) rfl (Nat.le_of_ble_eq_true rfl) ?_
  intro p e s m args below meth c A ls C hr hk0 hA hW hl
  have hx := C.1.1
  have hb := C.1.2.1
  replace hl : lv_has ls 4 [(0, .ref (a0 0)), (1, .int x1), (2, .int x2), (3, .int x3)] := hl
  obtain ⟨Q, hQ⟩ : ∃ Q, Q = MQ below (ctQ g A (some (.int y.1)) [kX8 g a0 y.2]) args s 0 0 A := ⟨_, rfl⟩
  rw [← hQ]
  obtain ⟨H, hH⟩ : ∃ H, H = s.heap := ⟨_, rfl⟩
  obtain ⟨locs, hL⟩ : ∃ locs : List Loc, locs = [] := ⟨_, rfl⟩
  replace hW : wd g A s.heap [kX8 g a0 v0] H locs := by rw [hH, hL]; exact hW
  suffices hG : W p l e (rmk 3 68) s m args below meth c H locs 0 0 Q (F0 m 0 ls []) by
    rw [hH, hL] at hG; exact hG
  clear hH hL
  have inX8 : ∀ w ∈ wsX80, w ∈ wsX8_deafens := fun _ h => List.mem_cons_of_mem _ (List.mem_append_right _ (h))
  rw [fX8_deafens] at hf
  refine lv_aload_n hx hb dX8_deafens_0 rfl (lv_at hl 0 rfl) ?_
  refine lv_iconst (v := (0 : Int32)) hx hb dX8_deafens_1 (by decide) ?_
  refine g_put C hW inX8 tyX8_ok nmX8 0 rfl rfl rfl 0 (by decide) (List.mem_of_getElem? (i := 1) rfl) rfl rfl rfl rfl (kX8_s0 g a0 v0 (0 : Int32)) (ch' := [kX8 g a0 (st v0 0 (fun _ => (0 : Int32)))]) rfl dX8_deafens_2 (fun H locs hW => ?_)
  refine lv_aload_n hx hb dX8_deafens_5 rfl (lv_at hl 0 rfl) ?_
  refine lv_iload_n hx hb dX8_deafens_6 rfl (lv_at hl 1 rfl) ?_
  obtain ⟨y1, hc, hf⟩ := bd_of hf
  refine g_cV (Cn := RX8) C (ct_X8_isTerminal g l N a0 x1 (st v0 0 (fun _ => (0 : Int32))) hc) gX8_deafens_X8_isTerminal rfl 1 (by decide +kernel) ⟨rfl, rfl, ⟨Nat.le_of_ble_eq_true rfl, Nat.le_of_ble_eq_true rfl⟩, Nat.le_of_ble_eq_true rfl, Nat.le_of_ble_eq_true rfl⟩ rfl hl (Nat.le_of_ble_eq_true rfl) dX8_deafens_7 rfl hW hA [0] rfl rfl rfl (ch' := [kX8 g a0 (st v0 0 (fun _ => (0 : Int32)))]) rfl 0 rfl rfl rfl (fun H locs hW => ?_)
  refine lv_if_eq (tgt := 40) hx hb dX8_deafens_10 (by decide) (fun h => ?_) (fun h => ?_)
  · replace hf := (if_pos h).symm.trans hf
    refine lv_iconst (v := (-1 : Int32)) hx hb dX8_deafens_40 (by decide) ?_
    obtain rfl := Option.some.inj hf
    subst hQ
    exact g_iret C hr hk0 hW rfl rfl dX8_deafens_41
  · replace hf := (if_neg h).symm.trans hf
    refine lv_iload_n hx hb dX8_deafens_13 rfl (lv_at hl 2 rfl) ?_
    refine lv_aload_n hx hb dX8_deafens_14 rfl (lv_at hl 0 rfl) ?_
    refine g_get C hW inX8 0 rfl rfl rfl 16 (by decide) (List.mem_of_getElem? (i := 2) rfl) (v := .ref (a0 5)) rfl dX8_deafens_15 ?_
    refine lv_iconst (v := (0 : Int32)) hx hb dX8_deafens_18 (by decide) ?_
    obtain ⟨hi, hf⟩ := gd_of hf
    refine g_iald C hW 0 5 rfl (f := (v0 16)) rfl (ib_in hi) dX8_deafens_19 ?_
    refine lv_sipush (v := (199 : Int32)) hx hb dX8_deafens_20 (by decide) ?_
    obtain ⟨y2, hc, hf⟩ := bd_of hf
    refine g_cS C (ct_X8_in g l N x2 ((v0 16) (Int32.toNatClampNeg (0 : Int32))) (199 : Int32) hc) gX8_deafens_X8_in rfl 3 (by decide +kernel) ⟨rfl, rfl, ⟨Nat.le_of_ble_eq_true rfl, Nat.le_of_ble_eq_true rfl⟩, Nat.le_of_ble_eq_true rfl, Nat.le_of_ble_eq_true rfl⟩ rfl hl (Nat.le_of_ble_eq_true rfl) dX8_deafens_23 rfl hW hA [] rfl rfl rfl (ch' := [kX8 g a0 (st v0 0 (fun _ => (0 : Int32)))]) rfl (fun H locs hW => ?_)
    refine lv_if_eq (tgt := 40) hx hb dX8_deafens_26 (by decide) (fun h => ?_) (fun h => ?_)
    · replace hf := (if_pos h).symm.trans hf
      refine lv_iconst (v := (-1 : Int32)) hx hb dX8_deafens_40 (by decide) ?_
      obtain rfl := Option.some.inj hf
      subst hQ
      exact g_iret C hr hk0 hW rfl rfl dX8_deafens_41
    · replace hf := (if_neg h).symm.trans hf
      refine lv_iload_n hx hb dX8_deafens_29 rfl (lv_at hl 3 rfl) ?_
      refine lv_iload_n hx hb dX8_deafens_30 rfl (lv_at hl 2 rfl) ?_
      refine lv_sipush (v := (199 : Int32)) hx hb dX8_deafens_31 (by decide) ?_
      obtain ⟨y3, hc, hf⟩ := bd_of hf
      refine g_cS C (ct_X8_in g l N x3 x2 (199 : Int32) hc) gX8_deafens_X8_in rfl 3 (by decide +kernel) ⟨rfl, rfl, ⟨Nat.le_of_ble_eq_true rfl, Nat.le_of_ble_eq_true rfl⟩, Nat.le_of_ble_eq_true rfl, Nat.le_of_ble_eq_true rfl⟩ rfl hl (Nat.le_of_ble_eq_true rfl) dX8_deafens_34 rfl hW hA [] rfl rfl rfl (ch' := [kX8 g a0 (st v0 0 (fun _ => (0 : Int32)))]) rfl (fun H locs hW => ?_)
      refine lv_if_ne (tgt := 42) hx hb dX8_deafens_37 (by decide) (fun h => ?_) (fun h => ?_)
      · replace hf := (if_neg h).symm.trans hf
        refine lv_aload_n hx hb dX8_deafens_42 rfl (lv_at hl 0 rfl) ?_
        obtain ⟨y4, hc, hf⟩ := bd_of hf
        refine g_cVv (Cn := RX8) C (ct_X8_notes g l N a0 (st v0 0 (fun _ => (0 : Int32))) hc) gX8_deafens_X8_notes rfl 0 (by decide +kernel) ⟨rfl, rfl, ⟨Nat.le_of_ble_eq_true rfl, Nat.le_of_ble_eq_true rfl⟩, Nat.le_of_ble_eq_true rfl, Nat.le_of_ble_eq_true rfl⟩ rfl hl (Nat.le_of_ble_eq_true rfl) dX8_deafens_43 rfl hW hA [0] rfl rfl rfl (ch' := [kX8 g a0 y4]) rfl 0 rfl rfl rfl (fun H locs hW => ?_)
        refine lv_aload_n hx hb dX8_deafens_46 rfl (lv_at hl 0 rfl) ?_
        refine lv_iload_n hx hb dX8_deafens_47 rfl (lv_at hl 1 rfl) ?_
        refine lv_iload_n hx hb dX8_deafens_48 rfl (lv_at hl 2 rfl) ?_
        refine lv_iload_n hx hb dX8_deafens_49 rfl (lv_at hl 3 rfl) ?_
        obtain ⟨y5, hc, hf⟩ := bd_of hf
        refine g_cV (Cn := RX8) C (ct_X8_deafen g l N a0 x1 x2 x3 y4 hc) gX8_deafens_X8_deafen rfl 3 (by decide +kernel) ⟨rfl, rfl, ⟨Nat.le_of_ble_eq_true rfl, Nat.le_of_ble_eq_true rfl⟩, Nat.le_of_ble_eq_true rfl, Nat.le_of_ble_eq_true rfl⟩ rfl hl (Nat.le_of_ble_eq_true rfl) dX8_deafens_50 rfl hW hA [0] rfl rfl rfl (ch' := [kX8 g a0 y5.2]) rfl 0 rfl rfl rfl (fun H locs hW => ?_)
        obtain rfl := Option.some.inj hf
        subst hQ
        exact g_iret C hr hk0 hW rfl rfl dX8_deafens_53
      · replace hf := (if_pos h).symm.trans hf
        refine lv_iconst (v := (-1 : Int32)) hx hb dX8_deafens_40 (by decide) ?_
        obtain rfl := Option.some.inj hf
        subst hQ
        exact g_iret C hr hk0 hW rfl rfl dX8_deafens_41
def fX8_widens (N : Nat) (x1 : Int32) (v0 : MM) : Option (Int32 × MM) := ((fX8_in N x1 (0 : Int32) (60 : Int32)).bind (fun y1 => (if y1 = 0 then some ((-1 : Int32), (st v0 0 (fun _ => (0 : Int32)))) else (if ib (1 : Int32) 667 = true then (if ((v0 16) (Int32.toNatClampNeg (1 : Int32))) = x1 then some ((-2 : Int32), (st v0 0 (fun _ => (0 : Int32)))) else ((fX8_notes N (st v0 0 (fun _ => (0 : Int32)))).bind (fun y2 => (if ib (1 : Int32) 667 = true then some (((v0 16) (Int32.toNatClampNeg (1 : Int32))), (st y2 16 (upd (y2 16) (Int32.toNatClampNeg (1 : Int32)) x1))) else none)))) else none))))
set_option maxHeartbeats 4000000 in
set_option maxRecDepth 100000 in
theorem ct_X8_widens (g : GT) (l : Launch) (N : Nat) (a0 : Nat → Nat) (x1 : Int32) (v0 : MM) {y : Int32 × MM} (hf : fX8_widens N x1 v0 = some y) : ct g l yX8_widens wsX8_widens (rmk 2 46) [.ref (a0 0), .int x1] [kX8 g a0 v0] (some (.int y.1)) [kX8 g a0 y.2] := by
  refine ct_of (cc := cX8_widens) (maxL := 3) (ret := (some .int)) (by decide) rfl (Nat.le_of_ble_eq_true rfl) ?_
  intro p e s m args below meth c A ls C hr hk0 hA hW hl
  have hx := C.1.1
  have hb := C.1.2.1
  replace hl : lv_has ls 3 [(0, .ref (a0 0)), (1, .int x1)] := hl
  obtain ⟨Q, hQ⟩ : ∃ Q, Q = MQ below (ctQ g A (some (.int y.1)) [kX8 g a0 y.2]) args s 0 0 A := ⟨_, rfl⟩
  rw [← hQ]
  obtain ⟨H, hH⟩ : ∃ H, H = s.heap := ⟨_, rfl⟩
  obtain ⟨locs, hL⟩ : ∃ locs : List Loc, locs = [] := ⟨_, rfl⟩
  replace hW : wd g A s.heap [kX8 g a0 v0] H locs := by rw [hH, hL]; exact hW
  suffices hG : W p l e (rmk 2 46) s m args below meth c H locs 0 0 Q (F0 m 0 ls []) by
    rw [hH, hL] at hG; exact hG
  clear hH hL
  have inX8 : ∀ w ∈ wsX80, w ∈ wsX8_widens := fun _ h => List.mem_cons_of_mem _ (List.mem_append_right _ (h))
  rw [fX8_widens] at hf
  refine lv_aload_n hx hb dX8_widens_0 rfl (lv_at hl 0 rfl) ?_
  refine lv_iconst (v := (0 : Int32)) hx hb dX8_widens_1 (by decide) ?_
  refine g_put C hW inX8 tyX8_ok nmX8 0 rfl rfl rfl 0 (by decide) (List.mem_of_getElem? (i := 1) rfl) rfl rfl rfl rfl (kX8_s0 g a0 v0 (0 : Int32)) (ch' := [kX8 g a0 (st v0 0 (fun _ => (0 : Int32)))]) rfl dX8_widens_2 (fun H locs hW => ?_)
  refine lv_iload_n hx hb dX8_widens_5 rfl (lv_at hl 1 rfl) ?_
  refine lv_iconst (v := (0 : Int32)) hx hb dX8_widens_6 (by decide) ?_
  refine lv_bipush (v := (60 : Int32)) hx hb dX8_widens_7 (by decide) ?_
  obtain ⟨y1, hc, hf⟩ := bd_of hf
  refine g_cS C (ct_X8_in g l N x1 (0 : Int32) (60 : Int32) hc) gX8_widens_X8_in rfl 3 (by decide +kernel) ⟨rfl, rfl, ⟨Nat.le_of_ble_eq_true rfl, Nat.le_of_ble_eq_true rfl⟩, Nat.le_of_ble_eq_true rfl, Nat.le_of_ble_eq_true rfl⟩ rfl hl (Nat.le_of_ble_eq_true rfl) dX8_widens_9 rfl hW hA [] rfl rfl rfl (ch' := [kX8 g a0 (st v0 0 (fun _ => (0 : Int32)))]) rfl (fun H locs hW => ?_)
  refine lv_if_ne (tgt := 17) hx hb dX8_widens_12 (by decide) (fun h => ?_) (fun h => ?_)
  · replace hf := (if_neg h).symm.trans hf
    refine lv_aload_n hx hb dX8_widens_17 rfl (lv_at hl 0 rfl) ?_
    refine g_get C hW inX8 0 rfl rfl rfl 16 (by decide) (List.mem_of_getElem? (i := 2) rfl) (v := .ref (a0 5)) rfl dX8_widens_18 ?_
    refine lv_iconst (v := (1 : Int32)) hx hb dX8_widens_21 (by decide) ?_
    obtain ⟨hi, hf⟩ := gd_of hf
    refine g_iald C hW 0 5 rfl (f := (v0 16)) rfl (ib_in hi) dX8_widens_22 ?_
    refine lv_istore_n (lv' := [(2, .int ((v0 16) (Int32.toNatClampNeg (1 : Int32)))), (0, .ref (a0 0)), (1, .int x1)]) hx hb dX8_widens_23 rfl hl (by decide) rfl (fun ls hl => ?_)
    refine lv_iload_n hx hb dX8_widens_24 rfl (lv_at hl 0 rfl) ?_
    refine lv_iload_n hx hb dX8_widens_25 rfl (lv_at hl 2 rfl) ?_
    refine lv_icmp_ne (tgt := 32) hx hb dX8_widens_26 (by decide) (fun h => ?_) (fun h => ?_)
    · replace hf := (if_neg h).symm.trans hf
      refine lv_aload_n hx hb dX8_widens_32 rfl (lv_at hl 1 rfl) ?_
      obtain ⟨y2, hc, hf⟩ := bd_of hf
      refine g_cVv (Cn := RX8) C (ct_X8_notes g l N a0 (st v0 0 (fun _ => (0 : Int32))) hc) gX8_widens_X8_notes rfl 0 (by decide +kernel) ⟨rfl, rfl, ⟨Nat.le_of_ble_eq_true rfl, Nat.le_of_ble_eq_true rfl⟩, Nat.le_of_ble_eq_true rfl, Nat.le_of_ble_eq_true rfl⟩ rfl hl (Nat.le_of_ble_eq_true rfl) dX8_widens_33 rfl hW hA [0] rfl rfl rfl (ch' := [kX8 g a0 y2]) rfl 0 rfl rfl rfl (fun H locs hW => ?_)
      refine lv_aload_n hx hb dX8_widens_36 rfl (lv_at hl 1 rfl) ?_
      refine g_get C hW inX8 0 rfl rfl rfl 16 (by decide) (List.mem_of_getElem? (i := 2) rfl) (v := .ref (a0 5)) rfl dX8_widens_37 ?_
      refine lv_iconst (v := (1 : Int32)) hx hb dX8_widens_40 (by decide) ?_
      refine lv_iload_n hx hb dX8_widens_41 rfl (lv_at hl 2 rfl) ?_
      obtain ⟨hi, hf⟩ := gd_of hf
      refine g_iast C hW 0 5 rfl (f := (y2 16)) rfl (ib_in hi) (kX8_w16 g a0 y2 (upd (y2 16) (Int32.toNatClampNeg (1 : Int32)) x1)) (ch' := [kX8 g a0 (st y2 16 (upd (y2 16) (Int32.toNatClampNeg (1 : Int32)) x1))]) rfl dX8_widens_42 (fun H locs hW => ?_)
      refine lv_iload_n hx hb dX8_widens_43 rfl (lv_at hl 0 rfl) ?_
      obtain rfl := Option.some.inj hf
      subst hQ
      exact g_iret C hr hk0 hW rfl rfl dX8_widens_44
    · replace hf := (if_pos h).symm.trans hf
      refine lv_bipush (v := (-2 : Int32)) hx hb dX8_widens_29 (by decide) ?_
      obtain rfl := Option.some.inj hf
      subst hQ
      exact g_iret C hr hk0 hW rfl rfl dX8_widens_31
  · replace hf := (if_pos h).symm.trans hf
    refine lv_iconst (v := (-1 : Int32)) hx hb dX8_widens_15 (by decide) ?_
    obtain rfl := Option.some.inj hf
    subst hQ
    exact g_iret C hr hk0 hW rfl rfl dX8_widens_16
def fX8_undo (N : Nat) (v0 : MM) : Option (Int32 × MM) := (if (v0 17 0) = 0 then some ((-2 : Int32), (st v0 0 (fun _ => (0 : Int32)))) else ((fX8_copies N ((667 : Int32) * ((v0 17 0) - (1 : Int32))) (0 : Int32) 5336 667 (v0 18) (v0 16)).bind (fun y1 => some (((v0 17 0) - (1 : Int32)), (st (st (st v0 0 (fun _ => (0 : Int32))) 17 (fun _ => ((v0 17 0) - (1 : Int32)))) 16 y1)))))
set_option maxHeartbeats 4000000 in
set_option maxRecDepth 100000 in
theorem ct_X8_undo (g : GT) (l : Launch) (N : Nat) (a0 : Nat → Nat) (v0 : MM) {y : Int32 × MM} (hf : fX8_undo N v0 = some y) : ct g l yX8_undo wsX8_undo (rmk 1 25) [.ref (a0 0)] [kX8 g a0 v0] (some (.int y.1)) [kX8 g a0 y.2] := by
  refine ct_of (cc := cX8_undo) (maxL := 1) (ret := (some .int)) (by decide) rfl (Nat.le_of_ble_eq_true rfl) ?_
  intro p e s m args below meth c A ls C hr hk0 hA hW hl
  have hx := C.1.1
  have hb := C.1.2.1
  replace hl : lv_has ls 1 [(0, .ref (a0 0))] := hl
  obtain ⟨Q, hQ⟩ : ∃ Q, Q = MQ below (ctQ g A (some (.int y.1)) [kX8 g a0 y.2]) args s 0 0 A := ⟨_, rfl⟩
  rw [← hQ]
  obtain ⟨H, hH⟩ : ∃ H, H = s.heap := ⟨_, rfl⟩
  obtain ⟨locs, hL⟩ : ∃ locs : List Loc, locs = [] := ⟨_, rfl⟩
  replace hW : wd g A s.heap [kX8 g a0 v0] H locs := by rw [hH, hL]; exact hW
  suffices hG : W p l e (rmk 1 25) s m args below meth c H locs 0 0 Q (F0 m 0 ls []) by
    rw [hH, hL] at hG; exact hG
  clear hH hL
  have inX8 : ∀ w ∈ wsX80, w ∈ wsX8_undo := fun _ h => List.mem_cons_of_mem _ (List.mem_append_right _ (h))
  rw [fX8_undo] at hf
  refine lv_aload_n hx hb dX8_undo_0 rfl (lv_at hl 0 rfl) ?_
  refine lv_iconst (v := (0 : Int32)) hx hb dX8_undo_1 (by decide) ?_
  refine g_put C hW inX8 tyX8_ok nmX8 0 rfl rfl rfl 0 (by decide) (List.mem_of_getElem? (i := 1) rfl) rfl rfl rfl rfl (kX8_s0 g a0 v0 (0 : Int32)) (ch' := [kX8 g a0 (st v0 0 (fun _ => (0 : Int32)))]) rfl dX8_undo_2 (fun H locs hW => ?_)
  refine lv_aload_n hx hb dX8_undo_5 rfl (lv_at hl 0 rfl) ?_
  refine g_get C hW inX8 0 rfl rfl rfl 17 (by decide) (List.mem_of_getElem? (i := 2) rfl) (v := .int (v0 17 0)) rfl dX8_undo_6 ?_
  refine lv_if_ne (tgt := 15) hx hb dX8_undo_9 (by decide) (fun h => ?_) (fun h => ?_)
  · replace hf := (if_neg h).symm.trans hf
    refine lv_aload_n hx hb dX8_undo_15 rfl (lv_at hl 0 rfl) ?_
    refine lv_dup hx hb dX8_undo_16 rfl ?_
    refine g_get C hW inX8 0 rfl rfl rfl 17 (by decide) (List.mem_of_getElem? (i := 2) rfl) (v := .int (v0 17 0)) rfl dX8_undo_17 ?_
    refine lv_iconst (v := (1 : Int32)) hx hb dX8_undo_20 (by decide) ?_
    refine lv_isub hx hb dX8_undo_21 ?_
    refine g_put C hW inX8 tyX8_ok nmX8 0 rfl rfl rfl 17 (by decide) (List.mem_of_getElem? (i := 2) rfl) rfl rfl rfl rfl (kX8_s17 g a0 (st v0 0 (fun _ => (0 : Int32))) ((v0 17 0) - (1 : Int32))) (ch' := [kX8 g a0 (st (st v0 0 (fun _ => (0 : Int32))) 17 (fun _ => ((v0 17 0) - (1 : Int32))))]) rfl dX8_undo_22 (fun H locs hW => ?_)
    refine lv_aload_n hx hb dX8_undo_25 rfl (lv_at hl 0 rfl) ?_
    refine lv_aload_n hx hb dX8_undo_26 rfl (lv_at hl 0 rfl) ?_
    refine g_get C hW inX8 0 rfl rfl rfl 18 (by decide) (List.mem_of_getElem? (i := 3) rfl) (v := .ref (a0 6)) rfl dX8_undo_27 ?_
    refine lv_aload_n hx hb dX8_undo_30 rfl (lv_at hl 0 rfl) ?_
    refine g_get C hW inX8 0 rfl rfl rfl 16 (by decide) (List.mem_of_getElem? (i := 4) rfl) (v := .ref (a0 5)) rfl dX8_undo_31 ?_
    refine lv_sipush (v := (667 : Int32)) hx hb dX8_undo_34 (by decide) ?_
    refine lv_aload_n hx hb dX8_undo_37 rfl (lv_at hl 0 rfl) ?_
    refine g_get C hW inX8 0 rfl rfl rfl 17 (by decide) (List.mem_of_getElem? (i := 2) rfl) (v := .int ((v0 17 0) - (1 : Int32))) rfl dX8_undo_38 ?_
    refine lv_imul hx hb dX8_undo_41 ?_
    refine lv_iconst (v := (0 : Int32)) hx hb dX8_undo_42 (by decide) ?_
    obtain ⟨y1, hc, hf⟩ := bd_of hf
    obtain ⟨V2, hV2⟩ : ∃ z : MM, z = (st (st v0 0 (fun _ => (0 : Int32))) 17 (fun _ => ((v0 17 0) - (1 : Int32)))) := ⟨_, rfl⟩
    rw [← hV2] at hW
    replace hc : fX8_copies N ((667 : Int32) * ((v0 17 0) - (1 : Int32))) (0 : Int32) 5336 667 (V2 18) (V2 16) = some y1 := by rw [hV2]; exact hc
    replace hW := hW.re (ch' := [(kX8 g a0 V2).take 5, [(a0 5, .inl (g.2.1, 667, .inl (V2 16)))], ((kX8 g a0 V2).drop 6 |>.take 0), [(a0 6, .inl (g.2.1, 5336, .inl (V2 18)))], (kX8 g a0 V2).drop 7]) rfl
    refine g_cVv (Cn := RX8) C (ct_X8_copies g l N (a0 6) (a0 5) (a0 0) ((667 : Int32) * ((v0 17 0) - (1 : Int32))) (0 : Int32) 5336 667 (V2 18) (V2 16) hc) gX8_undo_X8_copies rfl 4 (by decide +kernel) ⟨rfl, rfl, ⟨Nat.le_of_ble_eq_true rfl, Nat.le_of_ble_eq_true rfl⟩, Nat.le_of_ble_eq_true rfl, Nat.le_of_ble_eq_true rfl⟩ rfl hl (Nat.le_of_ble_eq_true rfl) dX8_undo_43 rfl hW hA [3, 1] rfl rfl rfl (ch' := [(kX8 g a0 V2).take 5, [(a0 5, .inl (g.2.1, 667, .inl y1))], ((kX8 g a0 V2).drop 6 |>.take 0), [(a0 6, .inl (g.2.1, 5336, .inl (V2 18)))], (kX8 g a0 V2).drop 7]) rfl 0 rfl rfl rfl (fun H locs hW => ?_)
    replace hW := hW.re (ch' := [kX8 g a0 (st V2 16 y1)]) rfl
    subst hV2
    refine lv_aload_n hx hb dX8_undo_46 rfl (lv_at hl 0 rfl) ?_
    refine g_get C hW inX8 0 rfl rfl rfl 17 (by decide) (List.mem_of_getElem? (i := 2) rfl) (v := .int ((v0 17 0) - (1 : Int32))) rfl dX8_undo_47 ?_
    obtain rfl := Option.some.inj hf
    subst hQ
    exact g_iret C hr hk0 hW rfl rfl dX8_undo_50
  · replace hf := (if_pos h).symm.trans hf
    refine lv_bipush (v := (-2 : Int32)) hx hb dX8_undo_12 (by decide) ?_
    obtain rfl := Option.some.inj hf
    subst hQ
    exact g_iret C hr hk0 hW rfl rfl dX8_undo_14
def fX8_sort_L65 (N : Nat) (k : Int32 → Int32 → Option (Int32 × MM)) (x1 : Int32) (x2 : Int32) (v0 : MM) : Nat → Int32 → Int32 → Option (Int32 × MM)
  | 0, _, _ => none
  | n + 1, x3, x4 => (if ib (3 : Int32) 667 = true then (if ((v0 16) (Int32.toNatClampNeg (3 : Int32))) ≤ x4 then k x3 x4 else ((fX8_ofBlock N x4 ((4 : Int32) + x1)).bind (fun y3 => (if ib y3 667 = true then fX8_sort_L65 N k x1 x2 v0 n (x3 + ((v0 16) (Int32.toNatClampNeg y3))) (x4 + 1) else none)))) else none)
def fX8_sort (N : Nat) (x1 : Int32) (x2 : Int32) (v0 : MM) : Option (Int32 × MM) := ((fX8_isClass N x1 (st v0 0 (fun _ => (0 : Int32)))).bind (fun y1 => (if y1 = 0 then some ((-1 : Int32), (st v0 0 (fun _ => (0 : Int32)))) else ((fX8_in N x2 (0 : Int32) (8 : Int32)).bind (fun y2 => (if y2 = 0 then some ((-1 : Int32), (st v0 0 (fun _ => (0 : Int32)))) else (if (4 : Int32) ≤ x2 then (if (8 : Int32) ≤ x2 then (fX8_sort_L65 N (fun (x3_4 : Int32) (x4_4 : Int32) => some (x3_4, (st v0 0 (fun _ => (0 : Int32))))) x1 x2 (st v0 0 (fun _ => (0 : Int32))) N (0 : Int32) (0 : Int32)) else ((fX8_ofClass N x1 (x2 - (4 : Int32))).bind (fun y5 => (if ib y5 667 = true then some (((v0 16) (Int32.toNatClampNeg y5)), (st v0 0 (fun _ => (0 : Int32)))) else none)))) else (if ib (((4 : Int32) * x1) + x2) 24 = true then some (((v0 7) (Int32.toNatClampNeg (((4 : Int32) * x1) + x2))), (st v0 0 (fun _ => (0 : Int32)))) else none))))))))
set_option maxHeartbeats 4000000 in
set_option maxRecDepth 100000 in
theorem ct_X8_sort (g : GT) (l : Launch) (N : Nat) (a0 : Nat → Nat) (x1 : Int32) (x2 : Int32) (v0 : MM) {y : Int32 × MM} (hf : fX8_sort N x1 x2 v0 = some y) : ct g l yX8_sort wsX8_sort (rmk 2 43) [.ref (a0 0), .int x1, .int x2] [kX8 g a0 v0] (some (.int y.1)) [kX8 g a0 y.2] := by
  refine ct_of (cc := cX8_sort) (maxL := 5) (ret := (some .int)) (by decide) rfl (Nat.le_of_ble_eq_true rfl) ?_
  intro p e s m args below meth c A ls C hr hk0 hA hW hl
  have hx := C.1.1
  have hb := C.1.2.1
  replace hl : lv_has ls 5 [(0, .ref (a0 0)), (1, .int x1), (2, .int x2)] := hl
  obtain ⟨Q, hQ⟩ : ∃ Q, Q = MQ below (ctQ g A (some (.int y.1)) [kX8 g a0 y.2]) args s 0 0 A := ⟨_, rfl⟩
  rw [← hQ]
  obtain ⟨H, hH⟩ : ∃ H, H = s.heap := ⟨_, rfl⟩
  obtain ⟨locs, hL⟩ : ∃ locs : List Loc, locs = [] := ⟨_, rfl⟩
  replace hW : wd g A s.heap [kX8 g a0 v0] H locs := by rw [hH, hL]; exact hW
  suffices hG : W p l e (rmk 2 43) s m args below meth c H locs 0 0 Q (F0 m 0 ls []) by
    rw [hH, hL] at hG; exact hG
  clear hH hL
  have inX8 : ∀ w ∈ wsX80, w ∈ wsX8_sort := fun _ h => List.mem_cons_of_mem _ (List.mem_append_right _ (h))
  have L65 : ∀ (x1 : Int32) (x2 : Int32) (v0 : MM) (k : Int32 → Int32 → Option (Int32 × MM)) (hk : ∀ (x3 : Int32) (x4 : Int32) (H : Heap) (locs : List Loc) (ls : Array Slot), k x3 x4 = some y → wd g A s.heap [kX8 g a0 v0] H locs → lv_has ls 5 [(0, .ref (a0 0)), (1, .int x1), (2, .int x2), (3, .int x3), (4, .int x4)] → W p l e (rmk 2 43) s m args below meth c H locs 0 0 Q (F0 m 98 ls [])) (n : Nat) (x3 : Int32) (x4 : Int32) (H : Heap) (locs : List Loc) (ls : Array Slot), fX8_sort_L65 N k x1 x2 v0 n x3 x4 = some y → wd g A s.heap [kX8 g a0 v0] H locs → lv_has ls 5 [(0, .ref (a0 0)), (1, .int x1), (2, .int x2), (3, .int x3), (4, .int x4)] → W p l e (rmk 2 43) s m args below meth c H locs 0 0 Q (F0 m 65 ls []) := by
    intro x1 x2 v0 k hk n
    induction n with
    | zero => intro x3 x4 H locs ls hf; rw [fX8_sort_L65] at hf; cases hf
    | succ n ih =>
      intro x3 x4 H locs ls hf hW hl
      rw [fX8_sort_L65] at hf
      refine lv_iload hx hb dX8_sort_65 (lv_at hl 4 rfl) ?_
      refine lv_aload_n hx hb dX8_sort_67 rfl (lv_at hl 0 rfl) ?_
      refine g_get C hW inX8 0 rfl rfl rfl 16 (by decide) (List.mem_of_getElem? (i := 3) rfl) (v := .ref (a0 5)) rfl dX8_sort_68 ?_
      refine lv_iconst (v := (3 : Int32)) hx hb dX8_sort_71 (by decide) ?_
      obtain ⟨hi, hf⟩ := gd_of hf
      refine g_iald C hW 0 5 rfl (f := (v0 16)) rfl (ib_in hi) dX8_sort_72 ?_
      refine lv_icmp_ge (tgt := 98) hx hb dX8_sort_73 (by decide) (fun h => ?_) (fun h => ?_)
      · replace hf := (if_pos h).symm.trans hf
        exact hk _ _ H locs ls hf hW (lv_sub hl [0, 1, 2, 3, 4] rfl)
      · replace hf := (if_neg h).symm.trans hf
        refine lv_iload_n hx hb dX8_sort_76 rfl (lv_at hl 3 rfl) ?_
        refine lv_aload_n hx hb dX8_sort_77 rfl (lv_at hl 0 rfl) ?_
        refine g_get C hW inX8 0 rfl rfl rfl 16 (by decide) (List.mem_of_getElem? (i := 3) rfl) (v := .ref (a0 5)) rfl dX8_sort_78 ?_
        refine lv_iload hx hb dX8_sort_81 (lv_at hl 4 rfl) ?_
        refine lv_iconst (v := (4 : Int32)) hx hb dX8_sort_83 (by decide) ?_
        refine lv_iload_n hx hb dX8_sort_84 rfl (lv_at hl 1 rfl) ?_
        refine lv_iadd hx hb dX8_sort_85 ?_
        obtain ⟨y3, hc, hf⟩ := bd_of hf
        refine g_cS C (ct_X8_ofBlock g l N x4 ((4 : Int32) + x1) hc) gX8_sort_X8_ofBlock rfl 2 (by decide +kernel) ⟨rfl, rfl, ⟨Nat.le_of_ble_eq_true rfl, Nat.le_of_ble_eq_true rfl⟩, Nat.le_of_ble_eq_true rfl, Nat.le_of_ble_eq_true rfl⟩ rfl hl (Nat.le_of_ble_eq_true rfl) dX8_sort_86 rfl hW hA [] rfl rfl rfl (ch' := [kX8 g a0 v0]) rfl (fun H locs hW => ?_)
        obtain ⟨hi, hf⟩ := gd_of hf
        refine g_iald C hW 0 5 rfl (f := (v0 16)) rfl (ib_in hi) dX8_sort_89 ?_
        refine lv_iadd hx hb dX8_sort_90 ?_
        refine lv_istore_n (lv' := [(3, .int (x3 + ((v0 16) (Int32.toNatClampNeg y3)))), (0, .ref (a0 0)), (1, .int x1), (2, .int x2), (4, .int x4)]) hx hb dX8_sort_91 rfl hl (by decide) rfl (fun ls hl => ?_)
        refine lv_iinc (v := (x4 + 1)) (lv' := [(4, .int (x4 + 1)), (3, .int (x3 + ((v0 16) (Int32.toNatClampNeg y3)))), (0, .ref (a0 0)), (1, .int x1), (2, .int x2)]) hx hb dX8_sort_92 hl (k := 4) rfl (by first | rfl | decide) (by decide) rfl (fun ls hl => ?_)
        refine lv_goto (tgt := 65) hx hb dX8_sort_95 (by decide) ?_
        exact ih _ _ H locs ls hf hW (lv_sub hl [2, 3, 4, 1, 0] rfl)
  rw [fX8_sort] at hf
  refine lv_aload_n hx hb dX8_sort_0 rfl (lv_at hl 0 rfl) ?_
  refine lv_iconst (v := (0 : Int32)) hx hb dX8_sort_1 (by decide) ?_
  refine g_put C hW inX8 tyX8_ok nmX8 0 rfl rfl rfl 0 (by decide) (List.mem_of_getElem? (i := 1) rfl) rfl rfl rfl rfl (kX8_s0 g a0 v0 (0 : Int32)) (ch' := [kX8 g a0 (st v0 0 (fun _ => (0 : Int32)))]) rfl dX8_sort_2 (fun H locs hW => ?_)
  refine lv_aload_n hx hb dX8_sort_5 rfl (lv_at hl 0 rfl) ?_
  refine lv_iload_n hx hb dX8_sort_6 rfl (lv_at hl 1 rfl) ?_
  obtain ⟨y1, hc, hf⟩ := bd_of hf
  refine g_cV (Cn := RX8) C (ct_X8_isClass g l N a0 x1 (st v0 0 (fun _ => (0 : Int32))) hc) gX8_sort_X8_isClass rfl 1 (by decide +kernel) ⟨rfl, rfl, ⟨Nat.le_of_ble_eq_true rfl, Nat.le_of_ble_eq_true rfl⟩, Nat.le_of_ble_eq_true rfl, Nat.le_of_ble_eq_true rfl⟩ rfl hl (Nat.le_of_ble_eq_true rfl) dX8_sort_7 rfl hW hA [0] rfl rfl rfl (ch' := [kX8 g a0 (st v0 0 (fun _ => (0 : Int32)))]) rfl 0 rfl rfl rfl (fun H locs hW => ?_)
  refine lv_if_eq (tgt := 23) hx hb dX8_sort_10 (by decide) (fun h => ?_) (fun h => ?_)
  · replace hf := (if_pos h).symm.trans hf
    refine lv_iconst (v := (-1 : Int32)) hx hb dX8_sort_23 (by decide) ?_
    obtain rfl := Option.some.inj hf
    subst hQ
    exact g_iret C hr hk0 hW rfl rfl dX8_sort_24
  · replace hf := (if_neg h).symm.trans hf
    refine lv_iload_n hx hb dX8_sort_13 rfl (lv_at hl 2 rfl) ?_
    refine lv_iconst (v := (0 : Int32)) hx hb dX8_sort_14 (by decide) ?_
    refine lv_bipush (v := (8 : Int32)) hx hb dX8_sort_15 (by decide) ?_
    obtain ⟨y2, hc, hf⟩ := bd_of hf
    refine g_cS C (ct_X8_in g l N x2 (0 : Int32) (8 : Int32) hc) gX8_sort_X8_in rfl 3 (by decide +kernel) ⟨rfl, rfl, ⟨Nat.le_of_ble_eq_true rfl, Nat.le_of_ble_eq_true rfl⟩, Nat.le_of_ble_eq_true rfl, Nat.le_of_ble_eq_true rfl⟩ rfl hl (Nat.le_of_ble_eq_true rfl) dX8_sort_17 rfl hW hA [] rfl rfl rfl (ch' := [kX8 g a0 (st v0 0 (fun _ => (0 : Int32)))]) rfl (fun H locs hW => ?_)
    refine lv_if_ne (tgt := 25) hx hb dX8_sort_20 (by decide) (fun h => ?_) (fun h => ?_)
    · replace hf := (if_neg h).symm.trans hf
      refine lv_iload_n hx hb dX8_sort_25 rfl (lv_at hl 2 rfl) ?_
      refine lv_iconst (v := (4 : Int32)) hx hb dX8_sort_26 (by decide) ?_
      refine lv_icmp_ge (tgt := 41) hx hb dX8_sort_27 (by decide) (fun h => ?_) (fun h => ?_)
      · replace hf := (if_pos h).symm.trans hf
        refine lv_iload_n hx hb dX8_sort_41 rfl (lv_at hl 2 rfl) ?_
        refine lv_bipush (v := (8 : Int32)) hx hb dX8_sort_42 (by decide) ?_
        refine lv_icmp_ge (tgt := 60) hx hb dX8_sort_44 (by decide) (fun h => ?_) (fun h => ?_)
        · replace hf := (if_pos h).symm.trans hf
          refine lv_iconst (v := (0 : Int32)) hx hb dX8_sort_60 (by decide) ?_
          refine lv_istore_n (lv' := [(3, .int (0 : Int32)), (0, .ref (a0 0)), (1, .int x1), (2, .int x2)]) hx hb dX8_sort_61 rfl hl (by decide) rfl (fun ls hl => ?_)
          refine lv_iconst (v := (0 : Int32)) hx hb dX8_sort_62 (by decide) ?_
          refine lv_istore (lv' := [(4, .int (0 : Int32)), (3, .int (0 : Int32)), (0, .ref (a0 0)), (1, .int x1), (2, .int x2)]) hx hb dX8_sort_63 hl (by decide) rfl (fun ls hl => ?_)
          refine L65 x1 x2 (st v0 0 (fun _ => (0 : Int32))) _ (fun x3_4 x4_4 H locs ls hf hW hl => ?_) N (0 : Int32) (0 : Int32) H locs ls hf hW (lv_sub hl [2, 3, 4, 1, 0] rfl)
          refine lv_iload_n hx hb dX8_sort_98 rfl (lv_at hl 3 rfl) ?_
          obtain rfl := Option.some.inj hf
          subst hQ
          exact g_iret C hr hk0 hW rfl rfl dX8_sort_99
        · replace hf := (if_neg h).symm.trans hf
          refine lv_aload_n hx hb dX8_sort_47 rfl (lv_at hl 0 rfl) ?_
          refine g_get C hW inX8 0 rfl rfl rfl 16 (by decide) (List.mem_of_getElem? (i := 3) rfl) (v := .ref (a0 5)) rfl dX8_sort_48 ?_
          refine lv_iload_n hx hb dX8_sort_51 rfl (lv_at hl 1 rfl) ?_
          refine lv_iload_n hx hb dX8_sort_52 rfl (lv_at hl 2 rfl) ?_
          refine lv_iconst (v := (4 : Int32)) hx hb dX8_sort_53 (by decide) ?_
          refine lv_isub hx hb dX8_sort_54 ?_
          obtain ⟨y5, hc, hf⟩ := bd_of hf
          refine g_cS C (ct_X8_ofClass g l N x1 (x2 - (4 : Int32)) hc) gX8_sort_X8_ofClass rfl 2 (by decide +kernel) ⟨rfl, rfl, ⟨Nat.le_of_ble_eq_true rfl, Nat.le_of_ble_eq_true rfl⟩, Nat.le_of_ble_eq_true rfl, Nat.le_of_ble_eq_true rfl⟩ rfl hl (Nat.le_of_ble_eq_true rfl) dX8_sort_55 rfl hW hA [] rfl rfl rfl (ch' := [kX8 g a0 (st v0 0 (fun _ => (0 : Int32)))]) rfl (fun H locs hW => ?_)
          obtain ⟨hi, hf⟩ := gd_of hf
          refine g_iald C hW 0 5 rfl (f := (v0 16)) rfl (ib_in hi) dX8_sort_58 ?_
          obtain rfl := Option.some.inj hf
          subst hQ
          exact g_iret C hr hk0 hW rfl rfl dX8_sort_59
      · replace hf := (if_neg h).symm.trans hf
        refine lv_aload_n hx hb dX8_sort_30 rfl (lv_at hl 0 rfl) ?_
        refine g_get C hW inX8 0 rfl rfl rfl 7 (by decide) (List.mem_of_getElem? (i := 2) rfl) (v := .ref (a0 2)) rfl dX8_sort_31 ?_
        refine lv_iconst (v := (4 : Int32)) hx hb dX8_sort_34 (by decide) ?_
        refine lv_iload_n hx hb dX8_sort_35 rfl (lv_at hl 1 rfl) ?_
        refine lv_imul hx hb dX8_sort_36 ?_
        refine lv_iload_n hx hb dX8_sort_37 rfl (lv_at hl 2 rfl) ?_
        refine lv_iadd hx hb dX8_sort_38 ?_
        obtain ⟨hi, hf⟩ := gd_of hf
        refine g_iald C hW 0 2 rfl (f := (v0 7)) rfl (ib_in hi) dX8_sort_39 ?_
        obtain rfl := Option.some.inj hf
        subst hQ
        exact g_iret C hr hk0 hW rfl rfl dX8_sort_40
    · replace hf := (if_pos h).symm.trans hf
      refine lv_iconst (v := (-1 : Int32)) hx hb dX8_sort_23 (by decide) ?_
      obtain rfl := Option.some.inj hf
      subst hQ
      exact g_iret C hr hk0 hW rfl rfl dX8_sort_24
def fX8_blocksOf_L4 (N : Nat) (k : Int32 → Int32 → Option (Int32)) (x1 : Int32) (v0 : MM) : Nat → Int32 → Int32 → Option (Int32)
  | 0, _, _ => none
  | n + 1, x2, x3 => (if ib (3 : Int32) 667 = true then (if ((v0 16) (Int32.toNatClampNeg (3 : Int32))) ≤ x3 then k x2 x3 else ((fX8_ofBlock N x3 (0 : Int32)).bind (fun y1 => (if ib y1 667 = true then (if ((v0 16) (Int32.toNatClampNeg y1)) = x1 then fX8_blocksOf_L4 N k x1 v0 n (x2 + (1 : Int32)) (x3 + 1) else fX8_blocksOf_L4 N k x1 v0 n (x2 + (0 : Int32)) (x3 + 1)) else none)))) else none)
def fX8_blocksOf (N : Nat) (x1 : Int32) (v0 : MM) : Option (Int32) := (fX8_blocksOf_L4 N (fun (x2_2 : Int32) (x3_2 : Int32) => some x2_2) x1 v0 N (0 : Int32) (0 : Int32))
set_option maxHeartbeats 4000000 in
set_option maxRecDepth 100000 in
theorem ct_X8_blocksOf (g : GT) (l : Launch) (N : Nat) (a0 : Nat → Nat) (x1 : Int32) (v0 : MM) {y : Int32} (hf : fX8_blocksOf N x1 v0 = some y) : ct g l yX8_blocksOf wsX8_blocksOf (rmk 1 21) [.ref (a0 0), .int x1] [kX8 g a0 v0] (some (.int y)) [kX8 g a0 v0] := by
  refine ct_of (cc := cX8_blocksOf) (maxL := 4) (ret := (some .int)) (by decide) rfl (Nat.le_of_ble_eq_true rfl) ?_
  intro p e s m args below meth c A ls C hr hk0 hA hW hl
  have hx := C.1.1
  have hb := C.1.2.1
  replace hl : lv_has ls 4 [(0, .ref (a0 0)), (1, .int x1)] := hl
  obtain ⟨Q, hQ⟩ : ∃ Q, Q = MQ below (ctQ g A (some (.int y)) [kX8 g a0 v0]) args s 0 0 A := ⟨_, rfl⟩
  rw [← hQ]
  obtain ⟨H, hH⟩ : ∃ H, H = s.heap := ⟨_, rfl⟩
  obtain ⟨locs, hL⟩ : ∃ locs : List Loc, locs = [] := ⟨_, rfl⟩
  replace hW : wd g A s.heap [kX8 g a0 v0] H locs := by rw [hH, hL]; exact hW
  suffices hG : W p l e (rmk 1 21) s m args below meth c H locs 0 0 Q (F0 m 0 ls []) by
    rw [hH, hL] at hG; exact hG
  clear hH hL
  have inX8 : ∀ w ∈ wsX80, w ∈ wsX8_blocksOf := fun _ h => List.mem_cons_of_mem _ (List.mem_append_right _ (h))
  have L4 : ∀ (x1 : Int32) (k : Int32 → Int32 → Option (Int32)) (hk : ∀ (x2 : Int32) (x3 : Int32) (H : Heap) (locs : List Loc) (ls : Array Slot), k x2 x3 = some y → wd g A s.heap [kX8 g a0 v0] H locs → lv_has ls 4 [(0, .ref (a0 0)), (1, .int x1), (2, .int x2), (3, .int x3)] → W p l e (rmk 1 21) s m args below meth c H locs 0 0 Q (F0 m 42 ls [])) (n : Nat) (x2 : Int32) (x3 : Int32) (H : Heap) (locs : List Loc) (ls : Array Slot), fX8_blocksOf_L4 N k x1 v0 n x2 x3 = some y → wd g A s.heap [kX8 g a0 v0] H locs → lv_has ls 4 [(0, .ref (a0 0)), (1, .int x1), (2, .int x2), (3, .int x3)] → W p l e (rmk 1 21) s m args below meth c H locs 0 0 Q (F0 m 4 ls []) := by
    intro x1 k hk n
    induction n with
    | zero => intro x2 x3 H locs ls hf; rw [fX8_blocksOf_L4] at hf; cases hf
    | succ n ih =>
      intro x2 x3 H locs ls hf hW hl
      rw [fX8_blocksOf_L4] at hf
      refine lv_iload_n hx hb dX8_blocksOf_4 rfl (lv_at hl 3 rfl) ?_
      refine lv_aload_n hx hb dX8_blocksOf_5 rfl (lv_at hl 0 rfl) ?_
      refine g_get C hW inX8 0 rfl rfl rfl 16 (by decide) (List.mem_of_getElem? (i := 1) rfl) (v := .ref (a0 5)) rfl dX8_blocksOf_6 ?_
      refine lv_iconst (v := (3 : Int32)) hx hb dX8_blocksOf_9 (by decide) ?_
      obtain ⟨hi, hf⟩ := gd_of hf
      refine g_iald C hW 0 5 rfl (f := (v0 16)) rfl (ib_in hi) dX8_blocksOf_10 ?_
      refine lv_icmp_ge (tgt := 42) hx hb dX8_blocksOf_11 (by decide) (fun h => ?_) (fun h => ?_)
      · replace hf := (if_pos h).symm.trans hf
        exact hk _ _ H locs ls hf hW (lv_sub hl [0, 1, 2, 3] rfl)
      · replace hf := (if_neg h).symm.trans hf
        refine lv_iload_n hx hb dX8_blocksOf_14 rfl (lv_at hl 2 rfl) ?_
        refine lv_aload_n hx hb dX8_blocksOf_15 rfl (lv_at hl 0 rfl) ?_
        refine g_get C hW inX8 0 rfl rfl rfl 16 (by decide) (List.mem_of_getElem? (i := 1) rfl) (v := .ref (a0 5)) rfl dX8_blocksOf_16 ?_
        refine lv_iload_n hx hb dX8_blocksOf_19 rfl (lv_at hl 3 rfl) ?_
        refine lv_iconst (v := (0 : Int32)) hx hb dX8_blocksOf_20 (by decide) ?_
        obtain ⟨y1, hc, hf⟩ := bd_of hf
        refine g_cS C (ct_X8_ofBlock g l N x3 (0 : Int32) hc) gX8_blocksOf_X8_ofBlock rfl 2 (by decide +kernel) ⟨rfl, rfl, ⟨Nat.le_of_ble_eq_true rfl, Nat.le_of_ble_eq_true rfl⟩, Nat.le_of_ble_eq_true rfl, Nat.le_of_ble_eq_true rfl⟩ rfl hl (Nat.le_of_ble_eq_true rfl) dX8_blocksOf_21 rfl hW hA [] rfl rfl rfl (ch' := [kX8 g a0 v0]) rfl (fun H locs hW => ?_)
        obtain ⟨hi, hf⟩ := gd_of hf
        refine g_iald C hW 0 5 rfl (f := (v0 16)) rfl (ib_in hi) dX8_blocksOf_24 ?_
        refine lv_iload_n hx hb dX8_blocksOf_25 rfl (lv_at hl 1 rfl) ?_
        refine lv_icmp_ne (tgt := 33) hx hb dX8_blocksOf_26 (by decide) (fun h => ?_) (fun h => ?_)
        · replace hf := (if_neg h).symm.trans hf
          refine lv_iconst (v := (0 : Int32)) hx hb dX8_blocksOf_33 (by decide) ?_
          refine lv_iadd hx hb dX8_blocksOf_34 ?_
          refine lv_istore_n (lv' := [(2, .int (x2 + (0 : Int32))), (0, .ref (a0 0)), (1, .int x1), (3, .int x3)]) hx hb dX8_blocksOf_35 rfl hl (by decide) rfl (fun ls hl => ?_)
          refine lv_iinc (v := (x3 + 1)) (lv' := [(3, .int (x3 + 1)), (2, .int (x2 + (0 : Int32))), (0, .ref (a0 0)), (1, .int x1)]) hx hb dX8_blocksOf_36 hl (k := 3) rfl (by first | rfl | decide) (by decide) rfl (fun ls hl => ?_)
          refine lv_goto (tgt := 4) hx hb dX8_blocksOf_39 (by decide) ?_
          exact ih _ _ H locs ls hf hW (lv_sub hl [2, 3, 1, 0] rfl)
        · replace hf := (if_pos h).symm.trans hf
          refine lv_iconst (v := (1 : Int32)) hx hb dX8_blocksOf_29 (by decide) ?_
          refine lv_goto (tgt := 34) hx hb dX8_blocksOf_30 (by decide) ?_
          refine lv_iadd hx hb dX8_blocksOf_34 ?_
          refine lv_istore_n (lv' := [(2, .int (x2 + (1 : Int32))), (0, .ref (a0 0)), (1, .int x1), (3, .int x3)]) hx hb dX8_blocksOf_35 rfl hl (by decide) rfl (fun ls hl => ?_)
          refine lv_iinc (v := (x3 + 1)) (lv' := [(3, .int (x3 + 1)), (2, .int (x2 + (1 : Int32))), (0, .ref (a0 0)), (1, .int x1)]) hx hb dX8_blocksOf_36 hl (k := 3) rfl (by first | rfl | decide) (by decide) rfl (fun ls hl => ?_)
          refine lv_goto (tgt := 4) hx hb dX8_blocksOf_39 (by decide) ?_
          exact ih _ _ H locs ls hf hW (lv_sub hl [2, 3, 1, 0] rfl)
  rw [fX8_blocksOf] at hf
  refine lv_iconst (v := (0 : Int32)) hx hb dX8_blocksOf_0 (by decide) ?_
  refine lv_istore_n (lv' := [(2, .int (0 : Int32)), (0, .ref (a0 0)), (1, .int x1)]) hx hb dX8_blocksOf_1 rfl hl (by decide) rfl (fun ls hl => ?_)
  refine lv_iconst (v := (0 : Int32)) hx hb dX8_blocksOf_2 (by decide) ?_
  refine lv_istore_n (lv' := [(3, .int (0 : Int32)), (2, .int (0 : Int32)), (0, .ref (a0 0)), (1, .int x1)]) hx hb dX8_blocksOf_3 rfl hl (by decide) rfl (fun ls hl => ?_)
  refine L4 x1 _ (fun x2_2 x3_2 H locs ls hf hW hl => ?_) N (0 : Int32) (0 : Int32) H locs ls hf hW (lv_sub hl [2, 3, 1, 0] rfl)
  refine lv_iload_n hx hb dX8_blocksOf_42 rfl (lv_at hl 2 rfl) ?_
  obtain rfl := Option.some.inj hf
  subst hQ
  exact g_iret C hr hk0 hW rfl rfl dX8_blocksOf_43
def fX8_terminal (N : Nat) (x1 : Int32) (x2 : Int32) (v0 : MM) : Option (Int32 × MM) := ((fX8_isTerminal N x1 (st v0 0 (fun _ => (0 : Int32)))).bind (fun y1 => (if y1 = 0 then some ((-1 : Int32), (st v0 0 (fun _ => (0 : Int32)))) else (if x2 = (0 : Int32) then (if ib x1 3 = true then some (((v0 6) (Int32.toNatClampNeg x1)), (st v0 0 (fun _ => (0 : Int32)))) else none) else (if x2 = (1 : Int32) then ((fX8_ofTerminal N x1 (x2 - (1 : Int32))).bind (fun y2 => (if ib y2 667 = true then some (((v0 16) (Int32.toNatClampNeg y2)), (st v0 0 (fun _ => (0 : Int32)))) else none))) else (if x2 = (2 : Int32) then ((fX8_ofTerminal N x1 (x2 - (1 : Int32))).bind (fun y3 => (if ib y3 667 = true then some (((v0 16) (Int32.toNatClampNeg y3)), (st v0 0 (fun _ => (0 : Int32)))) else none))) else (if x2 = (3 : Int32) then ((fX8_ofTerminal N x1 (x2 - (1 : Int32))).bind (fun y4 => (if ib y4 667 = true then some (((v0 16) (Int32.toNatClampNeg y4)), (st v0 0 (fun _ => (0 : Int32)))) else none))) else (if x2 = (4 : Int32) then ((fX8_ofTerminal N x1 (x2 - (1 : Int32))).bind (fun y5 => (if ib y5 667 = true then some (((v0 16) (Int32.toNatClampNeg y5)), (st v0 0 (fun _ => (0 : Int32)))) else none))) else (if x2 = (5 : Int32) then ((fX8_waitsOf N x1 (st v0 0 (fun _ => (0 : Int32)))).bind (fun y6 => some (y6, (st v0 0 (fun _ => (0 : Int32)))))) else (if x2 = (6 : Int32) then ((fX8_ofTerminal N x1 (x2 - (2 : Int32))).bind (fun y7 => (if ib y7 667 = true then some (((v0 16) (Int32.toNatClampNeg y7)), (st v0 0 (fun _ => (0 : Int32)))) else none))) else (if x2 = (7 : Int32) then ((fX8_ofTerminal N x1 (x2 - (2 : Int32))).bind (fun y8 => (if ib y8 667 = true then some (((v0 16) (Int32.toNatClampNeg y8)), (st v0 0 (fun _ => (0 : Int32)))) else none))) else (if x2 = (8 : Int32) then ((fX8_blocksOf N x1 (st v0 0 (fun _ => (0 : Int32)))).bind (fun y9 => some (y9, (st v0 0 (fun _ => (0 : Int32)))))) else some ((-1 : Int32), (st v0 0 (fun _ => (0 : Int32))))))))))))))))
set_option maxHeartbeats 4000000 in
set_option maxRecDepth 100000 in
theorem ct_X8_terminal (g : GT) (l : Launch) (N : Nat) (a0 : Nat → Nat) (x1 : Int32) (x2 : Int32) (v0 : MM) {y : Int32 × MM} (hf : fX8_terminal N x1 x2 v0 = some y) : ct g l yX8_terminal wsX8_terminal (rmk 2 44) [.ref (a0 0), .int x1, .int x2] [kX8 g a0 v0] (some (.int y.1)) [kX8 g a0 y.2] := by
  refine ct_of (cc := cX8_terminal) (maxL := 3) (ret := (some .int)) (by decide) rfl (Nat.le_of_ble_eq_true rfl) ?_
  intro p e s m args below meth c A ls C hr hk0 hA hW hl
  have hx := C.1.1
  have hb := C.1.2.1
  replace hl : lv_has ls 3 [(0, .ref (a0 0)), (1, .int x1), (2, .int x2)] := hl
  obtain ⟨Q, hQ⟩ : ∃ Q, Q = MQ below (ctQ g A (some (.int y.1)) [kX8 g a0 y.2]) args s 0 0 A := ⟨_, rfl⟩
  rw [← hQ]
  obtain ⟨H, hH⟩ : ∃ H, H = s.heap := ⟨_, rfl⟩
  obtain ⟨locs, hL⟩ : ∃ locs : List Loc, locs = [] := ⟨_, rfl⟩
  replace hW : wd g A s.heap [kX8 g a0 v0] H locs := by rw [hH, hL]; exact hW
  suffices hG : W p l e (rmk 2 44) s m args below meth c H locs 0 0 Q (F0 m 0 ls []) by
    rw [hH, hL] at hG; exact hG
  clear hH hL
  have inX8 : ∀ w ∈ wsX80, w ∈ wsX8_terminal := fun _ h => List.mem_cons_of_mem _ (List.mem_append_right _ (h))
  rw [fX8_terminal] at hf
  refine lv_aload_n hx hb dX8_terminal_0 rfl (lv_at hl 0 rfl) ?_
  refine lv_iconst (v := (0 : Int32)) hx hb dX8_terminal_1 (by decide) ?_
  refine g_put C hW inX8 tyX8_ok nmX8 0 rfl rfl rfl 0 (by decide) (List.mem_of_getElem? (i := 1) rfl) rfl rfl rfl rfl (kX8_s0 g a0 v0 (0 : Int32)) (ch' := [kX8 g a0 (st v0 0 (fun _ => (0 : Int32)))]) rfl dX8_terminal_2 (fun H locs hW => ?_)
  refine lv_aload_n hx hb dX8_terminal_5 rfl (lv_at hl 0 rfl) ?_
  refine lv_iload_n hx hb dX8_terminal_6 rfl (lv_at hl 1 rfl) ?_
  obtain ⟨y1, hc, hf⟩ := bd_of hf
  refine g_cV (Cn := RX8) C (ct_X8_isTerminal g l N a0 x1 (st v0 0 (fun _ => (0 : Int32))) hc) gX8_terminal_X8_isTerminal rfl 1 (by decide +kernel) ⟨rfl, rfl, ⟨Nat.le_of_ble_eq_true rfl, Nat.le_of_ble_eq_true rfl⟩, Nat.le_of_ble_eq_true rfl, Nat.le_of_ble_eq_true rfl⟩ rfl hl (Nat.le_of_ble_eq_true rfl) dX8_terminal_7 rfl hW hA [0] rfl rfl rfl (ch' := [kX8 g a0 (st v0 0 (fun _ => (0 : Int32)))]) rfl 0 rfl rfl rfl (fun H locs hW => ?_)
  refine lv_if_ne (tgt := 15) hx hb dX8_terminal_10 (by decide) (fun h => ?_) (fun h => ?_)
  · replace hf := (if_neg h).symm.trans hf
    refine lv_iload_n hx hb dX8_terminal_15 rfl (lv_at hl 2 rfl) ?_
    rcases Decidable.em (x2 = (0 : Int32)) with h0 | h0
    · replace hf := (if_pos h0).symm.trans hf
      refine g_tsw C (off := 52) h0 dX8_terminal_16 (by decide) (by decide) (tgt := 68) (by decide) ?_
      refine lv_aload_n hx hb dX8_terminal_68 rfl (lv_at hl 0 rfl) ?_
      refine g_get C hW inX8 0 rfl rfl rfl 6 (by decide) (List.mem_of_getElem? (i := 2) rfl) (v := .ref (a0 1)) rfl dX8_terminal_69 ?_
      refine lv_iload_n hx hb dX8_terminal_72 rfl (lv_at hl 1 rfl) ?_
      obtain ⟨hi, hf⟩ := gd_of hf
      refine g_iald C hW 0 1 rfl (f := (v0 6)) rfl (ib_in hi) dX8_terminal_73 ?_
      obtain rfl := Option.some.inj hf
      subst hQ
      exact g_iret C hr hk0 hW rfl rfl dX8_terminal_74
    replace hf := (if_neg h0).symm.trans hf
    rcases Decidable.em (x2 = (1 : Int32)) with h1 | h1
    · replace hf := (if_pos h1).symm.trans hf
      refine g_tsw C (off := 59) h1 dX8_terminal_16 (by decide) (by decide) (tgt := 75) (by decide) ?_
      refine lv_aload_n hx hb dX8_terminal_75 rfl (lv_at hl 0 rfl) ?_
      refine g_get C hW inX8 0 rfl rfl rfl 16 (by decide) (List.mem_of_getElem? (i := 3) rfl) (v := .ref (a0 5)) rfl dX8_terminal_76 ?_
      refine lv_iload_n hx hb dX8_terminal_79 rfl (lv_at hl 1 rfl) ?_
      refine lv_iload_n hx hb dX8_terminal_80 rfl (lv_at hl 2 rfl) ?_
      refine lv_iconst (v := (1 : Int32)) hx hb dX8_terminal_81 (by decide) ?_
      refine lv_isub hx hb dX8_terminal_82 ?_
      obtain ⟨y2, hc, hf⟩ := bd_of hf
      refine g_cS C (ct_X8_ofTerminal g l N x1 (x2 - (1 : Int32)) hc) gX8_terminal_X8_ofTerminal rfl 2 (by decide +kernel) ⟨rfl, rfl, ⟨Nat.le_of_ble_eq_true rfl, Nat.le_of_ble_eq_true rfl⟩, Nat.le_of_ble_eq_true rfl, Nat.le_of_ble_eq_true rfl⟩ rfl hl (Nat.le_of_ble_eq_true rfl) dX8_terminal_83 rfl hW hA [] rfl rfl rfl (ch' := [kX8 g a0 (st v0 0 (fun _ => (0 : Int32)))]) rfl (fun H locs hW => ?_)
      obtain ⟨hi, hf⟩ := gd_of hf
      refine g_iald C hW 0 5 rfl (f := (v0 16)) rfl (ib_in hi) dX8_terminal_86 ?_
      obtain rfl := Option.some.inj hf
      subst hQ
      exact g_iret C hr hk0 hW rfl rfl dX8_terminal_87
    replace hf := (if_neg h1).symm.trans hf
    rcases Decidable.em (x2 = (2 : Int32)) with h2 | h2
    · replace hf := (if_pos h2).symm.trans hf
      refine g_tsw C (off := 59) h2 dX8_terminal_16 (by decide) (by decide) (tgt := 75) (by decide) ?_
      refine lv_aload_n hx hb dX8_terminal_75 rfl (lv_at hl 0 rfl) ?_
      refine g_get C hW inX8 0 rfl rfl rfl 16 (by decide) (List.mem_of_getElem? (i := 3) rfl) (v := .ref (a0 5)) rfl dX8_terminal_76 ?_
      refine lv_iload_n hx hb dX8_terminal_79 rfl (lv_at hl 1 rfl) ?_
      refine lv_iload_n hx hb dX8_terminal_80 rfl (lv_at hl 2 rfl) ?_
      refine lv_iconst (v := (1 : Int32)) hx hb dX8_terminal_81 (by decide) ?_
      refine lv_isub hx hb dX8_terminal_82 ?_
      obtain ⟨y3, hc, hf⟩ := bd_of hf
      refine g_cS C (ct_X8_ofTerminal g l N x1 (x2 - (1 : Int32)) hc) gX8_terminal_X8_ofTerminal rfl 2 (by decide +kernel) ⟨rfl, rfl, ⟨Nat.le_of_ble_eq_true rfl, Nat.le_of_ble_eq_true rfl⟩, Nat.le_of_ble_eq_true rfl, Nat.le_of_ble_eq_true rfl⟩ rfl hl (Nat.le_of_ble_eq_true rfl) dX8_terminal_83 rfl hW hA [] rfl rfl rfl (ch' := [kX8 g a0 (st v0 0 (fun _ => (0 : Int32)))]) rfl (fun H locs hW => ?_)
      obtain ⟨hi, hf⟩ := gd_of hf
      refine g_iald C hW 0 5 rfl (f := (v0 16)) rfl (ib_in hi) dX8_terminal_86 ?_
      obtain rfl := Option.some.inj hf
      subst hQ
      exact g_iret C hr hk0 hW rfl rfl dX8_terminal_87
    replace hf := (if_neg h2).symm.trans hf
    rcases Decidable.em (x2 = (3 : Int32)) with h3 | h3
    · replace hf := (if_pos h3).symm.trans hf
      refine g_tsw C (off := 59) h3 dX8_terminal_16 (by decide) (by decide) (tgt := 75) (by decide) ?_
      refine lv_aload_n hx hb dX8_terminal_75 rfl (lv_at hl 0 rfl) ?_
      refine g_get C hW inX8 0 rfl rfl rfl 16 (by decide) (List.mem_of_getElem? (i := 3) rfl) (v := .ref (a0 5)) rfl dX8_terminal_76 ?_
      refine lv_iload_n hx hb dX8_terminal_79 rfl (lv_at hl 1 rfl) ?_
      refine lv_iload_n hx hb dX8_terminal_80 rfl (lv_at hl 2 rfl) ?_
      refine lv_iconst (v := (1 : Int32)) hx hb dX8_terminal_81 (by decide) ?_
      refine lv_isub hx hb dX8_terminal_82 ?_
      obtain ⟨y4, hc, hf⟩ := bd_of hf
      refine g_cS C (ct_X8_ofTerminal g l N x1 (x2 - (1 : Int32)) hc) gX8_terminal_X8_ofTerminal rfl 2 (by decide +kernel) ⟨rfl, rfl, ⟨Nat.le_of_ble_eq_true rfl, Nat.le_of_ble_eq_true rfl⟩, Nat.le_of_ble_eq_true rfl, Nat.le_of_ble_eq_true rfl⟩ rfl hl (Nat.le_of_ble_eq_true rfl) dX8_terminal_83 rfl hW hA [] rfl rfl rfl (ch' := [kX8 g a0 (st v0 0 (fun _ => (0 : Int32)))]) rfl (fun H locs hW => ?_)
      obtain ⟨hi, hf⟩ := gd_of hf
      refine g_iald C hW 0 5 rfl (f := (v0 16)) rfl (ib_in hi) dX8_terminal_86 ?_
      obtain rfl := Option.some.inj hf
      subst hQ
      exact g_iret C hr hk0 hW rfl rfl dX8_terminal_87
    replace hf := (if_neg h3).symm.trans hf
    rcases Decidable.em (x2 = (4 : Int32)) with h4 | h4
    · replace hf := (if_pos h4).symm.trans hf
      refine g_tsw C (off := 59) h4 dX8_terminal_16 (by decide) (by decide) (tgt := 75) (by decide) ?_
      refine lv_aload_n hx hb dX8_terminal_75 rfl (lv_at hl 0 rfl) ?_
      refine g_get C hW inX8 0 rfl rfl rfl 16 (by decide) (List.mem_of_getElem? (i := 3) rfl) (v := .ref (a0 5)) rfl dX8_terminal_76 ?_
      refine lv_iload_n hx hb dX8_terminal_79 rfl (lv_at hl 1 rfl) ?_
      refine lv_iload_n hx hb dX8_terminal_80 rfl (lv_at hl 2 rfl) ?_
      refine lv_iconst (v := (1 : Int32)) hx hb dX8_terminal_81 (by decide) ?_
      refine lv_isub hx hb dX8_terminal_82 ?_
      obtain ⟨y5, hc, hf⟩ := bd_of hf
      refine g_cS C (ct_X8_ofTerminal g l N x1 (x2 - (1 : Int32)) hc) gX8_terminal_X8_ofTerminal rfl 2 (by decide +kernel) ⟨rfl, rfl, ⟨Nat.le_of_ble_eq_true rfl, Nat.le_of_ble_eq_true rfl⟩, Nat.le_of_ble_eq_true rfl, Nat.le_of_ble_eq_true rfl⟩ rfl hl (Nat.le_of_ble_eq_true rfl) dX8_terminal_83 rfl hW hA [] rfl rfl rfl (ch' := [kX8 g a0 (st v0 0 (fun _ => (0 : Int32)))]) rfl (fun H locs hW => ?_)
      obtain ⟨hi, hf⟩ := gd_of hf
      refine g_iald C hW 0 5 rfl (f := (v0 16)) rfl (ib_in hi) dX8_terminal_86 ?_
      obtain rfl := Option.some.inj hf
      subst hQ
      exact g_iret C hr hk0 hW rfl rfl dX8_terminal_87
    replace hf := (if_neg h4).symm.trans hf
    rcases Decidable.em (x2 = (5 : Int32)) with h5 | h5
    · replace hf := (if_pos h5).symm.trans hf
      refine g_tsw C (off := 72) h5 dX8_terminal_16 (by decide) (by decide) (tgt := 88) (by decide) ?_
      refine lv_aload_n hx hb dX8_terminal_88 rfl (lv_at hl 0 rfl) ?_
      refine lv_iload_n hx hb dX8_terminal_89 rfl (lv_at hl 1 rfl) ?_
      obtain ⟨y6, hc, hf⟩ := bd_of hf
      refine g_cV (Cn := RX8) C (ct_X8_waitsOf g l N a0 x1 (st v0 0 (fun _ => (0 : Int32))) hc) gX8_terminal_X8_waitsOf rfl 1 (by decide +kernel) ⟨rfl, rfl, ⟨Nat.le_of_ble_eq_true rfl, Nat.le_of_ble_eq_true rfl⟩, Nat.le_of_ble_eq_true rfl, Nat.le_of_ble_eq_true rfl⟩ rfl hl (Nat.le_of_ble_eq_true rfl) dX8_terminal_90 rfl hW hA [0] rfl rfl rfl (ch' := [kX8 g a0 (st v0 0 (fun _ => (0 : Int32)))]) rfl 0 rfl rfl rfl (fun H locs hW => ?_)
      obtain rfl := Option.some.inj hf
      subst hQ
      exact g_iret C hr hk0 hW rfl rfl dX8_terminal_93
    replace hf := (if_neg h5).symm.trans hf
    rcases Decidable.em (x2 = (6 : Int32)) with h6 | h6
    · replace hf := (if_pos h6).symm.trans hf
      refine g_tsw C (off := 78) h6 dX8_terminal_16 (by decide) (by decide) (tgt := 94) (by decide) ?_
      refine lv_aload_n hx hb dX8_terminal_94 rfl (lv_at hl 0 rfl) ?_
      refine g_get C hW inX8 0 rfl rfl rfl 16 (by decide) (List.mem_of_getElem? (i := 3) rfl) (v := .ref (a0 5)) rfl dX8_terminal_95 ?_
      refine lv_iload_n hx hb dX8_terminal_98 rfl (lv_at hl 1 rfl) ?_
      refine lv_iload_n hx hb dX8_terminal_99 rfl (lv_at hl 2 rfl) ?_
      refine lv_iconst (v := (2 : Int32)) hx hb dX8_terminal_100 (by decide) ?_
      refine lv_isub hx hb dX8_terminal_101 ?_
      obtain ⟨y7, hc, hf⟩ := bd_of hf
      refine g_cS C (ct_X8_ofTerminal g l N x1 (x2 - (2 : Int32)) hc) gX8_terminal_X8_ofTerminal rfl 2 (by decide +kernel) ⟨rfl, rfl, ⟨Nat.le_of_ble_eq_true rfl, Nat.le_of_ble_eq_true rfl⟩, Nat.le_of_ble_eq_true rfl, Nat.le_of_ble_eq_true rfl⟩ rfl hl (Nat.le_of_ble_eq_true rfl) dX8_terminal_102 rfl hW hA [] rfl rfl rfl (ch' := [kX8 g a0 (st v0 0 (fun _ => (0 : Int32)))]) rfl (fun H locs hW => ?_)
      obtain ⟨hi, hf⟩ := gd_of hf
      refine g_iald C hW 0 5 rfl (f := (v0 16)) rfl (ib_in hi) dX8_terminal_105 ?_
      obtain rfl := Option.some.inj hf
      subst hQ
      exact g_iret C hr hk0 hW rfl rfl dX8_terminal_106
    replace hf := (if_neg h6).symm.trans hf
    rcases Decidable.em (x2 = (7 : Int32)) with h7 | h7
    · replace hf := (if_pos h7).symm.trans hf
      refine g_tsw C (off := 78) h7 dX8_terminal_16 (by decide) (by decide) (tgt := 94) (by decide) ?_
      refine lv_aload_n hx hb dX8_terminal_94 rfl (lv_at hl 0 rfl) ?_
      refine g_get C hW inX8 0 rfl rfl rfl 16 (by decide) (List.mem_of_getElem? (i := 3) rfl) (v := .ref (a0 5)) rfl dX8_terminal_95 ?_
      refine lv_iload_n hx hb dX8_terminal_98 rfl (lv_at hl 1 rfl) ?_
      refine lv_iload_n hx hb dX8_terminal_99 rfl (lv_at hl 2 rfl) ?_
      refine lv_iconst (v := (2 : Int32)) hx hb dX8_terminal_100 (by decide) ?_
      refine lv_isub hx hb dX8_terminal_101 ?_
      obtain ⟨y8, hc, hf⟩ := bd_of hf
      refine g_cS C (ct_X8_ofTerminal g l N x1 (x2 - (2 : Int32)) hc) gX8_terminal_X8_ofTerminal rfl 2 (by decide +kernel) ⟨rfl, rfl, ⟨Nat.le_of_ble_eq_true rfl, Nat.le_of_ble_eq_true rfl⟩, Nat.le_of_ble_eq_true rfl, Nat.le_of_ble_eq_true rfl⟩ rfl hl (Nat.le_of_ble_eq_true rfl) dX8_terminal_102 rfl hW hA [] rfl rfl rfl (ch' := [kX8 g a0 (st v0 0 (fun _ => (0 : Int32)))]) rfl (fun H locs hW => ?_)
      obtain ⟨hi, hf⟩ := gd_of hf
      refine g_iald C hW 0 5 rfl (f := (v0 16)) rfl (ib_in hi) dX8_terminal_105 ?_
      obtain rfl := Option.some.inj hf
      subst hQ
      exact g_iret C hr hk0 hW rfl rfl dX8_terminal_106
    replace hf := (if_neg h7).symm.trans hf
    rcases Decidable.em (x2 = (8 : Int32)) with h8 | h8
    · replace hf := (if_pos h8).symm.trans hf
      refine g_tsw C (off := 91) h8 dX8_terminal_16 (by decide) (by decide) (tgt := 107) (by decide) ?_
      refine lv_aload_n hx hb dX8_terminal_107 rfl (lv_at hl 0 rfl) ?_
      refine lv_iload_n hx hb dX8_terminal_108 rfl (lv_at hl 1 rfl) ?_
      obtain ⟨y9, hc, hf⟩ := bd_of hf
      refine g_cV (Cn := RX8) C (ct_X8_blocksOf g l N a0 x1 (st v0 0 (fun _ => (0 : Int32))) hc) gX8_terminal_X8_blocksOf rfl 1 (by decide +kernel) ⟨rfl, rfl, ⟨Nat.le_of_ble_eq_true rfl, Nat.le_of_ble_eq_true rfl⟩, Nat.le_of_ble_eq_true rfl, Nat.le_of_ble_eq_true rfl⟩ rfl hl (Nat.le_of_ble_eq_true rfl) dX8_terminal_109 rfl hW hA [0] rfl rfl rfl (ch' := [kX8 g a0 (st v0 0 (fun _ => (0 : Int32)))]) rfl 0 rfl rfl rfl (fun H locs hW => ?_)
      obtain rfl := Option.some.inj hf
      subst hQ
      exact g_iret C hr hk0 hW rfl rfl dX8_terminal_112
    replace hf := (if_neg h8).symm.trans hf
    have t0 := lv_neT h0 (show (0 : Int32).toInt = 0 by decide)
    have t1 := lv_neT h1 (show (1 : Int32).toInt = 1 by decide)
    have t2 := lv_neT h2 (show (2 : Int32).toInt = 2 by decide)
    have t3 := lv_neT h3 (show (3 : Int32).toInt = 3 by decide)
    have t4 := lv_neT h4 (show (4 : Int32).toInt = 4 by decide)
    have t5 := lv_neT h5 (show (5 : Int32).toInt = 5 by decide)
    have t6 := lv_neT h6 (show (6 : Int32).toInt = 6 by decide)
    have t7 := lv_neT h7 (show (7 : Int32).toInt = 7 by decide)
    have t8 := lv_neT h8 (show (8 : Int32).toInt = 8 by decide)
    refine lv_tableOut hx hb dX8_terminal_16 (by omega) (tgt := 113) (by decide) ?_
    refine lv_iconst (v := (-1 : Int32)) hx hb dX8_terminal_113 (by decide) ?_
    obtain rfl := Option.some.inj hf
    subst hQ
    exact g_iret C hr hk0 hW rfl rfl dX8_terminal_114
  · replace hf := (if_pos h).symm.trans hf
    refine lv_iconst (v := (-1 : Int32)) hx hb dX8_terminal_13 (by decide) ?_
    obtain rfl := Option.some.inj hf
    subst hQ
    exact g_iret C hr hk0 hW rfl rfl dX8_terminal_14
def fX8_isSooner (N : Nat) (x1 : Int32) (x2 : Int32) (v0 : MM) : Option (Int32) := ((fX8_ofBlock N x1 (1 : Int32)).bind (fun y1 => (if ib y1 667 = true then ((fX8_ofBlock N x2 (1 : Int32)).bind (fun y2 => (if ib y2 667 = true then (if ((v0 16) (Int32.toNatClampNeg y1)) = ((v0 16) (Int32.toNatClampNeg y2)) then ((fX8_ofBlock N x1 (0 : Int32)).bind (fun y3 => (if ib y3 667 = true then ((fX8_ofBlock N x2 (0 : Int32)).bind (fun y4 => (if ib y4 667 = true then (if ((v0 16) (Int32.toNatClampNeg y3)) = ((v0 16) (Int32.toNatClampNeg y4)) then (if x2 ≤ x1 then some (0 : Int32) else some (1 : Int32)) else ((fX8_ofBlock N x1 (0 : Int32)).bind (fun y5 => (if ib y5 667 = true then ((fX8_ofBlock N x2 (0 : Int32)).bind (fun y6 => (if ib y6 667 = true then (if ((v0 16) (Int32.toNatClampNeg y6)) ≤ ((v0 16) (Int32.toNatClampNeg y5)) then some (0 : Int32) else some (1 : Int32)) else none))) else none)))) else none))) else none))) else (if ((v0 16) (Int32.toNatClampNeg y2)) ≤ ((v0 16) (Int32.toNatClampNeg y1)) then some (0 : Int32) else some (1 : Int32))) else none))) else none)))
set_option maxHeartbeats 4000000 in
set_option maxRecDepth 100000 in
theorem ct_X8_isSooner (g : GT) (l : Launch) (N : Nat) (a0 : Nat → Nat) (x1 : Int32) (x2 : Int32) (v0 : MM) {y : Int32} (hf : fX8_isSooner N x1 x2 v0 = some y) : ct g l yX8_isSooner wsX8_isSooner (rmk 1 21) [.ref (a0 0), .int x1, .int x2] [kX8 g a0 v0] (some (.int y)) [kX8 g a0 v0] := by
  refine ct_of (cc := cX8_isSooner) (maxL := 5) (ret := (some .boolean)) (by decide) rfl (Nat.le_of_ble_eq_true rfl) ?_
  intro p e s m args below meth c A ls C hr hk0 hA hW hl
  have hx := C.1.1
  have hb := C.1.2.1
  replace hl : lv_has ls 5 [(0, .ref (a0 0)), (1, .int x1), (2, .int x2)] := hl
  obtain ⟨Q, hQ⟩ : ∃ Q, Q = MQ below (ctQ g A (some (.int y)) [kX8 g a0 v0]) args s 0 0 A := ⟨_, rfl⟩
  rw [← hQ]
  obtain ⟨H, hH⟩ : ∃ H, H = s.heap := ⟨_, rfl⟩
  obtain ⟨locs, hL⟩ : ∃ locs : List Loc, locs = [] := ⟨_, rfl⟩
  replace hW : wd g A s.heap [kX8 g a0 v0] H locs := by rw [hH, hL]; exact hW
  suffices hG : W p l e (rmk 1 21) s m args below meth c H locs 0 0 Q (F0 m 0 ls []) by
    rw [hH, hL] at hG; exact hG
  clear hH hL
  have inX8 : ∀ w ∈ wsX80, w ∈ wsX8_isSooner := fun _ h => List.mem_cons_of_mem _ (List.mem_append_right _ (h))
  rw [fX8_isSooner] at hf
  refine lv_aload_n hx hb dX8_isSooner_0 rfl (lv_at hl 0 rfl) ?_
  refine g_get C hW inX8 0 rfl rfl rfl 16 (by decide) (List.mem_of_getElem? (i := 1) rfl) (v := .ref (a0 5)) rfl dX8_isSooner_1 ?_
  refine lv_iload_n hx hb dX8_isSooner_4 rfl (lv_at hl 1 rfl) ?_
  refine lv_iconst (v := (1 : Int32)) hx hb dX8_isSooner_5 (by decide) ?_
  obtain ⟨y1, hc, hf⟩ := bd_of hf
  refine g_cS C (ct_X8_ofBlock g l N x1 (1 : Int32) hc) gX8_isSooner_X8_ofBlock rfl 2 (by decide +kernel) ⟨rfl, rfl, ⟨Nat.le_of_ble_eq_true rfl, Nat.le_of_ble_eq_true rfl⟩, Nat.le_of_ble_eq_true rfl, Nat.le_of_ble_eq_true rfl⟩ rfl hl (Nat.le_of_ble_eq_true rfl) dX8_isSooner_6 rfl hW hA [] rfl rfl rfl (ch' := [kX8 g a0 v0]) rfl (fun H locs hW => ?_)
  obtain ⟨hi, hf⟩ := gd_of hf
  refine g_iald C hW 0 5 rfl (f := (v0 16)) rfl (ib_in hi) dX8_isSooner_9 ?_
  refine lv_istore_n (lv' := [(3, .int ((v0 16) (Int32.toNatClampNeg y1))), (0, .ref (a0 0)), (1, .int x1), (2, .int x2)]) hx hb dX8_isSooner_10 rfl hl (by decide) rfl (fun ls hl => ?_)
  refine lv_aload_n hx hb dX8_isSooner_11 rfl (lv_at hl 1 rfl) ?_
  refine g_get C hW inX8 0 rfl rfl rfl 16 (by decide) (List.mem_of_getElem? (i := 1) rfl) (v := .ref (a0 5)) rfl dX8_isSooner_12 ?_
  refine lv_iload_n hx hb dX8_isSooner_15 rfl (lv_at hl 3 rfl) ?_
  refine lv_iconst (v := (1 : Int32)) hx hb dX8_isSooner_16 (by decide) ?_
  obtain ⟨y2, hc, hf⟩ := bd_of hf
  refine g_cS C (ct_X8_ofBlock g l N x2 (1 : Int32) hc) gX8_isSooner_X8_ofBlock rfl 2 (by decide +kernel) ⟨rfl, rfl, ⟨Nat.le_of_ble_eq_true rfl, Nat.le_of_ble_eq_true rfl⟩, Nat.le_of_ble_eq_true rfl, Nat.le_of_ble_eq_true rfl⟩ rfl hl (Nat.le_of_ble_eq_true rfl) dX8_isSooner_17 rfl hW hA [] rfl rfl rfl (ch' := [kX8 g a0 v0]) rfl (fun H locs hW => ?_)
  obtain ⟨hi, hf⟩ := gd_of hf
  refine g_iald C hW 0 5 rfl (f := (v0 16)) rfl (ib_in hi) dX8_isSooner_20 ?_
  refine lv_istore (lv' := [(4, .int ((v0 16) (Int32.toNatClampNeg y2))), (3, .int ((v0 16) (Int32.toNatClampNeg y1))), (0, .ref (a0 0)), (1, .int x1), (2, .int x2)]) hx hb dX8_isSooner_21 hl (by decide) rfl (fun ls hl => ?_)
  refine lv_iload_n hx hb dX8_isSooner_23 rfl (lv_at hl 1 rfl) ?_
  refine lv_iload hx hb dX8_isSooner_24 (lv_at hl 0 rfl) ?_
  refine lv_icmp_eq (tgt := 41) hx hb dX8_isSooner_26 (by decide) (fun h => ?_) (fun h => ?_)
  · replace hf := (if_pos h).symm.trans hf
    refine lv_aload_n hx hb dX8_isSooner_41 rfl (lv_at hl 2 rfl) ?_
    refine g_get C hW inX8 0 rfl rfl rfl 16 (by decide) (List.mem_of_getElem? (i := 1) rfl) (v := .ref (a0 5)) rfl dX8_isSooner_42 ?_
    refine lv_iload_n hx hb dX8_isSooner_45 rfl (lv_at hl 3 rfl) ?_
    refine lv_iconst (v := (0 : Int32)) hx hb dX8_isSooner_46 (by decide) ?_
    obtain ⟨y3, hc, hf⟩ := bd_of hf
    refine g_cS C (ct_X8_ofBlock g l N x1 (0 : Int32) hc) gX8_isSooner_X8_ofBlock rfl 2 (by decide +kernel) ⟨rfl, rfl, ⟨Nat.le_of_ble_eq_true rfl, Nat.le_of_ble_eq_true rfl⟩, Nat.le_of_ble_eq_true rfl, Nat.le_of_ble_eq_true rfl⟩ rfl hl (Nat.le_of_ble_eq_true rfl) dX8_isSooner_47 rfl hW hA [] rfl rfl rfl (ch' := [kX8 g a0 v0]) rfl (fun H locs hW => ?_)
    obtain ⟨hi, hf⟩ := gd_of hf
    refine g_iald C hW 0 5 rfl (f := (v0 16)) rfl (ib_in hi) dX8_isSooner_50 ?_
    refine lv_aload_n hx hb dX8_isSooner_51 rfl (lv_at hl 2 rfl) ?_
    refine g_get C hW inX8 0 rfl rfl rfl 16 (by decide) (List.mem_of_getElem? (i := 1) rfl) (v := .ref (a0 5)) rfl dX8_isSooner_52 ?_
    refine lv_iload_n hx hb dX8_isSooner_55 rfl (lv_at hl 4 rfl) ?_
    refine lv_iconst (v := (0 : Int32)) hx hb dX8_isSooner_56 (by decide) ?_
    obtain ⟨y4, hc, hf⟩ := bd_of hf
    refine g_cS C (ct_X8_ofBlock g l N x2 (0 : Int32) hc) gX8_isSooner_X8_ofBlock rfl 2 (by decide +kernel) ⟨rfl, rfl, ⟨Nat.le_of_ble_eq_true rfl, Nat.le_of_ble_eq_true rfl⟩, Nat.le_of_ble_eq_true rfl, Nat.le_of_ble_eq_true rfl⟩ rfl hl (Nat.le_of_ble_eq_true rfl) dX8_isSooner_57 rfl hW hA [] rfl rfl rfl (ch' := [kX8 g a0 v0]) rfl (fun H locs hW => ?_)
    obtain ⟨hi, hf⟩ := gd_of hf
    refine g_iald C hW 0 5 rfl (f := (v0 16)) rfl (ib_in hi) dX8_isSooner_60 ?_
    refine lv_icmp_eq (tgt := 95) hx hb dX8_isSooner_61 (by decide) (fun h => ?_) (fun h => ?_)
    · replace hf := (if_pos h).symm.trans hf
      refine lv_iload_n hx hb dX8_isSooner_95 rfl (lv_at hl 3 rfl) ?_
      refine lv_iload_n hx hb dX8_isSooner_96 rfl (lv_at hl 4 rfl) ?_
      refine lv_icmp_ge (tgt := 104) hx hb dX8_isSooner_97 (by decide) (fun h => ?_) (fun h => ?_)
      · replace hf := (if_pos h).symm.trans hf
        refine lv_iconst (v := (0 : Int32)) hx hb dX8_isSooner_104 (by decide) ?_
        obtain rfl := Option.some.inj hf
        subst hQ
        exact g_zret C hr hk0 hW rfl rfl rfl dX8_isSooner_105
      · replace hf := (if_neg h).symm.trans hf
        refine lv_iconst (v := (1 : Int32)) hx hb dX8_isSooner_100 (by decide) ?_
        refine lv_goto (tgt := 105) hx hb dX8_isSooner_101 (by decide) ?_
        obtain rfl := Option.some.inj hf
        subst hQ
        exact g_zret C hr hk0 hW rfl rfl rfl dX8_isSooner_105
    · replace hf := (if_neg h).symm.trans hf
      refine lv_aload_n hx hb dX8_isSooner_64 rfl (lv_at hl 2 rfl) ?_
      refine g_get C hW inX8 0 rfl rfl rfl 16 (by decide) (List.mem_of_getElem? (i := 1) rfl) (v := .ref (a0 5)) rfl dX8_isSooner_65 ?_
      refine lv_iload_n hx hb dX8_isSooner_68 rfl (lv_at hl 3 rfl) ?_
      refine lv_iconst (v := (0 : Int32)) hx hb dX8_isSooner_69 (by decide) ?_
      obtain ⟨y5, hc, hf⟩ := bd_of hf
      refine g_cS C (ct_X8_ofBlock g l N x1 (0 : Int32) hc) gX8_isSooner_X8_ofBlock rfl 2 (by decide +kernel) ⟨rfl, rfl, ⟨Nat.le_of_ble_eq_true rfl, Nat.le_of_ble_eq_true rfl⟩, Nat.le_of_ble_eq_true rfl, Nat.le_of_ble_eq_true rfl⟩ rfl hl (Nat.le_of_ble_eq_true rfl) dX8_isSooner_70 rfl hW hA [] rfl rfl rfl (ch' := [kX8 g a0 v0]) rfl (fun H locs hW => ?_)
      obtain ⟨hi, hf⟩ := gd_of hf
      refine g_iald C hW 0 5 rfl (f := (v0 16)) rfl (ib_in hi) dX8_isSooner_73 ?_
      refine lv_aload_n hx hb dX8_isSooner_74 rfl (lv_at hl 2 rfl) ?_
      refine g_get C hW inX8 0 rfl rfl rfl 16 (by decide) (List.mem_of_getElem? (i := 1) rfl) (v := .ref (a0 5)) rfl dX8_isSooner_75 ?_
      refine lv_iload_n hx hb dX8_isSooner_78 rfl (lv_at hl 4 rfl) ?_
      refine lv_iconst (v := (0 : Int32)) hx hb dX8_isSooner_79 (by decide) ?_
      obtain ⟨y6, hc, hf⟩ := bd_of hf
      refine g_cS C (ct_X8_ofBlock g l N x2 (0 : Int32) hc) gX8_isSooner_X8_ofBlock rfl 2 (by decide +kernel) ⟨rfl, rfl, ⟨Nat.le_of_ble_eq_true rfl, Nat.le_of_ble_eq_true rfl⟩, Nat.le_of_ble_eq_true rfl, Nat.le_of_ble_eq_true rfl⟩ rfl hl (Nat.le_of_ble_eq_true rfl) dX8_isSooner_80 rfl hW hA [] rfl rfl rfl (ch' := [kX8 g a0 v0]) rfl (fun H locs hW => ?_)
      obtain ⟨hi, hf⟩ := gd_of hf
      refine g_iald C hW 0 5 rfl (f := (v0 16)) rfl (ib_in hi) dX8_isSooner_83 ?_
      refine lv_icmp_ge (tgt := 91) hx hb dX8_isSooner_84 (by decide) (fun h => ?_) (fun h => ?_)
      · replace hf := (if_pos h).symm.trans hf
        refine lv_iconst (v := (0 : Int32)) hx hb dX8_isSooner_91 (by decide) ?_
        refine lv_goto (tgt := 105) hx hb dX8_isSooner_92 (by decide) ?_
        obtain rfl := Option.some.inj hf
        subst hQ
        exact g_zret C hr hk0 hW rfl rfl rfl dX8_isSooner_105
      · replace hf := (if_neg h).symm.trans hf
        refine lv_iconst (v := (1 : Int32)) hx hb dX8_isSooner_87 (by decide) ?_
        refine lv_goto (tgt := 105) hx hb dX8_isSooner_88 (by decide) ?_
        obtain rfl := Option.some.inj hf
        subst hQ
        exact g_zret C hr hk0 hW rfl rfl rfl dX8_isSooner_105
  · replace hf := (if_neg h).symm.trans hf
    refine lv_iload_n hx hb dX8_isSooner_29 rfl (lv_at hl 1 rfl) ?_
    refine lv_iload hx hb dX8_isSooner_30 (lv_at hl 0 rfl) ?_
    refine lv_icmp_ge (tgt := 39) hx hb dX8_isSooner_32 (by decide) (fun h => ?_) (fun h => ?_)
    · replace hf := (if_pos h).symm.trans hf
      refine lv_iconst (v := (0 : Int32)) hx hb dX8_isSooner_39 (by decide) ?_
      obtain rfl := Option.some.inj hf
      subst hQ
      exact g_zret C hr hk0 hW rfl rfl rfl dX8_isSooner_40
    · replace hf := (if_neg h).symm.trans hf
      refine lv_iconst (v := (1 : Int32)) hx hb dX8_isSooner_35 (by decide) ?_
      refine lv_goto (tgt := 40) hx hb dX8_isSooner_36 (by decide) ?_
      obtain rfl := Option.some.inj hf
      subst hQ
      exact g_zret C hr hk0 hW rfl rfl rfl dX8_isSooner_40
def fX8_block_L38 (N : Nat) (k : Int32 → Int32 → Option (Int32 × MM)) (x1 : Int32) (x2 : Int32) (x3 : Int32) (v0 : MM) : Nat → Int32 → Int32 → Option (Int32 × MM)
  | 0, _, _ => none
  | n + 1, x4, x5 => (if ib (3 : Int32) 667 = true then (if ((v0 16) (Int32.toNatClampNeg (3 : Int32))) ≤ x5 then k x4 x5 else ((fX8_isSooner N x5 x3 v0).bind (fun y2 => (if y2 = 0 then fX8_block_L38 N k x1 x2 x3 v0 n (x4 + (0 : Int32)) (x5 + 1) else fX8_block_L38 N k x1 x2 x3 v0 n (x4 + (1 : Int32)) (x5 + 1))))) else none)
def fX8_block_L22 (N : Nat) (k : Int32 → Option (Int32 × MM)) (x1 : Int32) (x2 : Int32) (v0 : MM) : Nat → Int32 → Option (Int32 × MM)
  | 0, _ => none
  | n + 1, x3 => (if ib (3 : Int32) 667 = true then (if ((v0 16) (Int32.toNatClampNeg (3 : Int32))) ≤ x3 then k x3 else (fX8_block_L38 N (fun (x4_3 : Int32) (x5_3 : Int32) => (if x4_3 = x1 then (if (3 : Int32) ≤ x2 then (if x2 = (3 : Int32) then ((fX8_inBlock N x3 v0).bind (fun y5 => some (y5, v0))) else ((fX8_ofBlock N x3 (3 : Int32)).bind (fun y4 => (if ib y4 667 = true then some (((v0 16) (Int32.toNatClampNeg y4)), v0) else none)))) else ((fX8_ofBlock N x3 x2).bind (fun y6 => (if ib y6 667 = true then some (((v0 16) (Int32.toNatClampNeg y6)), v0) else none)))) else fX8_block_L22 N k x1 x2 v0 n (x3 + 1))) x1 x2 x3 v0 N (0 : Int32) (0 : Int32))) else none)
def fX8_block (N : Nat) (x1 : Int32) (x2 : Int32) (v0 : MM) : Option (Int32 × MM) := (if x1 < 0 then some ((-1 : Int32), (st v0 0 (fun _ => (0 : Int32)))) else ((fX8_in N x2 (0 : Int32) (4 : Int32)).bind (fun y1 => (if y1 = 0 then some ((-1 : Int32), (st v0 0 (fun _ => (0 : Int32)))) else (fX8_block_L22 N (fun (x3_7 : Int32) => some ((-9 : Int32), (st v0 0 (fun _ => (0 : Int32))))) x1 x2 (st v0 0 (fun _ => (0 : Int32))) N (0 : Int32))))))
set_option maxHeartbeats 4000000 in
set_option maxRecDepth 100000 in
theorem ct_X8_block (g : GT) (l : Launch) (N : Nat) (a0 : Nat → Nat) (x1 : Int32) (x2 : Int32) (v0 : MM) {y : Int32 × MM} (hf : fX8_block N x1 x2 v0 = some y) : ct g l yX8_block wsX8_block (rmk 3 65) [.ref (a0 0), .int x1, .int x2] [kX8 g a0 v0] (some (.int y.1)) [kX8 g a0 y.2] := by
  refine ct_of (cc := cX8_block) (maxL := 6) (ret := (some .int)) (by decide) rfl (Nat.le_of_ble_eq_true rfl) ?_
  intro p e s m args below meth c A ls C hr hk0 hA hW hl
  have hx := C.1.1
  have hb := C.1.2.1
  replace hl : lv_has ls 6 [(0, .ref (a0 0)), (1, .int x1), (2, .int x2)] := hl
  obtain ⟨Q, hQ⟩ : ∃ Q, Q = MQ below (ctQ g A (some (.int y.1)) [kX8 g a0 y.2]) args s 0 0 A := ⟨_, rfl⟩
  rw [← hQ]
  obtain ⟨H, hH⟩ : ∃ H, H = s.heap := ⟨_, rfl⟩
  obtain ⟨locs, hL⟩ : ∃ locs : List Loc, locs = [] := ⟨_, rfl⟩
  replace hW : wd g A s.heap [kX8 g a0 v0] H locs := by rw [hH, hL]; exact hW
  suffices hG : W p l e (rmk 3 65) s m args below meth c H locs 0 0 Q (F0 m 0 ls []) by
    rw [hH, hL] at hG; exact hG
  clear hH hL
  have inX8 : ∀ w ∈ wsX80, w ∈ wsX8_block := fun _ h => List.mem_cons_of_mem _ (List.mem_append_right _ (h))
  have L38 : ∀ (x1 : Int32) (x2 : Int32) (x3 : Int32) (v0 : MM) (k : Int32 → Int32 → Option (Int32 × MM)) (hk : ∀ (x4 : Int32) (x5 : Int32) (H : Heap) (locs : List Loc) (ls : Array Slot), k x4 x5 = some y → wd g A s.heap [kX8 g a0 v0] H locs → lv_has ls 6 [(0, .ref (a0 0)), (1, .int x1), (2, .int x2), (3, .int x3), (4, .int x4), (5, .int x5)] → W p l e (rmk 3 65) s m args below meth c H locs 0 0 Q (F0 m 75 ls [])) (n : Nat) (x4 : Int32) (x5 : Int32) (H : Heap) (locs : List Loc) (ls : Array Slot), fX8_block_L38 N k x1 x2 x3 v0 n x4 x5 = some y → wd g A s.heap [kX8 g a0 v0] H locs → lv_has ls 6 [(0, .ref (a0 0)), (1, .int x1), (2, .int x2), (3, .int x3), (4, .int x4), (5, .int x5)] → W p l e (rmk 3 65) s m args below meth c H locs 0 0 Q (F0 m 38 ls []) := by
    intro x1 x2 x3 v0 k hk n
    induction n with
    | zero => intro x4 x5 H locs ls hf; rw [fX8_block_L38] at hf; cases hf
    | succ n ih =>
      intro x4 x5 H locs ls hf hW hl
      rw [fX8_block_L38] at hf
      refine lv_iload hx hb dX8_block_38 (lv_at hl 5 rfl) ?_
      refine lv_aload_n hx hb dX8_block_40 rfl (lv_at hl 0 rfl) ?_
      refine g_get C hW inX8 0 rfl rfl rfl 16 (by decide) (List.mem_of_getElem? (i := 2) rfl) (v := .ref (a0 5)) rfl dX8_block_41 ?_
      refine lv_iconst (v := (3 : Int32)) hx hb dX8_block_44 (by decide) ?_
      obtain ⟨hi, hf⟩ := gd_of hf
      refine g_iald C hW 0 5 rfl (f := (v0 16)) rfl (ib_in hi) dX8_block_45 ?_
      refine lv_icmp_ge (tgt := 75) hx hb dX8_block_46 (by decide) (fun h => ?_) (fun h => ?_)
      · replace hf := (if_pos h).symm.trans hf
        exact hk _ _ H locs ls hf hW (lv_sub hl [0, 1, 2, 3, 4, 5] rfl)
      · replace hf := (if_neg h).symm.trans hf
        refine lv_iload hx hb dX8_block_49 (lv_at hl 4 rfl) ?_
        refine lv_aload_n hx hb dX8_block_51 rfl (lv_at hl 0 rfl) ?_
        refine lv_iload hx hb dX8_block_52 (lv_at hl 5 rfl) ?_
        refine lv_iload_n hx hb dX8_block_54 rfl (lv_at hl 3 rfl) ?_
        obtain ⟨y2, hc, hf⟩ := bd_of hf
        refine g_cV (Cn := RX8) C (ct_X8_isSooner g l N a0 x5 x3 v0 hc) gX8_block_X8_isSooner rfl 2 (by decide +kernel) ⟨rfl, rfl, ⟨Nat.le_of_ble_eq_true rfl, Nat.le_of_ble_eq_true rfl⟩, Nat.le_of_ble_eq_true rfl, Nat.le_of_ble_eq_true rfl⟩ rfl hl (Nat.le_of_ble_eq_true rfl) dX8_block_55 rfl hW hA [0] rfl rfl rfl (ch' := [kX8 g a0 v0]) rfl 0 rfl rfl rfl (fun H locs hW => ?_)
        refine lv_if_eq (tgt := 65) hx hb dX8_block_58 (by decide) (fun h => ?_) (fun h => ?_)
        · replace hf := (if_pos h).symm.trans hf
          refine lv_iconst (v := (0 : Int32)) hx hb dX8_block_65 (by decide) ?_
          refine lv_iadd hx hb dX8_block_66 ?_
          refine lv_istore (lv' := [(4, .int (x4 + (0 : Int32))), (0, .ref (a0 0)), (1, .int x1), (2, .int x2), (3, .int x3), (5, .int x5)]) hx hb dX8_block_67 hl (by decide) rfl (fun ls hl => ?_)
          refine lv_iinc (v := (x5 + 1)) (lv' := [(5, .int (x5 + 1)), (4, .int (x4 + (0 : Int32))), (0, .ref (a0 0)), (1, .int x1), (2, .int x2), (3, .int x3)]) hx hb dX8_block_69 hl (k := 5) rfl (by first | rfl | decide) (by decide) rfl (fun ls hl => ?_)
          refine lv_goto (tgt := 38) hx hb dX8_block_72 (by decide) ?_
          exact ih _ _ H locs ls hf hW (lv_sub hl [2, 3, 4, 5, 1, 0] rfl)
        · replace hf := (if_neg h).symm.trans hf
          refine lv_iconst (v := (1 : Int32)) hx hb dX8_block_61 (by decide) ?_
          refine lv_goto (tgt := 66) hx hb dX8_block_62 (by decide) ?_
          refine lv_iadd hx hb dX8_block_66 ?_
          refine lv_istore (lv' := [(4, .int (x4 + (1 : Int32))), (0, .ref (a0 0)), (1, .int x1), (2, .int x2), (3, .int x3), (5, .int x5)]) hx hb dX8_block_67 hl (by decide) rfl (fun ls hl => ?_)
          refine lv_iinc (v := (x5 + 1)) (lv' := [(5, .int (x5 + 1)), (4, .int (x4 + (1 : Int32))), (0, .ref (a0 0)), (1, .int x1), (2, .int x2), (3, .int x3)]) hx hb dX8_block_69 hl (k := 5) rfl (by first | rfl | decide) (by decide) rfl (fun ls hl => ?_)
          refine lv_goto (tgt := 38) hx hb dX8_block_72 (by decide) ?_
          exact ih _ _ H locs ls hf hW (lv_sub hl [2, 3, 4, 5, 1, 0] rfl)
  have L22 : ∀ (x1 : Int32) (x2 : Int32) (v0 : MM) (k : Int32 → Option (Int32 × MM)) (hk : ∀ (x3 : Int32) (H : Heap) (locs : List Loc) (ls : Array Slot), k x3 = some y → wd g A s.heap [kX8 g a0 v0] H locs → lv_has ls 6 [(0, .ref (a0 0)), (1, .int x1), (2, .int x2), (3, .int x3)] → W p l e (rmk 3 65) s m args below meth c H locs 0 0 Q (F0 m 129 ls [])) (n : Nat) (x3 : Int32) (H : Heap) (locs : List Loc) (ls : Array Slot), fX8_block_L22 N k x1 x2 v0 n x3 = some y → wd g A s.heap [kX8 g a0 v0] H locs → lv_has ls 6 [(0, .ref (a0 0)), (1, .int x1), (2, .int x2), (3, .int x3)] → W p l e (rmk 3 65) s m args below meth c H locs 0 0 Q (F0 m 22 ls []) := by
    intro x1 x2 v0 k hk n
    induction n with
    | zero => intro x3 H locs ls hf; rw [fX8_block_L22] at hf; cases hf
    | succ n ih =>
      intro x3 H locs ls hf hW hl
      rw [fX8_block_L22] at hf
      refine lv_iload_n hx hb dX8_block_22 rfl (lv_at hl 3 rfl) ?_
      refine lv_aload_n hx hb dX8_block_23 rfl (lv_at hl 0 rfl) ?_
      refine g_get C hW inX8 0 rfl rfl rfl 16 (by decide) (List.mem_of_getElem? (i := 2) rfl) (v := .ref (a0 5)) rfl dX8_block_24 ?_
      refine lv_iconst (v := (3 : Int32)) hx hb dX8_block_27 (by decide) ?_
      obtain ⟨hi, hf⟩ := gd_of hf
      refine g_iald C hW 0 5 rfl (f := (v0 16)) rfl (ib_in hi) dX8_block_28 ?_
      refine lv_icmp_ge (tgt := 129) hx hb dX8_block_29 (by decide) (fun h => ?_) (fun h => ?_)
      · replace hf := (if_pos h).symm.trans hf
        exact hk _ H locs ls hf hW (lv_sub hl [0, 1, 2, 3] rfl)
      · replace hf := (if_neg h).symm.trans hf
        refine lv_iconst (v := (0 : Int32)) hx hb dX8_block_32 (by decide) ?_
        refine lv_istore (lv' := [(4, .int (0 : Int32)), (0, .ref (a0 0)), (1, .int x1), (2, .int x2), (3, .int x3)]) hx hb dX8_block_33 hl (by decide) rfl (fun ls hl => ?_)
        refine lv_iconst (v := (0 : Int32)) hx hb dX8_block_35 (by decide) ?_
        refine lv_istore (lv' := [(5, .int (0 : Int32)), (4, .int (0 : Int32)), (0, .ref (a0 0)), (1, .int x1), (2, .int x2), (3, .int x3)]) hx hb dX8_block_36 hl (by decide) rfl (fun ls hl => ?_)
        refine L38 x1 x2 x3 v0 _ (fun x4_3 x5_3 H locs ls hf hW hl => ?_) N (0 : Int32) (0 : Int32) H locs ls hf hW (lv_sub hl [2, 3, 4, 5, 1, 0] rfl)
        refine lv_iload hx hb dX8_block_75 (lv_at hl 4 rfl) ?_
        refine lv_iload_n hx hb dX8_block_77 rfl (lv_at hl 1 rfl) ?_
        refine lv_icmp_ne (tgt := 123) hx hb dX8_block_78 (by decide) (fun h => ?_) (fun h => ?_)
        · replace hf := (if_neg h).symm.trans hf
          refine lv_iinc (v := (x3 + 1)) (lv' := [(3, .int (x3 + 1)), (0, .ref (a0 0)), (1, .int x1), (2, .int x2), (4, .int x4_3), (5, .int x5_3)]) hx hb dX8_block_123 hl (k := 3) rfl (by first | rfl | decide) (by decide) rfl (fun ls hl => ?_)
          refine lv_goto (tgt := 22) hx hb dX8_block_126 (by decide) ?_
          exact ih _ H locs ls hf hW (lv_sub hl [1, 2, 3, 0] rfl)
        · replace hf := (if_pos h).symm.trans hf
          refine lv_iload_n hx hb dX8_block_81 rfl (lv_at hl 2 rfl) ?_
          refine lv_iconst (v := (3 : Int32)) hx hb dX8_block_82 (by decide) ?_
          refine lv_icmp_ge (tgt := 99) hx hb dX8_block_83 (by decide) (fun h => ?_) (fun h => ?_)
          · replace hf := (if_pos h).symm.trans hf
            refine lv_iload_n hx hb dX8_block_99 rfl (lv_at hl 2 rfl) ?_
            refine lv_iconst (v := (3 : Int32)) hx hb dX8_block_100 (by decide) ?_
            refine lv_icmp_ne (tgt := 112) hx hb dX8_block_101 (by decide) (fun h => ?_) (fun h => ?_)
            · replace hf := (if_neg h).symm.trans hf
              refine lv_aload_n hx hb dX8_block_112 rfl (lv_at hl 0 rfl) ?_
              refine g_get C hW inX8 0 rfl rfl rfl 16 (by decide) (List.mem_of_getElem? (i := 2) rfl) (v := .ref (a0 5)) rfl dX8_block_113 ?_
              refine lv_iload_n hx hb dX8_block_116 rfl (lv_at hl 3 rfl) ?_
              refine lv_iconst (v := (3 : Int32)) hx hb dX8_block_117 (by decide) ?_
              obtain ⟨y4, hc, hf⟩ := bd_of hf
              refine g_cS C (ct_X8_ofBlock g l N x3 (3 : Int32) hc) gX8_block_X8_ofBlock rfl 2 (by decide +kernel) ⟨rfl, rfl, ⟨Nat.le_of_ble_eq_true rfl, Nat.le_of_ble_eq_true rfl⟩, Nat.le_of_ble_eq_true rfl, Nat.le_of_ble_eq_true rfl⟩ rfl hl (Nat.le_of_ble_eq_true rfl) dX8_block_118 rfl hW hA [] rfl rfl rfl (ch' := [kX8 g a0 v0]) rfl (fun H locs hW => ?_)
              obtain ⟨hi, hf⟩ := gd_of hf
              refine g_iald C hW 0 5 rfl (f := (v0 16)) rfl (ib_in hi) dX8_block_121 ?_
              obtain rfl := Option.some.inj hf
              subst hQ
              exact g_iret C hr hk0 hW rfl rfl dX8_block_122
            · replace hf := (if_pos h).symm.trans hf
              refine lv_aload_n hx hb dX8_block_104 rfl (lv_at hl 0 rfl) ?_
              refine lv_iload_n hx hb dX8_block_105 rfl (lv_at hl 3 rfl) ?_
              obtain ⟨y5, hc, hf⟩ := bd_of hf
              refine g_cV (Cn := RX8) C (ct_X8_inBlock g l N a0 x3 v0 hc) gX8_block_X8_inBlock rfl 1 (by decide +kernel) ⟨rfl, rfl, ⟨Nat.le_of_ble_eq_true rfl, Nat.le_of_ble_eq_true rfl⟩, Nat.le_of_ble_eq_true rfl, Nat.le_of_ble_eq_true rfl⟩ rfl hl (Nat.le_of_ble_eq_true rfl) dX8_block_106 rfl hW hA [0] rfl rfl rfl (ch' := [kX8 g a0 v0]) rfl 0 rfl rfl rfl (fun H locs hW => ?_)
              refine lv_goto (tgt := 122) hx hb dX8_block_109 (by decide) ?_
              obtain rfl := Option.some.inj hf
              subst hQ
              exact g_iret C hr hk0 hW rfl rfl dX8_block_122
          · replace hf := (if_neg h).symm.trans hf
            refine lv_aload_n hx hb dX8_block_86 rfl (lv_at hl 0 rfl) ?_
            refine g_get C hW inX8 0 rfl rfl rfl 16 (by decide) (List.mem_of_getElem? (i := 2) rfl) (v := .ref (a0 5)) rfl dX8_block_87 ?_
            refine lv_iload_n hx hb dX8_block_90 rfl (lv_at hl 3 rfl) ?_
            refine lv_iload_n hx hb dX8_block_91 rfl (lv_at hl 2 rfl) ?_
            obtain ⟨y6, hc, hf⟩ := bd_of hf
            refine g_cS C (ct_X8_ofBlock g l N x3 x2 hc) gX8_block_X8_ofBlock rfl 2 (by decide +kernel) ⟨rfl, rfl, ⟨Nat.le_of_ble_eq_true rfl, Nat.le_of_ble_eq_true rfl⟩, Nat.le_of_ble_eq_true rfl, Nat.le_of_ble_eq_true rfl⟩ rfl hl (Nat.le_of_ble_eq_true rfl) dX8_block_92 rfl hW hA [] rfl rfl rfl (ch' := [kX8 g a0 v0]) rfl (fun H locs hW => ?_)
            obtain ⟨hi, hf⟩ := gd_of hf
            refine g_iald C hW 0 5 rfl (f := (v0 16)) rfl (ib_in hi) dX8_block_95 ?_
            refine lv_goto (tgt := 122) hx hb dX8_block_96 (by decide) ?_
            obtain rfl := Option.some.inj hf
            subst hQ
            exact g_iret C hr hk0 hW rfl rfl dX8_block_122
  rw [fX8_block] at hf
  refine lv_aload_n hx hb dX8_block_0 rfl (lv_at hl 0 rfl) ?_
  refine lv_iconst (v := (0 : Int32)) hx hb dX8_block_1 (by decide) ?_
  refine g_put C hW inX8 tyX8_ok nmX8 0 rfl rfl rfl 0 (by decide) (List.mem_of_getElem? (i := 1) rfl) rfl rfl rfl rfl (kX8_s0 g a0 v0 (0 : Int32)) (ch' := [kX8 g a0 (st v0 0 (fun _ => (0 : Int32)))]) rfl dX8_block_2 (fun H locs hW => ?_)
  refine lv_iload_n hx hb dX8_block_5 rfl (lv_at hl 1 rfl) ?_
  refine lv_if_lt (tgt := 18) hx hb dX8_block_6 (by decide) (fun h => ?_) (fun h => ?_)
  · replace hf := (if_pos h).symm.trans hf
    refine lv_iconst (v := (-1 : Int32)) hx hb dX8_block_18 (by decide) ?_
    obtain rfl := Option.some.inj hf
    subst hQ
    exact g_iret C hr hk0 hW rfl rfl dX8_block_19
  · replace hf := (if_neg h).symm.trans hf
    refine lv_iload_n hx hb dX8_block_9 rfl (lv_at hl 2 rfl) ?_
    refine lv_iconst (v := (0 : Int32)) hx hb dX8_block_10 (by decide) ?_
    refine lv_iconst (v := (4 : Int32)) hx hb dX8_block_11 (by decide) ?_
    obtain ⟨y1, hc, hf⟩ := bd_of hf
    refine g_cS C (ct_X8_in g l N x2 (0 : Int32) (4 : Int32) hc) gX8_block_X8_in rfl 3 (by decide +kernel) ⟨rfl, rfl, ⟨Nat.le_of_ble_eq_true rfl, Nat.le_of_ble_eq_true rfl⟩, Nat.le_of_ble_eq_true rfl, Nat.le_of_ble_eq_true rfl⟩ rfl hl (Nat.le_of_ble_eq_true rfl) dX8_block_12 rfl hW hA [] rfl rfl rfl (ch' := [kX8 g a0 (st v0 0 (fun _ => (0 : Int32)))]) rfl (fun H locs hW => ?_)
    refine lv_if_ne (tgt := 20) hx hb dX8_block_15 (by decide) (fun h => ?_) (fun h => ?_)
    · replace hf := (if_neg h).symm.trans hf
      refine lv_iconst (v := (0 : Int32)) hx hb dX8_block_20 (by decide) ?_
      refine lv_istore_n (lv' := [(3, .int (0 : Int32)), (0, .ref (a0 0)), (1, .int x1), (2, .int x2)]) hx hb dX8_block_21 rfl hl (by decide) rfl (fun ls hl => ?_)
      refine L22 x1 x2 (st v0 0 (fun _ => (0 : Int32))) _ (fun x3_7 H locs ls hf hW hl => ?_) N (0 : Int32) H locs ls hf hW (lv_sub hl [1, 2, 3, 0] rfl)
      refine lv_bipush (v := (-9 : Int32)) hx hb dX8_block_129 (by decide) ?_
      obtain rfl := Option.some.inj hf
      subst hQ
      exact g_iret C hr hk0 hW rfl rfl dX8_block_131
    · replace hf := (if_pos h).symm.trans hf
      refine lv_iconst (v := (-1 : Int32)) hx hb dX8_block_18 (by decide) ?_
      obtain rfl := Option.some.inj hf
      subst hQ
      exact g_iret C hr hk0 hW rfl rfl dX8_block_19
def fX8_deaf (N : Nat) (x1 : Int32) (x2 : Int32) (v0 : MM) : Option (Int32 × MM) := ((fX8_isTerminal N x1 (st v0 0 (fun _ => (0 : Int32)))).bind (fun y1 => (if y1 = 0 then some ((-1 : Int32), (st v0 0 (fun _ => (0 : Int32)))) else ((fX8_in N x2 (0 : Int32) (199 : Int32)).bind (fun y2 => (if y2 = 0 then some ((-1 : Int32), (st v0 0 (fun _ => (0 : Int32)))) else ((fX8_isDeaf N x1 x2 (st v0 0 (fun _ => (0 : Int32)))).bind (fun y3 => (if y3 = 0 then some ((0 : Int32), (st v0 0 (fun _ => (0 : Int32)))) else some ((1 : Int32), (st v0 0 (fun _ => (0 : Int32)))))))))))))
set_option maxHeartbeats 4000000 in
set_option maxRecDepth 100000 in
theorem ct_X8_deaf (g : GT) (l : Launch) (N : Nat) (a0 : Nat → Nat) (x1 : Int32) (x2 : Int32) (v0 : MM) {y : Int32 × MM} (hf : fX8_deaf N x1 x2 v0 = some y) : ct g l yX8_deaf wsX8_deaf (rmk 2 43) [.ref (a0 0), .int x1, .int x2] [kX8 g a0 v0] (some (.int y.1)) [kX8 g a0 y.2] := by
  refine ct_of (cc := cX8_deaf) (maxL := 3) (ret := (some .int)) (by decide) rfl (Nat.le_of_ble_eq_true rfl) ?_
  intro p e s m args below meth c A ls C hr hk0 hA hW hl
  have hx := C.1.1
  have hb := C.1.2.1
  replace hl : lv_has ls 3 [(0, .ref (a0 0)), (1, .int x1), (2, .int x2)] := hl
  obtain ⟨Q, hQ⟩ : ∃ Q, Q = MQ below (ctQ g A (some (.int y.1)) [kX8 g a0 y.2]) args s 0 0 A := ⟨_, rfl⟩
  rw [← hQ]
  obtain ⟨H, hH⟩ : ∃ H, H = s.heap := ⟨_, rfl⟩
  obtain ⟨locs, hL⟩ : ∃ locs : List Loc, locs = [] := ⟨_, rfl⟩
  replace hW : wd g A s.heap [kX8 g a0 v0] H locs := by rw [hH, hL]; exact hW
  suffices hG : W p l e (rmk 2 43) s m args below meth c H locs 0 0 Q (F0 m 0 ls []) by
    rw [hH, hL] at hG; exact hG
  clear hH hL
  have inX8 : ∀ w ∈ wsX80, w ∈ wsX8_deaf := fun _ h => List.mem_cons_of_mem _ (List.mem_append_right _ (h))
  rw [fX8_deaf] at hf
  refine lv_aload_n hx hb dX8_deaf_0 rfl (lv_at hl 0 rfl) ?_
  refine lv_iconst (v := (0 : Int32)) hx hb dX8_deaf_1 (by decide) ?_
  refine g_put C hW inX8 tyX8_ok nmX8 0 rfl rfl rfl 0 (by decide) (List.mem_of_getElem? (i := 1) rfl) rfl rfl rfl rfl (kX8_s0 g a0 v0 (0 : Int32)) (ch' := [kX8 g a0 (st v0 0 (fun _ => (0 : Int32)))]) rfl dX8_deaf_2 (fun H locs hW => ?_)
  refine lv_aload_n hx hb dX8_deaf_5 rfl (lv_at hl 0 rfl) ?_
  refine lv_iload_n hx hb dX8_deaf_6 rfl (lv_at hl 1 rfl) ?_
  obtain ⟨y1, hc, hf⟩ := bd_of hf
  refine g_cV (Cn := RX8) C (ct_X8_isTerminal g l N a0 x1 (st v0 0 (fun _ => (0 : Int32))) hc) gX8_deaf_X8_isTerminal rfl 1 (by decide +kernel) ⟨rfl, rfl, ⟨Nat.le_of_ble_eq_true rfl, Nat.le_of_ble_eq_true rfl⟩, Nat.le_of_ble_eq_true rfl, Nat.le_of_ble_eq_true rfl⟩ rfl hl (Nat.le_of_ble_eq_true rfl) dX8_deaf_7 rfl hW hA [0] rfl rfl rfl (ch' := [kX8 g a0 (st v0 0 (fun _ => (0 : Int32)))]) rfl 0 rfl rfl rfl (fun H locs hW => ?_)
  refine lv_if_eq (tgt := 24) hx hb dX8_deaf_10 (by decide) (fun h => ?_) (fun h => ?_)
  · replace hf := (if_pos h).symm.trans hf
    refine lv_iconst (v := (-1 : Int32)) hx hb dX8_deaf_24 (by decide) ?_
    obtain rfl := Option.some.inj hf
    subst hQ
    exact g_iret C hr hk0 hW rfl rfl dX8_deaf_25
  · replace hf := (if_neg h).symm.trans hf
    refine lv_iload_n hx hb dX8_deaf_13 rfl (lv_at hl 2 rfl) ?_
    refine lv_iconst (v := (0 : Int32)) hx hb dX8_deaf_14 (by decide) ?_
    refine lv_sipush (v := (199 : Int32)) hx hb dX8_deaf_15 (by decide) ?_
    obtain ⟨y2, hc, hf⟩ := bd_of hf
    refine g_cS C (ct_X8_in g l N x2 (0 : Int32) (199 : Int32) hc) gX8_deaf_X8_in rfl 3 (by decide +kernel) ⟨rfl, rfl, ⟨Nat.le_of_ble_eq_true rfl, Nat.le_of_ble_eq_true rfl⟩, Nat.le_of_ble_eq_true rfl, Nat.le_of_ble_eq_true rfl⟩ rfl hl (Nat.le_of_ble_eq_true rfl) dX8_deaf_18 rfl hW hA [] rfl rfl rfl (ch' := [kX8 g a0 (st v0 0 (fun _ => (0 : Int32)))]) rfl (fun H locs hW => ?_)
    refine lv_if_ne (tgt := 26) hx hb dX8_deaf_21 (by decide) (fun h => ?_) (fun h => ?_)
    · replace hf := (if_neg h).symm.trans hf
      refine lv_aload_n hx hb dX8_deaf_26 rfl (lv_at hl 0 rfl) ?_
      refine lv_iload_n hx hb dX8_deaf_27 rfl (lv_at hl 1 rfl) ?_
      refine lv_iload_n hx hb dX8_deaf_28 rfl (lv_at hl 2 rfl) ?_
      obtain ⟨y3, hc, hf⟩ := bd_of hf
      refine g_cV (Cn := RX8) C (ct_X8_isDeaf g l N a0 x1 x2 (st v0 0 (fun _ => (0 : Int32))) hc) gX8_deaf_X8_isDeaf rfl 2 (by decide +kernel) ⟨rfl, rfl, ⟨Nat.le_of_ble_eq_true rfl, Nat.le_of_ble_eq_true rfl⟩, Nat.le_of_ble_eq_true rfl, Nat.le_of_ble_eq_true rfl⟩ rfl hl (Nat.le_of_ble_eq_true rfl) dX8_deaf_29 rfl hW hA [0] rfl rfl rfl (ch' := [kX8 g a0 (st v0 0 (fun _ => (0 : Int32)))]) rfl 0 rfl rfl rfl (fun H locs hW => ?_)
      refine lv_if_eq (tgt := 39) hx hb dX8_deaf_32 (by decide) (fun h => ?_) (fun h => ?_)
      · replace hf := (if_pos h).symm.trans hf
        refine lv_iconst (v := (0 : Int32)) hx hb dX8_deaf_39 (by decide) ?_
        obtain rfl := Option.some.inj hf
        subst hQ
        exact g_iret C hr hk0 hW rfl rfl dX8_deaf_40
      · replace hf := (if_neg h).symm.trans hf
        refine lv_iconst (v := (1 : Int32)) hx hb dX8_deaf_35 (by decide) ?_
        refine lv_goto (tgt := 40) hx hb dX8_deaf_36 (by decide) ?_
        obtain rfl := Option.some.inj hf
        subst hQ
        exact g_iret C hr hk0 hW rfl rfl dX8_deaf_40
    · replace hf := (if_pos h).symm.trans hf
      refine lv_iconst (v := (-1 : Int32)) hx hb dX8_deaf_24 (by decide) ?_
      obtain rfl := Option.some.inj hf
      subst hQ
      exact g_iret C hr hk0 hW rfl rfl dX8_deaf_25
def fX8_isDrained_L9 (N : Nat) (k : Int32 → Int32 → Option (Int32)) (v0 : MM) : Nat → Int32 → Int32 → Option (Int32)
  | 0, _, _ => none
  | n + 1, x1, x2 => (if (v0 2 0) ≤ x2 then k x1 x2 else ((fX8_ofClass N x2 (0 : Int32)).bind (fun y1 => (if ib y1 667 = true then fX8_isDrained_L9 N k v0 n (x1 + ((v0 16) (Int32.toNatClampNeg y1))) (x2 + 1) else none))))
def fX8_isDrained (N : Nat) (v0 : MM) : Option (Int32) := (if ib (3 : Int32) 667 = true then (fX8_isDrained_L9 N (fun (x1_2 : Int32) (x2_2 : Int32) => (if x1_2 = 0 then some (1 : Int32) else some (0 : Int32))) v0 N ((v0 16) (Int32.toNatClampNeg (3 : Int32))) (0 : Int32)) else none)
set_option maxHeartbeats 4000000 in
set_option maxRecDepth 100000 in
theorem ct_X8_isDrained (g : GT) (l : Launch) (N : Nat) (a0 : Nat → Nat) (v0 : MM) {y : Int32} (hf : fX8_isDrained N v0 = some y) : ct g l yX8_isDrained wsX8_isDrained (rmk 1 21) [.ref (a0 0)] [kX8 g a0 v0] (some (.int y)) [kX8 g a0 v0] := by
  refine ct_of (cc := cX8_isDrained) (maxL := 3) (ret := (some .boolean)) (by decide) rfl (Nat.le_of_ble_eq_true rfl) ?_
  intro p e s m args below meth c A ls C hr hk0 hA hW hl
  have hx := C.1.1
  have hb := C.1.2.1
  replace hl : lv_has ls 3 [(0, .ref (a0 0))] := hl
  obtain ⟨Q, hQ⟩ : ∃ Q, Q = MQ below (ctQ g A (some (.int y)) [kX8 g a0 v0]) args s 0 0 A := ⟨_, rfl⟩
  rw [← hQ]
  obtain ⟨H, hH⟩ : ∃ H, H = s.heap := ⟨_, rfl⟩
  obtain ⟨locs, hL⟩ : ∃ locs : List Loc, locs = [] := ⟨_, rfl⟩
  replace hW : wd g A s.heap [kX8 g a0 v0] H locs := by rw [hH, hL]; exact hW
  suffices hG : W p l e (rmk 1 21) s m args below meth c H locs 0 0 Q (F0 m 0 ls []) by
    rw [hH, hL] at hG; exact hG
  clear hH hL
  have inX8 : ∀ w ∈ wsX80, w ∈ wsX8_isDrained := fun _ h => List.mem_cons_of_mem _ (List.mem_append_right _ (h))
  have L9 : ∀ (k : Int32 → Int32 → Option (Int32)) (hk : ∀ (x1 : Int32) (x2 : Int32) (H : Heap) (locs : List Loc) (ls : Array Slot), k x1 x2 = some y → wd g A s.heap [kX8 g a0 v0] H locs → lv_has ls 3 [(0, .ref (a0 0)), (1, .int x1), (2, .int x2)] → W p l e (rmk 1 21) s m args below meth c H locs 0 0 Q (F0 m 36 ls [])) (n : Nat) (x1 : Int32) (x2 : Int32) (H : Heap) (locs : List Loc) (ls : Array Slot), fX8_isDrained_L9 N k v0 n x1 x2 = some y → wd g A s.heap [kX8 g a0 v0] H locs → lv_has ls 3 [(0, .ref (a0 0)), (1, .int x1), (2, .int x2)] → W p l e (rmk 1 21) s m args below meth c H locs 0 0 Q (F0 m 9 ls []) := by
    intro k hk n
    induction n with
    | zero => intro x1 x2 H locs ls hf; rw [fX8_isDrained_L9] at hf; cases hf
    | succ n ih =>
      intro x1 x2 H locs ls hf hW hl
      rw [fX8_isDrained_L9] at hf
      refine lv_iload_n hx hb dX8_isDrained_9 rfl (lv_at hl 2 rfl) ?_
      refine lv_aload_n hx hb dX8_isDrained_10 rfl (lv_at hl 0 rfl) ?_
      refine g_get C hW inX8 0 rfl rfl rfl 2 (by decide) (List.mem_of_getElem? (i := 2) rfl) (v := .int (v0 2 0)) rfl dX8_isDrained_11 ?_
      refine lv_icmp_ge (tgt := 36) hx hb dX8_isDrained_14 (by decide) (fun h => ?_) (fun h => ?_)
      · replace hf := (if_pos h).symm.trans hf
        exact hk _ _ H locs ls hf hW (lv_sub hl [0, 1, 2] rfl)
      · replace hf := (if_neg h).symm.trans hf
        refine lv_iload_n hx hb dX8_isDrained_17 rfl (lv_at hl 1 rfl) ?_
        refine lv_aload_n hx hb dX8_isDrained_18 rfl (lv_at hl 0 rfl) ?_
        refine g_get C hW inX8 0 rfl rfl rfl 16 (by decide) (List.mem_of_getElem? (i := 1) rfl) (v := .ref (a0 5)) rfl dX8_isDrained_19 ?_
        refine lv_iload_n hx hb dX8_isDrained_22 rfl (lv_at hl 2 rfl) ?_
        refine lv_iconst (v := (0 : Int32)) hx hb dX8_isDrained_23 (by decide) ?_
        obtain ⟨y1, hc, hf⟩ := bd_of hf
        refine g_cS C (ct_X8_ofClass g l N x2 (0 : Int32) hc) gX8_isDrained_X8_ofClass rfl 2 (by decide +kernel) ⟨rfl, rfl, ⟨Nat.le_of_ble_eq_true rfl, Nat.le_of_ble_eq_true rfl⟩, Nat.le_of_ble_eq_true rfl, Nat.le_of_ble_eq_true rfl⟩ rfl hl (Nat.le_of_ble_eq_true rfl) dX8_isDrained_24 rfl hW hA [] rfl rfl rfl (ch' := [kX8 g a0 v0]) rfl (fun H locs hW => ?_)
        obtain ⟨hi, hf⟩ := gd_of hf
        refine g_iald C hW 0 5 rfl (f := (v0 16)) rfl (ib_in hi) dX8_isDrained_27 ?_
        refine lv_iadd hx hb dX8_isDrained_28 ?_
        refine lv_istore_n (lv' := [(1, .int (x1 + ((v0 16) (Int32.toNatClampNeg y1)))), (0, .ref (a0 0)), (2, .int x2)]) hx hb dX8_isDrained_29 rfl hl (by decide) rfl (fun ls hl => ?_)
        refine lv_iinc (v := (x2 + 1)) (lv' := [(2, .int (x2 + 1)), (1, .int (x1 + ((v0 16) (Int32.toNatClampNeg y1)))), (0, .ref (a0 0))]) hx hb dX8_isDrained_30 hl (k := 2) rfl (by first | rfl | decide) (by decide) rfl (fun ls hl => ?_)
        refine lv_goto (tgt := 9) hx hb dX8_isDrained_33 (by decide) ?_
        exact ih _ _ H locs ls hf hW (lv_sub hl [2, 1, 0] rfl)
  rw [fX8_isDrained] at hf
  refine lv_aload_n hx hb dX8_isDrained_0 rfl (lv_at hl 0 rfl) ?_
  refine g_get C hW inX8 0 rfl rfl rfl 16 (by decide) (List.mem_of_getElem? (i := 1) rfl) (v := .ref (a0 5)) rfl dX8_isDrained_1 ?_
  refine lv_iconst (v := (3 : Int32)) hx hb dX8_isDrained_4 (by decide) ?_
  obtain ⟨hi, hf⟩ := gd_of hf
  refine g_iald C hW 0 5 rfl (f := (v0 16)) rfl (ib_in hi) dX8_isDrained_5 ?_
  refine lv_istore_n (lv' := [(1, .int ((v0 16) (Int32.toNatClampNeg (3 : Int32)))), (0, .ref (a0 0))]) hx hb dX8_isDrained_6 rfl hl (by decide) rfl (fun ls hl => ?_)
  refine lv_iconst (v := (0 : Int32)) hx hb dX8_isDrained_7 (by decide) ?_
  refine lv_istore_n (lv' := [(2, .int (0 : Int32)), (1, .int ((v0 16) (Int32.toNatClampNeg (3 : Int32)))), (0, .ref (a0 0))]) hx hb dX8_isDrained_8 rfl hl (by decide) rfl (fun ls hl => ?_)
  refine L9 _ (fun x1_2 x2_2 H locs ls hf hW hl => ?_) N ((v0 16) (Int32.toNatClampNeg (3 : Int32))) (0 : Int32) H locs ls hf hW (lv_sub hl [2, 1, 0] rfl)
  refine lv_iload_n hx hb dX8_isDrained_36 rfl (lv_at hl 1 rfl) ?_
  refine lv_if_ne (tgt := 44) hx hb dX8_isDrained_37 (by decide) (fun h => ?_) (fun h => ?_)
  · replace hf := (if_neg h).symm.trans hf
    refine lv_iconst (v := (0 : Int32)) hx hb dX8_isDrained_44 (by decide) ?_
    obtain rfl := Option.some.inj hf
    subst hQ
    exact g_zret C hr hk0 hW rfl rfl rfl dX8_isDrained_45
  · replace hf := (if_pos h).symm.trans hf
    refine lv_iconst (v := (1 : Int32)) hx hb dX8_isDrained_40 (by decide) ?_
    refine lv_goto (tgt := 45) hx hb dX8_isDrained_41 (by decide) ?_
    obtain rfl := Option.some.inj hf
    subst hQ
    exact g_zret C hr hk0 hW rfl rfl rfl dX8_isDrained_45
def fX8_drains_L2 (N : Nat) (k : Int32 → MM → Option (Int32 × MM)) (x1 : Int32) : Nat → Int32 → MM → Option (Int32 × MM)
  | 0, _, _ => none
  | n + 1, x2, v0 => (if x1 < x2 then k x2 v0 else ((fX8_isDrained N v0).bind (fun y1 => (if y1 = 0 then ((fX8_step N v0).bind (fun y2 => fX8_drains_L2 N k x1 n (x2 + 1) y2)) else some (x2, v0)))))
def fX8_drains (N : Nat) (x1 : Int32) (v0 : MM) : Option (Int32 × MM) := (fX8_drains_L2 N (fun (x2_3 : Int32) (v0_3 : MM) => some ((-9 : Int32), v0_3)) x1 N (0 : Int32) v0)
set_option maxHeartbeats 4000000 in
set_option maxRecDepth 100000 in
theorem ct_X8_drains (g : GT) (l : Launch) (N : Nat) (a0 : Nat → Nat) (x1 : Int32) (v0 : MM) {y : Int32 × MM} (hf : fX8_drains N x1 v0 = some y) : ct g l yX8_drains wsX8_drains (rmk 6 148) [.ref (a0 0), .int x1] [kX8 g a0 v0] (some (.int y.1)) [kX8 g a0 y.2] := by
  refine ct_of (cc := cX8_drains) (maxL := 3) (ret := (some .int)) (by decide) rfl (Nat.le_of_ble_eq_true rfl) ?_
  intro p e s m args below meth c A ls C hr hk0 hA hW hl
  have hx := C.1.1
  have hb := C.1.2.1
  replace hl : lv_has ls 3 [(0, .ref (a0 0)), (1, .int x1)] := hl
  obtain ⟨Q, hQ⟩ : ∃ Q, Q = MQ below (ctQ g A (some (.int y.1)) [kX8 g a0 y.2]) args s 0 0 A := ⟨_, rfl⟩
  rw [← hQ]
  obtain ⟨H, hH⟩ : ∃ H, H = s.heap := ⟨_, rfl⟩
  obtain ⟨locs, hL⟩ : ∃ locs : List Loc, locs = [] := ⟨_, rfl⟩
  replace hW : wd g A s.heap [kX8 g a0 v0] H locs := by rw [hH, hL]; exact hW
  suffices hG : W p l e (rmk 6 148) s m args below meth c H locs 0 0 Q (F0 m 0 ls []) by
    rw [hH, hL] at hG; exact hG
  clear hH hL
  have L2 : ∀ (x1 : Int32) (k : Int32 → MM → Option (Int32 × MM)) (hk : ∀ (x2 : Int32) (v0 : MM) (H : Heap) (locs : List Loc) (ls : Array Slot), k x2 v0 = some y → wd g A s.heap [kX8 g a0 v0] H locs → lv_has ls 3 [(0, .ref (a0 0)), (1, .int x1), (2, .int x2)] → W p l e (rmk 6 148) s m args below meth c H locs 0 0 Q (F0 m 26 ls [])) (n : Nat) (x2 : Int32) (v0 : MM) (H : Heap) (locs : List Loc) (ls : Array Slot), fX8_drains_L2 N k x1 n x2 v0 = some y → wd g A s.heap [kX8 g a0 v0] H locs → lv_has ls 3 [(0, .ref (a0 0)), (1, .int x1), (2, .int x2)] → W p l e (rmk 6 148) s m args below meth c H locs 0 0 Q (F0 m 2 ls []) := by
    intro x1 k hk n
    induction n with
    | zero => intro x2 v0 H locs ls hf; rw [fX8_drains_L2] at hf; cases hf
    | succ n ih =>
      intro x2 v0 H locs ls hf hW hl
      rw [fX8_drains_L2] at hf
      refine lv_iload_n hx hb dX8_drains_2 rfl (lv_at hl 2 rfl) ?_
      refine lv_iload_n hx hb dX8_drains_3 rfl (lv_at hl 1 rfl) ?_
      refine lv_icmp_gt (tgt := 26) hx hb dX8_drains_4 (by decide) (fun h => ?_) (fun h => ?_)
      · replace hf := (if_pos h).symm.trans hf
        exact hk _ _ H locs ls hf hW (lv_sub hl [0, 1, 2] rfl)
      · replace hf := (if_neg h).symm.trans hf
        refine lv_aload_n hx hb dX8_drains_7 rfl (lv_at hl 0 rfl) ?_
        obtain ⟨y1, hc, hf⟩ := bd_of hf
        refine g_cV (Cn := RX8) C (ct_X8_isDrained g l N a0 v0 hc) gX8_drains_X8_isDrained rfl 0 (by decide +kernel) ⟨rfl, rfl, ⟨Nat.le_of_ble_eq_true rfl, Nat.le_of_ble_eq_true rfl⟩, Nat.le_of_ble_eq_true rfl, Nat.le_of_ble_eq_true rfl⟩ rfl hl (Nat.le_of_ble_eq_true rfl) dX8_drains_8 rfl hW hA [0] rfl rfl rfl (ch' := [kX8 g a0 v0]) rfl 0 rfl rfl rfl (fun H locs hW => ?_)
        refine lv_if_eq (tgt := 16) hx hb dX8_drains_11 (by decide) (fun h => ?_) (fun h => ?_)
        · replace hf := (if_pos h).symm.trans hf
          refine lv_aload_n hx hb dX8_drains_16 rfl (lv_at hl 0 rfl) ?_
          obtain ⟨y2, hc, hf⟩ := bd_of hf
          refine g_cVv (Cn := RX8) C (ct_X8_step g l N a0 v0 hc) gX8_drains_X8_step rfl 0 (by decide +kernel) ⟨rfl, rfl, ⟨Nat.le_of_ble_eq_true rfl, Nat.le_of_ble_eq_true rfl⟩, Nat.le_of_ble_eq_true rfl, Nat.le_of_ble_eq_true rfl⟩ rfl hl (Nat.le_of_ble_eq_true rfl) dX8_drains_17 rfl hW hA [0] rfl rfl rfl (ch' := [kX8 g a0 y2]) rfl 0 rfl rfl rfl (fun H locs hW => ?_)
          refine lv_iinc (v := (x2 + 1)) (lv' := [(2, .int (x2 + 1)), (0, .ref (a0 0)), (1, .int x1)]) hx hb dX8_drains_20 hl (k := 2) rfl (by first | rfl | decide) (by decide) rfl (fun ls hl => ?_)
          refine lv_goto (tgt := 2) hx hb dX8_drains_23 (by decide) ?_
          exact ih _ _ H locs ls hf hW (lv_sub hl [1, 2, 0] rfl)
        · replace hf := (if_neg h).symm.trans hf
          refine lv_iload_n hx hb dX8_drains_14 rfl (lv_at hl 2 rfl) ?_
          obtain rfl := Option.some.inj hf
          subst hQ
          exact g_iret C hr hk0 hW rfl rfl dX8_drains_15
  rw [fX8_drains] at hf
  refine lv_iconst (v := (0 : Int32)) hx hb dX8_drains_0 (by decide) ?_
  refine lv_istore_n (lv' := [(2, .int (0 : Int32)), (0, .ref (a0 0)), (1, .int x1)]) hx hb dX8_drains_1 rfl hl (by decide) rfl (fun ls hl => ?_)
  refine L2 x1 _ (fun x2_3 v0_3 H locs ls hf hW hl => ?_) N (0 : Int32) v0 H locs ls hf hW (lv_sub hl [1, 2, 0] rfl)
  refine lv_bipush (v := (-9 : Int32)) hx hb dX8_drains_26 (by decide) ?_
  obtain rfl := Option.some.inj hf
  subst hQ
  exact g_iret C hr hk0 hW rfl rfl dX8_drains_28
def fX8_drain (N : Nat) (v0 : MM) : Option (Int32 × MM) := ((fX8_copies N (0 : Int32) (0 : Int32) 667 667 (v0 16) (v0 21)).bind (fun y1 => ((fX8_drains N (100 : Int32) (st (st v0 0 (fun _ => (0 : Int32))) 21 y1)).bind (fun y3 => ((fX8_copies N (0 : Int32) (0 : Int32) 667 667 (y3.2 21) (y3.2 16)).bind (fun y4 => some (y3.1, (st y3.2 16 y4))))))))
set_option maxHeartbeats 4000000 in
set_option maxRecDepth 100000 in
theorem ct_X8_drain (g : GT) (l : Launch) (N : Nat) (a0 : Nat → Nat) (v0 : MM) {y : Int32 × MM} (hf : fX8_drain N v0 = some y) : ct g l yX8_drain wsX8_drain (rmk 7 170) [.ref (a0 0)] [kX8 g a0 v0] (some (.int y.1)) [kX8 g a0 y.2] := by
  refine ct_of (cc := cX8_drain) (maxL := 2) (ret := (some .int)) (by decide) rfl (Nat.le_of_ble_eq_true rfl) ?_
  intro p e s m args below meth c A ls C hr hk0 hA hW hl
  have hx := C.1.1
  have hb := C.1.2.1
  replace hl : lv_has ls 2 [(0, .ref (a0 0))] := hl
  obtain ⟨Q, hQ⟩ : ∃ Q, Q = MQ below (ctQ g A (some (.int y.1)) [kX8 g a0 y.2]) args s 0 0 A := ⟨_, rfl⟩
  rw [← hQ]
  obtain ⟨H, hH⟩ : ∃ H, H = s.heap := ⟨_, rfl⟩
  obtain ⟨locs, hL⟩ : ∃ locs : List Loc, locs = [] := ⟨_, rfl⟩
  replace hW : wd g A s.heap [kX8 g a0 v0] H locs := by rw [hH, hL]; exact hW
  suffices hG : W p l e (rmk 7 170) s m args below meth c H locs 0 0 Q (F0 m 0 ls []) by
    rw [hH, hL] at hG; exact hG
  clear hH hL
  have inX8 : ∀ w ∈ wsX80, w ∈ wsX8_drain := fun _ h => List.mem_cons_of_mem _ (List.mem_append_right _ (h))
  rw [fX8_drain] at hf
  refine lv_aload_n hx hb dX8_drain_0 rfl (lv_at hl 0 rfl) ?_
  refine lv_iconst (v := (0 : Int32)) hx hb dX8_drain_1 (by decide) ?_
  refine g_put C hW inX8 tyX8_ok nmX8 0 rfl rfl rfl 0 (by decide) (List.mem_of_getElem? (i := 1) rfl) rfl rfl rfl rfl (kX8_s0 g a0 v0 (0 : Int32)) (ch' := [kX8 g a0 (st v0 0 (fun _ => (0 : Int32)))]) rfl dX8_drain_2 (fun H locs hW => ?_)
  refine lv_aload_n hx hb dX8_drain_5 rfl (lv_at hl 0 rfl) ?_
  refine lv_aload_n hx hb dX8_drain_6 rfl (lv_at hl 0 rfl) ?_
  refine g_get C hW inX8 0 rfl rfl rfl 16 (by decide) (List.mem_of_getElem? (i := 2) rfl) (v := .ref (a0 5)) rfl dX8_drain_7 ?_
  refine lv_aload_n hx hb dX8_drain_10 rfl (lv_at hl 0 rfl) ?_
  refine g_get C hW inX8 0 rfl rfl rfl 21 (by decide) (List.mem_of_getElem? (i := 3) rfl) (v := .ref (a0 9)) rfl dX8_drain_11 ?_
  refine lv_iconst (v := (0 : Int32)) hx hb dX8_drain_14 (by decide) ?_
  refine lv_iconst (v := (0 : Int32)) hx hb dX8_drain_15 (by decide) ?_
  obtain ⟨y1, hc, hf⟩ := bd_of hf
  obtain ⟨V2, hV2⟩ : ∃ z : MM, z = (st v0 0 (fun _ => (0 : Int32))) := ⟨_, rfl⟩
  rw [← hV2] at hW
  replace hc : fX8_copies N (0 : Int32) (0 : Int32) 667 667 (V2 16) (V2 21) = some y1 := by rw [hV2]; exact hc
  replace hW := hW.re (ch' := [(kX8 g a0 V2).take 5, [(a0 5, .inl (g.2.1, 667, .inl (V2 16)))], ((kX8 g a0 V2).drop 6 |>.take 3), [(a0 9, .inl (g.2.1, 667, .inl (V2 21)))], (kX8 g a0 V2).drop 10]) rfl
  refine g_cVv (Cn := RX8) C (ct_X8_copies g l N (a0 5) (a0 9) (a0 0) (0 : Int32) (0 : Int32) 667 667 (V2 16) (V2 21) hc) gX8_drain_X8_copies rfl 4 (by decide +kernel) ⟨rfl, rfl, ⟨Nat.le_of_ble_eq_true rfl, Nat.le_of_ble_eq_true rfl⟩, Nat.le_of_ble_eq_true rfl, Nat.le_of_ble_eq_true rfl⟩ rfl hl (Nat.le_of_ble_eq_true rfl) dX8_drain_16 rfl hW hA [1, 3] rfl rfl rfl (ch' := [(kX8 g a0 V2).take 5, [(a0 5, .inl (g.2.1, 667, .inl (V2 16)))], ((kX8 g a0 V2).drop 6 |>.take 3), [(a0 9, .inl (g.2.1, 667, .inl y1))], (kX8 g a0 V2).drop 10]) rfl 0 rfl rfl rfl (fun H locs hW => ?_)
  replace hW := hW.re (ch' := [kX8 g a0 (st V2 21 y1)]) rfl
  subst hV2
  refine lv_aload_n hx hb dX8_drain_19 rfl (lv_at hl 0 rfl) ?_
  refine lv_bipush (v := (100 : Int32)) hx hb dX8_drain_20 (by decide) ?_
  obtain ⟨y3, hc, hf⟩ := bd_of hf
  refine g_cV (Cn := RX8) C (ct_X8_drains g l N a0 (100 : Int32) (st (st v0 0 (fun _ => (0 : Int32))) 21 y1) hc) gX8_drain_X8_drains rfl 1 (by decide +kernel) ⟨rfl, rfl, ⟨Nat.le_of_ble_eq_true rfl, Nat.le_of_ble_eq_true rfl⟩, Nat.le_of_ble_eq_true rfl, Nat.le_of_ble_eq_true rfl⟩ rfl hl (Nat.le_of_ble_eq_true rfl) dX8_drain_22 rfl hW hA [0] rfl rfl rfl (ch' := [kX8 g a0 y3.2]) rfl 0 rfl rfl rfl (fun H locs hW => ?_)
  refine lv_istore_n (lv' := [(1, .int y3.1), (0, .ref (a0 0))]) hx hb dX8_drain_25 rfl hl (by decide) rfl (fun ls hl => ?_)
  refine lv_aload_n hx hb dX8_drain_26 rfl (lv_at hl 1 rfl) ?_
  refine lv_aload_n hx hb dX8_drain_27 rfl (lv_at hl 1 rfl) ?_
  refine g_get C hW inX8 0 rfl rfl rfl 21 (by decide) (List.mem_of_getElem? (i := 3) rfl) (v := .ref (a0 9)) rfl dX8_drain_28 ?_
  refine lv_aload_n hx hb dX8_drain_31 rfl (lv_at hl 1 rfl) ?_
  refine g_get C hW inX8 0 rfl rfl rfl 16 (by decide) (List.mem_of_getElem? (i := 2) rfl) (v := .ref (a0 5)) rfl dX8_drain_32 ?_
  refine lv_iconst (v := (0 : Int32)) hx hb dX8_drain_35 (by decide) ?_
  refine lv_iconst (v := (0 : Int32)) hx hb dX8_drain_36 (by decide) ?_
  obtain ⟨y4, hc, hf⟩ := bd_of hf
  replace hW := hW.re (ch' := [(kX8 g a0 y3.2).take 5, [(a0 5, .inl (g.2.1, 667, .inl (y3.2 16)))], ((kX8 g a0 y3.2).drop 6 |>.take 3), [(a0 9, .inl (g.2.1, 667, .inl (y3.2 21)))], (kX8 g a0 y3.2).drop 10]) rfl
  refine g_cVv (Cn := RX8) C (ct_X8_copies g l N (a0 9) (a0 5) (a0 0) (0 : Int32) (0 : Int32) 667 667 (y3.2 21) (y3.2 16) hc) gX8_drain_X8_copies rfl 4 (by decide +kernel) ⟨rfl, rfl, ⟨Nat.le_of_ble_eq_true rfl, Nat.le_of_ble_eq_true rfl⟩, Nat.le_of_ble_eq_true rfl, Nat.le_of_ble_eq_true rfl⟩ rfl hl (Nat.le_of_ble_eq_true rfl) dX8_drain_37 rfl hW hA [3, 1] rfl rfl rfl (ch' := [(kX8 g a0 y3.2).take 5, [(a0 5, .inl (g.2.1, 667, .inl y4))], ((kX8 g a0 y3.2).drop 6 |>.take 3), [(a0 9, .inl (g.2.1, 667, .inl (y3.2 21)))], (kX8 g a0 y3.2).drop 10]) rfl 0 rfl rfl rfl (fun H locs hW => ?_)
  replace hW := hW.re (ch' := [kX8 g a0 (st y3.2 16 y4)]) rfl
  refine lv_iload_n hx hb dX8_drain_40 rfl (lv_at hl 0 rfl) ?_
  obtain rfl := Option.some.inj hf
  subst hQ
  exact g_iret C hr hk0 hW rfl rfl dX8_drain_41
def fX8_enough_L36 (N : Nat) (k : Int32 → Int32 → MM → Option (Int32 × MM)) (x1 : Int32) : Nat → Int32 → Int32 → MM → Option (Int32 × MM)
  | 0, _, _, _ => none
  | n + 1, x2, x3, v0 => (if (60 : Int32) < x3 then k x2 x3 v0 else (if x2 = (-9 : Int32) then (if ib (1 : Int32) 667 = true then ((fX8_drains N x1 (st v0 16 (upd (v0 16) (Int32.toNatClampNeg (1 : Int32)) x3))).bind (fun y4 => (if y4.1 = (-9 : Int32) then ((fX8_copies N (0 : Int32) (0 : Int32) 667 667 (y4.2 21) (y4.2 16)).bind (fun y6 => fX8_enough_L36 N k x1 n (-9 : Int32) (x3 + 1) (st y4.2 16 y6))) else ((fX8_copies N (0 : Int32) (0 : Int32) 667 667 (y4.2 21) (y4.2 16)).bind (fun y5 => fX8_enough_L36 N k x1 n x3 (x3 + 1) (st y4.2 16 y5)))))) else none) else k x2 x3 v0))
def fX8_enough (N : Nat) (x1 : Int32) (v0 : MM) : Option (Int32 × MM) := ((fX8_in N x1 (0 : Int32) (40 : Int32)).bind (fun y1 => (if y1 = 0 then some ((-1 : Int32), (st v0 0 (fun _ => (0 : Int32)))) else ((fX8_copies N (0 : Int32) (0 : Int32) 667 667 (v0 16) (v0 21)).bind (fun y2 => (fX8_enough_L36 N (fun (x2_7 : Int32) (x3_7 : Int32) (v0_7 : MM) => some (x2_7, v0_7)) x1 N (-9 : Int32) (0 : Int32) (st (st v0 0 (fun _ => (0 : Int32))) 21 y2)))))))
set_option maxHeartbeats 4000000 in
set_option maxRecDepth 100000 in
theorem ct_X8_enough (g : GT) (l : Launch) (N : Nat) (a0 : Nat → Nat) (x1 : Int32) (v0 : MM) {y : Int32 × MM} (hf : fX8_enough N x1 v0 = some y) : ct g l yX8_enough wsX8_enough (rmk 7 170) [.ref (a0 0), .int x1] [kX8 g a0 v0] (some (.int y.1)) [kX8 g a0 y.2] := by
  refine ct_of (cc := cX8_enough) (maxL := 4) (ret := (some .int)) (by decide) rfl (Nat.le_of_ble_eq_true rfl) ?_
  intro p e s m args below meth c A ls C hr hk0 hA hW hl
  have hx := C.1.1
  have hb := C.1.2.1
  replace hl : lv_has ls 4 [(0, .ref (a0 0)), (1, .int x1)] := hl
  obtain ⟨Q, hQ⟩ : ∃ Q, Q = MQ below (ctQ g A (some (.int y.1)) [kX8 g a0 y.2]) args s 0 0 A := ⟨_, rfl⟩
  rw [← hQ]
  obtain ⟨H, hH⟩ : ∃ H, H = s.heap := ⟨_, rfl⟩
  obtain ⟨locs, hL⟩ : ∃ locs : List Loc, locs = [] := ⟨_, rfl⟩
  replace hW : wd g A s.heap [kX8 g a0 v0] H locs := by rw [hH, hL]; exact hW
  suffices hG : W p l e (rmk 7 170) s m args below meth c H locs 0 0 Q (F0 m 0 ls []) by
    rw [hH, hL] at hG; exact hG
  clear hH hL
  have inX8 : ∀ w ∈ wsX80, w ∈ wsX8_enough := fun _ h => List.mem_cons_of_mem _ (List.mem_append_right _ (h))
  have L36 : ∀ (x1 : Int32) (k : Int32 → Int32 → MM → Option (Int32 × MM)) (hk : ∀ (x2 : Int32) (x3 : Int32) (v0 : MM) (H : Heap) (locs : List Loc) (ls : Array Slot), k x2 x3 v0 = some y → wd g A s.heap [kX8 g a0 v0] H locs → lv_has ls 4 [(0, .ref (a0 0)), (1, .int x1), (2, .int x2), (3, .int x3)] → W p l e (rmk 7 170) s m args below meth c H locs 0 0 Q (F0 m 92 ls [])) (n : Nat) (x2 : Int32) (x3 : Int32) (v0 : MM) (H : Heap) (locs : List Loc) (ls : Array Slot), fX8_enough_L36 N k x1 n x2 x3 v0 = some y → wd g A s.heap [kX8 g a0 v0] H locs → lv_has ls 4 [(0, .ref (a0 0)), (1, .int x1), (2, .int x2), (3, .int x3)] → W p l e (rmk 7 170) s m args below meth c H locs 0 0 Q (F0 m 36 ls []) := by
    intro x1 k hk n
    induction n with
    | zero => intro x2 x3 v0 H locs ls hf; rw [fX8_enough_L36] at hf; cases hf
    | succ n ih =>
      intro x2 x3 v0 H locs ls hf hW hl
      rw [fX8_enough_L36] at hf
      refine lv_iload_n hx hb dX8_enough_36 rfl (lv_at hl 3 rfl) ?_
      refine lv_bipush (v := (60 : Int32)) hx hb dX8_enough_37 (by decide) ?_
      refine lv_icmp_gt (tgt := 92) hx hb dX8_enough_39 (by decide) (fun h => ?_) (fun h => ?_)
      · replace hf := (if_pos h).symm.trans hf
        exact hk _ _ _ H locs ls hf hW (lv_sub hl [0, 1, 2, 3] rfl)
      · replace hf := (if_neg h).symm.trans hf
        refine lv_iload_n hx hb dX8_enough_42 rfl (lv_at hl 2 rfl) ?_
        refine lv_bipush (v := (-9 : Int32)) hx hb dX8_enough_43 (by decide) ?_
        refine lv_icmp_ne (tgt := 92) hx hb dX8_enough_45 (by decide) (fun h => ?_) (fun h => ?_)
        · replace hf := (if_neg h).symm.trans hf
          exact hk _ _ _ H locs ls hf hW (lv_sub hl [0, 1, 2, 3] rfl)
        · replace hf := (if_pos h).symm.trans hf
          refine lv_aload_n hx hb dX8_enough_48 rfl (lv_at hl 0 rfl) ?_
          refine g_get C hW inX8 0 rfl rfl rfl 16 (by decide) (List.mem_of_getElem? (i := 2) rfl) (v := .ref (a0 5)) rfl dX8_enough_49 ?_
          refine lv_iconst (v := (1 : Int32)) hx hb dX8_enough_52 (by decide) ?_
          refine lv_iload_n hx hb dX8_enough_53 rfl (lv_at hl 3 rfl) ?_
          obtain ⟨hi, hf⟩ := gd_of hf
          refine g_iast C hW 0 5 rfl (f := (v0 16)) rfl (ib_in hi) (kX8_w16 g a0 v0 (upd (v0 16) (Int32.toNatClampNeg (1 : Int32)) x3)) (ch' := [kX8 g a0 (st v0 16 (upd (v0 16) (Int32.toNatClampNeg (1 : Int32)) x3))]) rfl dX8_enough_54 (fun H locs hW => ?_)
          refine lv_aload_n hx hb dX8_enough_55 rfl (lv_at hl 0 rfl) ?_
          refine lv_iload_n hx hb dX8_enough_56 rfl (lv_at hl 1 rfl) ?_
          obtain ⟨y4, hc, hf⟩ := bd_of hf
          refine g_cV (Cn := RX8) C (ct_X8_drains g l N a0 x1 (st v0 16 (upd (v0 16) (Int32.toNatClampNeg (1 : Int32)) x3)) hc) gX8_enough_X8_drains rfl 1 (by decide +kernel) ⟨rfl, rfl, ⟨Nat.le_of_ble_eq_true rfl, Nat.le_of_ble_eq_true rfl⟩, Nat.le_of_ble_eq_true rfl, Nat.le_of_ble_eq_true rfl⟩ rfl hl (Nat.le_of_ble_eq_true rfl) dX8_enough_57 rfl hW hA [0] rfl rfl rfl (ch' := [kX8 g a0 y4.2]) rfl 0 rfl rfl rfl (fun H locs hW => ?_)
          refine lv_bipush (v := (-9 : Int32)) hx hb dX8_enough_60 (by decide) ?_
          refine lv_icmp_ne (tgt := 70) hx hb dX8_enough_62 (by decide) (fun h => ?_) (fun h => ?_)
          · replace hf := (if_neg h).symm.trans hf
            refine lv_iload_n hx hb dX8_enough_70 rfl (lv_at hl 3 rfl) ?_
            refine lv_istore_n (lv' := [(2, .int x3), (0, .ref (a0 0)), (1, .int x1), (3, .int x3)]) hx hb dX8_enough_71 rfl hl (by decide) rfl (fun ls hl => ?_)
            refine lv_aload_n hx hb dX8_enough_72 rfl (lv_at hl 1 rfl) ?_
            refine lv_aload_n hx hb dX8_enough_73 rfl (lv_at hl 1 rfl) ?_
            refine g_get C hW inX8 0 rfl rfl rfl 21 (by decide) (List.mem_of_getElem? (i := 3) rfl) (v := .ref (a0 9)) rfl dX8_enough_74 ?_
            refine lv_aload_n hx hb dX8_enough_77 rfl (lv_at hl 1 rfl) ?_
            refine g_get C hW inX8 0 rfl rfl rfl 16 (by decide) (List.mem_of_getElem? (i := 2) rfl) (v := .ref (a0 5)) rfl dX8_enough_78 ?_
            refine lv_iconst (v := (0 : Int32)) hx hb dX8_enough_81 (by decide) ?_
            refine lv_iconst (v := (0 : Int32)) hx hb dX8_enough_82 (by decide) ?_
            obtain ⟨y5, hc, hf⟩ := bd_of hf
            replace hW := hW.re (ch' := [(kX8 g a0 y4.2).take 5, [(a0 5, .inl (g.2.1, 667, .inl (y4.2 16)))], ((kX8 g a0 y4.2).drop 6 |>.take 3), [(a0 9, .inl (g.2.1, 667, .inl (y4.2 21)))], (kX8 g a0 y4.2).drop 10]) rfl
            refine g_cVv (Cn := RX8) C (ct_X8_copies g l N (a0 9) (a0 5) (a0 0) (0 : Int32) (0 : Int32) 667 667 (y4.2 21) (y4.2 16) hc) gX8_enough_X8_copies rfl 4 (by decide +kernel) ⟨rfl, rfl, ⟨Nat.le_of_ble_eq_true rfl, Nat.le_of_ble_eq_true rfl⟩, Nat.le_of_ble_eq_true rfl, Nat.le_of_ble_eq_true rfl⟩ rfl hl (Nat.le_of_ble_eq_true rfl) dX8_enough_83 rfl hW hA [3, 1] rfl rfl rfl (ch' := [(kX8 g a0 y4.2).take 5, [(a0 5, .inl (g.2.1, 667, .inl y5))], ((kX8 g a0 y4.2).drop 6 |>.take 3), [(a0 9, .inl (g.2.1, 667, .inl (y4.2 21)))], (kX8 g a0 y4.2).drop 10]) rfl 0 rfl rfl rfl (fun H locs hW => ?_)
            replace hW := hW.re (ch' := [kX8 g a0 (st y4.2 16 y5)]) rfl
            refine lv_iinc (v := (x3 + 1)) (lv' := [(3, .int (x3 + 1)), (2, .int x3), (0, .ref (a0 0)), (1, .int x1)]) hx hb dX8_enough_86 hl (k := 3) rfl (by first | rfl | decide) (by decide) rfl (fun ls hl => ?_)
            refine lv_goto (tgt := 36) hx hb dX8_enough_89 (by decide) ?_
            exact ih _ _ _ H locs ls hf hW (lv_sub hl [2, 3, 1, 0] rfl)
          · replace hf := (if_pos h).symm.trans hf
            refine lv_bipush (v := (-9 : Int32)) hx hb dX8_enough_65 (by decide) ?_
            refine lv_goto (tgt := 71) hx hb dX8_enough_67 (by decide) ?_
            refine lv_istore_n (lv' := [(2, .int (-9 : Int32)), (0, .ref (a0 0)), (1, .int x1), (3, .int x3)]) hx hb dX8_enough_71 rfl hl (by decide) rfl (fun ls hl => ?_)
            refine lv_aload_n hx hb dX8_enough_72 rfl (lv_at hl 1 rfl) ?_
            refine lv_aload_n hx hb dX8_enough_73 rfl (lv_at hl 1 rfl) ?_
            refine g_get C hW inX8 0 rfl rfl rfl 21 (by decide) (List.mem_of_getElem? (i := 3) rfl) (v := .ref (a0 9)) rfl dX8_enough_74 ?_
            refine lv_aload_n hx hb dX8_enough_77 rfl (lv_at hl 1 rfl) ?_
            refine g_get C hW inX8 0 rfl rfl rfl 16 (by decide) (List.mem_of_getElem? (i := 2) rfl) (v := .ref (a0 5)) rfl dX8_enough_78 ?_
            refine lv_iconst (v := (0 : Int32)) hx hb dX8_enough_81 (by decide) ?_
            refine lv_iconst (v := (0 : Int32)) hx hb dX8_enough_82 (by decide) ?_
            obtain ⟨y6, hc, hf⟩ := bd_of hf
            replace hW := hW.re (ch' := [(kX8 g a0 y4.2).take 5, [(a0 5, .inl (g.2.1, 667, .inl (y4.2 16)))], ((kX8 g a0 y4.2).drop 6 |>.take 3), [(a0 9, .inl (g.2.1, 667, .inl (y4.2 21)))], (kX8 g a0 y4.2).drop 10]) rfl
            refine g_cVv (Cn := RX8) C (ct_X8_copies g l N (a0 9) (a0 5) (a0 0) (0 : Int32) (0 : Int32) 667 667 (y4.2 21) (y4.2 16) hc) gX8_enough_X8_copies rfl 4 (by decide +kernel) ⟨rfl, rfl, ⟨Nat.le_of_ble_eq_true rfl, Nat.le_of_ble_eq_true rfl⟩, Nat.le_of_ble_eq_true rfl, Nat.le_of_ble_eq_true rfl⟩ rfl hl (Nat.le_of_ble_eq_true rfl) dX8_enough_83 rfl hW hA [3, 1] rfl rfl rfl (ch' := [(kX8 g a0 y4.2).take 5, [(a0 5, .inl (g.2.1, 667, .inl y6))], ((kX8 g a0 y4.2).drop 6 |>.take 3), [(a0 9, .inl (g.2.1, 667, .inl (y4.2 21)))], (kX8 g a0 y4.2).drop 10]) rfl 0 rfl rfl rfl (fun H locs hW => ?_)
            replace hW := hW.re (ch' := [kX8 g a0 (st y4.2 16 y6)]) rfl
            refine lv_iinc (v := (x3 + 1)) (lv' := [(3, .int (x3 + 1)), (2, .int (-9 : Int32)), (0, .ref (a0 0)), (1, .int x1)]) hx hb dX8_enough_86 hl (k := 3) rfl (by first | rfl | decide) (by decide) rfl (fun ls hl => ?_)
            refine lv_goto (tgt := 36) hx hb dX8_enough_89 (by decide) ?_
            exact ih _ _ _ H locs ls hf hW (lv_sub hl [2, 3, 1, 0] rfl)
  rw [fX8_enough] at hf
  refine lv_aload_n hx hb dX8_enough_0 rfl (lv_at hl 0 rfl) ?_
  refine lv_iconst (v := (0 : Int32)) hx hb dX8_enough_1 (by decide) ?_
  refine g_put C hW inX8 tyX8_ok nmX8 0 rfl rfl rfl 0 (by decide) (List.mem_of_getElem? (i := 1) rfl) rfl rfl rfl rfl (kX8_s0 g a0 v0 (0 : Int32)) (ch' := [kX8 g a0 (st v0 0 (fun _ => (0 : Int32)))]) rfl dX8_enough_2 (fun H locs hW => ?_)
  refine lv_iload_n hx hb dX8_enough_5 rfl (lv_at hl 1 rfl) ?_
  refine lv_iconst (v := (0 : Int32)) hx hb dX8_enough_6 (by decide) ?_
  refine lv_bipush (v := (40 : Int32)) hx hb dX8_enough_7 (by decide) ?_
  obtain ⟨y1, hc, hf⟩ := bd_of hf
  refine g_cS C (ct_X8_in g l N x1 (0 : Int32) (40 : Int32) hc) gX8_enough_X8_in rfl 3 (by decide +kernel) ⟨rfl, rfl, ⟨Nat.le_of_ble_eq_true rfl, Nat.le_of_ble_eq_true rfl⟩, Nat.le_of_ble_eq_true rfl, Nat.le_of_ble_eq_true rfl⟩ rfl hl (Nat.le_of_ble_eq_true rfl) dX8_enough_9 rfl hW hA [] rfl rfl rfl (ch' := [kX8 g a0 (st v0 0 (fun _ => (0 : Int32)))]) rfl (fun H locs hW => ?_)
  refine lv_if_ne (tgt := 17) hx hb dX8_enough_12 (by decide) (fun h => ?_) (fun h => ?_)
  · replace hf := (if_neg h).symm.trans hf
    refine lv_aload_n hx hb dX8_enough_17 rfl (lv_at hl 0 rfl) ?_
    refine lv_aload_n hx hb dX8_enough_18 rfl (lv_at hl 0 rfl) ?_
    refine g_get C hW inX8 0 rfl rfl rfl 16 (by decide) (List.mem_of_getElem? (i := 2) rfl) (v := .ref (a0 5)) rfl dX8_enough_19 ?_
    refine lv_aload_n hx hb dX8_enough_22 rfl (lv_at hl 0 rfl) ?_
    refine g_get C hW inX8 0 rfl rfl rfl 21 (by decide) (List.mem_of_getElem? (i := 3) rfl) (v := .ref (a0 9)) rfl dX8_enough_23 ?_
    refine lv_iconst (v := (0 : Int32)) hx hb dX8_enough_26 (by decide) ?_
    refine lv_iconst (v := (0 : Int32)) hx hb dX8_enough_27 (by decide) ?_
    obtain ⟨y2, hc, hf⟩ := bd_of hf
    obtain ⟨V3, hV3⟩ : ∃ z : MM, z = (st v0 0 (fun _ => (0 : Int32))) := ⟨_, rfl⟩
    rw [← hV3] at hW
    replace hc : fX8_copies N (0 : Int32) (0 : Int32) 667 667 (V3 16) (V3 21) = some y2 := by rw [hV3]; exact hc
    replace hW := hW.re (ch' := [(kX8 g a0 V3).take 5, [(a0 5, .inl (g.2.1, 667, .inl (V3 16)))], ((kX8 g a0 V3).drop 6 |>.take 3), [(a0 9, .inl (g.2.1, 667, .inl (V3 21)))], (kX8 g a0 V3).drop 10]) rfl
    refine g_cVv (Cn := RX8) C (ct_X8_copies g l N (a0 5) (a0 9) (a0 0) (0 : Int32) (0 : Int32) 667 667 (V3 16) (V3 21) hc) gX8_enough_X8_copies rfl 4 (by decide +kernel) ⟨rfl, rfl, ⟨Nat.le_of_ble_eq_true rfl, Nat.le_of_ble_eq_true rfl⟩, Nat.le_of_ble_eq_true rfl, Nat.le_of_ble_eq_true rfl⟩ rfl hl (Nat.le_of_ble_eq_true rfl) dX8_enough_28 rfl hW hA [1, 3] rfl rfl rfl (ch' := [(kX8 g a0 V3).take 5, [(a0 5, .inl (g.2.1, 667, .inl (V3 16)))], ((kX8 g a0 V3).drop 6 |>.take 3), [(a0 9, .inl (g.2.1, 667, .inl y2))], (kX8 g a0 V3).drop 10]) rfl 0 rfl rfl rfl (fun H locs hW => ?_)
    replace hW := hW.re (ch' := [kX8 g a0 (st V3 21 y2)]) rfl
    subst hV3
    refine lv_bipush (v := (-9 : Int32)) hx hb dX8_enough_31 (by decide) ?_
    refine lv_istore_n (lv' := [(2, .int (-9 : Int32)), (0, .ref (a0 0)), (1, .int x1)]) hx hb dX8_enough_33 rfl hl (by decide) rfl (fun ls hl => ?_)
    refine lv_iconst (v := (0 : Int32)) hx hb dX8_enough_34 (by decide) ?_
    refine lv_istore_n (lv' := [(3, .int (0 : Int32)), (2, .int (-9 : Int32)), (0, .ref (a0 0)), (1, .int x1)]) hx hb dX8_enough_35 rfl hl (by decide) rfl (fun ls hl => ?_)
    refine L36 x1 _ (fun x2_7 x3_7 v0_7 H locs ls hf hW hl => ?_) N (-9 : Int32) (0 : Int32) (st (st v0 0 (fun _ => (0 : Int32))) 21 y2) H locs ls hf hW (lv_sub hl [2, 3, 1, 0] rfl)
    refine lv_iload_n hx hb dX8_enough_92 rfl (lv_at hl 2 rfl) ?_
    obtain rfl := Option.some.inj hf
    subst hQ
    exact g_iret C hr hk0 hW rfl rfl dX8_enough_93
  · replace hf := (if_pos h).symm.trans hf
    refine lv_iconst (v := (-1 : Int32)) hx hb dX8_enough_15 (by decide) ?_
    obtain rfl := Option.some.inj hf
    subst hQ
    exact g_iret C hr hk0 hW rfl rfl dX8_enough_16
def fX8_ahead_L41 (N : Nat) (k : Int32 → MM → Option (Int32 × MM)) (x1 : Int32) (x2 : Int32) : Nat → Int32 → MM → Option (Int32 × MM)
  | 0, _, _ => none
  | n + 1, x3, v0 => (if x2 ≤ x3 then k x3 v0 else ((fX8_step N v0).bind (fun y5 => fX8_ahead_L41 N k x1 x2 n (x3 + 1) y5)))
def fX8_ahead (N : Nat) (x1 : Int32) (x2 : Int32) (v0 : MM) : Option (Int32 × MM) := ((fX8_isClass N x1 (st v0 0 (fun _ => (0 : Int32)))).bind (fun y1 => (if y1 = 0 then some ((-1 : Int32), (st v0 0 (fun _ => (0 : Int32)))) else ((fX8_in N x2 (1 : Int32) (40 : Int32)).bind (fun y2 => (if y2 = 0 then some ((-1 : Int32), (st v0 0 (fun _ => (0 : Int32)))) else ((fX8_copies N (0 : Int32) (0 : Int32) 667 667 (v0 16) (v0 21)).bind (fun y3 => (fX8_ahead_L41 N (fun (x3_6 : Int32) (v0_6 : MM) => ((fX8_ofClass N x1 (2 : Int32)).bind (fun y7 => (if ib y7 667 = true then ((fX8_copies N (0 : Int32) (0 : Int32) 667 667 (v0_6 21) (v0_6 16)).bind (fun y8 => ((fX8_ofClass N x1 (2 : Int32)).bind (fun y9 => (if ib y9 667 = true then some ((((v0_6 16) (Int32.toNatClampNeg y7)) - (y8 (Int32.toNatClampNeg y9))), (st v0_6 16 y8)) else none))))) else none)))) x1 x2 N (0 : Int32) (st (st v0 0 (fun _ => (0 : Int32))) 21 y3))))))))))
set_option maxHeartbeats 4000000 in
set_option maxRecDepth 100000 in
theorem ct_X8_ahead (g : GT) (l : Launch) (N : Nat) (a0 : Nat → Nat) (x1 : Int32) (x2 : Int32) (v0 : MM) {y : Int32 × MM} (hf : fX8_ahead N x1 x2 v0 = some y) : ct g l yX8_ahead wsX8_ahead (rmk 6 148) [.ref (a0 0), .int x1, .int x2] [kX8 g a0 v0] (some (.int y.1)) [kX8 g a0 y.2] := by
  refine ct_of (cc := cX8_ahead) (maxL := 4) (ret := (some .int)) (by decide) rfl (Nat.le_of_ble_eq_true rfl) ?_
  intro p e s m args below meth c A ls C hr hk0 hA hW hl
  have hx := C.1.1
  have hb := C.1.2.1
  replace hl : lv_has ls 4 [(0, .ref (a0 0)), (1, .int x1), (2, .int x2)] := hl
  obtain ⟨Q, hQ⟩ : ∃ Q, Q = MQ below (ctQ g A (some (.int y.1)) [kX8 g a0 y.2]) args s 0 0 A := ⟨_, rfl⟩
  rw [← hQ]
  obtain ⟨H, hH⟩ : ∃ H, H = s.heap := ⟨_, rfl⟩
  obtain ⟨locs, hL⟩ : ∃ locs : List Loc, locs = [] := ⟨_, rfl⟩
  replace hW : wd g A s.heap [kX8 g a0 v0] H locs := by rw [hH, hL]; exact hW
  suffices hG : W p l e (rmk 6 148) s m args below meth c H locs 0 0 Q (F0 m 0 ls []) by
    rw [hH, hL] at hG; exact hG
  clear hH hL
  have inX8 : ∀ w ∈ wsX80, w ∈ wsX8_ahead := fun _ h => List.mem_cons_of_mem _ (List.mem_append_right _ (h))
  have L41 : ∀ (x1 : Int32) (x2 : Int32) (k : Int32 → MM → Option (Int32 × MM)) (hk : ∀ (x3 : Int32) (v0 : MM) (H : Heap) (locs : List Loc) (ls : Array Slot), k x3 v0 = some y → wd g A s.heap [kX8 g a0 v0] H locs → lv_has ls 4 [(0, .ref (a0 0)), (1, .int x1), (2, .int x2), (3, .int x3)] → W p l e (rmk 6 148) s m args below meth c H locs 0 0 Q (F0 m 56 ls [])) (n : Nat) (x3 : Int32) (v0 : MM) (H : Heap) (locs : List Loc) (ls : Array Slot), fX8_ahead_L41 N k x1 x2 n x3 v0 = some y → wd g A s.heap [kX8 g a0 v0] H locs → lv_has ls 4 [(0, .ref (a0 0)), (1, .int x1), (2, .int x2), (3, .int x3)] → W p l e (rmk 6 148) s m args below meth c H locs 0 0 Q (F0 m 41 ls []) := by
    intro x1 x2 k hk n
    induction n with
    | zero => intro x3 v0 H locs ls hf; rw [fX8_ahead_L41] at hf; cases hf
    | succ n ih =>
      intro x3 v0 H locs ls hf hW hl
      rw [fX8_ahead_L41] at hf
      refine lv_iload_n hx hb dX8_ahead_41 rfl (lv_at hl 3 rfl) ?_
      refine lv_iload_n hx hb dX8_ahead_42 rfl (lv_at hl 2 rfl) ?_
      refine lv_icmp_ge (tgt := 56) hx hb dX8_ahead_43 (by decide) (fun h => ?_) (fun h => ?_)
      · replace hf := (if_pos h).symm.trans hf
        exact hk _ _ H locs ls hf hW (lv_sub hl [0, 1, 2, 3] rfl)
      · replace hf := (if_neg h).symm.trans hf
        refine lv_aload_n hx hb dX8_ahead_46 rfl (lv_at hl 0 rfl) ?_
        obtain ⟨y5, hc, hf⟩ := bd_of hf
        refine g_cVv (Cn := RX8) C (ct_X8_step g l N a0 v0 hc) gX8_ahead_X8_step rfl 0 (by decide +kernel) ⟨rfl, rfl, ⟨Nat.le_of_ble_eq_true rfl, Nat.le_of_ble_eq_true rfl⟩, Nat.le_of_ble_eq_true rfl, Nat.le_of_ble_eq_true rfl⟩ rfl hl (Nat.le_of_ble_eq_true rfl) dX8_ahead_47 rfl hW hA [0] rfl rfl rfl (ch' := [kX8 g a0 y5]) rfl 0 rfl rfl rfl (fun H locs hW => ?_)
        refine lv_iinc (v := (x3 + 1)) (lv' := [(3, .int (x3 + 1)), (0, .ref (a0 0)), (1, .int x1), (2, .int x2)]) hx hb dX8_ahead_50 hl (k := 3) rfl (by first | rfl | decide) (by decide) rfl (fun ls hl => ?_)
        refine lv_goto (tgt := 41) hx hb dX8_ahead_53 (by decide) ?_
        exact ih _ _ H locs ls hf hW (lv_sub hl [1, 2, 3, 0] rfl)
  rw [fX8_ahead] at hf
  refine lv_aload_n hx hb dX8_ahead_0 rfl (lv_at hl 0 rfl) ?_
  refine lv_iconst (v := (0 : Int32)) hx hb dX8_ahead_1 (by decide) ?_
  refine g_put C hW inX8 tyX8_ok nmX8 0 rfl rfl rfl 0 (by decide) (List.mem_of_getElem? (i := 1) rfl) rfl rfl rfl rfl (kX8_s0 g a0 v0 (0 : Int32)) (ch' := [kX8 g a0 (st v0 0 (fun _ => (0 : Int32)))]) rfl dX8_ahead_2 (fun H locs hW => ?_)
  refine lv_aload_n hx hb dX8_ahead_5 rfl (lv_at hl 0 rfl) ?_
  refine lv_iload_n hx hb dX8_ahead_6 rfl (lv_at hl 1 rfl) ?_
  obtain ⟨y1, hc, hf⟩ := bd_of hf
  refine g_cV (Cn := RX8) C (ct_X8_isClass g l N a0 x1 (st v0 0 (fun _ => (0 : Int32))) hc) gX8_ahead_X8_isClass rfl 1 (by decide +kernel) ⟨rfl, rfl, ⟨Nat.le_of_ble_eq_true rfl, Nat.le_of_ble_eq_true rfl⟩, Nat.le_of_ble_eq_true rfl, Nat.le_of_ble_eq_true rfl⟩ rfl hl (Nat.le_of_ble_eq_true rfl) dX8_ahead_7 rfl hW hA [0] rfl rfl rfl (ch' := [kX8 g a0 (st v0 0 (fun _ => (0 : Int32)))]) rfl 0 rfl rfl rfl (fun H locs hW => ?_)
  refine lv_if_eq (tgt := 23) hx hb dX8_ahead_10 (by decide) (fun h => ?_) (fun h => ?_)
  · replace hf := (if_pos h).symm.trans hf
    refine lv_iconst (v := (-1 : Int32)) hx hb dX8_ahead_23 (by decide) ?_
    obtain rfl := Option.some.inj hf
    subst hQ
    exact g_iret C hr hk0 hW rfl rfl dX8_ahead_24
  · replace hf := (if_neg h).symm.trans hf
    refine lv_iload_n hx hb dX8_ahead_13 rfl (lv_at hl 2 rfl) ?_
    refine lv_iconst (v := (1 : Int32)) hx hb dX8_ahead_14 (by decide) ?_
    refine lv_bipush (v := (40 : Int32)) hx hb dX8_ahead_15 (by decide) ?_
    obtain ⟨y2, hc, hf⟩ := bd_of hf
    refine g_cS C (ct_X8_in g l N x2 (1 : Int32) (40 : Int32) hc) gX8_ahead_X8_in rfl 3 (by decide +kernel) ⟨rfl, rfl, ⟨Nat.le_of_ble_eq_true rfl, Nat.le_of_ble_eq_true rfl⟩, Nat.le_of_ble_eq_true rfl, Nat.le_of_ble_eq_true rfl⟩ rfl hl (Nat.le_of_ble_eq_true rfl) dX8_ahead_17 rfl hW hA [] rfl rfl rfl (ch' := [kX8 g a0 (st v0 0 (fun _ => (0 : Int32)))]) rfl (fun H locs hW => ?_)
    refine lv_if_ne (tgt := 25) hx hb dX8_ahead_20 (by decide) (fun h => ?_) (fun h => ?_)
    · replace hf := (if_neg h).symm.trans hf
      refine lv_aload_n hx hb dX8_ahead_25 rfl (lv_at hl 0 rfl) ?_
      refine lv_aload_n hx hb dX8_ahead_26 rfl (lv_at hl 0 rfl) ?_
      refine g_get C hW inX8 0 rfl rfl rfl 16 (by decide) (List.mem_of_getElem? (i := 2) rfl) (v := .ref (a0 5)) rfl dX8_ahead_27 ?_
      refine lv_aload_n hx hb dX8_ahead_30 rfl (lv_at hl 0 rfl) ?_
      refine g_get C hW inX8 0 rfl rfl rfl 21 (by decide) (List.mem_of_getElem? (i := 3) rfl) (v := .ref (a0 9)) rfl dX8_ahead_31 ?_
      refine lv_iconst (v := (0 : Int32)) hx hb dX8_ahead_34 (by decide) ?_
      refine lv_iconst (v := (0 : Int32)) hx hb dX8_ahead_35 (by decide) ?_
      obtain ⟨y3, hc, hf⟩ := bd_of hf
      obtain ⟨V4, hV4⟩ : ∃ z : MM, z = (st v0 0 (fun _ => (0 : Int32))) := ⟨_, rfl⟩
      rw [← hV4] at hW
      replace hc : fX8_copies N (0 : Int32) (0 : Int32) 667 667 (V4 16) (V4 21) = some y3 := by rw [hV4]; exact hc
      replace hW := hW.re (ch' := [(kX8 g a0 V4).take 5, [(a0 5, .inl (g.2.1, 667, .inl (V4 16)))], ((kX8 g a0 V4).drop 6 |>.take 3), [(a0 9, .inl (g.2.1, 667, .inl (V4 21)))], (kX8 g a0 V4).drop 10]) rfl
      refine g_cVv (Cn := RX8) C (ct_X8_copies g l N (a0 5) (a0 9) (a0 0) (0 : Int32) (0 : Int32) 667 667 (V4 16) (V4 21) hc) gX8_ahead_X8_copies rfl 4 (by decide +kernel) ⟨rfl, rfl, ⟨Nat.le_of_ble_eq_true rfl, Nat.le_of_ble_eq_true rfl⟩, Nat.le_of_ble_eq_true rfl, Nat.le_of_ble_eq_true rfl⟩ rfl hl (Nat.le_of_ble_eq_true rfl) dX8_ahead_36 rfl hW hA [1, 3] rfl rfl rfl (ch' := [(kX8 g a0 V4).take 5, [(a0 5, .inl (g.2.1, 667, .inl (V4 16)))], ((kX8 g a0 V4).drop 6 |>.take 3), [(a0 9, .inl (g.2.1, 667, .inl y3))], (kX8 g a0 V4).drop 10]) rfl 0 rfl rfl rfl (fun H locs hW => ?_)
      replace hW := hW.re (ch' := [kX8 g a0 (st V4 21 y3)]) rfl
      subst hV4
      refine lv_iconst (v := (0 : Int32)) hx hb dX8_ahead_39 (by decide) ?_
      refine lv_istore_n (lv' := [(3, .int (0 : Int32)), (0, .ref (a0 0)), (1, .int x1), (2, .int x2)]) hx hb dX8_ahead_40 rfl hl (by decide) rfl (fun ls hl => ?_)
      refine L41 x1 x2 _ (fun x3_6 v0_6 H locs ls hf hW hl => ?_) N (0 : Int32) (st (st v0 0 (fun _ => (0 : Int32))) 21 y3) H locs ls hf hW (lv_sub hl [1, 2, 3, 0] rfl)
      refine lv_aload_n hx hb dX8_ahead_56 rfl (lv_at hl 0 rfl) ?_
      refine g_get C hW inX8 0 rfl rfl rfl 16 (by decide) (List.mem_of_getElem? (i := 2) rfl) (v := .ref (a0 5)) rfl dX8_ahead_57 ?_
      refine lv_iload_n hx hb dX8_ahead_60 rfl (lv_at hl 1 rfl) ?_
      refine lv_iconst (v := (2 : Int32)) hx hb dX8_ahead_61 (by decide) ?_
      obtain ⟨y7, hc, hf⟩ := bd_of hf
      refine g_cS C (ct_X8_ofClass g l N x1 (2 : Int32) hc) gX8_ahead_X8_ofClass rfl 2 (by decide +kernel) ⟨rfl, rfl, ⟨Nat.le_of_ble_eq_true rfl, Nat.le_of_ble_eq_true rfl⟩, Nat.le_of_ble_eq_true rfl, Nat.le_of_ble_eq_true rfl⟩ rfl hl (Nat.le_of_ble_eq_true rfl) dX8_ahead_62 rfl hW hA [] rfl rfl rfl (ch' := [kX8 g a0 v0_6]) rfl (fun H locs hW => ?_)
      obtain ⟨hi, hf⟩ := gd_of hf
      refine g_iald C hW 0 5 rfl (f := (v0_6 16)) rfl (ib_in hi) dX8_ahead_65 ?_
      refine lv_istore_n (lv' := [(3, .int ((v0_6 16) (Int32.toNatClampNeg y7))), (0, .ref (a0 0)), (1, .int x1), (2, .int x2)]) hx hb dX8_ahead_66 rfl hl (by decide) rfl (fun ls hl => ?_)
      refine lv_aload_n hx hb dX8_ahead_67 rfl (lv_at hl 1 rfl) ?_
      refine lv_aload_n hx hb dX8_ahead_68 rfl (lv_at hl 1 rfl) ?_
      refine g_get C hW inX8 0 rfl rfl rfl 21 (by decide) (List.mem_of_getElem? (i := 3) rfl) (v := .ref (a0 9)) rfl dX8_ahead_69 ?_
      refine lv_aload_n hx hb dX8_ahead_72 rfl (lv_at hl 1 rfl) ?_
      refine g_get C hW inX8 0 rfl rfl rfl 16 (by decide) (List.mem_of_getElem? (i := 2) rfl) (v := .ref (a0 5)) rfl dX8_ahead_73 ?_
      refine lv_iconst (v := (0 : Int32)) hx hb dX8_ahead_76 (by decide) ?_
      refine lv_iconst (v := (0 : Int32)) hx hb dX8_ahead_77 (by decide) ?_
      obtain ⟨y8, hc, hf⟩ := bd_of hf
      replace hW := hW.re (ch' := [(kX8 g a0 v0_6).take 5, [(a0 5, .inl (g.2.1, 667, .inl (v0_6 16)))], ((kX8 g a0 v0_6).drop 6 |>.take 3), [(a0 9, .inl (g.2.1, 667, .inl (v0_6 21)))], (kX8 g a0 v0_6).drop 10]) rfl
      refine g_cVv (Cn := RX8) C (ct_X8_copies g l N (a0 9) (a0 5) (a0 0) (0 : Int32) (0 : Int32) 667 667 (v0_6 21) (v0_6 16) hc) gX8_ahead_X8_copies rfl 4 (by decide +kernel) ⟨rfl, rfl, ⟨Nat.le_of_ble_eq_true rfl, Nat.le_of_ble_eq_true rfl⟩, Nat.le_of_ble_eq_true rfl, Nat.le_of_ble_eq_true rfl⟩ rfl hl (Nat.le_of_ble_eq_true rfl) dX8_ahead_78 rfl hW hA [3, 1] rfl rfl rfl (ch' := [(kX8 g a0 v0_6).take 5, [(a0 5, .inl (g.2.1, 667, .inl y8))], ((kX8 g a0 v0_6).drop 6 |>.take 3), [(a0 9, .inl (g.2.1, 667, .inl (v0_6 21)))], (kX8 g a0 v0_6).drop 10]) rfl 0 rfl rfl rfl (fun H locs hW => ?_)
      replace hW := hW.re (ch' := [kX8 g a0 (st v0_6 16 y8)]) rfl
      refine lv_iload_n hx hb dX8_ahead_81 rfl (lv_at hl 0 rfl) ?_
      refine lv_aload_n hx hb dX8_ahead_82 rfl (lv_at hl 1 rfl) ?_
      refine g_get C hW inX8 0 rfl rfl rfl 16 (by decide) (List.mem_of_getElem? (i := 2) rfl) (v := .ref (a0 5)) rfl dX8_ahead_83 ?_
      refine lv_iload_n hx hb dX8_ahead_86 rfl (lv_at hl 2 rfl) ?_
      refine lv_iconst (v := (2 : Int32)) hx hb dX8_ahead_87 (by decide) ?_
      obtain ⟨y9, hc, hf⟩ := bd_of hf
      refine g_cS C (ct_X8_ofClass g l N x1 (2 : Int32) hc) gX8_ahead_X8_ofClass rfl 2 (by decide +kernel) ⟨rfl, rfl, ⟨Nat.le_of_ble_eq_true rfl, Nat.le_of_ble_eq_true rfl⟩, Nat.le_of_ble_eq_true rfl, Nat.le_of_ble_eq_true rfl⟩ rfl hl (Nat.le_of_ble_eq_true rfl) dX8_ahead_88 rfl hW hA [] rfl rfl rfl (ch' := [kX8 g a0 (st v0_6 16 y8)]) rfl (fun H locs hW => ?_)
      obtain ⟨hi, hf⟩ := gd_of hf
      refine g_iald C hW 0 5 rfl (f := y8) rfl (ib_in hi) dX8_ahead_91 ?_
      refine lv_isub hx hb dX8_ahead_92 ?_
      obtain rfl := Option.some.inj hf
      subst hQ
      exact g_iret C hr hk0 hW rfl rfl dX8_ahead_93
    · replace hf := (if_pos h).symm.trans hf
      refine lv_iconst (v := (-1 : Int32)) hx hb dX8_ahead_23 (by decide) ?_
      obtain rfl := Option.some.inj hf
      subst hQ
      exact g_iret C hr hk0 hW rfl rfl dX8_ahead_24
def fX8_sees (N : Nat) (x1 : Int32) (x2 : Int32) (v0 : MM) : Option (Int32 × MM) := ((fX8_in N x1 (1 : Int32) (40 : Int32)).bind (fun y1 => (if y1 = 0 then some ((-1 : Int32), (st v0 0 (fun _ => (0 : Int32)))) else ((fX8_in N x2 (0 : Int32) (9999 : Int32)).bind (fun y2 => (if y2 = 0 then some ((-1 : Int32), (st v0 0 (fun _ => (0 : Int32)))) else (if (v0 22 0) = (4 : Int32) then some ((-3 : Int32), (st v0 0 (fun _ => (0 : Int32)))) else (if ib (v0 22 0) 4 = true then (if ib (v0 22 0) 4 = true then some (((v0 22 0) + (1 : Int32)), (st (st (st (st v0 0 (fun _ => (0 : Int32))) 23 (upd (v0 23) (Int32.toNatClampNeg (v0 22 0)) x1)) 24 (upd (v0 24) (Int32.toNatClampNeg (v0 22 0)) x2)) 22 (fun _ => ((v0 22 0) + (1 : Int32))))) else none) else none))))))))
set_option maxHeartbeats 4000000 in
set_option maxRecDepth 100000 in
theorem ct_X8_sees (g : GT) (l : Launch) (N : Nat) (a0 : Nat → Nat) (x1 : Int32) (x2 : Int32) (v0 : MM) {y : Int32 × MM} (hf : fX8_sees N x1 x2 v0 = some y) : ct g l yX8_sees wsX8_sees (rmk 1 22) [.ref (a0 0), .int x1, .int x2] [kX8 g a0 v0] (some (.int y.1)) [kX8 g a0 y.2] := by
  refine ct_of (cc := cX8_sees) (maxL := 3) (ret := (some .int)) (by decide) rfl (Nat.le_of_ble_eq_true rfl) ?_
  intro p e s m args below meth c A ls C hr hk0 hA hW hl
  have hx := C.1.1
  have hb := C.1.2.1
  replace hl : lv_has ls 3 [(0, .ref (a0 0)), (1, .int x1), (2, .int x2)] := hl
  obtain ⟨Q, hQ⟩ : ∃ Q, Q = MQ below (ctQ g A (some (.int y.1)) [kX8 g a0 y.2]) args s 0 0 A := ⟨_, rfl⟩
  rw [← hQ]
  obtain ⟨H, hH⟩ : ∃ H, H = s.heap := ⟨_, rfl⟩
  obtain ⟨locs, hL⟩ : ∃ locs : List Loc, locs = [] := ⟨_, rfl⟩
  replace hW : wd g A s.heap [kX8 g a0 v0] H locs := by rw [hH, hL]; exact hW
  suffices hG : W p l e (rmk 1 22) s m args below meth c H locs 0 0 Q (F0 m 0 ls []) by
    rw [hH, hL] at hG; exact hG
  clear hH hL
  have inX8 : ∀ w ∈ wsX80, w ∈ wsX8_sees := fun _ h => List.mem_cons_of_mem _ (List.mem_append_right _ (h))
  rw [fX8_sees] at hf
  refine lv_aload_n hx hb dX8_sees_0 rfl (lv_at hl 0 rfl) ?_
  refine lv_iconst (v := (0 : Int32)) hx hb dX8_sees_1 (by decide) ?_
  refine g_put C hW inX8 tyX8_ok nmX8 0 rfl rfl rfl 0 (by decide) (List.mem_of_getElem? (i := 1) rfl) rfl rfl rfl rfl (kX8_s0 g a0 v0 (0 : Int32)) (ch' := [kX8 g a0 (st v0 0 (fun _ => (0 : Int32)))]) rfl dX8_sees_2 (fun H locs hW => ?_)
  refine lv_iload_n hx hb dX8_sees_5 rfl (lv_at hl 1 rfl) ?_
  refine lv_iconst (v := (1 : Int32)) hx hb dX8_sees_6 (by decide) ?_
  refine lv_bipush (v := (40 : Int32)) hx hb dX8_sees_7 (by decide) ?_
  obtain ⟨y1, hc, hf⟩ := bd_of hf
  refine g_cS C (ct_X8_in g l N x1 (1 : Int32) (40 : Int32) hc) gX8_sees_X8_in rfl 3 (by decide +kernel) ⟨rfl, rfl, ⟨Nat.le_of_ble_eq_true rfl, Nat.le_of_ble_eq_true rfl⟩, Nat.le_of_ble_eq_true rfl, Nat.le_of_ble_eq_true rfl⟩ rfl hl (Nat.le_of_ble_eq_true rfl) dX8_sees_9 rfl hW hA [] rfl rfl rfl (ch' := [kX8 g a0 (st v0 0 (fun _ => (0 : Int32)))]) rfl (fun H locs hW => ?_)
  refine lv_if_eq (tgt := 26) hx hb dX8_sees_12 (by decide) (fun h => ?_) (fun h => ?_)
  · replace hf := (if_pos h).symm.trans hf
    refine lv_iconst (v := (-1 : Int32)) hx hb dX8_sees_26 (by decide) ?_
    obtain rfl := Option.some.inj hf
    subst hQ
    exact g_iret C hr hk0 hW rfl rfl dX8_sees_27
  · replace hf := (if_neg h).symm.trans hf
    refine lv_iload_n hx hb dX8_sees_15 rfl (lv_at hl 2 rfl) ?_
    refine lv_iconst (v := (0 : Int32)) hx hb dX8_sees_16 (by decide) ?_
    refine lv_sipush (v := (9999 : Int32)) hx hb dX8_sees_17 (by decide) ?_
    obtain ⟨y2, hc, hf⟩ := bd_of hf
    refine g_cS C (ct_X8_in g l N x2 (0 : Int32) (9999 : Int32) hc) gX8_sees_X8_in rfl 3 (by decide +kernel) ⟨rfl, rfl, ⟨Nat.le_of_ble_eq_true rfl, Nat.le_of_ble_eq_true rfl⟩, Nat.le_of_ble_eq_true rfl, Nat.le_of_ble_eq_true rfl⟩ rfl hl (Nat.le_of_ble_eq_true rfl) dX8_sees_20 rfl hW hA [] rfl rfl rfl (ch' := [kX8 g a0 (st v0 0 (fun _ => (0 : Int32)))]) rfl (fun H locs hW => ?_)
    refine lv_if_ne (tgt := 28) hx hb dX8_sees_23 (by decide) (fun h => ?_) (fun h => ?_)
    · replace hf := (if_neg h).symm.trans hf
      refine lv_aload_n hx hb dX8_sees_28 rfl (lv_at hl 0 rfl) ?_
      refine g_get C hW inX8 0 rfl rfl rfl 22 (by decide) (List.mem_of_getElem? (i := 2) rfl) (v := .int (v0 22 0)) rfl dX8_sees_29 ?_
      refine lv_iconst (v := (4 : Int32)) hx hb dX8_sees_32 (by decide) ?_
      refine lv_icmp_ne (tgt := 39) hx hb dX8_sees_33 (by decide) (fun h => ?_) (fun h => ?_)
      · replace hf := (if_neg h).symm.trans hf
        refine lv_aload_n hx hb dX8_sees_39 rfl (lv_at hl 0 rfl) ?_
        refine g_get C hW inX8 0 rfl rfl rfl 23 (by decide) (List.mem_of_getElem? (i := 3) rfl) (v := .ref (a0 10)) rfl dX8_sees_40 ?_
        refine lv_aload_n hx hb dX8_sees_43 rfl (lv_at hl 0 rfl) ?_
        refine g_get C hW inX8 0 rfl rfl rfl 22 (by decide) (List.mem_of_getElem? (i := 2) rfl) (v := .int (v0 22 0)) rfl dX8_sees_44 ?_
        refine lv_iload_n hx hb dX8_sees_47 rfl (lv_at hl 1 rfl) ?_
        obtain ⟨hi, hf⟩ := gd_of hf
        refine g_iast C hW 0 10 rfl (f := (v0 23)) rfl (ib_in hi) (kX8_w23 g a0 (st v0 0 (fun _ => (0 : Int32))) (upd (v0 23) (Int32.toNatClampNeg (v0 22 0)) x1)) (ch' := [kX8 g a0 (st (st v0 0 (fun _ => (0 : Int32))) 23 (upd (v0 23) (Int32.toNatClampNeg (v0 22 0)) x1))]) rfl dX8_sees_48 (fun H locs hW => ?_)
        refine lv_aload_n hx hb dX8_sees_49 rfl (lv_at hl 0 rfl) ?_
        refine g_get C hW inX8 0 rfl rfl rfl 24 (by decide) (List.mem_of_getElem? (i := 4) rfl) (v := .ref (a0 11)) rfl dX8_sees_50 ?_
        refine lv_aload_n hx hb dX8_sees_53 rfl (lv_at hl 0 rfl) ?_
        refine g_get C hW inX8 0 rfl rfl rfl 22 (by decide) (List.mem_of_getElem? (i := 2) rfl) (v := .int (v0 22 0)) rfl dX8_sees_54 ?_
        refine lv_iload_n hx hb dX8_sees_57 rfl (lv_at hl 2 rfl) ?_
        obtain ⟨hi, hf⟩ := gd_of hf
        refine g_iast C hW 0 11 rfl (f := (v0 24)) rfl (ib_in hi) (kX8_w24 g a0 (st (st v0 0 (fun _ => (0 : Int32))) 23 (upd (v0 23) (Int32.toNatClampNeg (v0 22 0)) x1)) (upd (v0 24) (Int32.toNatClampNeg (v0 22 0)) x2)) (ch' := [kX8 g a0 (st (st (st v0 0 (fun _ => (0 : Int32))) 23 (upd (v0 23) (Int32.toNatClampNeg (v0 22 0)) x1)) 24 (upd (v0 24) (Int32.toNatClampNeg (v0 22 0)) x2))]) rfl dX8_sees_58 (fun H locs hW => ?_)
        refine lv_aload_n hx hb dX8_sees_59 rfl (lv_at hl 0 rfl) ?_
        refine lv_dup hx hb dX8_sees_60 rfl ?_
        refine g_get C hW inX8 0 rfl rfl rfl 22 (by decide) (List.mem_of_getElem? (i := 2) rfl) (v := .int (v0 22 0)) rfl dX8_sees_61 ?_
        refine lv_iconst (v := (1 : Int32)) hx hb dX8_sees_64 (by decide) ?_
        refine lv_iadd hx hb dX8_sees_65 ?_
        refine g_put C hW inX8 tyX8_ok nmX8 0 rfl rfl rfl 22 (by decide) (List.mem_of_getElem? (i := 2) rfl) rfl rfl rfl rfl (kX8_s22 g a0 (st (st (st v0 0 (fun _ => (0 : Int32))) 23 (upd (v0 23) (Int32.toNatClampNeg (v0 22 0)) x1)) 24 (upd (v0 24) (Int32.toNatClampNeg (v0 22 0)) x2)) ((v0 22 0) + (1 : Int32))) (ch' := [kX8 g a0 (st (st (st (st v0 0 (fun _ => (0 : Int32))) 23 (upd (v0 23) (Int32.toNatClampNeg (v0 22 0)) x1)) 24 (upd (v0 24) (Int32.toNatClampNeg (v0 22 0)) x2)) 22 (fun _ => ((v0 22 0) + (1 : Int32))))]) rfl dX8_sees_66 (fun H locs hW => ?_)
        refine lv_aload_n hx hb dX8_sees_69 rfl (lv_at hl 0 rfl) ?_
        refine g_get C hW inX8 0 rfl rfl rfl 22 (by decide) (List.mem_of_getElem? (i := 2) rfl) (v := .int ((v0 22 0) + (1 : Int32))) rfl dX8_sees_70 ?_
        obtain rfl := Option.some.inj hf
        subst hQ
        exact g_iret C hr hk0 hW rfl rfl dX8_sees_73
      · replace hf := (if_pos h).symm.trans hf
        refine lv_bipush (v := (-3 : Int32)) hx hb dX8_sees_36 (by decide) ?_
        obtain rfl := Option.some.inj hf
        subst hQ
        exact g_iret C hr hk0 hW rfl rfl dX8_sees_38
    · replace hf := (if_pos h).symm.trans hf
      refine lv_iconst (v := (-1 : Int32)) hx hb dX8_sees_26 (by decide) ?_
      obtain rfl := Option.some.inj hf
      subst hQ
      exact g_iret C hr hk0 hW rfl rfl dX8_sees_27
def fX8_forget (N : Nat) (v0 : MM) : Option (Int32 × MM) := some ((v0 22 0), (st (st v0 0 (fun _ => (0 : Int32))) 22 (fun _ => (0 : Int32))))
set_option maxHeartbeats 4000000 in
set_option maxRecDepth 100000 in
theorem ct_X8_forget (g : GT) (l : Launch) (N : Nat) (a0 : Nat → Nat) (v0 : MM) {y : Int32 × MM} (hf : fX8_forget N v0 = some y) : ct g l yX8_forget wsX8_forget (rmk 0 0) [.ref (a0 0)] [kX8 g a0 v0] (some (.int y.1)) [kX8 g a0 y.2] := by
  refine ct_of (cc := cX8_forget) (maxL := 2) (ret := (some .int)) (by decide) rfl (Nat.le_of_ble_eq_true rfl) ?_
  intro p e s m args below meth c A ls C hr hk0 hA hW hl
  have hx := C.1.1
  have hb := C.1.2.1
  replace hl : lv_has ls 2 [(0, .ref (a0 0))] := hl
  obtain ⟨Q, hQ⟩ : ∃ Q, Q = MQ below (ctQ g A (some (.int y.1)) [kX8 g a0 y.2]) args s 0 0 A := ⟨_, rfl⟩
  rw [← hQ]
  obtain ⟨H, hH⟩ : ∃ H, H = s.heap := ⟨_, rfl⟩
  obtain ⟨locs, hL⟩ : ∃ locs : List Loc, locs = [] := ⟨_, rfl⟩
  replace hW : wd g A s.heap [kX8 g a0 v0] H locs := by rw [hH, hL]; exact hW
  suffices hG : W p l e (rmk 0 0) s m args below meth c H locs 0 0 Q (F0 m 0 ls []) by
    rw [hH, hL] at hG; exact hG
  clear hH hL
  have inX8 : ∀ w ∈ wsX80, w ∈ wsX8_forget := fun _ h => List.mem_cons_of_mem _ (List.mem_append_right _ (h))
  rw [fX8_forget] at hf
  refine lv_aload_n hx hb dX8_forget_0 rfl (lv_at hl 0 rfl) ?_
  refine lv_iconst (v := (0 : Int32)) hx hb dX8_forget_1 (by decide) ?_
  refine g_put C hW inX8 tyX8_ok nmX8 0 rfl rfl rfl 0 (by decide) (List.mem_of_getElem? (i := 1) rfl) rfl rfl rfl rfl (kX8_s0 g a0 v0 (0 : Int32)) (ch' := [kX8 g a0 (st v0 0 (fun _ => (0 : Int32)))]) rfl dX8_forget_2 (fun H locs hW => ?_)
  refine lv_aload_n hx hb dX8_forget_5 rfl (lv_at hl 0 rfl) ?_
  refine g_get C hW inX8 0 rfl rfl rfl 22 (by decide) (List.mem_of_getElem? (i := 2) rfl) (v := .int (v0 22 0)) rfl dX8_forget_6 ?_
  refine lv_istore_n (lv' := [(1, .int (v0 22 0)), (0, .ref (a0 0))]) hx hb dX8_forget_9 rfl hl (by decide) rfl (fun ls hl => ?_)
  refine lv_aload_n hx hb dX8_forget_10 rfl (lv_at hl 1 rfl) ?_
  refine lv_iconst (v := (0 : Int32)) hx hb dX8_forget_11 (by decide) ?_
  refine g_put C hW inX8 tyX8_ok nmX8 0 rfl rfl rfl 22 (by decide) (List.mem_of_getElem? (i := 2) rfl) rfl rfl rfl rfl (kX8_s22 g a0 (st v0 0 (fun _ => (0 : Int32))) (0 : Int32)) (ch' := [kX8 g a0 (st (st v0 0 (fun _ => (0 : Int32))) 22 (fun _ => (0 : Int32)))]) rfl dX8_forget_12 (fun H locs hW => ?_)
  refine lv_iload_n hx hb dX8_forget_15 rfl (lv_at hl 0 rfl) ?_
  obtain rfl := Option.some.inj hf
  subst hQ
  exact g_iret C hr hk0 hW rfl rfl dX8_forget_16
def fX8_isSo_L48 (N : Nat) (k : Int32 → MM → Option (Int32 × MM)) (x1 : Int32) (x2 : Int32) : Nat → Int32 → MM → Option (Int32 × MM)
  | 0, _, _ => none
  | n + 1, x3, v0 => (if ib x2 4 = true then (if ((v0 23) (Int32.toNatClampNeg x2)) ≤ x3 then k x3 v0 else ((fX8_step N v0).bind (fun y3 => fX8_isSo_L48 N k x1 x2 n (x3 + 1) y3))) else none)
def fX8_isSo (N : Nat) (x1 : Int32) (x2 : Int32) (v0 : MM) : Option (Int32 × MM) := ((fX8_copies N (0 : Int32) (0 : Int32) 667 667 (v0 16) (v0 21)).bind (fun y1 => (if ib (0 : Int32) 667 = true then (if ib (0 : Int32) 667 = true then (if ib x2 4 = true then ((fX8_deafen N x1 ((v0 16) (Int32.toNatClampNeg (0 : Int32))) ((((v0 16) (Int32.toNatClampNeg (0 : Int32))) + ((v0 23) (Int32.toNatClampNeg x2))) - (1 : Int32)) (st v0 21 y1)).bind (fun y2 => (fX8_isSo_L48 N (fun (x3_4 : Int32) (v0_4 : MM) => ((fX8_copies N (0 : Int32) (0 : Int32) 667 667 (v0_4 21) (v0_4 16)).bind (fun y5 => (if ib x2 4 = true then (if (v0_4 31 0) = ((v0_4 24) (Int32.toNatClampNeg x2)) then some ((1 : Int32), (st v0_4 16 y5)) else some ((0 : Int32), (st v0_4 16 y5))) else none)))) x1 x2 N (0 : Int32) (st y2.2 31 (fun _ => (0 : Int32)))))) else none) else none) else none)))
set_option maxHeartbeats 4000000 in
set_option maxRecDepth 100000 in
theorem ct_X8_isSo (g : GT) (l : Launch) (N : Nat) (a0 : Nat → Nat) (x1 : Int32) (x2 : Int32) (v0 : MM) {y : Int32 × MM} (hf : fX8_isSo N x1 x2 v0 = some y) : ct g l yX8_isSo wsX8_isSo (rmk 6 148) [.ref (a0 0), .int x1, .int x2] [kX8 g a0 v0] (some (.int y.1)) [kX8 g a0 y.2] := by
  refine ct_of (cc := cX8_isSo) (maxL := 4) (ret := (some .boolean)) (by decide) rfl (Nat.le_of_ble_eq_true rfl) ?_
  intro p e s m args below meth c A ls C hr hk0 hA hW hl
  have hx := C.1.1
  have hb := C.1.2.1
  replace hl : lv_has ls 4 [(0, .ref (a0 0)), (1, .int x1), (2, .int x2)] := hl
  obtain ⟨Q, hQ⟩ : ∃ Q, Q = MQ below (ctQ g A (some (.int y.1)) [kX8 g a0 y.2]) args s 0 0 A := ⟨_, rfl⟩
  rw [← hQ]
  obtain ⟨H, hH⟩ : ∃ H, H = s.heap := ⟨_, rfl⟩
  obtain ⟨locs, hL⟩ : ∃ locs : List Loc, locs = [] := ⟨_, rfl⟩
  replace hW : wd g A s.heap [kX8 g a0 v0] H locs := by rw [hH, hL]; exact hW
  suffices hG : W p l e (rmk 6 148) s m args below meth c H locs 0 0 Q (F0 m 0 ls []) by
    rw [hH, hL] at hG; exact hG
  clear hH hL
  have inX8 : ∀ w ∈ wsX80, w ∈ wsX8_isSo := fun _ h => List.mem_cons_of_mem _ (List.mem_append_right _ (h))
  have L48 : ∀ (x1 : Int32) (x2 : Int32) (k : Int32 → MM → Option (Int32 × MM)) (hk : ∀ (x3 : Int32) (v0 : MM) (H : Heap) (locs : List Loc) (ls : Array Slot), k x3 v0 = some y → wd g A s.heap [kX8 g a0 v0] H locs → lv_has ls 4 [(0, .ref (a0 0)), (1, .int x1), (2, .int x2), (3, .int x3)] → W p l e (rmk 6 148) s m args below meth c H locs 0 0 Q (F0 m 68 ls [])) (n : Nat) (x3 : Int32) (v0 : MM) (H : Heap) (locs : List Loc) (ls : Array Slot), fX8_isSo_L48 N k x1 x2 n x3 v0 = some y → wd g A s.heap [kX8 g a0 v0] H locs → lv_has ls 4 [(0, .ref (a0 0)), (1, .int x1), (2, .int x2), (3, .int x3)] → W p l e (rmk 6 148) s m args below meth c H locs 0 0 Q (F0 m 48 ls []) := by
    intro x1 x2 k hk n
    induction n with
    | zero => intro x3 v0 H locs ls hf; rw [fX8_isSo_L48] at hf; cases hf
    | succ n ih =>
      intro x3 v0 H locs ls hf hW hl
      rw [fX8_isSo_L48] at hf
      refine lv_iload_n hx hb dX8_isSo_48 rfl (lv_at hl 3 rfl) ?_
      refine lv_aload_n hx hb dX8_isSo_49 rfl (lv_at hl 0 rfl) ?_
      refine g_get C hW inX8 0 rfl rfl rfl 23 (by decide) (List.mem_of_getElem? (i := 3) rfl) (v := .ref (a0 10)) rfl dX8_isSo_50 ?_
      refine lv_iload_n hx hb dX8_isSo_53 rfl (lv_at hl 2 rfl) ?_
      obtain ⟨hi, hf⟩ := gd_of hf
      refine g_iald C hW 0 10 rfl (f := (v0 23)) rfl (ib_in hi) dX8_isSo_54 ?_
      refine lv_icmp_ge (tgt := 68) hx hb dX8_isSo_55 (by decide) (fun h => ?_) (fun h => ?_)
      · replace hf := (if_pos h).symm.trans hf
        exact hk _ _ H locs ls hf hW (lv_sub hl [0, 1, 2, 3] rfl)
      · replace hf := (if_neg h).symm.trans hf
        refine lv_aload_n hx hb dX8_isSo_58 rfl (lv_at hl 0 rfl) ?_
        obtain ⟨y3, hc, hf⟩ := bd_of hf
        refine g_cVv (Cn := RX8) C (ct_X8_step g l N a0 v0 hc) gX8_isSo_X8_step rfl 0 (by decide +kernel) ⟨rfl, rfl, ⟨Nat.le_of_ble_eq_true rfl, Nat.le_of_ble_eq_true rfl⟩, Nat.le_of_ble_eq_true rfl, Nat.le_of_ble_eq_true rfl⟩ rfl hl (Nat.le_of_ble_eq_true rfl) dX8_isSo_59 rfl hW hA [0] rfl rfl rfl (ch' := [kX8 g a0 y3]) rfl 0 rfl rfl rfl (fun H locs hW => ?_)
        refine lv_iinc (v := (x3 + 1)) (lv' := [(3, .int (x3 + 1)), (0, .ref (a0 0)), (1, .int x1), (2, .int x2)]) hx hb dX8_isSo_62 hl (k := 3) rfl (by first | rfl | decide) (by decide) rfl (fun ls hl => ?_)
        refine lv_goto (tgt := 48) hx hb dX8_isSo_65 (by decide) ?_
        exact ih _ _ H locs ls hf hW (lv_sub hl [1, 2, 3, 0] rfl)
  rw [fX8_isSo] at hf
  refine lv_aload_n hx hb dX8_isSo_0 rfl (lv_at hl 0 rfl) ?_
  refine lv_aload_n hx hb dX8_isSo_1 rfl (lv_at hl 0 rfl) ?_
  refine g_get C hW inX8 0 rfl rfl rfl 16 (by decide) (List.mem_of_getElem? (i := 1) rfl) (v := .ref (a0 5)) rfl dX8_isSo_2 ?_
  refine lv_aload_n hx hb dX8_isSo_5 rfl (lv_at hl 0 rfl) ?_
  refine g_get C hW inX8 0 rfl rfl rfl 21 (by decide) (List.mem_of_getElem? (i := 2) rfl) (v := .ref (a0 9)) rfl dX8_isSo_6 ?_
  refine lv_iconst (v := (0 : Int32)) hx hb dX8_isSo_9 (by decide) ?_
  refine lv_iconst (v := (0 : Int32)) hx hb dX8_isSo_10 (by decide) ?_
  obtain ⟨y1, hc, hf⟩ := bd_of hf
  replace hW := hW.re (ch' := [(kX8 g a0 v0).take 5, [(a0 5, .inl (g.2.1, 667, .inl (v0 16)))], ((kX8 g a0 v0).drop 6 |>.take 3), [(a0 9, .inl (g.2.1, 667, .inl (v0 21)))], (kX8 g a0 v0).drop 10]) rfl
  refine g_cVv (Cn := RX8) C (ct_X8_copies g l N (a0 5) (a0 9) (a0 0) (0 : Int32) (0 : Int32) 667 667 (v0 16) (v0 21) hc) gX8_isSo_X8_copies rfl 4 (by decide +kernel) ⟨rfl, rfl, ⟨Nat.le_of_ble_eq_true rfl, Nat.le_of_ble_eq_true rfl⟩, Nat.le_of_ble_eq_true rfl, Nat.le_of_ble_eq_true rfl⟩ rfl hl (Nat.le_of_ble_eq_true rfl) dX8_isSo_11 rfl hW hA [1, 3] rfl rfl rfl (ch' := [(kX8 g a0 v0).take 5, [(a0 5, .inl (g.2.1, 667, .inl (v0 16)))], ((kX8 g a0 v0).drop 6 |>.take 3), [(a0 9, .inl (g.2.1, 667, .inl y1))], (kX8 g a0 v0).drop 10]) rfl 0 rfl rfl rfl (fun H locs hW => ?_)
  replace hW := hW.re (ch' := [kX8 g a0 (st v0 21 y1)]) rfl
  refine lv_aload_n hx hb dX8_isSo_14 rfl (lv_at hl 0 rfl) ?_
  refine lv_iload_n hx hb dX8_isSo_15 rfl (lv_at hl 1 rfl) ?_
  refine lv_aload_n hx hb dX8_isSo_16 rfl (lv_at hl 0 rfl) ?_
  refine g_get C hW inX8 0 rfl rfl rfl 16 (by decide) (List.mem_of_getElem? (i := 1) rfl) (v := .ref (a0 5)) rfl dX8_isSo_17 ?_
  refine lv_iconst (v := (0 : Int32)) hx hb dX8_isSo_20 (by decide) ?_
  obtain ⟨hi, hf⟩ := gd_of hf
  refine g_iald C hW 0 5 rfl (f := (v0 16)) rfl (ib_in hi) dX8_isSo_21 ?_
  refine lv_aload_n hx hb dX8_isSo_22 rfl (lv_at hl 0 rfl) ?_
  refine g_get C hW inX8 0 rfl rfl rfl 16 (by decide) (List.mem_of_getElem? (i := 1) rfl) (v := .ref (a0 5)) rfl dX8_isSo_23 ?_
  refine lv_iconst (v := (0 : Int32)) hx hb dX8_isSo_26 (by decide) ?_
  obtain ⟨hi, hf⟩ := gd_of hf
  refine g_iald C hW 0 5 rfl (f := (v0 16)) rfl (ib_in hi) dX8_isSo_27 ?_
  refine lv_aload_n hx hb dX8_isSo_28 rfl (lv_at hl 0 rfl) ?_
  refine g_get C hW inX8 0 rfl rfl rfl 23 (by decide) (List.mem_of_getElem? (i := 3) rfl) (v := .ref (a0 10)) rfl dX8_isSo_29 ?_
  refine lv_iload_n hx hb dX8_isSo_32 rfl (lv_at hl 2 rfl) ?_
  obtain ⟨hi, hf⟩ := gd_of hf
  refine g_iald C hW 0 10 rfl (f := (v0 23)) rfl (ib_in hi) dX8_isSo_33 ?_
  refine lv_iadd hx hb dX8_isSo_34 ?_
  refine lv_iconst (v := (1 : Int32)) hx hb dX8_isSo_35 (by decide) ?_
  refine lv_isub hx hb dX8_isSo_36 ?_
  obtain ⟨y2, hc, hf⟩ := bd_of hf
  refine g_cV (Cn := RX8) C (ct_X8_deafen g l N a0 x1 ((v0 16) (Int32.toNatClampNeg (0 : Int32))) ((((v0 16) (Int32.toNatClampNeg (0 : Int32))) + ((v0 23) (Int32.toNatClampNeg x2))) - (1 : Int32)) (st v0 21 y1) hc) gX8_isSo_X8_deafen rfl 3 (by decide +kernel) ⟨rfl, rfl, ⟨Nat.le_of_ble_eq_true rfl, Nat.le_of_ble_eq_true rfl⟩, Nat.le_of_ble_eq_true rfl, Nat.le_of_ble_eq_true rfl⟩ rfl hl (Nat.le_of_ble_eq_true rfl) dX8_isSo_37 rfl hW hA [0] rfl rfl rfl (ch' := [kX8 g a0 y2.2]) rfl 0 rfl rfl rfl (fun H locs hW => ?_)
  refine lv_pop hx hb dX8_isSo_40 rfl ?_
  refine lv_aload_n hx hb dX8_isSo_41 rfl (lv_at hl 0 rfl) ?_
  refine lv_iconst (v := (0 : Int32)) hx hb dX8_isSo_42 (by decide) ?_
  refine g_put C hW inX8 tyX8_ok nmX8 0 rfl rfl rfl 31 (by decide) (List.mem_of_getElem? (i := 4) rfl) rfl rfl rfl rfl (kX8_s31 g a0 y2.2 (0 : Int32)) (ch' := [kX8 g a0 (st y2.2 31 (fun _ => (0 : Int32)))]) rfl dX8_isSo_43 (fun H locs hW => ?_)
  refine lv_iconst (v := (0 : Int32)) hx hb dX8_isSo_46 (by decide) ?_
  refine lv_istore_n (lv' := [(3, .int (0 : Int32)), (0, .ref (a0 0)), (1, .int x1), (2, .int x2)]) hx hb dX8_isSo_47 rfl hl (by decide) rfl (fun ls hl => ?_)
  refine L48 x1 x2 _ (fun x3_4 v0_4 H locs ls hf hW hl => ?_) N (0 : Int32) (st y2.2 31 (fun _ => (0 : Int32))) H locs ls hf hW (lv_sub hl [1, 2, 3, 0] rfl)
  refine lv_aload_n hx hb dX8_isSo_68 rfl (lv_at hl 0 rfl) ?_
  refine lv_aload_n hx hb dX8_isSo_69 rfl (lv_at hl 0 rfl) ?_
  refine g_get C hW inX8 0 rfl rfl rfl 21 (by decide) (List.mem_of_getElem? (i := 2) rfl) (v := .ref (a0 9)) rfl dX8_isSo_70 ?_
  refine lv_aload_n hx hb dX8_isSo_73 rfl (lv_at hl 0 rfl) ?_
  refine g_get C hW inX8 0 rfl rfl rfl 16 (by decide) (List.mem_of_getElem? (i := 1) rfl) (v := .ref (a0 5)) rfl dX8_isSo_74 ?_
  refine lv_iconst (v := (0 : Int32)) hx hb dX8_isSo_77 (by decide) ?_
  refine lv_iconst (v := (0 : Int32)) hx hb dX8_isSo_78 (by decide) ?_
  obtain ⟨y5, hc, hf⟩ := bd_of hf
  replace hW := hW.re (ch' := [(kX8 g a0 v0_4).take 5, [(a0 5, .inl (g.2.1, 667, .inl (v0_4 16)))], ((kX8 g a0 v0_4).drop 6 |>.take 3), [(a0 9, .inl (g.2.1, 667, .inl (v0_4 21)))], (kX8 g a0 v0_4).drop 10]) rfl
  refine g_cVv (Cn := RX8) C (ct_X8_copies g l N (a0 9) (a0 5) (a0 0) (0 : Int32) (0 : Int32) 667 667 (v0_4 21) (v0_4 16) hc) gX8_isSo_X8_copies rfl 4 (by decide +kernel) ⟨rfl, rfl, ⟨Nat.le_of_ble_eq_true rfl, Nat.le_of_ble_eq_true rfl⟩, Nat.le_of_ble_eq_true rfl, Nat.le_of_ble_eq_true rfl⟩ rfl hl (Nat.le_of_ble_eq_true rfl) dX8_isSo_79 rfl hW hA [3, 1] rfl rfl rfl (ch' := [(kX8 g a0 v0_4).take 5, [(a0 5, .inl (g.2.1, 667, .inl y5))], ((kX8 g a0 v0_4).drop 6 |>.take 3), [(a0 9, .inl (g.2.1, 667, .inl (v0_4 21)))], (kX8 g a0 v0_4).drop 10]) rfl 0 rfl rfl rfl (fun H locs hW => ?_)
  replace hW := hW.re (ch' := [kX8 g a0 (st v0_4 16 y5)]) rfl
  refine lv_aload_n hx hb dX8_isSo_82 rfl (lv_at hl 0 rfl) ?_
  refine g_get C hW inX8 0 rfl rfl rfl 31 (by decide) (List.mem_of_getElem? (i := 4) rfl) (v := .int (v0_4 31 0)) rfl dX8_isSo_83 ?_
  refine lv_aload_n hx hb dX8_isSo_86 rfl (lv_at hl 0 rfl) ?_
  refine g_get C hW inX8 0 rfl rfl rfl 24 (by decide) (List.mem_of_getElem? (i := 5) rfl) (v := .ref (a0 11)) rfl dX8_isSo_87 ?_
  refine lv_iload_n hx hb dX8_isSo_90 rfl (lv_at hl 2 rfl) ?_
  obtain ⟨hi, hf⟩ := gd_of hf
  refine g_iald C hW 0 11 rfl (f := (v0_4 24)) rfl (ib_in hi) dX8_isSo_91 ?_
  refine lv_icmp_ne (tgt := 99) hx hb dX8_isSo_92 (by decide) (fun h => ?_) (fun h => ?_)
  · replace hf := (if_neg h).symm.trans hf
    refine lv_iconst (v := (0 : Int32)) hx hb dX8_isSo_99 (by decide) ?_
    obtain rfl := Option.some.inj hf
    subst hQ
    exact g_zret C hr hk0 hW rfl rfl rfl dX8_isSo_100
  · replace hf := (if_pos h).symm.trans hf
    refine lv_iconst (v := (1 : Int32)) hx hb dX8_isSo_95 (by decide) ?_
    refine lv_goto (tgt := 100) hx hb dX8_isSo_96 (by decide) ?_
    obtain rfl := Option.some.inj hf
    subst hQ
    exact g_zret C hr hk0 hW rfl rfl rfl dX8_isSo_100
def fX8_unseen_L22 (N : Nat) (k : Int32 → Int32 → MM → Option (Int32 × MM)) (x1 : Int32) (x2 : Int32) : Nat → Int32 → Int32 → MM → Option (Int32 × MM)
  | 0, _, _, _ => none
  | n + 1, x3, x4, v0 => (if (v0 22 0) ≤ x4 then k x3 x4 v0 else (if x3 = 0 then k x3 x4 v0 else ((fX8_isSo N x2 x4 v0).bind (fun y1 => fX8_unseen_L22 N k x1 x2 n y1.1 (x4 + 1) y1.2))))
def fX8_unseen_L9 (N : Nat) (k : Int32 → Int32 → MM → Option (Int32 × MM)) : Nat → Int32 → Int32 → MM → Option (Int32 × MM)
  | 0, _, _, _ => none
  | n + 1, x1, x2, v0 => (if (v0 1 0) ≤ x2 then k x1 x2 v0 else (fX8_unseen_L22 N (fun (x3_2 : Int32) (x4_2 : Int32) (v0_2 : MM) => (if x3_2 = 0 then fX8_unseen_L9 N k n (x1 ||| (0 : Int32)) (x2 + 1) v0_2 else fX8_unseen_L9 N k n (x1 ||| ((1 : Int32) <<< (x2 &&& 31))) (x2 + 1) v0_2)) x1 x2 N (1 : Int32) (0 : Int32) v0))
def fX8_unseen (N : Nat) (v0 : MM) : Option (Int32 × MM) := (fX8_unseen_L9 N (fun (x1_3 : Int32) (x2_3 : Int32) (v0_3 : MM) => some (x1_3, v0_3)) N (0 : Int32) (0 : Int32) (st v0 0 (fun _ => (0 : Int32))))
set_option maxHeartbeats 4000000 in
set_option maxRecDepth 100000 in
theorem ct_X8_unseen (g : GT) (l : Launch) (N : Nat) (a0 : Nat → Nat) (v0 : MM) {y : Int32 × MM} (hf : fX8_unseen N v0 = some y) : ct g l yX8_unseen wsX8_unseen (rmk 7 171) [.ref (a0 0)] [kX8 g a0 v0] (some (.int y.1)) [kX8 g a0 y.2] := by
  refine ct_of (cc := cX8_unseen) (maxL := 5) (ret := (some .int)) (by decide) rfl (Nat.le_of_ble_eq_true rfl) ?_
  intro p e s m args below meth c A ls C hr hk0 hA hW hl
  have hx := C.1.1
  have hb := C.1.2.1
  replace hl : lv_has ls 5 [(0, .ref (a0 0))] := hl
  obtain ⟨Q, hQ⟩ : ∃ Q, Q = MQ below (ctQ g A (some (.int y.1)) [kX8 g a0 y.2]) args s 0 0 A := ⟨_, rfl⟩
  rw [← hQ]
  obtain ⟨H, hH⟩ : ∃ H, H = s.heap := ⟨_, rfl⟩
  obtain ⟨locs, hL⟩ : ∃ locs : List Loc, locs = [] := ⟨_, rfl⟩
  replace hW : wd g A s.heap [kX8 g a0 v0] H locs := by rw [hH, hL]; exact hW
  suffices hG : W p l e (rmk 7 171) s m args below meth c H locs 0 0 Q (F0 m 0 ls []) by
    rw [hH, hL] at hG; exact hG
  clear hH hL
  have inX8 : ∀ w ∈ wsX80, w ∈ wsX8_unseen := fun _ h => List.mem_cons_of_mem _ (List.mem_append_right _ (h))
  have L22 : ∀ (x1 : Int32) (x2 : Int32) (k : Int32 → Int32 → MM → Option (Int32 × MM)) (hk : ∀ (x3 : Int32) (x4 : Int32) (v0 : MM) (H : Heap) (locs : List Loc) (ls : Array Slot), k x3 x4 v0 = some y → wd g A s.heap [kX8 g a0 v0] H locs → lv_has ls 5 [(0, .ref (a0 0)), (1, .int x1), (2, .int x2), (3, .int x3), (4, .int x4)] → W p l e (rmk 7 171) s m args below meth c H locs 0 0 Q (F0 m 49 ls [])) (n : Nat) (x3 : Int32) (x4 : Int32) (v0 : MM) (H : Heap) (locs : List Loc) (ls : Array Slot), fX8_unseen_L22 N k x1 x2 n x3 x4 v0 = some y → wd g A s.heap [kX8 g a0 v0] H locs → lv_has ls 5 [(0, .ref (a0 0)), (1, .int x1), (2, .int x2), (3, .int x3), (4, .int x4)] → W p l e (rmk 7 171) s m args below meth c H locs 0 0 Q (F0 m 22 ls []) := by
    intro x1 x2 k hk n
    induction n with
    | zero => intro x3 x4 v0 H locs ls hf; rw [fX8_unseen_L22] at hf; cases hf
    | succ n ih =>
      intro x3 x4 v0 H locs ls hf hW hl
      rw [fX8_unseen_L22] at hf
      refine lv_iload hx hb dX8_unseen_22 (lv_at hl 4 rfl) ?_
      refine lv_aload_n hx hb dX8_unseen_24 rfl (lv_at hl 0 rfl) ?_
      refine g_get C hW inX8 0 rfl rfl rfl 22 (by decide) (List.mem_of_getElem? (i := 3) rfl) (v := .int (v0 22 0)) rfl dX8_unseen_25 ?_
      refine lv_icmp_ge (tgt := 49) hx hb dX8_unseen_28 (by decide) (fun h => ?_) (fun h => ?_)
      · replace hf := (if_pos h).symm.trans hf
        exact hk _ _ _ H locs ls hf hW (lv_sub hl [0, 1, 2, 3, 4] rfl)
      · replace hf := (if_neg h).symm.trans hf
        refine lv_iload_n hx hb dX8_unseen_31 rfl (lv_at hl 3 rfl) ?_
        refine lv_if_eq (tgt := 49) hx hb dX8_unseen_32 (by decide) (fun h => ?_) (fun h => ?_)
        · replace hf := (if_pos h).symm.trans hf
          exact hk _ _ _ H locs ls hf hW (lv_sub hl [0, 1, 2, 3, 4] rfl)
        · replace hf := (if_neg h).symm.trans hf
          refine lv_aload_n hx hb dX8_unseen_35 rfl (lv_at hl 0 rfl) ?_
          refine lv_iload_n hx hb dX8_unseen_36 rfl (lv_at hl 2 rfl) ?_
          refine lv_iload hx hb dX8_unseen_37 (lv_at hl 4 rfl) ?_
          obtain ⟨y1, hc, hf⟩ := bd_of hf
          refine g_cV (Cn := RX8) C (ct_X8_isSo g l N a0 x2 x4 v0 hc) gX8_unseen_X8_isSo rfl 2 (by decide +kernel) ⟨rfl, rfl, ⟨Nat.le_of_ble_eq_true rfl, Nat.le_of_ble_eq_true rfl⟩, Nat.le_of_ble_eq_true rfl, Nat.le_of_ble_eq_true rfl⟩ rfl hl (Nat.le_of_ble_eq_true rfl) dX8_unseen_39 rfl hW hA [0] rfl rfl rfl (ch' := [kX8 g a0 y1.2]) rfl 0 rfl rfl rfl (fun H locs hW => ?_)
          refine lv_istore_n (lv' := [(3, .int y1.1), (0, .ref (a0 0)), (1, .int x1), (2, .int x2), (4, .int x4)]) hx hb dX8_unseen_42 rfl hl (by decide) rfl (fun ls hl => ?_)
          refine lv_iinc (v := (x4 + 1)) (lv' := [(4, .int (x4 + 1)), (3, .int y1.1), (0, .ref (a0 0)), (1, .int x1), (2, .int x2)]) hx hb dX8_unseen_43 hl (k := 4) rfl (by first | rfl | decide) (by decide) rfl (fun ls hl => ?_)
          refine lv_goto (tgt := 22) hx hb dX8_unseen_46 (by decide) ?_
          exact ih _ _ _ H locs ls hf hW (lv_sub hl [2, 3, 4, 1, 0] rfl)
  have L9 : ∀ (k : Int32 → Int32 → MM → Option (Int32 × MM)) (hk : ∀ (x1 : Int32) (x2 : Int32) (v0 : MM) (H : Heap) (locs : List Loc) (ls : Array Slot), k x1 x2 v0 = some y → wd g A s.heap [kX8 g a0 v0] H locs → lv_has ls 5 [(0, .ref (a0 0)), (1, .int x1), (2, .int x2)] → W p l e (rmk 7 171) s m args below meth c H locs 0 0 Q (F0 m 69 ls [])) (n : Nat) (x1 : Int32) (x2 : Int32) (v0 : MM) (H : Heap) (locs : List Loc) (ls : Array Slot), fX8_unseen_L9 N k n x1 x2 v0 = some y → wd g A s.heap [kX8 g a0 v0] H locs → lv_has ls 5 [(0, .ref (a0 0)), (1, .int x1), (2, .int x2)] → W p l e (rmk 7 171) s m args below meth c H locs 0 0 Q (F0 m 9 ls []) := by
    intro k hk n
    induction n with
    | zero => intro x1 x2 v0 H locs ls hf; rw [fX8_unseen_L9] at hf; cases hf
    | succ n ih =>
      intro x1 x2 v0 H locs ls hf hW hl
      rw [fX8_unseen_L9] at hf
      refine lv_iload_n hx hb dX8_unseen_9 rfl (lv_at hl 2 rfl) ?_
      refine lv_aload_n hx hb dX8_unseen_10 rfl (lv_at hl 0 rfl) ?_
      refine g_get C hW inX8 0 rfl rfl rfl 1 (by decide) (List.mem_of_getElem? (i := 2) rfl) (v := .int (v0 1 0)) rfl dX8_unseen_11 ?_
      refine lv_icmp_ge (tgt := 69) hx hb dX8_unseen_14 (by decide) (fun h => ?_) (fun h => ?_)
      · replace hf := (if_pos h).symm.trans hf
        exact hk _ _ _ H locs ls hf hW (lv_sub hl [0, 1, 2] rfl)
      · replace hf := (if_neg h).symm.trans hf
        refine lv_iconst (v := (1 : Int32)) hx hb dX8_unseen_17 (by decide) ?_
        refine lv_istore_n (lv' := [(3, .int (1 : Int32)), (0, .ref (a0 0)), (1, .int x1), (2, .int x2)]) hx hb dX8_unseen_18 rfl hl (by decide) rfl (fun ls hl => ?_)
        refine lv_iconst (v := (0 : Int32)) hx hb dX8_unseen_19 (by decide) ?_
        refine lv_istore (lv' := [(4, .int (0 : Int32)), (3, .int (1 : Int32)), (0, .ref (a0 0)), (1, .int x1), (2, .int x2)]) hx hb dX8_unseen_20 hl (by decide) rfl (fun ls hl => ?_)
        refine L22 x1 x2 _ (fun x3_2 x4_2 v0_2 H locs ls hf hW hl => ?_) N (1 : Int32) (0 : Int32) v0 H locs ls hf hW (lv_sub hl [2, 3, 4, 1, 0] rfl)
        refine lv_iload_n hx hb dX8_unseen_49 rfl (lv_at hl 1 rfl) ?_
        refine lv_iload_n hx hb dX8_unseen_50 rfl (lv_at hl 3 rfl) ?_
        refine lv_if_eq (tgt := 60) hx hb dX8_unseen_51 (by decide) (fun h => ?_) (fun h => ?_)
        · replace hf := (if_pos h).symm.trans hf
          refine lv_iconst (v := (0 : Int32)) hx hb dX8_unseen_60 (by decide) ?_
          refine lv_ior hx hb dX8_unseen_61 ?_
          refine lv_istore_n (lv' := [(1, .int (x1 ||| (0 : Int32))), (0, .ref (a0 0)), (2, .int x2), (3, .int x3_2), (4, .int x4_2)]) hx hb dX8_unseen_62 rfl hl (by decide) rfl (fun ls hl => ?_)
          refine lv_iinc (v := (x2 + 1)) (lv' := [(2, .int (x2 + 1)), (1, .int (x1 ||| (0 : Int32))), (0, .ref (a0 0)), (3, .int x3_2), (4, .int x4_2)]) hx hb dX8_unseen_63 hl (k := 2) rfl (by first | rfl | decide) (by decide) rfl (fun ls hl => ?_)
          refine lv_goto (tgt := 9) hx hb dX8_unseen_66 (by decide) ?_
          exact ih _ _ _ H locs ls hf hW (lv_sub hl [2, 1, 0] rfl)
        · replace hf := (if_neg h).symm.trans hf
          refine lv_iconst (v := (1 : Int32)) hx hb dX8_unseen_54 (by decide) ?_
          refine lv_iload_n hx hb dX8_unseen_55 rfl (lv_at hl 2 rfl) ?_
          refine lv_ishl hx hb dX8_unseen_56 ?_
          refine lv_goto (tgt := 61) hx hb dX8_unseen_57 (by decide) ?_
          refine lv_ior hx hb dX8_unseen_61 ?_
          refine lv_istore_n (lv' := [(1, .int (x1 ||| ((1 : Int32) <<< (x2 &&& 31)))), (0, .ref (a0 0)), (2, .int x2), (3, .int x3_2), (4, .int x4_2)]) hx hb dX8_unseen_62 rfl hl (by decide) rfl (fun ls hl => ?_)
          refine lv_iinc (v := (x2 + 1)) (lv' := [(2, .int (x2 + 1)), (1, .int (x1 ||| ((1 : Int32) <<< (x2 &&& 31)))), (0, .ref (a0 0)), (3, .int x3_2), (4, .int x4_2)]) hx hb dX8_unseen_63 hl (k := 2) rfl (by first | rfl | decide) (by decide) rfl (fun ls hl => ?_)
          refine lv_goto (tgt := 9) hx hb dX8_unseen_66 (by decide) ?_
          exact ih _ _ _ H locs ls hf hW (lv_sub hl [2, 1, 0] rfl)
  rw [fX8_unseen] at hf
  refine lv_aload_n hx hb dX8_unseen_0 rfl (lv_at hl 0 rfl) ?_
  refine lv_iconst (v := (0 : Int32)) hx hb dX8_unseen_1 (by decide) ?_
  refine g_put C hW inX8 tyX8_ok nmX8 0 rfl rfl rfl 0 (by decide) (List.mem_of_getElem? (i := 1) rfl) rfl rfl rfl rfl (kX8_s0 g a0 v0 (0 : Int32)) (ch' := [kX8 g a0 (st v0 0 (fun _ => (0 : Int32)))]) rfl dX8_unseen_2 (fun H locs hW => ?_)
  refine lv_iconst (v := (0 : Int32)) hx hb dX8_unseen_5 (by decide) ?_
  refine lv_istore_n (lv' := [(1, .int (0 : Int32)), (0, .ref (a0 0))]) hx hb dX8_unseen_6 rfl hl (by decide) rfl (fun ls hl => ?_)
  refine lv_iconst (v := (0 : Int32)) hx hb dX8_unseen_7 (by decide) ?_
  refine lv_istore_n (lv' := [(2, .int (0 : Int32)), (1, .int (0 : Int32)), (0, .ref (a0 0))]) hx hb dX8_unseen_8 rfl hl (by decide) rfl (fun ls hl => ?_)
  refine L9 _ (fun x1_3 x2_3 v0_3 H locs ls hf hW hl => ?_) N (0 : Int32) (0 : Int32) (st v0 0 (fun _ => (0 : Int32))) H locs ls hf hW (lv_sub hl [2, 1, 0] rfl)
  refine lv_iload_n hx hb dX8_unseen_69 rfl (lv_at hl 1 rfl) ?_
  obtain rfl := Option.some.inj hf
  subst hQ
  exact g_iret C hr hk0 hW rfl rfl dX8_unseen_70
def fX8_keep (N : Nat) (x1 : Int32) (v0 : MM) : Option (Int32 × MM) := ((fX8_in N x1 (0 : Int32) (1 : Int32)).bind (fun y1 => (if y1 = 0 then some ((-1 : Int32), (st v0 0 (fun _ => (0 : Int32)))) else ((fX8_copies N (0 : Int32) ((667 : Int32) * x1) 667 1334 (v0 16) (v0 19)).bind (fun y2 => (if ib x1 2 = true then (if ib (0 : Int32) 667 = true then some (((v0 16) (Int32.toNatClampNeg (0 : Int32))), (st (st (st v0 0 (fun _ => (0 : Int32))) 19 y2) 20 (upd (v0 20) (Int32.toNatClampNeg x1) (vp_nar .boolean (1 : Int32))))) else none) else none))))))
set_option maxHeartbeats 4000000 in
set_option maxRecDepth 100000 in
theorem ct_X8_keep (g : GT) (l : Launch) (N : Nat) (a0 : Nat → Nat) (x1 : Int32) (v0 : MM) {y : Int32 × MM} (hf : fX8_keep N x1 v0 = some y) : ct g l yX8_keep wsX8_keep (rmk 1 25) [.ref (a0 0), .int x1] [kX8 g a0 v0] (some (.int y.1)) [kX8 g a0 y.2] := by
  refine ct_of (cc := cX8_keep) (maxL := 2) (ret := (some .int)) (by decide) rfl (Nat.le_of_ble_eq_true rfl) ?_
  intro p e s m args below meth c A ls C hr hk0 hA hW hl
  have hx := C.1.1
  have hb := C.1.2.1
  replace hl : lv_has ls 2 [(0, .ref (a0 0)), (1, .int x1)] := hl
  obtain ⟨Q, hQ⟩ : ∃ Q, Q = MQ below (ctQ g A (some (.int y.1)) [kX8 g a0 y.2]) args s 0 0 A := ⟨_, rfl⟩
  rw [← hQ]
  obtain ⟨H, hH⟩ : ∃ H, H = s.heap := ⟨_, rfl⟩
  obtain ⟨locs, hL⟩ : ∃ locs : List Loc, locs = [] := ⟨_, rfl⟩
  replace hW : wd g A s.heap [kX8 g a0 v0] H locs := by rw [hH, hL]; exact hW
  suffices hG : W p l e (rmk 1 25) s m args below meth c H locs 0 0 Q (F0 m 0 ls []) by
    rw [hH, hL] at hG; exact hG
  clear hH hL
  have inX8 : ∀ w ∈ wsX80, w ∈ wsX8_keep := fun _ h => List.mem_cons_of_mem _ (List.mem_append_right _ (h))
  rw [fX8_keep] at hf
  refine lv_aload_n hx hb dX8_keep_0 rfl (lv_at hl 0 rfl) ?_
  refine lv_iconst (v := (0 : Int32)) hx hb dX8_keep_1 (by decide) ?_
  refine g_put C hW inX8 tyX8_ok nmX8 0 rfl rfl rfl 0 (by decide) (List.mem_of_getElem? (i := 1) rfl) rfl rfl rfl rfl (kX8_s0 g a0 v0 (0 : Int32)) (ch' := [kX8 g a0 (st v0 0 (fun _ => (0 : Int32)))]) rfl dX8_keep_2 (fun H locs hW => ?_)
  refine lv_iload_n hx hb dX8_keep_5 rfl (lv_at hl 1 rfl) ?_
  refine lv_iconst (v := (0 : Int32)) hx hb dX8_keep_6 (by decide) ?_
  refine lv_iconst (v := (1 : Int32)) hx hb dX8_keep_7 (by decide) ?_
  obtain ⟨y1, hc, hf⟩ := bd_of hf
  refine g_cS C (ct_X8_in g l N x1 (0 : Int32) (1 : Int32) hc) gX8_keep_X8_in rfl 3 (by decide +kernel) ⟨rfl, rfl, ⟨Nat.le_of_ble_eq_true rfl, Nat.le_of_ble_eq_true rfl⟩, Nat.le_of_ble_eq_true rfl, Nat.le_of_ble_eq_true rfl⟩ rfl hl (Nat.le_of_ble_eq_true rfl) dX8_keep_8 rfl hW hA [] rfl rfl rfl (ch' := [kX8 g a0 (st v0 0 (fun _ => (0 : Int32)))]) rfl (fun H locs hW => ?_)
  refine lv_if_ne (tgt := 16) hx hb dX8_keep_11 (by decide) (fun h => ?_) (fun h => ?_)
  · replace hf := (if_neg h).symm.trans hf
    refine lv_aload_n hx hb dX8_keep_16 rfl (lv_at hl 0 rfl) ?_
    refine lv_aload_n hx hb dX8_keep_17 rfl (lv_at hl 0 rfl) ?_
    refine g_get C hW inX8 0 rfl rfl rfl 16 (by decide) (List.mem_of_getElem? (i := 2) rfl) (v := .ref (a0 5)) rfl dX8_keep_18 ?_
    refine lv_aload_n hx hb dX8_keep_21 rfl (lv_at hl 0 rfl) ?_
    refine g_get C hW inX8 0 rfl rfl rfl 19 (by decide) (List.mem_of_getElem? (i := 3) rfl) (v := .ref (a0 7)) rfl dX8_keep_22 ?_
    refine lv_iconst (v := (0 : Int32)) hx hb dX8_keep_25 (by decide) ?_
    refine lv_sipush (v := (667 : Int32)) hx hb dX8_keep_26 (by decide) ?_
    refine lv_iload_n hx hb dX8_keep_29 rfl (lv_at hl 1 rfl) ?_
    refine lv_imul hx hb dX8_keep_30 ?_
    obtain ⟨y2, hc, hf⟩ := bd_of hf
    obtain ⟨V3, hV3⟩ : ∃ z : MM, z = (st v0 0 (fun _ => (0 : Int32))) := ⟨_, rfl⟩
    rw [← hV3] at hW
    replace hc : fX8_copies N (0 : Int32) ((667 : Int32) * x1) 667 1334 (V3 16) (V3 19) = some y2 := by rw [hV3]; exact hc
    replace hW := hW.re (ch' := [(kX8 g a0 V3).take 5, [(a0 5, .inl (g.2.1, 667, .inl (V3 16)))], ((kX8 g a0 V3).drop 6 |>.take 1), [(a0 7, .inl (g.2.1, 1334, .inl (V3 19)))], (kX8 g a0 V3).drop 8]) rfl
    refine g_cVv (Cn := RX8) C (ct_X8_copies g l N (a0 5) (a0 7) (a0 0) (0 : Int32) ((667 : Int32) * x1) 667 1334 (V3 16) (V3 19) hc) gX8_keep_X8_copies rfl 4 (by decide +kernel) ⟨rfl, rfl, ⟨Nat.le_of_ble_eq_true rfl, Nat.le_of_ble_eq_true rfl⟩, Nat.le_of_ble_eq_true rfl, Nat.le_of_ble_eq_true rfl⟩ rfl hl (Nat.le_of_ble_eq_true rfl) dX8_keep_31 rfl hW hA [1, 3] rfl rfl rfl (ch' := [(kX8 g a0 V3).take 5, [(a0 5, .inl (g.2.1, 667, .inl (V3 16)))], ((kX8 g a0 V3).drop 6 |>.take 1), [(a0 7, .inl (g.2.1, 1334, .inl y2))], (kX8 g a0 V3).drop 8]) rfl 0 rfl rfl rfl (fun H locs hW => ?_)
    replace hW := hW.re (ch' := [kX8 g a0 (st V3 19 y2)]) rfl
    subst hV3
    refine lv_aload_n hx hb dX8_keep_34 rfl (lv_at hl 0 rfl) ?_
    refine g_get C hW inX8 0 rfl rfl rfl 20 (by decide) (List.mem_of_getElem? (i := 4) rfl) (v := .ref (a0 8)) rfl dX8_keep_35 ?_
    refine lv_iload_n hx hb dX8_keep_38 rfl (lv_at hl 1 rfl) ?_
    refine lv_iconst (v := (1 : Int32)) hx hb dX8_keep_39 (by decide) ?_
    obtain ⟨hi, hf⟩ := gd_of hf
    refine g_zast C hW 0 8 rfl (f := (v0 20)) rfl (ib_in hi) (kX8_w20 g a0 (st (st v0 0 (fun _ => (0 : Int32))) 19 y2) (upd (v0 20) (Int32.toNatClampNeg x1) (vp_nar .boolean (1 : Int32)))) (ch' := [kX8 g a0 (st (st (st v0 0 (fun _ => (0 : Int32))) 19 y2) 20 (upd (v0 20) (Int32.toNatClampNeg x1) (vp_nar .boolean (1 : Int32))))]) rfl dX8_keep_40 (fun H locs hW => ?_)
    refine lv_aload_n hx hb dX8_keep_41 rfl (lv_at hl 0 rfl) ?_
    refine g_get C hW inX8 0 rfl rfl rfl 16 (by decide) (List.mem_of_getElem? (i := 2) rfl) (v := .ref (a0 5)) rfl dX8_keep_42 ?_
    refine lv_iconst (v := (0 : Int32)) hx hb dX8_keep_45 (by decide) ?_
    obtain ⟨hi, hf⟩ := gd_of hf
    refine g_iald C hW 0 5 rfl (f := (v0 16)) rfl (ib_in hi) dX8_keep_46 ?_
    obtain rfl := Option.some.inj hf
    subst hQ
    exact g_iret C hr hk0 hW rfl rfl dX8_keep_47
  · replace hf := (if_pos h).symm.trans hf
    refine lv_iconst (v := (-1 : Int32)) hx hb dX8_keep_14 (by decide) ?_
    obtain rfl := Option.some.inj hf
    subst hQ
    exact g_iret C hr hk0 hW rfl rfl dX8_keep_15
def fX8_back (N : Nat) (x1 : Int32) (v0 : MM) : Option (Int32 × MM) := ((fX8_in N x1 (0 : Int32) (1 : Int32)).bind (fun y1 => (if y1 = 0 then some ((-1 : Int32), (st v0 0 (fun _ => (0 : Int32)))) else (if ib x1 2 = true then (if ((v0 20) (Int32.toNatClampNeg x1)) = 0 then some ((-2 : Int32), (st v0 0 (fun _ => (0 : Int32)))) else ((fX8_copies N ((667 : Int32) * x1) (0 : Int32) 1334 667 (v0 19) (v0 16)).bind (fun y2 => (if ib (0 : Int32) 667 = true then some ((y2 (Int32.toNatClampNeg (0 : Int32))), (st (st (st v0 0 (fun _ => (0 : Int32))) 16 y2) 17 (fun _ => (0 : Int32)))) else none)))) else none))))
set_option maxHeartbeats 4000000 in
set_option maxRecDepth 100000 in
theorem ct_X8_back (g : GT) (l : Launch) (N : Nat) (a0 : Nat → Nat) (x1 : Int32) (v0 : MM) {y : Int32 × MM} (hf : fX8_back N x1 v0 = some y) : ct g l yX8_back wsX8_back (rmk 1 25) [.ref (a0 0), .int x1] [kX8 g a0 v0] (some (.int y.1)) [kX8 g a0 y.2] := by
  refine ct_of (cc := cX8_back) (maxL := 2) (ret := (some .int)) (by decide) rfl (Nat.le_of_ble_eq_true rfl) ?_
  intro p e s m args below meth c A ls C hr hk0 hA hW hl
  have hx := C.1.1
  have hb := C.1.2.1
  replace hl : lv_has ls 2 [(0, .ref (a0 0)), (1, .int x1)] := hl
  obtain ⟨Q, hQ⟩ : ∃ Q, Q = MQ below (ctQ g A (some (.int y.1)) [kX8 g a0 y.2]) args s 0 0 A := ⟨_, rfl⟩
  rw [← hQ]
  obtain ⟨H, hH⟩ : ∃ H, H = s.heap := ⟨_, rfl⟩
  obtain ⟨locs, hL⟩ : ∃ locs : List Loc, locs = [] := ⟨_, rfl⟩
  replace hW : wd g A s.heap [kX8 g a0 v0] H locs := by rw [hH, hL]; exact hW
  suffices hG : W p l e (rmk 1 25) s m args below meth c H locs 0 0 Q (F0 m 0 ls []) by
    rw [hH, hL] at hG; exact hG
  clear hH hL
  have inX8 : ∀ w ∈ wsX80, w ∈ wsX8_back := fun _ h => List.mem_cons_of_mem _ (List.mem_append_right _ (h))
  rw [fX8_back] at hf
  refine lv_aload_n hx hb dX8_back_0 rfl (lv_at hl 0 rfl) ?_
  refine lv_iconst (v := (0 : Int32)) hx hb dX8_back_1 (by decide) ?_
  refine g_put C hW inX8 tyX8_ok nmX8 0 rfl rfl rfl 0 (by decide) (List.mem_of_getElem? (i := 1) rfl) rfl rfl rfl rfl (kX8_s0 g a0 v0 (0 : Int32)) (ch' := [kX8 g a0 (st v0 0 (fun _ => (0 : Int32)))]) rfl dX8_back_2 (fun H locs hW => ?_)
  refine lv_iload_n hx hb dX8_back_5 rfl (lv_at hl 1 rfl) ?_
  refine lv_iconst (v := (0 : Int32)) hx hb dX8_back_6 (by decide) ?_
  refine lv_iconst (v := (1 : Int32)) hx hb dX8_back_7 (by decide) ?_
  obtain ⟨y1, hc, hf⟩ := bd_of hf
  refine g_cS C (ct_X8_in g l N x1 (0 : Int32) (1 : Int32) hc) gX8_back_X8_in rfl 3 (by decide +kernel) ⟨rfl, rfl, ⟨Nat.le_of_ble_eq_true rfl, Nat.le_of_ble_eq_true rfl⟩, Nat.le_of_ble_eq_true rfl, Nat.le_of_ble_eq_true rfl⟩ rfl hl (Nat.le_of_ble_eq_true rfl) dX8_back_8 rfl hW hA [] rfl rfl rfl (ch' := [kX8 g a0 (st v0 0 (fun _ => (0 : Int32)))]) rfl (fun H locs hW => ?_)
  refine lv_if_ne (tgt := 16) hx hb dX8_back_11 (by decide) (fun h => ?_) (fun h => ?_)
  · replace hf := (if_neg h).symm.trans hf
    refine lv_aload_n hx hb dX8_back_16 rfl (lv_at hl 0 rfl) ?_
    refine g_get C hW inX8 0 rfl rfl rfl 20 (by decide) (List.mem_of_getElem? (i := 2) rfl) (v := .ref (a0 8)) rfl dX8_back_17 ?_
    refine lv_iload_n hx hb dX8_back_20 rfl (lv_at hl 1 rfl) ?_
    obtain ⟨hi, hf⟩ := gd_of hf
    refine g_zald C hW 0 8 rfl (f := (v0 20)) rfl (ib_in hi) dX8_back_21 ?_
    refine lv_if_ne (tgt := 28) hx hb dX8_back_22 (by decide) (fun h => ?_) (fun h => ?_)
    · replace hf := (if_neg h).symm.trans hf
      refine lv_aload_n hx hb dX8_back_28 rfl (lv_at hl 0 rfl) ?_
      refine lv_aload_n hx hb dX8_back_29 rfl (lv_at hl 0 rfl) ?_
      refine g_get C hW inX8 0 rfl rfl rfl 19 (by decide) (List.mem_of_getElem? (i := 3) rfl) (v := .ref (a0 7)) rfl dX8_back_30 ?_
      refine lv_aload_n hx hb dX8_back_33 rfl (lv_at hl 0 rfl) ?_
      refine g_get C hW inX8 0 rfl rfl rfl 16 (by decide) (List.mem_of_getElem? (i := 4) rfl) (v := .ref (a0 5)) rfl dX8_back_34 ?_
      refine lv_sipush (v := (667 : Int32)) hx hb dX8_back_37 (by decide) ?_
      refine lv_iload_n hx hb dX8_back_40 rfl (lv_at hl 1 rfl) ?_
      refine lv_imul hx hb dX8_back_41 ?_
      refine lv_iconst (v := (0 : Int32)) hx hb dX8_back_42 (by decide) ?_
      obtain ⟨y2, hc, hf⟩ := bd_of hf
      obtain ⟨V3, hV3⟩ : ∃ z : MM, z = (st v0 0 (fun _ => (0 : Int32))) := ⟨_, rfl⟩
      rw [← hV3] at hW
      replace hc : fX8_copies N ((667 : Int32) * x1) (0 : Int32) 1334 667 (V3 19) (V3 16) = some y2 := by rw [hV3]; exact hc
      replace hW := hW.re (ch' := [(kX8 g a0 V3).take 5, [(a0 5, .inl (g.2.1, 667, .inl (V3 16)))], ((kX8 g a0 V3).drop 6 |>.take 1), [(a0 7, .inl (g.2.1, 1334, .inl (V3 19)))], (kX8 g a0 V3).drop 8]) rfl
      refine g_cVv (Cn := RX8) C (ct_X8_copies g l N (a0 7) (a0 5) (a0 0) ((667 : Int32) * x1) (0 : Int32) 1334 667 (V3 19) (V3 16) hc) gX8_back_X8_copies rfl 4 (by decide +kernel) ⟨rfl, rfl, ⟨Nat.le_of_ble_eq_true rfl, Nat.le_of_ble_eq_true rfl⟩, Nat.le_of_ble_eq_true rfl, Nat.le_of_ble_eq_true rfl⟩ rfl hl (Nat.le_of_ble_eq_true rfl) dX8_back_43 rfl hW hA [3, 1] rfl rfl rfl (ch' := [(kX8 g a0 V3).take 5, [(a0 5, .inl (g.2.1, 667, .inl y2))], ((kX8 g a0 V3).drop 6 |>.take 1), [(a0 7, .inl (g.2.1, 1334, .inl (V3 19)))], (kX8 g a0 V3).drop 8]) rfl 0 rfl rfl rfl (fun H locs hW => ?_)
      replace hW := hW.re (ch' := [kX8 g a0 (st V3 16 y2)]) rfl
      subst hV3
      refine lv_aload_n hx hb dX8_back_46 rfl (lv_at hl 0 rfl) ?_
      refine lv_iconst (v := (0 : Int32)) hx hb dX8_back_47 (by decide) ?_
      refine g_put C hW inX8 tyX8_ok nmX8 0 rfl rfl rfl 17 (by decide) (List.mem_of_getElem? (i := 5) rfl) rfl rfl rfl rfl (kX8_s17 g a0 (st (st v0 0 (fun _ => (0 : Int32))) 16 y2) (0 : Int32)) (ch' := [kX8 g a0 (st (st (st v0 0 (fun _ => (0 : Int32))) 16 y2) 17 (fun _ => (0 : Int32)))]) rfl dX8_back_48 (fun H locs hW => ?_)
      refine lv_aload_n hx hb dX8_back_51 rfl (lv_at hl 0 rfl) ?_
      refine g_get C hW inX8 0 rfl rfl rfl 16 (by decide) (List.mem_of_getElem? (i := 4) rfl) (v := .ref (a0 5)) rfl dX8_back_52 ?_
      refine lv_iconst (v := (0 : Int32)) hx hb dX8_back_55 (by decide) ?_
      obtain ⟨hi, hf⟩ := gd_of hf
      refine g_iald C hW 0 5 rfl (f := y2) rfl (ib_in hi) dX8_back_56 ?_
      obtain rfl := Option.some.inj hf
      subst hQ
      exact g_iret C hr hk0 hW rfl rfl dX8_back_57
    · replace hf := (if_pos h).symm.trans hf
      refine lv_bipush (v := (-2 : Int32)) hx hb dX8_back_25 (by decide) ?_
      obtain rfl := Option.some.inj hf
      subst hQ
      exact g_iret C hr hk0 hW rfl rfl dX8_back_27
  · replace hf := (if_pos h).symm.trans hf
    refine lv_iconst (v := (-1 : Int32)) hx hb dX8_back_14 (by decide) ?_
    obtain rfl := Option.some.inj hf
    subst hQ
    exact g_iret C hr hk0 hW rfl rfl dX8_back_15
def fX8_count (N : Nat) (x1 : Int32) (v0 : MM) : Option (Int32 × MM) := (if x1 = (0 : Int32) then some ((v0 1 0), (st v0 0 (fun _ => (0 : Int32)))) else (if x1 = (1 : Int32) then some ((v0 2 0), (st v0 0 (fun _ => (0 : Int32)))) else (if x1 = (2 : Int32) then (if ib (1 : Int32) 667 = true then some (((v0 16) (Int32.toNatClampNeg (1 : Int32))), (st v0 0 (fun _ => (0 : Int32)))) else none) else (if x1 = (3 : Int32) then some ((v0 3 0), (st v0 0 (fun _ => (0 : Int32)))) else (if x1 = (4 : Int32) then some ((v0 4 0), (st v0 0 (fun _ => (0 : Int32)))) else (if x1 = (5 : Int32) then some ((v0 5 0), (st v0 0 (fun _ => (0 : Int32)))) else (if x1 = (6 : Int32) then (if ib (0 : Int32) 667 = true then some (((v0 16) (Int32.toNatClampNeg (0 : Int32))), (st v0 0 (fun _ => (0 : Int32)))) else none) else (if x1 = (7 : Int32) then (if ib (3 : Int32) 667 = true then some (((v0 16) (Int32.toNatClampNeg (3 : Int32))), (st v0 0 (fun _ => (0 : Int32)))) else none) else (if x1 = (8 : Int32) then (if ib (2 : Int32) 667 = true then some (((v0 16) (Int32.toNatClampNeg (2 : Int32))), (st v0 0 (fun _ => (0 : Int32)))) else none) else (if x1 = (9 : Int32) then some ((v0 22 0), (st v0 0 (fun _ => (0 : Int32)))) else (if x1 = (10 : Int32) then some ((v0 25 0), (st v0 0 (fun _ => (0 : Int32)))) else (if x1 = (11 : Int32) then some ((v0 17 0), (st v0 0 (fun _ => (0 : Int32)))) else some ((-1 : Int32), (st v0 0 (fun _ => (0 : Int32))))))))))))))))
set_option maxHeartbeats 4000000 in
set_option maxRecDepth 100000 in
theorem ct_X8_count (g : GT) (l : Launch) (N : Nat) (a0 : Nat → Nat) (x1 : Int32) (v0 : MM) {y : Int32 × MM} (hf : fX8_count N x1 v0 = some y) : ct g l yX8_count wsX8_count (rmk 0 0) [.ref (a0 0), .int x1] [kX8 g a0 v0] (some (.int y.1)) [kX8 g a0 y.2] := by
  refine ct_of (cc := cX8_count) (maxL := 2) (ret := (some .int)) (by decide) rfl (Nat.le_of_ble_eq_true rfl) ?_
  intro p e s m args below meth c A ls C hr hk0 hA hW hl
  have hx := C.1.1
  have hb := C.1.2.1
  replace hl : lv_has ls 2 [(0, .ref (a0 0)), (1, .int x1)] := hl
  obtain ⟨Q, hQ⟩ : ∃ Q, Q = MQ below (ctQ g A (some (.int y.1)) [kX8 g a0 y.2]) args s 0 0 A := ⟨_, rfl⟩
  rw [← hQ]
  obtain ⟨H, hH⟩ : ∃ H, H = s.heap := ⟨_, rfl⟩
  obtain ⟨locs, hL⟩ : ∃ locs : List Loc, locs = [] := ⟨_, rfl⟩
  replace hW : wd g A s.heap [kX8 g a0 v0] H locs := by rw [hH, hL]; exact hW
  suffices hG : W p l e (rmk 0 0) s m args below meth c H locs 0 0 Q (F0 m 0 ls []) by
    rw [hH, hL] at hG; exact hG
  clear hH hL
  have inX8 : ∀ w ∈ wsX80, w ∈ wsX8_count := fun _ h => List.mem_cons_of_mem _ (List.mem_append_right _ (h))
  rw [fX8_count] at hf
  refine lv_aload_n hx hb dX8_count_0 rfl (lv_at hl 0 rfl) ?_
  refine lv_iconst (v := (0 : Int32)) hx hb dX8_count_1 (by decide) ?_
  refine g_put C hW inX8 tyX8_ok nmX8 0 rfl rfl rfl 0 (by decide) (List.mem_of_getElem? (i := 1) rfl) rfl rfl rfl rfl (kX8_s0 g a0 v0 (0 : Int32)) (ch' := [kX8 g a0 (st v0 0 (fun _ => (0 : Int32)))]) rfl dX8_count_2 (fun H locs hW => ?_)
  refine lv_iload_n hx hb dX8_count_5 rfl (lv_at hl 1 rfl) ?_
  rcases Decidable.em (x1 = (0 : Int32)) with h0 | h0
  · replace hf := (if_pos h0).symm.trans hf
    refine g_tsw C (off := 62) h0 dX8_count_6 (by decide) (by decide) (tgt := 68) (by decide) ?_
    refine lv_aload_n hx hb dX8_count_68 rfl (lv_at hl 0 rfl) ?_
    refine g_get C hW inX8 0 rfl rfl rfl 1 (by decide) (List.mem_of_getElem? (i := 2) rfl) (v := .int (v0 1 0)) rfl dX8_count_69 ?_
    obtain rfl := Option.some.inj hf
    subst hQ
    exact g_iret C hr hk0 hW rfl rfl dX8_count_72
  replace hf := (if_neg h0).symm.trans hf
  rcases Decidable.em (x1 = (1 : Int32)) with h1 | h1
  · replace hf := (if_pos h1).symm.trans hf
    refine g_tsw C (off := 67) h1 dX8_count_6 (by decide) (by decide) (tgt := 73) (by decide) ?_
    refine lv_aload_n hx hb dX8_count_73 rfl (lv_at hl 0 rfl) ?_
    refine g_get C hW inX8 0 rfl rfl rfl 2 (by decide) (List.mem_of_getElem? (i := 3) rfl) (v := .int (v0 2 0)) rfl dX8_count_74 ?_
    obtain rfl := Option.some.inj hf
    subst hQ
    exact g_iret C hr hk0 hW rfl rfl dX8_count_77
  replace hf := (if_neg h1).symm.trans hf
  rcases Decidable.em (x1 = (2 : Int32)) with h2 | h2
  · replace hf := (if_pos h2).symm.trans hf
    refine g_tsw C (off := 72) h2 dX8_count_6 (by decide) (by decide) (tgt := 78) (by decide) ?_
    refine lv_aload_n hx hb dX8_count_78 rfl (lv_at hl 0 rfl) ?_
    refine g_get C hW inX8 0 rfl rfl rfl 16 (by decide) (List.mem_of_getElem? (i := 4) rfl) (v := .ref (a0 5)) rfl dX8_count_79 ?_
    refine lv_iconst (v := (1 : Int32)) hx hb dX8_count_82 (by decide) ?_
    obtain ⟨hi, hf⟩ := gd_of hf
    refine g_iald C hW 0 5 rfl (f := (v0 16)) rfl (ib_in hi) dX8_count_83 ?_
    obtain rfl := Option.some.inj hf
    subst hQ
    exact g_iret C hr hk0 hW rfl rfl dX8_count_84
  replace hf := (if_neg h2).symm.trans hf
  rcases Decidable.em (x1 = (3 : Int32)) with h3 | h3
  · replace hf := (if_pos h3).symm.trans hf
    refine g_tsw C (off := 79) h3 dX8_count_6 (by decide) (by decide) (tgt := 85) (by decide) ?_
    refine lv_aload_n hx hb dX8_count_85 rfl (lv_at hl 0 rfl) ?_
    refine g_get C hW inX8 0 rfl rfl rfl 3 (by decide) (List.mem_of_getElem? (i := 5) rfl) (v := .int (v0 3 0)) rfl dX8_count_86 ?_
    obtain rfl := Option.some.inj hf
    subst hQ
    exact g_iret C hr hk0 hW rfl rfl dX8_count_89
  replace hf := (if_neg h3).symm.trans hf
  rcases Decidable.em (x1 = (4 : Int32)) with h4 | h4
  · replace hf := (if_pos h4).symm.trans hf
    refine g_tsw C (off := 84) h4 dX8_count_6 (by decide) (by decide) (tgt := 90) (by decide) ?_
    refine lv_aload_n hx hb dX8_count_90 rfl (lv_at hl 0 rfl) ?_
    refine g_get C hW inX8 0 rfl rfl rfl 4 (by decide) (List.mem_of_getElem? (i := 6) rfl) (v := .int (v0 4 0)) rfl dX8_count_91 ?_
    obtain rfl := Option.some.inj hf
    subst hQ
    exact g_iret C hr hk0 hW rfl rfl dX8_count_94
  replace hf := (if_neg h4).symm.trans hf
  rcases Decidable.em (x1 = (5 : Int32)) with h5 | h5
  · replace hf := (if_pos h5).symm.trans hf
    refine g_tsw C (off := 89) h5 dX8_count_6 (by decide) (by decide) (tgt := 95) (by decide) ?_
    refine lv_aload_n hx hb dX8_count_95 rfl (lv_at hl 0 rfl) ?_
    refine g_get C hW inX8 0 rfl rfl rfl 5 (by decide) (List.mem_of_getElem? (i := 7) rfl) (v := .int (v0 5 0)) rfl dX8_count_96 ?_
    obtain rfl := Option.some.inj hf
    subst hQ
    exact g_iret C hr hk0 hW rfl rfl dX8_count_99
  replace hf := (if_neg h5).symm.trans hf
  rcases Decidable.em (x1 = (6 : Int32)) with h6 | h6
  · replace hf := (if_pos h6).symm.trans hf
    refine g_tsw C (off := 94) h6 dX8_count_6 (by decide) (by decide) (tgt := 100) (by decide) ?_
    refine lv_aload_n hx hb dX8_count_100 rfl (lv_at hl 0 rfl) ?_
    refine g_get C hW inX8 0 rfl rfl rfl 16 (by decide) (List.mem_of_getElem? (i := 4) rfl) (v := .ref (a0 5)) rfl dX8_count_101 ?_
    refine lv_iconst (v := (0 : Int32)) hx hb dX8_count_104 (by decide) ?_
    obtain ⟨hi, hf⟩ := gd_of hf
    refine g_iald C hW 0 5 rfl (f := (v0 16)) rfl (ib_in hi) dX8_count_105 ?_
    obtain rfl := Option.some.inj hf
    subst hQ
    exact g_iret C hr hk0 hW rfl rfl dX8_count_106
  replace hf := (if_neg h6).symm.trans hf
  rcases Decidable.em (x1 = (7 : Int32)) with h7 | h7
  · replace hf := (if_pos h7).symm.trans hf
    refine g_tsw C (off := 101) h7 dX8_count_6 (by decide) (by decide) (tgt := 107) (by decide) ?_
    refine lv_aload_n hx hb dX8_count_107 rfl (lv_at hl 0 rfl) ?_
    refine g_get C hW inX8 0 rfl rfl rfl 16 (by decide) (List.mem_of_getElem? (i := 4) rfl) (v := .ref (a0 5)) rfl dX8_count_108 ?_
    refine lv_iconst (v := (3 : Int32)) hx hb dX8_count_111 (by decide) ?_
    obtain ⟨hi, hf⟩ := gd_of hf
    refine g_iald C hW 0 5 rfl (f := (v0 16)) rfl (ib_in hi) dX8_count_112 ?_
    obtain rfl := Option.some.inj hf
    subst hQ
    exact g_iret C hr hk0 hW rfl rfl dX8_count_113
  replace hf := (if_neg h7).symm.trans hf
  rcases Decidable.em (x1 = (8 : Int32)) with h8 | h8
  · replace hf := (if_pos h8).symm.trans hf
    refine g_tsw C (off := 108) h8 dX8_count_6 (by decide) (by decide) (tgt := 114) (by decide) ?_
    refine lv_aload_n hx hb dX8_count_114 rfl (lv_at hl 0 rfl) ?_
    refine g_get C hW inX8 0 rfl rfl rfl 16 (by decide) (List.mem_of_getElem? (i := 4) rfl) (v := .ref (a0 5)) rfl dX8_count_115 ?_
    refine lv_iconst (v := (2 : Int32)) hx hb dX8_count_118 (by decide) ?_
    obtain ⟨hi, hf⟩ := gd_of hf
    refine g_iald C hW 0 5 rfl (f := (v0 16)) rfl (ib_in hi) dX8_count_119 ?_
    obtain rfl := Option.some.inj hf
    subst hQ
    exact g_iret C hr hk0 hW rfl rfl dX8_count_120
  replace hf := (if_neg h8).symm.trans hf
  rcases Decidable.em (x1 = (9 : Int32)) with h9 | h9
  · replace hf := (if_pos h9).symm.trans hf
    refine g_tsw C (off := 115) h9 dX8_count_6 (by decide) (by decide) (tgt := 121) (by decide) ?_
    refine lv_aload_n hx hb dX8_count_121 rfl (lv_at hl 0 rfl) ?_
    refine g_get C hW inX8 0 rfl rfl rfl 22 (by decide) (List.mem_of_getElem? (i := 8) rfl) (v := .int (v0 22 0)) rfl dX8_count_122 ?_
    obtain rfl := Option.some.inj hf
    subst hQ
    exact g_iret C hr hk0 hW rfl rfl dX8_count_125
  replace hf := (if_neg h9).symm.trans hf
  rcases Decidable.em (x1 = (10 : Int32)) with h10 | h10
  · replace hf := (if_pos h10).symm.trans hf
    refine g_tsw C (off := 120) h10 dX8_count_6 (by decide) (by decide) (tgt := 126) (by decide) ?_
    refine lv_aload_n hx hb dX8_count_126 rfl (lv_at hl 0 rfl) ?_
    refine g_get C hW inX8 0 rfl rfl rfl 25 (by decide) (List.mem_of_getElem? (i := 9) rfl) (v := .int (v0 25 0)) rfl dX8_count_127 ?_
    obtain rfl := Option.some.inj hf
    subst hQ
    exact g_iret C hr hk0 hW rfl rfl dX8_count_130
  replace hf := (if_neg h10).symm.trans hf
  rcases Decidable.em (x1 = (11 : Int32)) with h11 | h11
  · replace hf := (if_pos h11).symm.trans hf
    refine g_tsw C (off := 125) h11 dX8_count_6 (by decide) (by decide) (tgt := 131) (by decide) ?_
    refine lv_aload_n hx hb dX8_count_131 rfl (lv_at hl 0 rfl) ?_
    refine g_get C hW inX8 0 rfl rfl rfl 17 (by decide) (List.mem_of_getElem? (i := 10) rfl) (v := .int (v0 17 0)) rfl dX8_count_132 ?_
    obtain rfl := Option.some.inj hf
    subst hQ
    exact g_iret C hr hk0 hW rfl rfl dX8_count_135
  replace hf := (if_neg h11).symm.trans hf
  have t0 := lv_neT h0 (show (0 : Int32).toInt = 0 by decide)
  have t1 := lv_neT h1 (show (1 : Int32).toInt = 1 by decide)
  have t2 := lv_neT h2 (show (2 : Int32).toInt = 2 by decide)
  have t3 := lv_neT h3 (show (3 : Int32).toInt = 3 by decide)
  have t4 := lv_neT h4 (show (4 : Int32).toInt = 4 by decide)
  have t5 := lv_neT h5 (show (5 : Int32).toInt = 5 by decide)
  have t6 := lv_neT h6 (show (6 : Int32).toInt = 6 by decide)
  have t7 := lv_neT h7 (show (7 : Int32).toInt = 7 by decide)
  have t8 := lv_neT h8 (show (8 : Int32).toInt = 8 by decide)
  have t9 := lv_neT h9 (show (9 : Int32).toInt = 9 by decide)
  have t10 := lv_neT h10 (show (10 : Int32).toInt = 10 by decide)
  have t11 := lv_neT h11 (show (11 : Int32).toInt = 11 by decide)
  refine lv_tableOut hx hb dX8_count_6 (by omega) (tgt := 136) (by decide) ?_
  refine lv_iconst (v := (-1 : Int32)) hx hb dX8_count_136 (by decide) ?_
  obtain rfl := Option.some.inj hf
  subst hQ
  exact g_iret C hr hk0 hW rfl rfl dX8_count_137
