def fX5_sendAgain_L15 (N : Nat) (k : Int32 → MM → MM → MM → Option (MM × MM × MM)) (x1 : Int32) (v0 : MM) : Nat → Int32 → MM → MM → MM → Option (MM × MM × MM)
  | 0, _, _, _, _ => none
  | n + 1, x2, v1, v2, v3 => (if (v2 0 0) ≤ x2 then k x2 v1 v2 v3 else ((fX0_isDue N x2 x1 (v1 0 0) v2).bind (fun y1 => (if y1 = 0 then fX5_sendAgain_L15 N k x1 v0 n (x2 + 1) v1 v2 v3 else ((fX0_content N x2 v2).bind (fun y2 => ((fX5_send N x2 x1 v0 v1 v2 (st v3 2 (fun _ => (if (0 : Int32) < ((v3 2 0) - y2) then ((v3 2 0) - y2) else (0 : Int32))))).bind (fun y3 => fX5_sendAgain_L15 N k x1 v0 n (x2 + 1) y3.1 y3.2 (st v3 2 (fun _ => (if (0 : Int32) < ((v3 2 0) - y2) then ((v3 2 0) - y2) else (0 : Int32))))))))))))
def fX5_sendAgain_L2 (N : Nat) (k : Int32 → MM → MM → MM → Option (MM × MM × MM)) (v0 : MM) : Nat → Int32 → MM → MM → MM → Option (MM × MM × MM)
  | 0, _, _, _, _ => none
  | n + 1, x1, v1, v2, v3 => (if (v0 0 0) ≤ x1 then k x1 v1 v2 v3 else (fX5_sendAgain_L15 N (fun (x2_4 : Int32) (v1_4 : MM) (v2_4 : MM) (v3_4 : MM) => fX5_sendAgain_L2 N k v0 n (x1 + 1) v1_4 v2_4 v3_4) x1 v0 N (0 : Int32) v1 v2 v3))
def fX5_sendAgain (N : Nat) (v0 : MM) (v1 : MM) (v2 : MM) (v3 : MM) : Option (MM × MM × MM) := (fX5_sendAgain_L2 N (fun (x1_5 : Int32) (v1_5 : MM) (v2_5 : MM) (v3_5 : MM) => some (v1_5, v2_5, v3_5)) v0 N (0 : Int32) v1 v2 v3)
set_option maxHeartbeats 4000000 in
set_option maxRecDepth 100000 in
theorem ct_X5_sendAgain (g : GT) (l : Launch) (N : Nat) (a0 : Nat → Nat) (a1 : Nat → Nat) (a2 : Nat → Nat) (a3 : Nat → Nat) (v0 : MM) (v1 : MM) (v2 : MM) (v3 : MM) {y : MM × MM × MM} (hf : fX5_sendAgain N v0 v1 v2 v3 = some y) : ct g l yX5_sendAgain wsX5_sendAgain (rmk 2 51) [.ref (a3 0)] [kX3 g a0 v0, kX4 g a1 (a2 0) v1, kX0 g a2 v2, kX5 g a3 (a0 0) (a1 0) v3] none [kX3 g a0 v0, kX4 g a1 (a2 0) y.1, kX0 g a2 y.2.1, kX5 g a3 (a0 0) (a1 0) y.2.2] := by
  refine ct_of (cc := cX5_sendAgain) (maxL := 3) (ret := none) (by decide) rfl (Nat.le_of_ble_eq_true rfl) ?_
  intro p e s m args below meth c A ls C hr hk0 hA hW hl
  have hx := C.1.1
  have hb := C.1.2.1
  replace hl : lv_has ls 3 [(0, .ref (a3 0))] := hl
  obtain ⟨Q, hQ⟩ : ∃ Q, Q = MQ below (ctQ g A none [kX3 g a0 v0, kX4 g a1 (a2 0) y.1, kX0 g a2 y.2.1, kX5 g a3 (a0 0) (a1 0) y.2.2]) args s 0 0 A := ⟨_, rfl⟩
  rw [← hQ]
  obtain ⟨H, hH⟩ : ∃ H, H = s.heap := ⟨_, rfl⟩
  obtain ⟨locs, hL⟩ : ∃ locs : List Loc, locs = [] := ⟨_, rfl⟩
  replace hW : wd g A s.heap [kX3 g a0 v0, kX4 g a1 (a2 0) v1, kX0 g a2 v2, kX5 g a3 (a0 0) (a1 0) v3] H locs := by rw [hH, hL]; exact hW
  suffices hG : W p l e (rmk 2 51) s m args below meth c H locs 0 0 Q (F0 m 0 ls []) by
    rw [hH, hL] at hG; exact hG
  clear hH hL
  have inX0 : ∀ w ∈ wsX00, w ∈ wsX5_sendAgain := fun _ h => List.mem_cons_of_mem _ (List.mem_append_right _ (h))
  have inX3 : ∀ w ∈ wsX30, w ∈ wsX5_sendAgain := fun _ h => List.mem_cons_of_mem _ (List.mem_append_left _ (List.mem_append_left _ (List.mem_append_right _ (h))))
  have inX4 : ∀ w ∈ wsX40, w ∈ wsX5_sendAgain := fun _ h => List.mem_cons_of_mem _ (List.mem_append_left _ (List.mem_append_right _ (h)))
  have inX5 : ∀ w ∈ wsX50, w ∈ wsX5_sendAgain := fun _ h => List.mem_cons_of_mem _ (List.mem_append_left _ (List.mem_append_left _ (List.mem_append_left _ (List.mem_append_right _ (h)))))
  have L15 : ∀ (x1 : Int32) (k : Int32 → MM → MM → MM → Option (MM × MM × MM)) (hk : ∀ (x2 : Int32) (v1 : MM) (v2 : MM) (v3 : MM) (H : Heap) (locs : List Loc) (ls : Array Slot), k x2 v1 v2 v3 = some y → wd g A s.heap [kX3 g a0 v0, kX4 g a1 (a2 0) v1, kX0 g a2 v2, kX5 g a3 (a0 0) (a1 0) v3] H locs → lv_has ls 3 [(0, .ref (a3 0)), (1, .int x1), (2, .int x2)] → W p l e (rmk 2 51) s m args below meth c H locs 0 0 Q (F0 m 87 ls [])) (n : Nat) (x2 : Int32) (v1 : MM) (v2 : MM) (v3 : MM) (H : Heap) (locs : List Loc) (ls : Array Slot), fX5_sendAgain_L15 N k x1 v0 n x2 v1 v2 v3 = some y → wd g A s.heap [kX3 g a0 v0, kX4 g a1 (a2 0) v1, kX0 g a2 v2, kX5 g a3 (a0 0) (a1 0) v3] H locs → lv_has ls 3 [(0, .ref (a3 0)), (1, .int x1), (2, .int x2)] → W p l e (rmk 2 51) s m args below meth c H locs 0 0 Q (F0 m 15 ls []) := by
    intro x1 k hk n
    induction n with
    | zero => intro x2 v1 v2 v3 H locs ls hf; rw [fX5_sendAgain_L15] at hf; cases hf
    | succ n ih =>
      intro x2 v1 v2 v3 H locs ls hf hW hl
      rw [fX5_sendAgain_L15] at hf
      refine lv_iload_n hx hb dX5_sendAgain_15 rfl (lv_at hl 2 rfl) ?_
      refine lv_aload_n hx hb dX5_sendAgain_16 rfl (lv_at hl 0 rfl) ?_
      refine g_get C hW inX5 3 rfl rfl rfl 1 (by decide) (List.mem_of_getElem? (i := 3) rfl) (v := .ref (a1 0)) rfl dX5_sendAgain_17 ?_
      refine g_get C hW inX4 1 rfl rfl rfl 14 (by decide) (List.mem_of_getElem? (i := 4) rfl) (v := .ref (a2 0)) rfl dX5_sendAgain_20 ?_
      refine g_get C hW inX0 2 rfl rfl rfl 0 (by decide) (List.mem_of_getElem? (i := 5) rfl) (v := .int (v2 0 0)) rfl dX5_sendAgain_23 ?_
      refine lv_icmp_ge (tgt := 87) hx hb dX5_sendAgain_26 (by decide) (fun h => ?_) (fun h => ?_)
      · replace hf := (if_pos h).symm.trans hf
        exact hk _ _ _ _ H locs ls hf hW (lv_sub hl [0, 1, 2] rfl)
      · replace hf := (if_neg h).symm.trans hf
        refine lv_aload_n hx hb dX5_sendAgain_29 rfl (lv_at hl 0 rfl) ?_
        refine g_get C hW inX5 3 rfl rfl rfl 1 (by decide) (List.mem_of_getElem? (i := 3) rfl) (v := .ref (a1 0)) rfl dX5_sendAgain_30 ?_
        refine g_get C hW inX4 1 rfl rfl rfl 14 (by decide) (List.mem_of_getElem? (i := 4) rfl) (v := .ref (a2 0)) rfl dX5_sendAgain_33 ?_
        refine lv_iload_n hx hb dX5_sendAgain_36 rfl (lv_at hl 2 rfl) ?_
        refine lv_iload_n hx hb dX5_sendAgain_37 rfl (lv_at hl 1 rfl) ?_
        refine lv_aload_n hx hb dX5_sendAgain_38 rfl (lv_at hl 0 rfl) ?_
        refine g_get C hW inX5 3 rfl rfl rfl 1 (by decide) (List.mem_of_getElem? (i := 3) rfl) (v := .ref (a1 0)) rfl dX5_sendAgain_39 ?_
        refine g_get C hW inX4 1 rfl rfl rfl 0 (by decide) (List.mem_of_getElem? (i := 6) rfl) (v := .int (v1 0 0)) rfl dX5_sendAgain_42 ?_
        obtain ⟨y1, hc, hf⟩ := bd_of hf
        refine g_cV (Cn := RX0) C (ct_X0_isDue g l N a2 x2 x1 (v1 0 0) v2 hc) gX5_sendAgain_X0_isDue rfl 3 (by decide +kernel) ⟨rfl, rfl, ⟨Nat.le_of_ble_eq_true rfl, Nat.le_of_ble_eq_true rfl⟩, Nat.le_of_ble_eq_true rfl, Nat.le_of_ble_eq_true rfl⟩ rfl hl (Nat.le_of_ble_eq_true rfl) dX5_sendAgain_45 rfl hW hA [2] rfl rfl rfl (ch' := [kX3 g a0 v0, kX4 g a1 (a2 0) v1, kX0 g a2 v2, kX5 g a3 (a0 0) (a1 0) v3]) rfl 2 rfl rfl rfl (fun H locs hW => ?_)
        refine lv_if_eq (tgt := 81) hx hb dX5_sendAgain_48 (by decide) (fun h => ?_) (fun h => ?_)
        · replace hf := (if_pos h).symm.trans hf
          refine lv_iinc (v := (x2 + 1)) (lv' := [(2, .int (x2 + 1)), (0, .ref (a3 0)), (1, .int x1)]) hx hb dX5_sendAgain_81 hl (k := 2) rfl (by first | rfl | decide) (by decide) rfl (fun ls hl => ?_)
          refine lv_goto (tgt := 15) hx hb dX5_sendAgain_84 (by decide) ?_
          exact ih _ _ _ _ H locs ls hf hW (lv_sub hl [1, 2, 0] rfl)
        · replace hf := (if_neg h).symm.trans hf
          refine lv_aload_n hx hb dX5_sendAgain_51 rfl (lv_at hl 0 rfl) ?_
          refine lv_iconst (v := (0 : Int32)) hx hb dX5_sendAgain_52 (by decide) ?_
          refine lv_aload_n hx hb dX5_sendAgain_53 rfl (lv_at hl 0 rfl) ?_
          refine g_get C hW inX5 3 rfl rfl rfl 2 (by decide) (List.mem_of_getElem? (i := 7) rfl) (v := .int (v3 2 0)) rfl dX5_sendAgain_54 ?_
          refine lv_aload_n hx hb dX5_sendAgain_57 rfl (lv_at hl 0 rfl) ?_
          refine g_get C hW inX5 3 rfl rfl rfl 1 (by decide) (List.mem_of_getElem? (i := 3) rfl) (v := .ref (a1 0)) rfl dX5_sendAgain_58 ?_
          refine g_get C hW inX4 1 rfl rfl rfl 14 (by decide) (List.mem_of_getElem? (i := 4) rfl) (v := .ref (a2 0)) rfl dX5_sendAgain_61 ?_
          refine lv_iload_n hx hb dX5_sendAgain_64 rfl (lv_at hl 2 rfl) ?_
          obtain ⟨y2, hc, hf⟩ := bd_of hf
          refine g_cV (Cn := RX0) C (ct_X0_content g l N a2 x2 v2 hc) gX5_sendAgain_X0_content rfl 1 (by decide +kernel) ⟨rfl, rfl, ⟨Nat.le_of_ble_eq_true rfl, Nat.le_of_ble_eq_true rfl⟩, Nat.le_of_ble_eq_true rfl, Nat.le_of_ble_eq_true rfl⟩ rfl hl (Nat.le_of_ble_eq_true rfl) dX5_sendAgain_65 rfl hW hA [2] rfl rfl rfl (ch' := [kX3 g a0 v0, kX4 g a1 (a2 0) v1, kX0 g a2 v2, kX5 g a3 (a0 0) (a1 0) v3]) rfl 2 rfl rfl rfl (fun H locs hW => ?_)
          refine lv_isub hx hb dX5_sendAgain_68 ?_
          refine g_mmax C hl (List.mem_of_getElem? (i := 8) rfl) (List.mem_of_getElem? (i := 9) rfl) (List.mem_of_getElem? (i := 10) rfl) (List.mem_of_getElem? (i := 11) rfl) ⟨Nat.le_of_ble_eq_true rfl, Nat.le_of_ble_eq_true rfl, Nat.le_of_ble_eq_true rfl, Nat.le_of_ble_eq_true rfl⟩ (Nat.le_of_ble_eq_true rfl) dX5_sendAgain_69 ?_
          refine g_put C hW inX5 tyX5_ok nmX5 3 rfl rfl rfl 2 (by decide) (List.mem_of_getElem? (i := 7) rfl) rfl rfl rfl rfl (kX5_s2 g a3 (a0 0) (a1 0) v3 (if (0 : Int32) < ((v3 2 0) - y2) then ((v3 2 0) - y2) else (0 : Int32))) (ch' := [kX3 g a0 v0, kX4 g a1 (a2 0) v1, kX0 g a2 v2, kX5 g a3 (a0 0) (a1 0) (st v3 2 (fun _ => (if (0 : Int32) < ((v3 2 0) - y2) then ((v3 2 0) - y2) else (0 : Int32))))]) rfl dX5_sendAgain_72 (fun H locs hW => ?_)
          refine lv_aload_n hx hb dX5_sendAgain_75 rfl (lv_at hl 0 rfl) ?_
          refine lv_iload_n hx hb dX5_sendAgain_76 rfl (lv_at hl 2 rfl) ?_
          refine lv_iload_n hx hb dX5_sendAgain_77 rfl (lv_at hl 1 rfl) ?_
          obtain ⟨y3, hc, hf⟩ := bd_of hf
          refine g_cVv (Cn := RX5) C (ct_X5_send g l N a0 a1 a2 a3 x2 x1 v0 v1 v2 (st v3 2 (fun _ => (if (0 : Int32) < ((v3 2 0) - y2) then ((v3 2 0) - y2) else (0 : Int32)))) hc) gX5_sendAgain_X5_send rfl 2 (by decide +kernel) ⟨rfl, rfl, ⟨Nat.le_of_ble_eq_true rfl, Nat.le_of_ble_eq_true rfl⟩, Nat.le_of_ble_eq_true rfl, Nat.le_of_ble_eq_true rfl⟩ rfl hl (Nat.le_of_ble_eq_true rfl) dX5_sendAgain_78 rfl hW hA [0, 1, 2, 3] rfl rfl rfl (ch' := [kX3 g a0 v0, kX4 g a1 (a2 0) y3.1, kX0 g a2 y3.2, kX5 g a3 (a0 0) (a1 0) (st v3 2 (fun _ => (if (0 : Int32) < ((v3 2 0) - y2) then ((v3 2 0) - y2) else (0 : Int32))))]) rfl 3 rfl rfl rfl (fun H locs hW => ?_)
          refine lv_iinc (v := (x2 + 1)) (lv' := [(2, .int (x2 + 1)), (0, .ref (a3 0)), (1, .int x1)]) hx hb dX5_sendAgain_81 hl (k := 2) rfl (by first | rfl | decide) (by decide) rfl (fun ls hl => ?_)
          refine lv_goto (tgt := 15) hx hb dX5_sendAgain_84 (by decide) ?_
          exact ih _ _ _ _ H locs ls hf hW (lv_sub hl [1, 2, 0] rfl)
  have L2 : ∀ (k : Int32 → MM → MM → MM → Option (MM × MM × MM)) (hk : ∀ (x1 : Int32) (v1 : MM) (v2 : MM) (v3 : MM) (H : Heap) (locs : List Loc) (ls : Array Slot), k x1 v1 v2 v3 = some y → wd g A s.heap [kX3 g a0 v0, kX4 g a1 (a2 0) v1, kX0 g a2 v2, kX5 g a3 (a0 0) (a1 0) v3] H locs → lv_has ls 3 [(0, .ref (a3 0)), (1, .int x1)] → W p l e (rmk 2 51) s m args below meth c H locs 0 0 Q (F0 m 93 ls [])) (n : Nat) (x1 : Int32) (v1 : MM) (v2 : MM) (v3 : MM) (H : Heap) (locs : List Loc) (ls : Array Slot), fX5_sendAgain_L2 N k v0 n x1 v1 v2 v3 = some y → wd g A s.heap [kX3 g a0 v0, kX4 g a1 (a2 0) v1, kX0 g a2 v2, kX5 g a3 (a0 0) (a1 0) v3] H locs → lv_has ls 3 [(0, .ref (a3 0)), (1, .int x1)] → W p l e (rmk 2 51) s m args below meth c H locs 0 0 Q (F0 m 2 ls []) := by
    intro k hk n
    induction n with
    | zero => intro x1 v1 v2 v3 H locs ls hf; rw [fX5_sendAgain_L2] at hf; cases hf
    | succ n ih =>
      intro x1 v1 v2 v3 H locs ls hf hW hl
      rw [fX5_sendAgain_L2] at hf
      refine lv_iload_n hx hb dX5_sendAgain_2 rfl (lv_at hl 1 rfl) ?_
      refine lv_aload_n hx hb dX5_sendAgain_3 rfl (lv_at hl 0 rfl) ?_
      refine g_get C hW inX5 3 rfl rfl rfl 0 (by decide) (List.mem_of_getElem? (i := 1) rfl) (v := .ref (a0 0)) rfl dX5_sendAgain_4 ?_
      refine g_get C hW inX3 0 rfl rfl rfl 0 (by decide) (List.mem_of_getElem? (i := 2) rfl) (v := .int (v0 0 0)) rfl dX5_sendAgain_7 ?_
      refine lv_icmp_ge (tgt := 93) hx hb dX5_sendAgain_10 (by decide) (fun h => ?_) (fun h => ?_)
      · replace hf := (if_pos h).symm.trans hf
        exact hk _ _ _ _ H locs ls hf hW (lv_sub hl [0, 1] rfl)
      · replace hf := (if_neg h).symm.trans hf
        refine lv_iconst (v := (0 : Int32)) hx hb dX5_sendAgain_13 (by decide) ?_
        refine lv_istore_n (lv' := [(2, .int (0 : Int32)), (0, .ref (a3 0)), (1, .int x1)]) hx hb dX5_sendAgain_14 rfl hl (by decide) rfl (fun ls hl => ?_)
        refine L15 x1 _ (fun x2_4 v1_4 v2_4 v3_4 H locs ls hf hW hl => ?_) N (0 : Int32) v1 v2 v3 H locs ls hf hW (lv_sub hl [1, 2, 0] rfl)
        refine lv_iinc (v := (x1 + 1)) (lv' := [(1, .int (x1 + 1)), (0, .ref (a3 0)), (2, .int x2_4)]) hx hb dX5_sendAgain_87 hl (k := 1) rfl (by first | rfl | decide) (by decide) rfl (fun ls hl => ?_)
        refine lv_goto (tgt := 2) hx hb dX5_sendAgain_90 (by decide) ?_
        exact ih _ _ _ _ H locs ls hf hW (lv_sub hl [1, 0] rfl)
  rw [fX5_sendAgain] at hf
  refine lv_iconst (v := (0 : Int32)) hx hb dX5_sendAgain_0 (by decide) ?_
  refine lv_istore_n (lv' := [(1, .int (0 : Int32)), (0, .ref (a3 0))]) hx hb dX5_sendAgain_1 rfl hl (by decide) rfl (fun ls hl => ?_)
  refine L2 _ (fun x1_5 v1_5 v2_5 v3_5 H locs ls hf hW hl => ?_) N (0 : Int32) v1 v2 v3 H locs ls hf hW (lv_sub hl [1, 0] rfl)
  obtain rfl := Option.some.inj hf
  subst hQ
  exact g_vret C hr hk0 hW rfl rfl dX5_sendAgain_93
def fX5_pack (N : Nat) (x1 : Int32) (x2 : Int32) (v0 : MM) (v1 : MM) (v2 : MM) (v3 : MM) : Option (MM × MM) := ((fX0_open N x1 v2).bind (fun y1 => (if ib x1 3 = true then (if ((v1 3) (Int32.toNatClampNeg x1)) = (1 : Int32) then (if x2 < (2 : Int32) then ((fX5_packLetters N x1 y1.1 x2 (1 : Int32) v0 v1 y1.2 v3).bind (fun y10 => ((fX5_packLetters N x1 y1.1 y10.1 (0 : Int32) v0 y10.2.1 y10.2.2 v3).bind (fun y11 => (if y11.1 < (2 : Int32) then ((fX0_content N y1.1 y11.2.2).bind (fun y12 => (if y12 ≤ 0 then some (y11.2.1, y11.2.2) else ((fX5_send N y1.1 x1 v0 y11.2.1 y11.2.2 v3).bind (fun y13 => some (y13.1, y13.2)))))) else ((fX5_waitingAt N x1 v0 y11.2.1 v3).bind (fun y14 => ((fX0_putReport N y1.1 y14 y11.2.2).bind (fun y15 => (if ib x1 3 = true then ((fX0_content N y1.1 y15).bind (fun y16 => (if y16 ≤ 0 then some ((st y11.2.1 3 (upd (y11.2.1 3) (Int32.toNatClampNeg x1) (0 : Int32))), y15) else ((fX5_send N y1.1 x1 v0 (st y11.2.1 3 (upd (y11.2.1 3) (Int32.toNatClampNeg x1) (0 : Int32))) y15 v3).bind (fun y17 => some (y17.1, y17.2)))))) else none)))))))))) else ((fX5_packLetters N x1 y1.1 (x2 - (2 : Int32)) (1 : Int32) v0 v1 y1.2 v3).bind (fun y18 => ((fX5_packLetters N x1 y1.1 y18.1 (0 : Int32) v0 y18.2.1 y18.2.2 v3).bind (fun y19 => ((fX5_waitingAt N x1 v0 y19.2.1 v3).bind (fun y20 => ((fX0_putReport N y1.1 y20 y19.2.2).bind (fun y21 => (if ib x1 3 = true then ((fX0_content N y1.1 y21).bind (fun y22 => (if y22 ≤ 0 then some ((st y19.2.1 3 (upd (y19.2.1 3) (Int32.toNatClampNeg x1) (0 : Int32))), y21) else ((fX5_send N y1.1 x1 v0 (st y19.2.1 3 (upd (y19.2.1 3) (Int32.toNatClampNeg x1) (0 : Int32))) y21 v3).bind (fun y23 => some (y23.1, y23.2)))))) else none)))))))))) else ((fX5_packLetters N x1 y1.1 x2 (1 : Int32) v0 v1 y1.2 v3).bind (fun y2 => ((fX5_packLetters N x1 y1.1 y2.1 (0 : Int32) v0 y2.2.1 y2.2.2 v3).bind (fun y3 => (if y3.1 < (2 : Int32) then ((fX0_content N y1.1 y3.2.2).bind (fun y4 => (if y4 ≤ 0 then some (y3.2.1, y3.2.2) else ((fX5_send N y1.1 x1 v0 y3.2.1 y3.2.2 v3).bind (fun y5 => some (y5.1, y5.2)))))) else ((fX5_waitingAt N x1 v0 y3.2.1 v3).bind (fun y6 => ((fX0_putReport N y1.1 y6 y3.2.2).bind (fun y7 => (if ib x1 3 = true then ((fX0_content N y1.1 y7).bind (fun y8 => (if y8 ≤ 0 then some ((st y3.2.1 3 (upd (y3.2.1 3) (Int32.toNatClampNeg x1) (0 : Int32))), y7) else ((fX5_send N y1.1 x1 v0 (st y3.2.1 3 (upd (y3.2.1 3) (Int32.toNatClampNeg x1) (0 : Int32))) y7 v3).bind (fun y9 => some (y9.1, y9.2)))))) else none))))))))))) else none)))
set_option maxHeartbeats 4000000 in
set_option maxRecDepth 100000 in
theorem ct_X5_pack (g : GT) (l : Launch) (N : Nat) (a0 : Nat → Nat) (a1 : Nat → Nat) (a2 : Nat → Nat) (a3 : Nat → Nat) (x1 : Int32) (x2 : Int32) (v0 : MM) (v1 : MM) (v2 : MM) (v3 : MM) {y : MM × MM} (hf : fX5_pack N x1 x2 v0 v1 v2 v3 = some y) : ct g l yX5_pack wsX5_pack (rmk 2 52) [.ref (a3 0), .int x1, .int x2] [kX3 g a0 v0, kX4 g a1 (a2 0) v1, kX0 g a2 v2, kX5 g a3 (a0 0) (a1 0) v3] none [kX3 g a0 v0, kX4 g a1 (a2 0) y.1, kX0 g a2 y.2, kX5 g a3 (a0 0) (a1 0) v3] := by
  refine ct_of (cc := cX5_pack) (maxL := 6) (ret := none) (by decide) rfl (Nat.le_of_ble_eq_true rfl) ?_
  intro p e s m args below meth c A ls C hr hk0 hA hW hl
  have hx := C.1.1
  have hb := C.1.2.1
  replace hl : lv_has ls 6 [(0, .ref (a3 0)), (1, .int x1), (2, .int x2)] := hl
  obtain ⟨Q, hQ⟩ : ∃ Q, Q = MQ below (ctQ g A none [kX3 g a0 v0, kX4 g a1 (a2 0) y.1, kX0 g a2 y.2, kX5 g a3 (a0 0) (a1 0) v3]) args s 0 0 A := ⟨_, rfl⟩
  rw [← hQ]
  obtain ⟨H, hH⟩ : ∃ H, H = s.heap := ⟨_, rfl⟩
  obtain ⟨locs, hL⟩ : ∃ locs : List Loc, locs = [] := ⟨_, rfl⟩
  replace hW : wd g A s.heap [kX3 g a0 v0, kX4 g a1 (a2 0) v1, kX0 g a2 v2, kX5 g a3 (a0 0) (a1 0) v3] H locs := by rw [hH, hL]; exact hW
  suffices hG : W p l e (rmk 2 52) s m args below meth c H locs 0 0 Q (F0 m 0 ls []) by
    rw [hH, hL] at hG; exact hG
  clear hH hL
  have inX4 : ∀ w ∈ wsX40, w ∈ wsX5_pack := fun _ h => List.mem_cons_of_mem _ (List.mem_append_left _ (List.mem_append_left _ (List.mem_append_right _ (h))))
  have inX5 : ∀ w ∈ wsX50, w ∈ wsX5_pack := fun _ h => List.mem_cons_of_mem _ (List.mem_append_left _ (List.mem_append_left _ (List.mem_append_left _ (List.mem_append_right _ (h)))))
  rw [fX5_pack] at hf
  refine lv_aload_n hx hb dX5_pack_0 rfl (lv_at hl 0 rfl) ?_
  refine g_get C hW inX5 3 rfl rfl rfl 1 (by decide) (List.mem_of_getElem? (i := 1) rfl) (v := .ref (a1 0)) rfl dX5_pack_1 ?_
  refine g_get C hW inX4 1 rfl rfl rfl 14 (by decide) (List.mem_of_getElem? (i := 2) rfl) (v := .ref (a2 0)) rfl dX5_pack_4 ?_
  refine lv_iload_n hx hb dX5_pack_7 rfl (lv_at hl 1 rfl) ?_
  obtain ⟨y1, hc, hf⟩ := bd_of hf
  refine g_cV (Cn := RX0) C (ct_X0_open g l N a2 x1 v2 hc) gX5_pack_X0_open rfl 1 (by decide +kernel) ⟨rfl, rfl, ⟨Nat.le_of_ble_eq_true rfl, Nat.le_of_ble_eq_true rfl⟩, Nat.le_of_ble_eq_true rfl, Nat.le_of_ble_eq_true rfl⟩ rfl hl (Nat.le_of_ble_eq_true rfl) dX5_pack_8 rfl hW hA [2] rfl rfl rfl (ch' := [kX3 g a0 v0, kX4 g a1 (a2 0) v1, kX0 g a2 y1.2, kX5 g a3 (a0 0) (a1 0) v3]) rfl 2 rfl rfl rfl (fun H locs hW => ?_)
  refine lv_istore_n (lv' := [(3, .int y1.1), (0, .ref (a3 0)), (1, .int x1), (2, .int x2)]) hx hb dX5_pack_11 rfl hl (by decide) rfl (fun ls hl => ?_)
  refine lv_aload_n hx hb dX5_pack_12 rfl (lv_at hl 1 rfl) ?_
  refine g_get C hW inX5 3 rfl rfl rfl 1 (by decide) (List.mem_of_getElem? (i := 1) rfl) (v := .ref (a1 0)) rfl dX5_pack_13 ?_
  refine g_get C hW inX4 1 rfl rfl rfl 3 (by decide) (List.mem_of_getElem? (i := 3) rfl) (v := .ref (a1 1)) rfl dX5_pack_16 ?_
  refine lv_iload_n hx hb dX5_pack_19 rfl (lv_at hl 2 rfl) ?_
  obtain ⟨hi, hf⟩ := gd_of hf
  refine g_iald C hW 1 1 rfl (f := (v1 3)) rfl (ib_in hi) dX5_pack_20 ?_
  refine lv_iconst (v := (1 : Int32)) hx hb dX5_pack_21 (by decide) ?_
  refine lv_icmp_ne (tgt := 34) hx hb dX5_pack_22 (by decide) (fun h => ?_) (fun h => ?_)
  · replace hf := (if_neg h).symm.trans hf
    refine lv_iconst (v := (0 : Int32)) hx hb dX5_pack_34 (by decide) ?_
    refine lv_istore (lv' := [(4, .int (0 : Int32)), (3, .int y1.1), (0, .ref (a3 0)), (1, .int x1), (2, .int x2)]) hx hb dX5_pack_35 hl (by decide) rfl (fun ls hl => ?_)
    refine lv_iload hx hb dX5_pack_37 (lv_at hl 0 rfl) ?_
    refine lv_if_eq (tgt := 48) hx hb dX5_pack_39 (by decide) (fun _ => ?_) (fun h => absurd h (by decide))
    refine lv_iload_n hx hb dX5_pack_48 rfl (lv_at hl 4 rfl) ?_
    refine lv_istore (lv' := [(5, .int x2), (4, .int (0 : Int32)), (3, .int y1.1), (0, .ref (a3 0)), (1, .int x1), (2, .int x2)]) hx hb dX5_pack_49 hl (by decide) rfl (fun ls hl => ?_)
    refine lv_aload_n hx hb dX5_pack_51 rfl (lv_at hl 3 rfl) ?_
    refine lv_iload_n hx hb dX5_pack_52 rfl (lv_at hl 4 rfl) ?_
    refine lv_iload_n hx hb dX5_pack_53 rfl (lv_at hl 2 rfl) ?_
    refine lv_iload hx hb dX5_pack_54 (lv_at hl 0 rfl) ?_
    refine lv_iconst (v := (1 : Int32)) hx hb dX5_pack_56 (by decide) ?_
    obtain ⟨y2, hc, hf⟩ := bd_of hf
    refine g_cV (Cn := RX5) C (ct_X5_packLetters g l N a0 a1 a2 a3 x1 y1.1 x2 (1 : Int32) v0 v1 y1.2 v3 hc) gX5_pack_X5_packLetters rfl 4 (by decide +kernel) ⟨rfl, rfl, ⟨Nat.le_of_ble_eq_true rfl, Nat.le_of_ble_eq_true rfl⟩, Nat.le_of_ble_eq_true rfl, Nat.le_of_ble_eq_true rfl⟩ rfl hl (Nat.le_of_ble_eq_true rfl) dX5_pack_57 rfl hW hA [0, 1, 2, 3] rfl rfl rfl (ch' := [kX3 g a0 v0, kX4 g a1 (a2 0) y2.2.1, kX0 g a2 y2.2.2, kX5 g a3 (a0 0) (a1 0) v3]) rfl 3 rfl rfl rfl (fun H locs hW => ?_)
    refine lv_istore (lv' := [(5, .int y2.1), (4, .int (0 : Int32)), (3, .int y1.1), (0, .ref (a3 0)), (1, .int x1), (2, .int x2)]) hx hb dX5_pack_60 hl (by decide) rfl (fun ls hl => ?_)
    refine lv_aload_n hx hb dX5_pack_62 rfl (lv_at hl 3 rfl) ?_
    refine lv_iload_n hx hb dX5_pack_63 rfl (lv_at hl 4 rfl) ?_
    refine lv_iload_n hx hb dX5_pack_64 rfl (lv_at hl 2 rfl) ?_
    refine lv_iload hx hb dX5_pack_65 (lv_at hl 0 rfl) ?_
    refine lv_iconst (v := (0 : Int32)) hx hb dX5_pack_67 (by decide) ?_
    obtain ⟨y3, hc, hf⟩ := bd_of hf
    refine g_cV (Cn := RX5) C (ct_X5_packLetters g l N a0 a1 a2 a3 x1 y1.1 y2.1 (0 : Int32) v0 y2.2.1 y2.2.2 v3 hc) gX5_pack_X5_packLetters rfl 4 (by decide +kernel) ⟨rfl, rfl, ⟨Nat.le_of_ble_eq_true rfl, Nat.le_of_ble_eq_true rfl⟩, Nat.le_of_ble_eq_true rfl, Nat.le_of_ble_eq_true rfl⟩ rfl hl (Nat.le_of_ble_eq_true rfl) dX5_pack_68 rfl hW hA [0, 1, 2, 3] rfl rfl rfl (ch' := [kX3 g a0 v0, kX4 g a1 (a2 0) y3.2.1, kX0 g a2 y3.2.2, kX5 g a3 (a0 0) (a1 0) v3]) rfl 3 rfl rfl rfl (fun H locs hW => ?_)
    refine lv_istore (lv' := [(5, .int y3.1), (4, .int (0 : Int32)), (3, .int y1.1), (0, .ref (a3 0)), (1, .int x1), (2, .int x2)]) hx hb dX5_pack_71 hl (by decide) rfl (fun ls hl => ?_)
    refine lv_iload hx hb dX5_pack_73 (lv_at hl 1 rfl) ?_
    refine lv_if_ne (tgt := 84) hx hb dX5_pack_75 (by decide) (fun h => absurd h (by decide)) (fun _ => ?_)
    refine lv_iload hx hb dX5_pack_78 (lv_at hl 0 rfl) ?_
    refine lv_iconst (v := (2 : Int32)) hx hb dX5_pack_80 (by decide) ?_
    refine lv_icmp_lt (tgt := 110) hx hb dX5_pack_81 (by decide) (fun h => ?_) (fun h => ?_)
    · replace hf := (if_pos h).symm.trans hf
      refine lv_aload_n hx hb dX5_pack_110 rfl (lv_at hl 3 rfl) ?_
      refine g_get C hW inX5 3 rfl rfl rfl 1 (by decide) (List.mem_of_getElem? (i := 1) rfl) (v := .ref (a1 0)) rfl dX5_pack_111 ?_
      refine g_get C hW inX4 1 rfl rfl rfl 14 (by decide) (List.mem_of_getElem? (i := 2) rfl) (v := .ref (a2 0)) rfl dX5_pack_114 ?_
      refine lv_iload_n hx hb dX5_pack_117 rfl (lv_at hl 2 rfl) ?_
      obtain ⟨y4, hc, hf⟩ := bd_of hf
      refine g_cV (Cn := RX0) C (ct_X0_content g l N a2 y1.1 y3.2.2 hc) gX5_pack_X0_content rfl 1 (by decide +kernel) ⟨rfl, rfl, ⟨Nat.le_of_ble_eq_true rfl, Nat.le_of_ble_eq_true rfl⟩, Nat.le_of_ble_eq_true rfl, Nat.le_of_ble_eq_true rfl⟩ rfl hl (Nat.le_of_ble_eq_true rfl) dX5_pack_118 rfl hW hA [2] rfl rfl rfl (ch' := [kX3 g a0 v0, kX4 g a1 (a2 0) y3.2.1, kX0 g a2 y3.2.2, kX5 g a3 (a0 0) (a1 0) v3]) rfl 2 rfl rfl rfl (fun H locs hW => ?_)
      refine lv_if_le (tgt := 130) hx hb dX5_pack_121 (by decide) (fun h => ?_) (fun h => ?_)
      · replace hf := (if_pos h).symm.trans hf
        obtain rfl := Option.some.inj hf
        subst hQ
        exact g_vret C hr hk0 hW rfl rfl dX5_pack_130
      · replace hf := (if_neg h).symm.trans hf
        refine lv_aload_n hx hb dX5_pack_124 rfl (lv_at hl 3 rfl) ?_
        refine lv_iload_n hx hb dX5_pack_125 rfl (lv_at hl 2 rfl) ?_
        refine lv_iload_n hx hb dX5_pack_126 rfl (lv_at hl 4 rfl) ?_
        obtain ⟨y5, hc, hf⟩ := bd_of hf
        refine g_cVv (Cn := RX5) C (ct_X5_send g l N a0 a1 a2 a3 y1.1 x1 v0 y3.2.1 y3.2.2 v3 hc) gX5_pack_X5_send rfl 2 (by decide +kernel) ⟨rfl, rfl, ⟨Nat.le_of_ble_eq_true rfl, Nat.le_of_ble_eq_true rfl⟩, Nat.le_of_ble_eq_true rfl, Nat.le_of_ble_eq_true rfl⟩ rfl hl (Nat.le_of_ble_eq_true rfl) dX5_pack_127 rfl hW hA [0, 1, 2, 3] rfl rfl rfl (ch' := [kX3 g a0 v0, kX4 g a1 (a2 0) y5.1, kX0 g a2 y5.2, kX5 g a3 (a0 0) (a1 0) v3]) rfl 3 rfl rfl rfl (fun H locs hW => ?_)
        obtain rfl := Option.some.inj hf
        subst hQ
        exact g_vret C hr hk0 hW rfl rfl dX5_pack_130
    · replace hf := (if_neg h).symm.trans hf
      refine lv_aload_n hx hb dX5_pack_84 rfl (lv_at hl 3 rfl) ?_
      refine g_get C hW inX5 3 rfl rfl rfl 1 (by decide) (List.mem_of_getElem? (i := 1) rfl) (v := .ref (a1 0)) rfl dX5_pack_85 ?_
      refine g_get C hW inX4 1 rfl rfl rfl 14 (by decide) (List.mem_of_getElem? (i := 2) rfl) (v := .ref (a2 0)) rfl dX5_pack_88 ?_
      refine lv_iload_n hx hb dX5_pack_91 rfl (lv_at hl 2 rfl) ?_
      refine lv_aload_n hx hb dX5_pack_92 rfl (lv_at hl 3 rfl) ?_
      refine lv_iload_n hx hb dX5_pack_93 rfl (lv_at hl 4 rfl) ?_
      obtain ⟨y6, hc, hf⟩ := bd_of hf
      refine g_cV (Cn := RX5) C (ct_X5_waitingAt g l N a0 a1 a3 (a2 0) x1 v0 y3.2.1 v3 hc) gX5_pack_X5_waitingAt rfl 1 (by decide +kernel) ⟨rfl, rfl, ⟨Nat.le_of_ble_eq_true rfl, Nat.le_of_ble_eq_true rfl⟩, Nat.le_of_ble_eq_true rfl, Nat.le_of_ble_eq_true rfl⟩ rfl hl (Nat.le_of_ble_eq_true rfl) dX5_pack_94 rfl hW hA [0, 1, 3] rfl rfl rfl (ch' := [kX3 g a0 v0, kX4 g a1 (a2 0) y3.2.1, kX0 g a2 y3.2.2, kX5 g a3 (a0 0) (a1 0) v3]) rfl 3 rfl rfl rfl (fun H locs hW => ?_)
      obtain ⟨y7, hc, hf⟩ := bd_of hf
      refine g_cVv (Cn := RX0) C (ct_X0_putReport g l N a2 y1.1 y6 y3.2.2 hc) gX5_pack_X0_putReport rfl 2 (by decide +kernel) ⟨rfl, rfl, ⟨Nat.le_of_ble_eq_true rfl, Nat.le_of_ble_eq_true rfl⟩, Nat.le_of_ble_eq_true rfl, Nat.le_of_ble_eq_true rfl⟩ rfl hl (Nat.le_of_ble_eq_true rfl) dX5_pack_97 rfl hW hA [2] rfl rfl rfl (ch' := [kX3 g a0 v0, kX4 g a1 (a2 0) y3.2.1, kX0 g a2 y7, kX5 g a3 (a0 0) (a1 0) v3]) rfl 2 rfl rfl rfl (fun H locs hW => ?_)
      refine lv_aload_n hx hb dX5_pack_100 rfl (lv_at hl 3 rfl) ?_
      refine g_get C hW inX5 3 rfl rfl rfl 1 (by decide) (List.mem_of_getElem? (i := 1) rfl) (v := .ref (a1 0)) rfl dX5_pack_101 ?_
      refine g_get C hW inX4 1 rfl rfl rfl 3 (by decide) (List.mem_of_getElem? (i := 3) rfl) (v := .ref (a1 1)) rfl dX5_pack_104 ?_
      refine lv_iload_n hx hb dX5_pack_107 rfl (lv_at hl 4 rfl) ?_
      refine lv_iconst (v := (0 : Int32)) hx hb dX5_pack_108 (by decide) ?_
      obtain ⟨hi, hf⟩ := gd_of hf
      refine g_iast C hW 1 1 rfl (f := (y3.2.1 3)) rfl (ib_in hi) (kX4_w3 g a1 (a2 0) y3.2.1 (upd (y3.2.1 3) (Int32.toNatClampNeg x1) (0 : Int32))) (ch' := [kX3 g a0 v0, kX4 g a1 (a2 0) (st y3.2.1 3 (upd (y3.2.1 3) (Int32.toNatClampNeg x1) (0 : Int32))), kX0 g a2 y7, kX5 g a3 (a0 0) (a1 0) v3]) rfl dX5_pack_109 (fun H locs hW => ?_)
      refine lv_aload_n hx hb dX5_pack_110 rfl (lv_at hl 3 rfl) ?_
      refine g_get C hW inX5 3 rfl rfl rfl 1 (by decide) (List.mem_of_getElem? (i := 1) rfl) (v := .ref (a1 0)) rfl dX5_pack_111 ?_
      refine g_get C hW inX4 1 rfl rfl rfl 14 (by decide) (List.mem_of_getElem? (i := 2) rfl) (v := .ref (a2 0)) rfl dX5_pack_114 ?_
      refine lv_iload_n hx hb dX5_pack_117 rfl (lv_at hl 2 rfl) ?_
      obtain ⟨y8, hc, hf⟩ := bd_of hf
      refine g_cV (Cn := RX0) C (ct_X0_content g l N a2 y1.1 y7 hc) gX5_pack_X0_content rfl 1 (by decide +kernel) ⟨rfl, rfl, ⟨Nat.le_of_ble_eq_true rfl, Nat.le_of_ble_eq_true rfl⟩, Nat.le_of_ble_eq_true rfl, Nat.le_of_ble_eq_true rfl⟩ rfl hl (Nat.le_of_ble_eq_true rfl) dX5_pack_118 rfl hW hA [2] rfl rfl rfl (ch' := [kX3 g a0 v0, kX4 g a1 (a2 0) (st y3.2.1 3 (upd (y3.2.1 3) (Int32.toNatClampNeg x1) (0 : Int32))), kX0 g a2 y7, kX5 g a3 (a0 0) (a1 0) v3]) rfl 2 rfl rfl rfl (fun H locs hW => ?_)
      refine lv_if_le (tgt := 130) hx hb dX5_pack_121 (by decide) (fun h => ?_) (fun h => ?_)
      · replace hf := (if_pos h).symm.trans hf
        obtain rfl := Option.some.inj hf
        subst hQ
        exact g_vret C hr hk0 hW rfl rfl dX5_pack_130
      · replace hf := (if_neg h).symm.trans hf
        refine lv_aload_n hx hb dX5_pack_124 rfl (lv_at hl 3 rfl) ?_
        refine lv_iload_n hx hb dX5_pack_125 rfl (lv_at hl 2 rfl) ?_
        refine lv_iload_n hx hb dX5_pack_126 rfl (lv_at hl 4 rfl) ?_
        obtain ⟨y9, hc, hf⟩ := bd_of hf
        refine g_cVv (Cn := RX5) C (ct_X5_send g l N a0 a1 a2 a3 y1.1 x1 v0 (st y3.2.1 3 (upd (y3.2.1 3) (Int32.toNatClampNeg x1) (0 : Int32))) y7 v3 hc) gX5_pack_X5_send rfl 2 (by decide +kernel) ⟨rfl, rfl, ⟨Nat.le_of_ble_eq_true rfl, Nat.le_of_ble_eq_true rfl⟩, Nat.le_of_ble_eq_true rfl, Nat.le_of_ble_eq_true rfl⟩ rfl hl (Nat.le_of_ble_eq_true rfl) dX5_pack_127 rfl hW hA [0, 1, 2, 3] rfl rfl rfl (ch' := [kX3 g a0 v0, kX4 g a1 (a2 0) y9.1, kX0 g a2 y9.2, kX5 g a3 (a0 0) (a1 0) v3]) rfl 3 rfl rfl rfl (fun H locs hW => ?_)
        obtain rfl := Option.some.inj hf
        subst hQ
        exact g_vret C hr hk0 hW rfl rfl dX5_pack_130
  · replace hf := (if_pos h).symm.trans hf
    refine lv_iload_n hx hb dX5_pack_25 rfl (lv_at hl 3 rfl) ?_
    refine lv_iconst (v := (2 : Int32)) hx hb dX5_pack_26 (by decide) ?_
    refine lv_icmp_lt (tgt := 34) hx hb dX5_pack_27 (by decide) (fun h => ?_) (fun h => ?_)
    · replace hf := (if_pos h).symm.trans hf
      refine lv_iconst (v := (0 : Int32)) hx hb dX5_pack_34 (by decide) ?_
      refine lv_istore (lv' := [(4, .int (0 : Int32)), (3, .int y1.1), (0, .ref (a3 0)), (1, .int x1), (2, .int x2)]) hx hb dX5_pack_35 hl (by decide) rfl (fun ls hl => ?_)
      refine lv_iload hx hb dX5_pack_37 (lv_at hl 0 rfl) ?_
      refine lv_if_eq (tgt := 48) hx hb dX5_pack_39 (by decide) (fun _ => ?_) (fun h => absurd h (by decide))
      refine lv_iload_n hx hb dX5_pack_48 rfl (lv_at hl 4 rfl) ?_
      refine lv_istore (lv' := [(5, .int x2), (4, .int (0 : Int32)), (3, .int y1.1), (0, .ref (a3 0)), (1, .int x1), (2, .int x2)]) hx hb dX5_pack_49 hl (by decide) rfl (fun ls hl => ?_)
      refine lv_aload_n hx hb dX5_pack_51 rfl (lv_at hl 3 rfl) ?_
      refine lv_iload_n hx hb dX5_pack_52 rfl (lv_at hl 4 rfl) ?_
      refine lv_iload_n hx hb dX5_pack_53 rfl (lv_at hl 2 rfl) ?_
      refine lv_iload hx hb dX5_pack_54 (lv_at hl 0 rfl) ?_
      refine lv_iconst (v := (1 : Int32)) hx hb dX5_pack_56 (by decide) ?_
      obtain ⟨y10, hc, hf⟩ := bd_of hf
      refine g_cV (Cn := RX5) C (ct_X5_packLetters g l N a0 a1 a2 a3 x1 y1.1 x2 (1 : Int32) v0 v1 y1.2 v3 hc) gX5_pack_X5_packLetters rfl 4 (by decide +kernel) ⟨rfl, rfl, ⟨Nat.le_of_ble_eq_true rfl, Nat.le_of_ble_eq_true rfl⟩, Nat.le_of_ble_eq_true rfl, Nat.le_of_ble_eq_true rfl⟩ rfl hl (Nat.le_of_ble_eq_true rfl) dX5_pack_57 rfl hW hA [0, 1, 2, 3] rfl rfl rfl (ch' := [kX3 g a0 v0, kX4 g a1 (a2 0) y10.2.1, kX0 g a2 y10.2.2, kX5 g a3 (a0 0) (a1 0) v3]) rfl 3 rfl rfl rfl (fun H locs hW => ?_)
      refine lv_istore (lv' := [(5, .int y10.1), (4, .int (0 : Int32)), (3, .int y1.1), (0, .ref (a3 0)), (1, .int x1), (2, .int x2)]) hx hb dX5_pack_60 hl (by decide) rfl (fun ls hl => ?_)
      refine lv_aload_n hx hb dX5_pack_62 rfl (lv_at hl 3 rfl) ?_
      refine lv_iload_n hx hb dX5_pack_63 rfl (lv_at hl 4 rfl) ?_
      refine lv_iload_n hx hb dX5_pack_64 rfl (lv_at hl 2 rfl) ?_
      refine lv_iload hx hb dX5_pack_65 (lv_at hl 0 rfl) ?_
      refine lv_iconst (v := (0 : Int32)) hx hb dX5_pack_67 (by decide) ?_
      obtain ⟨y11, hc, hf⟩ := bd_of hf
      refine g_cV (Cn := RX5) C (ct_X5_packLetters g l N a0 a1 a2 a3 x1 y1.1 y10.1 (0 : Int32) v0 y10.2.1 y10.2.2 v3 hc) gX5_pack_X5_packLetters rfl 4 (by decide +kernel) ⟨rfl, rfl, ⟨Nat.le_of_ble_eq_true rfl, Nat.le_of_ble_eq_true rfl⟩, Nat.le_of_ble_eq_true rfl, Nat.le_of_ble_eq_true rfl⟩ rfl hl (Nat.le_of_ble_eq_true rfl) dX5_pack_68 rfl hW hA [0, 1, 2, 3] rfl rfl rfl (ch' := [kX3 g a0 v0, kX4 g a1 (a2 0) y11.2.1, kX0 g a2 y11.2.2, kX5 g a3 (a0 0) (a1 0) v3]) rfl 3 rfl rfl rfl (fun H locs hW => ?_)
      refine lv_istore (lv' := [(5, .int y11.1), (4, .int (0 : Int32)), (3, .int y1.1), (0, .ref (a3 0)), (1, .int x1), (2, .int x2)]) hx hb dX5_pack_71 hl (by decide) rfl (fun ls hl => ?_)
      refine lv_iload hx hb dX5_pack_73 (lv_at hl 1 rfl) ?_
      refine lv_if_ne (tgt := 84) hx hb dX5_pack_75 (by decide) (fun h => absurd h (by decide)) (fun _ => ?_)
      refine lv_iload hx hb dX5_pack_78 (lv_at hl 0 rfl) ?_
      refine lv_iconst (v := (2 : Int32)) hx hb dX5_pack_80 (by decide) ?_
      refine lv_icmp_lt (tgt := 110) hx hb dX5_pack_81 (by decide) (fun h => ?_) (fun h => ?_)
      · replace hf := (if_pos h).symm.trans hf
        refine lv_aload_n hx hb dX5_pack_110 rfl (lv_at hl 3 rfl) ?_
        refine g_get C hW inX5 3 rfl rfl rfl 1 (by decide) (List.mem_of_getElem? (i := 1) rfl) (v := .ref (a1 0)) rfl dX5_pack_111 ?_
        refine g_get C hW inX4 1 rfl rfl rfl 14 (by decide) (List.mem_of_getElem? (i := 2) rfl) (v := .ref (a2 0)) rfl dX5_pack_114 ?_
        refine lv_iload_n hx hb dX5_pack_117 rfl (lv_at hl 2 rfl) ?_
        obtain ⟨y12, hc, hf⟩ := bd_of hf
        refine g_cV (Cn := RX0) C (ct_X0_content g l N a2 y1.1 y11.2.2 hc) gX5_pack_X0_content rfl 1 (by decide +kernel) ⟨rfl, rfl, ⟨Nat.le_of_ble_eq_true rfl, Nat.le_of_ble_eq_true rfl⟩, Nat.le_of_ble_eq_true rfl, Nat.le_of_ble_eq_true rfl⟩ rfl hl (Nat.le_of_ble_eq_true rfl) dX5_pack_118 rfl hW hA [2] rfl rfl rfl (ch' := [kX3 g a0 v0, kX4 g a1 (a2 0) y11.2.1, kX0 g a2 y11.2.2, kX5 g a3 (a0 0) (a1 0) v3]) rfl 2 rfl rfl rfl (fun H locs hW => ?_)
        refine lv_if_le (tgt := 130) hx hb dX5_pack_121 (by decide) (fun h => ?_) (fun h => ?_)
        · replace hf := (if_pos h).symm.trans hf
          obtain rfl := Option.some.inj hf
          subst hQ
          exact g_vret C hr hk0 hW rfl rfl dX5_pack_130
        · replace hf := (if_neg h).symm.trans hf
          refine lv_aload_n hx hb dX5_pack_124 rfl (lv_at hl 3 rfl) ?_
          refine lv_iload_n hx hb dX5_pack_125 rfl (lv_at hl 2 rfl) ?_
          refine lv_iload_n hx hb dX5_pack_126 rfl (lv_at hl 4 rfl) ?_
          obtain ⟨y13, hc, hf⟩ := bd_of hf
          refine g_cVv (Cn := RX5) C (ct_X5_send g l N a0 a1 a2 a3 y1.1 x1 v0 y11.2.1 y11.2.2 v3 hc) gX5_pack_X5_send rfl 2 (by decide +kernel) ⟨rfl, rfl, ⟨Nat.le_of_ble_eq_true rfl, Nat.le_of_ble_eq_true rfl⟩, Nat.le_of_ble_eq_true rfl, Nat.le_of_ble_eq_true rfl⟩ rfl hl (Nat.le_of_ble_eq_true rfl) dX5_pack_127 rfl hW hA [0, 1, 2, 3] rfl rfl rfl (ch' := [kX3 g a0 v0, kX4 g a1 (a2 0) y13.1, kX0 g a2 y13.2, kX5 g a3 (a0 0) (a1 0) v3]) rfl 3 rfl rfl rfl (fun H locs hW => ?_)
          obtain rfl := Option.some.inj hf
          subst hQ
          exact g_vret C hr hk0 hW rfl rfl dX5_pack_130
      · replace hf := (if_neg h).symm.trans hf
        refine lv_aload_n hx hb dX5_pack_84 rfl (lv_at hl 3 rfl) ?_
        refine g_get C hW inX5 3 rfl rfl rfl 1 (by decide) (List.mem_of_getElem? (i := 1) rfl) (v := .ref (a1 0)) rfl dX5_pack_85 ?_
        refine g_get C hW inX4 1 rfl rfl rfl 14 (by decide) (List.mem_of_getElem? (i := 2) rfl) (v := .ref (a2 0)) rfl dX5_pack_88 ?_
        refine lv_iload_n hx hb dX5_pack_91 rfl (lv_at hl 2 rfl) ?_
        refine lv_aload_n hx hb dX5_pack_92 rfl (lv_at hl 3 rfl) ?_
        refine lv_iload_n hx hb dX5_pack_93 rfl (lv_at hl 4 rfl) ?_
        obtain ⟨y14, hc, hf⟩ := bd_of hf
        refine g_cV (Cn := RX5) C (ct_X5_waitingAt g l N a0 a1 a3 (a2 0) x1 v0 y11.2.1 v3 hc) gX5_pack_X5_waitingAt rfl 1 (by decide +kernel) ⟨rfl, rfl, ⟨Nat.le_of_ble_eq_true rfl, Nat.le_of_ble_eq_true rfl⟩, Nat.le_of_ble_eq_true rfl, Nat.le_of_ble_eq_true rfl⟩ rfl hl (Nat.le_of_ble_eq_true rfl) dX5_pack_94 rfl hW hA [0, 1, 3] rfl rfl rfl (ch' := [kX3 g a0 v0, kX4 g a1 (a2 0) y11.2.1, kX0 g a2 y11.2.2, kX5 g a3 (a0 0) (a1 0) v3]) rfl 3 rfl rfl rfl (fun H locs hW => ?_)
        obtain ⟨y15, hc, hf⟩ := bd_of hf
        refine g_cVv (Cn := RX0) C (ct_X0_putReport g l N a2 y1.1 y14 y11.2.2 hc) gX5_pack_X0_putReport rfl 2 (by decide +kernel) ⟨rfl, rfl, ⟨Nat.le_of_ble_eq_true rfl, Nat.le_of_ble_eq_true rfl⟩, Nat.le_of_ble_eq_true rfl, Nat.le_of_ble_eq_true rfl⟩ rfl hl (Nat.le_of_ble_eq_true rfl) dX5_pack_97 rfl hW hA [2] rfl rfl rfl (ch' := [kX3 g a0 v0, kX4 g a1 (a2 0) y11.2.1, kX0 g a2 y15, kX5 g a3 (a0 0) (a1 0) v3]) rfl 2 rfl rfl rfl (fun H locs hW => ?_)
        refine lv_aload_n hx hb dX5_pack_100 rfl (lv_at hl 3 rfl) ?_
        refine g_get C hW inX5 3 rfl rfl rfl 1 (by decide) (List.mem_of_getElem? (i := 1) rfl) (v := .ref (a1 0)) rfl dX5_pack_101 ?_
        refine g_get C hW inX4 1 rfl rfl rfl 3 (by decide) (List.mem_of_getElem? (i := 3) rfl) (v := .ref (a1 1)) rfl dX5_pack_104 ?_
        refine lv_iload_n hx hb dX5_pack_107 rfl (lv_at hl 4 rfl) ?_
        refine lv_iconst (v := (0 : Int32)) hx hb dX5_pack_108 (by decide) ?_
        obtain ⟨hi, hf⟩ := gd_of hf
        refine g_iast C hW 1 1 rfl (f := (y11.2.1 3)) rfl (ib_in hi) (kX4_w3 g a1 (a2 0) y11.2.1 (upd (y11.2.1 3) (Int32.toNatClampNeg x1) (0 : Int32))) (ch' := [kX3 g a0 v0, kX4 g a1 (a2 0) (st y11.2.1 3 (upd (y11.2.1 3) (Int32.toNatClampNeg x1) (0 : Int32))), kX0 g a2 y15, kX5 g a3 (a0 0) (a1 0) v3]) rfl dX5_pack_109 (fun H locs hW => ?_)
        refine lv_aload_n hx hb dX5_pack_110 rfl (lv_at hl 3 rfl) ?_
        refine g_get C hW inX5 3 rfl rfl rfl 1 (by decide) (List.mem_of_getElem? (i := 1) rfl) (v := .ref (a1 0)) rfl dX5_pack_111 ?_
        refine g_get C hW inX4 1 rfl rfl rfl 14 (by decide) (List.mem_of_getElem? (i := 2) rfl) (v := .ref (a2 0)) rfl dX5_pack_114 ?_
        refine lv_iload_n hx hb dX5_pack_117 rfl (lv_at hl 2 rfl) ?_
        obtain ⟨y16, hc, hf⟩ := bd_of hf
        refine g_cV (Cn := RX0) C (ct_X0_content g l N a2 y1.1 y15 hc) gX5_pack_X0_content rfl 1 (by decide +kernel) ⟨rfl, rfl, ⟨Nat.le_of_ble_eq_true rfl, Nat.le_of_ble_eq_true rfl⟩, Nat.le_of_ble_eq_true rfl, Nat.le_of_ble_eq_true rfl⟩ rfl hl (Nat.le_of_ble_eq_true rfl) dX5_pack_118 rfl hW hA [2] rfl rfl rfl (ch' := [kX3 g a0 v0, kX4 g a1 (a2 0) (st y11.2.1 3 (upd (y11.2.1 3) (Int32.toNatClampNeg x1) (0 : Int32))), kX0 g a2 y15, kX5 g a3 (a0 0) (a1 0) v3]) rfl 2 rfl rfl rfl (fun H locs hW => ?_)
        refine lv_if_le (tgt := 130) hx hb dX5_pack_121 (by decide) (fun h => ?_) (fun h => ?_)
        · replace hf := (if_pos h).symm.trans hf
          obtain rfl := Option.some.inj hf
          subst hQ
          exact g_vret C hr hk0 hW rfl rfl dX5_pack_130
        · replace hf := (if_neg h).symm.trans hf
          refine lv_aload_n hx hb dX5_pack_124 rfl (lv_at hl 3 rfl) ?_
          refine lv_iload_n hx hb dX5_pack_125 rfl (lv_at hl 2 rfl) ?_
          refine lv_iload_n hx hb dX5_pack_126 rfl (lv_at hl 4 rfl) ?_
          obtain ⟨y17, hc, hf⟩ := bd_of hf
          refine g_cVv (Cn := RX5) C (ct_X5_send g l N a0 a1 a2 a3 y1.1 x1 v0 (st y11.2.1 3 (upd (y11.2.1 3) (Int32.toNatClampNeg x1) (0 : Int32))) y15 v3 hc) gX5_pack_X5_send rfl 2 (by decide +kernel) ⟨rfl, rfl, ⟨Nat.le_of_ble_eq_true rfl, Nat.le_of_ble_eq_true rfl⟩, Nat.le_of_ble_eq_true rfl, Nat.le_of_ble_eq_true rfl⟩ rfl hl (Nat.le_of_ble_eq_true rfl) dX5_pack_127 rfl hW hA [0, 1, 2, 3] rfl rfl rfl (ch' := [kX3 g a0 v0, kX4 g a1 (a2 0) y17.1, kX0 g a2 y17.2, kX5 g a3 (a0 0) (a1 0) v3]) rfl 3 rfl rfl rfl (fun H locs hW => ?_)
          obtain rfl := Option.some.inj hf
          subst hQ
          exact g_vret C hr hk0 hW rfl rfl dX5_pack_130
    · replace hf := (if_neg h).symm.trans hf
      refine lv_iconst (v := (1 : Int32)) hx hb dX5_pack_30 (by decide) ?_
      refine lv_goto (tgt := 35) hx hb dX5_pack_31 (by decide) ?_
      refine lv_istore (lv' := [(4, .int (1 : Int32)), (3, .int y1.1), (0, .ref (a3 0)), (1, .int x1), (2, .int x2)]) hx hb dX5_pack_35 hl (by decide) rfl (fun ls hl => ?_)
      refine lv_iload hx hb dX5_pack_37 (lv_at hl 0 rfl) ?_
      refine lv_if_eq (tgt := 48) hx hb dX5_pack_39 (by decide) (fun h => absurd h (by decide)) (fun _ => ?_)
      refine lv_iload_n hx hb dX5_pack_42 rfl (lv_at hl 4 rfl) ?_
      refine lv_iconst (v := (2 : Int32)) hx hb dX5_pack_43 (by decide) ?_
      refine lv_isub hx hb dX5_pack_44 ?_
      refine lv_goto (tgt := 49) hx hb dX5_pack_45 (by decide) ?_
      refine lv_istore (lv' := [(5, .int (x2 - (2 : Int32))), (4, .int (1 : Int32)), (3, .int y1.1), (0, .ref (a3 0)), (1, .int x1), (2, .int x2)]) hx hb dX5_pack_49 hl (by decide) rfl (fun ls hl => ?_)
      refine lv_aload_n hx hb dX5_pack_51 rfl (lv_at hl 3 rfl) ?_
      refine lv_iload_n hx hb dX5_pack_52 rfl (lv_at hl 4 rfl) ?_
      refine lv_iload_n hx hb dX5_pack_53 rfl (lv_at hl 2 rfl) ?_
      refine lv_iload hx hb dX5_pack_54 (lv_at hl 0 rfl) ?_
      refine lv_iconst (v := (1 : Int32)) hx hb dX5_pack_56 (by decide) ?_
      obtain ⟨y18, hc, hf⟩ := bd_of hf
      refine g_cV (Cn := RX5) C (ct_X5_packLetters g l N a0 a1 a2 a3 x1 y1.1 (x2 - (2 : Int32)) (1 : Int32) v0 v1 y1.2 v3 hc) gX5_pack_X5_packLetters rfl 4 (by decide +kernel) ⟨rfl, rfl, ⟨Nat.le_of_ble_eq_true rfl, Nat.le_of_ble_eq_true rfl⟩, Nat.le_of_ble_eq_true rfl, Nat.le_of_ble_eq_true rfl⟩ rfl hl (Nat.le_of_ble_eq_true rfl) dX5_pack_57 rfl hW hA [0, 1, 2, 3] rfl rfl rfl (ch' := [kX3 g a0 v0, kX4 g a1 (a2 0) y18.2.1, kX0 g a2 y18.2.2, kX5 g a3 (a0 0) (a1 0) v3]) rfl 3 rfl rfl rfl (fun H locs hW => ?_)
      refine lv_istore (lv' := [(5, .int y18.1), (4, .int (1 : Int32)), (3, .int y1.1), (0, .ref (a3 0)), (1, .int x1), (2, .int x2)]) hx hb dX5_pack_60 hl (by decide) rfl (fun ls hl => ?_)
      refine lv_aload_n hx hb dX5_pack_62 rfl (lv_at hl 3 rfl) ?_
      refine lv_iload_n hx hb dX5_pack_63 rfl (lv_at hl 4 rfl) ?_
      refine lv_iload_n hx hb dX5_pack_64 rfl (lv_at hl 2 rfl) ?_
      refine lv_iload hx hb dX5_pack_65 (lv_at hl 0 rfl) ?_
      refine lv_iconst (v := (0 : Int32)) hx hb dX5_pack_67 (by decide) ?_
      obtain ⟨y19, hc, hf⟩ := bd_of hf
      refine g_cV (Cn := RX5) C (ct_X5_packLetters g l N a0 a1 a2 a3 x1 y1.1 y18.1 (0 : Int32) v0 y18.2.1 y18.2.2 v3 hc) gX5_pack_X5_packLetters rfl 4 (by decide +kernel) ⟨rfl, rfl, ⟨Nat.le_of_ble_eq_true rfl, Nat.le_of_ble_eq_true rfl⟩, Nat.le_of_ble_eq_true rfl, Nat.le_of_ble_eq_true rfl⟩ rfl hl (Nat.le_of_ble_eq_true rfl) dX5_pack_68 rfl hW hA [0, 1, 2, 3] rfl rfl rfl (ch' := [kX3 g a0 v0, kX4 g a1 (a2 0) y19.2.1, kX0 g a2 y19.2.2, kX5 g a3 (a0 0) (a1 0) v3]) rfl 3 rfl rfl rfl (fun H locs hW => ?_)
      refine lv_istore (lv' := [(5, .int y19.1), (4, .int (1 : Int32)), (3, .int y1.1), (0, .ref (a3 0)), (1, .int x1), (2, .int x2)]) hx hb dX5_pack_71 hl (by decide) rfl (fun ls hl => ?_)
      refine lv_iload hx hb dX5_pack_73 (lv_at hl 1 rfl) ?_
      refine lv_if_ne (tgt := 84) hx hb dX5_pack_75 (by decide) (fun _ => ?_) (fun h => absurd h (by decide))
      refine lv_aload_n hx hb dX5_pack_84 rfl (lv_at hl 3 rfl) ?_
      refine g_get C hW inX5 3 rfl rfl rfl 1 (by decide) (List.mem_of_getElem? (i := 1) rfl) (v := .ref (a1 0)) rfl dX5_pack_85 ?_
      refine g_get C hW inX4 1 rfl rfl rfl 14 (by decide) (List.mem_of_getElem? (i := 2) rfl) (v := .ref (a2 0)) rfl dX5_pack_88 ?_
      refine lv_iload_n hx hb dX5_pack_91 rfl (lv_at hl 2 rfl) ?_
      refine lv_aload_n hx hb dX5_pack_92 rfl (lv_at hl 3 rfl) ?_
      refine lv_iload_n hx hb dX5_pack_93 rfl (lv_at hl 4 rfl) ?_
      obtain ⟨y20, hc, hf⟩ := bd_of hf
      refine g_cV (Cn := RX5) C (ct_X5_waitingAt g l N a0 a1 a3 (a2 0) x1 v0 y19.2.1 v3 hc) gX5_pack_X5_waitingAt rfl 1 (by decide +kernel) ⟨rfl, rfl, ⟨Nat.le_of_ble_eq_true rfl, Nat.le_of_ble_eq_true rfl⟩, Nat.le_of_ble_eq_true rfl, Nat.le_of_ble_eq_true rfl⟩ rfl hl (Nat.le_of_ble_eq_true rfl) dX5_pack_94 rfl hW hA [0, 1, 3] rfl rfl rfl (ch' := [kX3 g a0 v0, kX4 g a1 (a2 0) y19.2.1, kX0 g a2 y19.2.2, kX5 g a3 (a0 0) (a1 0) v3]) rfl 3 rfl rfl rfl (fun H locs hW => ?_)
      obtain ⟨y21, hc, hf⟩ := bd_of hf
      refine g_cVv (Cn := RX0) C (ct_X0_putReport g l N a2 y1.1 y20 y19.2.2 hc) gX5_pack_X0_putReport rfl 2 (by decide +kernel) ⟨rfl, rfl, ⟨Nat.le_of_ble_eq_true rfl, Nat.le_of_ble_eq_true rfl⟩, Nat.le_of_ble_eq_true rfl, Nat.le_of_ble_eq_true rfl⟩ rfl hl (Nat.le_of_ble_eq_true rfl) dX5_pack_97 rfl hW hA [2] rfl rfl rfl (ch' := [kX3 g a0 v0, kX4 g a1 (a2 0) y19.2.1, kX0 g a2 y21, kX5 g a3 (a0 0) (a1 0) v3]) rfl 2 rfl rfl rfl (fun H locs hW => ?_)
      refine lv_aload_n hx hb dX5_pack_100 rfl (lv_at hl 3 rfl) ?_
      refine g_get C hW inX5 3 rfl rfl rfl 1 (by decide) (List.mem_of_getElem? (i := 1) rfl) (v := .ref (a1 0)) rfl dX5_pack_101 ?_
      refine g_get C hW inX4 1 rfl rfl rfl 3 (by decide) (List.mem_of_getElem? (i := 3) rfl) (v := .ref (a1 1)) rfl dX5_pack_104 ?_
      refine lv_iload_n hx hb dX5_pack_107 rfl (lv_at hl 4 rfl) ?_
      refine lv_iconst (v := (0 : Int32)) hx hb dX5_pack_108 (by decide) ?_
      obtain ⟨hi, hf⟩ := gd_of hf
      refine g_iast C hW 1 1 rfl (f := (y19.2.1 3)) rfl (ib_in hi) (kX4_w3 g a1 (a2 0) y19.2.1 (upd (y19.2.1 3) (Int32.toNatClampNeg x1) (0 : Int32))) (ch' := [kX3 g a0 v0, kX4 g a1 (a2 0) (st y19.2.1 3 (upd (y19.2.1 3) (Int32.toNatClampNeg x1) (0 : Int32))), kX0 g a2 y21, kX5 g a3 (a0 0) (a1 0) v3]) rfl dX5_pack_109 (fun H locs hW => ?_)
      refine lv_aload_n hx hb dX5_pack_110 rfl (lv_at hl 3 rfl) ?_
      refine g_get C hW inX5 3 rfl rfl rfl 1 (by decide) (List.mem_of_getElem? (i := 1) rfl) (v := .ref (a1 0)) rfl dX5_pack_111 ?_
      refine g_get C hW inX4 1 rfl rfl rfl 14 (by decide) (List.mem_of_getElem? (i := 2) rfl) (v := .ref (a2 0)) rfl dX5_pack_114 ?_
      refine lv_iload_n hx hb dX5_pack_117 rfl (lv_at hl 2 rfl) ?_
      obtain ⟨y22, hc, hf⟩ := bd_of hf
      refine g_cV (Cn := RX0) C (ct_X0_content g l N a2 y1.1 y21 hc) gX5_pack_X0_content rfl 1 (by decide +kernel) ⟨rfl, rfl, ⟨Nat.le_of_ble_eq_true rfl, Nat.le_of_ble_eq_true rfl⟩, Nat.le_of_ble_eq_true rfl, Nat.le_of_ble_eq_true rfl⟩ rfl hl (Nat.le_of_ble_eq_true rfl) dX5_pack_118 rfl hW hA [2] rfl rfl rfl (ch' := [kX3 g a0 v0, kX4 g a1 (a2 0) (st y19.2.1 3 (upd (y19.2.1 3) (Int32.toNatClampNeg x1) (0 : Int32))), kX0 g a2 y21, kX5 g a3 (a0 0) (a1 0) v3]) rfl 2 rfl rfl rfl (fun H locs hW => ?_)
      refine lv_if_le (tgt := 130) hx hb dX5_pack_121 (by decide) (fun h => ?_) (fun h => ?_)
      · replace hf := (if_pos h).symm.trans hf
        obtain rfl := Option.some.inj hf
        subst hQ
        exact g_vret C hr hk0 hW rfl rfl dX5_pack_130
      · replace hf := (if_neg h).symm.trans hf
        refine lv_aload_n hx hb dX5_pack_124 rfl (lv_at hl 3 rfl) ?_
        refine lv_iload_n hx hb dX5_pack_125 rfl (lv_at hl 2 rfl) ?_
        refine lv_iload_n hx hb dX5_pack_126 rfl (lv_at hl 4 rfl) ?_
        obtain ⟨y23, hc, hf⟩ := bd_of hf
        refine g_cVv (Cn := RX5) C (ct_X5_send g l N a0 a1 a2 a3 y1.1 x1 v0 (st y19.2.1 3 (upd (y19.2.1 3) (Int32.toNatClampNeg x1) (0 : Int32))) y21 v3 hc) gX5_pack_X5_send rfl 2 (by decide +kernel) ⟨rfl, rfl, ⟨Nat.le_of_ble_eq_true rfl, Nat.le_of_ble_eq_true rfl⟩, Nat.le_of_ble_eq_true rfl, Nat.le_of_ble_eq_true rfl⟩ rfl hl (Nat.le_of_ble_eq_true rfl) dX5_pack_127 rfl hW hA [0, 1, 2, 3] rfl rfl rfl (ch' := [kX3 g a0 v0, kX4 g a1 (a2 0) y23.1, kX0 g a2 y23.2, kX5 g a3 (a0 0) (a1 0) v3]) rfl 3 rfl rfl rfl (fun H locs hW => ?_)
        obtain rfl := Option.some.inj hf
        subst hQ
        exact g_vret C hr hk0 hW rfl rfl dX5_pack_130
def fX5_giveGrants_L36 (N : Nat) (k : Int32 → MM → MM → MM → Option (MM × MM × MM)) (x1 : Int32) (x2 : Int32) (v0 : MM) : Nat → Int32 → MM → MM → MM → Option (MM × MM × MM)
  | 0, _, _, _, _ => none
  | n + 1, x3, v1, v2, v3 => (if x1 ≤ x3 then k x3 v1 v2 v3 else (if (v3 2 0) ≤ 0 then k x3 v1 v2 v3 else (if ¬ x1 = 0 then (if ((x2 + x3) - (x2 + x3) / x1 * x1) < 0 then fX5_giveGrants_L36 N k x1 x2 v0 n (x3 + 1) v1 v2 v3 else (if (3 : Int32) ≤ ((x2 + x3) - (x2 + x3) / x1 * x1) then fX5_giveGrants_L36 N k x1 x2 v0 n (x3 + 1) v1 v2 v3 else (if ib ((x2 + x3) - (x2 + x3) / x1 * x1) 3 = true then (if ((v1 5) (Int32.toNatClampNeg ((x2 + x3) - (x2 + x3) / x1 * x1))) = (1 : Int32) then ((fX5_takeGrant N ((x2 + x3) - (x2 + x3) / x1 * x1) v1 v3).bind (fun y1 => ((fX5_pack N ((x2 + x3) - (x2 + x3) / x1 * x1) y1.1 v0 y1.2.1 v2 y1.2.2).bind (fun y2 => fX5_giveGrants_L36 N k x1 x2 v0 n (x3 + 1) y2.1 y2.2 y1.2.2)))) else (if ib ((x2 + x3) - (x2 + x3) / x1 * x1) 3 = true then (if ((v1 6) (Int32.toNatClampNeg ((x2 + x3) - (x2 + x3) / x1 * x1))) ≤ 0 then fX5_giveGrants_L36 N k x1 x2 v0 n (x3 + 1) v1 v2 v3 else ((fX5_takeGrant N ((x2 + x3) - (x2 + x3) / x1 * x1) v1 v3).bind (fun y3 => ((fX5_pack N ((x2 + x3) - (x2 + x3) / x1 * x1) y3.1 v0 y3.2.1 v2 y3.2.2).bind (fun y4 => fX5_giveGrants_L36 N k x1 x2 v0 n (x3 + 1) y4.1 y4.2 y3.2.2))))) else none)) else none))) else none)))
def fX5_giveGrants (N : Nat) (v0 : MM) (v1 : MM) (v2 : MM) (v3 : MM) : Option (MM × MM × MM) := (if (v1 2 0) = (-9 : Int32) then (fX5_giveGrants_L36 N (fun (x3_6 : Int32) (v1_6 : MM) (v2_6 : MM) (v3_6 : MM) => some (v1_6, v2_6, v3_6)) (v0 0 0) (0 : Int32) v0 N (0 : Int32) v1 v2 v3) else (fX5_giveGrants_L36 N (fun (x3_5 : Int32) (v1_5 : MM) (v2_5 : MM) (v3_5 : MM) => some (v1_5, v2_5, v3_5)) (v0 0 0) ((v1 2 0) + (1 : Int32)) v0 N (0 : Int32) v1 v2 v3))
set_option maxHeartbeats 4000000 in
set_option maxRecDepth 100000 in
theorem ct_X5_giveGrants (g : GT) (l : Launch) (N : Nat) (a0 : Nat → Nat) (a1 : Nat → Nat) (a2 : Nat → Nat) (a3 : Nat → Nat) (v0 : MM) (v1 : MM) (v2 : MM) (v3 : MM) {y : MM × MM × MM} (hf : fX5_giveGrants N v0 v1 v2 v3 = some y) : ct g l yX5_giveGrants wsX5_giveGrants (rmk 3 77) [.ref (a3 0)] [kX3 g a0 v0, kX4 g a1 (a2 0) v1, kX0 g a2 v2, kX5 g a3 (a0 0) (a1 0) v3] none [kX3 g a0 v0, kX4 g a1 (a2 0) y.1, kX0 g a2 y.2.1, kX5 g a3 (a0 0) (a1 0) y.2.2] := by
  refine ct_of (cc := cX5_giveGrants) (maxL := 5) (ret := none) (by decide) rfl (Nat.le_of_ble_eq_true rfl) ?_
  intro p e s m args below meth c A ls C hr hk0 hA hW hl
  have hx := C.1.1
  have hb := C.1.2.1
  replace hl : lv_has ls 5 [(0, .ref (a3 0))] := hl
  obtain ⟨Q, hQ⟩ : ∃ Q, Q = MQ below (ctQ g A none [kX3 g a0 v0, kX4 g a1 (a2 0) y.1, kX0 g a2 y.2.1, kX5 g a3 (a0 0) (a1 0) y.2.2]) args s 0 0 A := ⟨_, rfl⟩
  rw [← hQ]
  obtain ⟨H, hH⟩ : ∃ H, H = s.heap := ⟨_, rfl⟩
  obtain ⟨locs, hL⟩ : ∃ locs : List Loc, locs = [] := ⟨_, rfl⟩
  replace hW : wd g A s.heap [kX3 g a0 v0, kX4 g a1 (a2 0) v1, kX0 g a2 v2, kX5 g a3 (a0 0) (a1 0) v3] H locs := by rw [hH, hL]; exact hW
  suffices hG : W p l e (rmk 3 77) s m args below meth c H locs 0 0 Q (F0 m 0 ls []) by
    rw [hH, hL] at hG; exact hG
  clear hH hL
  have inX3 : ∀ w ∈ wsX30, w ∈ wsX5_giveGrants := fun _ h => List.mem_cons_of_mem _ (List.mem_append_left _ (List.mem_append_left _ (List.mem_append_right _ (h))))
  have inX4 : ∀ w ∈ wsX40, w ∈ wsX5_giveGrants := fun _ h => List.mem_cons_of_mem _ (List.mem_append_left _ (List.mem_append_right _ (h)))
  have inX5 : ∀ w ∈ wsX50, w ∈ wsX5_giveGrants := fun _ h => List.mem_cons_of_mem _ (List.mem_append_left _ (List.mem_append_left _ (List.mem_append_left _ (List.mem_append_right _ (h)))))
  have L36 : ∀ (x1 : Int32) (x2 : Int32) (k : Int32 → MM → MM → MM → Option (MM × MM × MM)) (hk : ∀ (x3 : Int32) (v1 : MM) (v2 : MM) (v3 : MM) (H : Heap) (locs : List Loc) (ls : Array Slot), k x3 v1 v2 v3 = some y → wd g A s.heap [kX3 g a0 v0, kX4 g a1 (a2 0) v1, kX0 g a2 v2, kX5 g a3 (a0 0) (a1 0) v3] H locs → lv_has ls 5 [(0, .ref (a3 0)), (1, .int x1), (2, .int x2), (3, .int x3)] → W p l e (rmk 3 77) s m args below meth c H locs 0 0 Q (F0 m 111 ls [])) (n : Nat) (x3 : Int32) (v1 : MM) (v2 : MM) (v3 : MM) (H : Heap) (locs : List Loc) (ls : Array Slot), fX5_giveGrants_L36 N k x1 x2 v0 n x3 v1 v2 v3 = some y → wd g A s.heap [kX3 g a0 v0, kX4 g a1 (a2 0) v1, kX0 g a2 v2, kX5 g a3 (a0 0) (a1 0) v3] H locs → lv_has ls 5 [(0, .ref (a3 0)), (1, .int x1), (2, .int x2), (3, .int x3)] → W p l e (rmk 3 77) s m args below meth c H locs 0 0 Q (F0 m 36 ls []) := by
    intro x1 x2 k hk n
    induction n with
    | zero => intro x3 v1 v2 v3 H locs ls hf; rw [fX5_giveGrants_L36] at hf; cases hf
    | succ n ih =>
      intro x3 v1 v2 v3 H locs ls hf hW hl
      rw [fX5_giveGrants_L36] at hf
      refine lv_iload_n hx hb dX5_giveGrants_36 rfl (lv_at hl 3 rfl) ?_
      refine lv_iload_n hx hb dX5_giveGrants_37 rfl (lv_at hl 1 rfl) ?_
      refine lv_icmp_ge (tgt := 111) hx hb dX5_giveGrants_38 (by decide) (fun h => ?_) (fun h => ?_)
      · replace hf := (if_pos h).symm.trans hf
        exact hk _ _ _ _ H locs ls hf hW (lv_sub hl [0, 1, 2, 3] rfl)
      · replace hf := (if_neg h).symm.trans hf
        refine lv_aload_n hx hb dX5_giveGrants_41 rfl (lv_at hl 0 rfl) ?_
        refine g_get C hW inX5 3 rfl rfl rfl 2 (by decide) (List.mem_of_getElem? (i := 5) rfl) (v := .int (v3 2 0)) rfl dX5_giveGrants_42 ?_
        refine lv_if_le (tgt := 111) hx hb dX5_giveGrants_45 (by decide) (fun h => ?_) (fun h => ?_)
        · replace hf := (if_pos h).symm.trans hf
          exact hk _ _ _ _ H locs ls hf hW (lv_sub hl [0, 1, 2, 3] rfl)
        · replace hf := (if_neg h).symm.trans hf
          refine lv_iload_n hx hb dX5_giveGrants_48 rfl (lv_at hl 2 rfl) ?_
          refine lv_iload_n hx hb dX5_giveGrants_49 rfl (lv_at hl 3 rfl) ?_
          refine lv_iadd hx hb dX5_giveGrants_50 ?_
          refine lv_iload_n hx hb dX5_giveGrants_51 rfl (lv_at hl 1 rfl) ?_
          obtain ⟨hi, hf⟩ := gd_of hf
          refine lv_irem hx hb dX5_giveGrants_52 hi ?_
          refine lv_istore (lv' := [(4, .int ((x2 + x3) - (x2 + x3) / x1 * x1)), (0, .ref (a3 0)), (1, .int x1), (2, .int x2), (3, .int x3)]) hx hb dX5_giveGrants_53 hl (by decide) rfl (fun ls hl => ?_)
          refine lv_iload hx hb dX5_giveGrants_55 (lv_at hl 0 rfl) ?_
          refine lv_if_lt (tgt := 105) hx hb dX5_giveGrants_57 (by decide) (fun h => ?_) (fun h => ?_)
          · replace hf := (if_pos h).symm.trans hf
            refine lv_iinc (v := (x3 + 1)) (lv' := [(3, .int (x3 + 1)), (4, .int ((x2 + x3) - (x2 + x3) / x1 * x1)), (0, .ref (a3 0)), (1, .int x1), (2, .int x2)]) hx hb dX5_giveGrants_105 hl (k := 4) rfl (by first | rfl | decide) (by decide) rfl (fun ls hl => ?_)
            refine lv_goto (tgt := 36) hx hb dX5_giveGrants_108 (by decide) ?_
            exact ih _ _ _ _ H locs ls hf hW (lv_sub hl [2, 3, 4, 0] rfl)
          · replace hf := (if_neg h).symm.trans hf
            refine lv_iload hx hb dX5_giveGrants_60 (lv_at hl 0 rfl) ?_
            refine lv_iconst (v := (3 : Int32)) hx hb dX5_giveGrants_62 (by decide) ?_
            refine lv_icmp_ge (tgt := 105) hx hb dX5_giveGrants_63 (by decide) (fun h => ?_) (fun h => ?_)
            · replace hf := (if_pos h).symm.trans hf
              refine lv_iinc (v := (x3 + 1)) (lv' := [(3, .int (x3 + 1)), (4, .int ((x2 + x3) - (x2 + x3) / x1 * x1)), (0, .ref (a3 0)), (1, .int x1), (2, .int x2)]) hx hb dX5_giveGrants_105 hl (k := 4) rfl (by first | rfl | decide) (by decide) rfl (fun ls hl => ?_)
              refine lv_goto (tgt := 36) hx hb dX5_giveGrants_108 (by decide) ?_
              exact ih _ _ _ _ H locs ls hf hW (lv_sub hl [2, 3, 4, 0] rfl)
            · replace hf := (if_neg h).symm.trans hf
              refine lv_aload_n hx hb dX5_giveGrants_66 rfl (lv_at hl 1 rfl) ?_
              refine g_get C hW inX5 3 rfl rfl rfl 1 (by decide) (List.mem_of_getElem? (i := 3) rfl) (v := .ref (a1 0)) rfl dX5_giveGrants_67 ?_
              refine g_get C hW inX4 1 rfl rfl rfl 5 (by decide) (List.mem_of_getElem? (i := 6) rfl) (v := .ref (a1 3)) rfl dX5_giveGrants_70 ?_
              refine lv_iload hx hb dX5_giveGrants_73 (lv_at hl 0 rfl) ?_
              obtain ⟨hi, hf⟩ := gd_of hf
              refine g_iald C hW 1 3 rfl (f := (v1 5)) rfl (ib_in hi) dX5_giveGrants_75 ?_
              refine lv_iconst (v := (1 : Int32)) hx hb dX5_giveGrants_76 (by decide) ?_
              refine lv_icmp_eq (tgt := 93) hx hb dX5_giveGrants_77 (by decide) (fun h => ?_) (fun h => ?_)
              · replace hf := (if_pos h).symm.trans hf
                refine lv_aload_n hx hb dX5_giveGrants_93 rfl (lv_at hl 1 rfl) ?_
                refine lv_iload hx hb dX5_giveGrants_94 (lv_at hl 0 rfl) ?_
                refine lv_aload_n hx hb dX5_giveGrants_96 rfl (lv_at hl 1 rfl) ?_
                refine lv_iload hx hb dX5_giveGrants_97 (lv_at hl 0 rfl) ?_
                obtain ⟨y1, hc, hf⟩ := bd_of hf
                refine g_cV (Cn := RX5) C (ct_X5_takeGrant g l N a1 a3 (a2 0) (a0 0) ((x2 + x3) - (x2 + x3) / x1 * x1) v1 v3 hc) gX5_giveGrants_X5_takeGrant rfl 1 (by decide +kernel) ⟨rfl, rfl, ⟨Nat.le_of_ble_eq_true rfl, Nat.le_of_ble_eq_true rfl⟩, Nat.le_of_ble_eq_true rfl, Nat.le_of_ble_eq_true rfl⟩ rfl hl (Nat.le_of_ble_eq_true rfl) dX5_giveGrants_99 rfl hW hA [1, 3] rfl rfl rfl (ch' := [kX3 g a0 v0, kX4 g a1 (a2 0) y1.2.1, kX0 g a2 v2, kX5 g a3 (a0 0) (a1 0) y1.2.2]) rfl 3 rfl rfl rfl (fun H locs hW => ?_)
                obtain ⟨y2, hc, hf⟩ := bd_of hf
                refine g_cVv (Cn := RX5) C (ct_X5_pack g l N a0 a1 a2 a3 ((x2 + x3) - (x2 + x3) / x1 * x1) y1.1 v0 y1.2.1 v2 y1.2.2 hc) gX5_giveGrants_X5_pack rfl 2 (by decide +kernel) ⟨rfl, rfl, ⟨Nat.le_of_ble_eq_true rfl, Nat.le_of_ble_eq_true rfl⟩, Nat.le_of_ble_eq_true rfl, Nat.le_of_ble_eq_true rfl⟩ rfl hl (Nat.le_of_ble_eq_true rfl) dX5_giveGrants_102 rfl hW hA [0, 1, 2, 3] rfl rfl rfl (ch' := [kX3 g a0 v0, kX4 g a1 (a2 0) y2.1, kX0 g a2 y2.2, kX5 g a3 (a0 0) (a1 0) y1.2.2]) rfl 3 rfl rfl rfl (fun H locs hW => ?_)
                refine lv_iinc (v := (x3 + 1)) (lv' := [(3, .int (x3 + 1)), (4, .int ((x2 + x3) - (x2 + x3) / x1 * x1)), (0, .ref (a3 0)), (1, .int x1), (2, .int x2)]) hx hb dX5_giveGrants_105 hl (k := 4) rfl (by first | rfl | decide) (by decide) rfl (fun ls hl => ?_)
                refine lv_goto (tgt := 36) hx hb dX5_giveGrants_108 (by decide) ?_
                exact ih _ _ _ _ H locs ls hf hW (lv_sub hl [2, 3, 4, 0] rfl)
              · replace hf := (if_neg h).symm.trans hf
                refine lv_aload_n hx hb dX5_giveGrants_80 rfl (lv_at hl 1 rfl) ?_
                refine g_get C hW inX5 3 rfl rfl rfl 1 (by decide) (List.mem_of_getElem? (i := 3) rfl) (v := .ref (a1 0)) rfl dX5_giveGrants_81 ?_
                refine g_get C hW inX4 1 rfl rfl rfl 6 (by decide) (List.mem_of_getElem? (i := 7) rfl) (v := .ref (a1 4)) rfl dX5_giveGrants_84 ?_
                refine lv_iload hx hb dX5_giveGrants_87 (lv_at hl 0 rfl) ?_
                obtain ⟨hi, hf⟩ := gd_of hf
                refine g_iald C hW 1 4 rfl (f := (v1 6)) rfl (ib_in hi) dX5_giveGrants_89 ?_
                refine lv_if_le (tgt := 105) hx hb dX5_giveGrants_90 (by decide) (fun h => ?_) (fun h => ?_)
                · replace hf := (if_pos h).symm.trans hf
                  refine lv_iinc (v := (x3 + 1)) (lv' := [(3, .int (x3 + 1)), (4, .int ((x2 + x3) - (x2 + x3) / x1 * x1)), (0, .ref (a3 0)), (1, .int x1), (2, .int x2)]) hx hb dX5_giveGrants_105 hl (k := 4) rfl (by first | rfl | decide) (by decide) rfl (fun ls hl => ?_)
                  refine lv_goto (tgt := 36) hx hb dX5_giveGrants_108 (by decide) ?_
                  exact ih _ _ _ _ H locs ls hf hW (lv_sub hl [2, 3, 4, 0] rfl)
                · replace hf := (if_neg h).symm.trans hf
                  refine lv_aload_n hx hb dX5_giveGrants_93 rfl (lv_at hl 1 rfl) ?_
                  refine lv_iload hx hb dX5_giveGrants_94 (lv_at hl 0 rfl) ?_
                  refine lv_aload_n hx hb dX5_giveGrants_96 rfl (lv_at hl 1 rfl) ?_
                  refine lv_iload hx hb dX5_giveGrants_97 (lv_at hl 0 rfl) ?_
                  obtain ⟨y3, hc, hf⟩ := bd_of hf
                  refine g_cV (Cn := RX5) C (ct_X5_takeGrant g l N a1 a3 (a2 0) (a0 0) ((x2 + x3) - (x2 + x3) / x1 * x1) v1 v3 hc) gX5_giveGrants_X5_takeGrant rfl 1 (by decide +kernel) ⟨rfl, rfl, ⟨Nat.le_of_ble_eq_true rfl, Nat.le_of_ble_eq_true rfl⟩, Nat.le_of_ble_eq_true rfl, Nat.le_of_ble_eq_true rfl⟩ rfl hl (Nat.le_of_ble_eq_true rfl) dX5_giveGrants_99 rfl hW hA [1, 3] rfl rfl rfl (ch' := [kX3 g a0 v0, kX4 g a1 (a2 0) y3.2.1, kX0 g a2 v2, kX5 g a3 (a0 0) (a1 0) y3.2.2]) rfl 3 rfl rfl rfl (fun H locs hW => ?_)
                  obtain ⟨y4, hc, hf⟩ := bd_of hf
                  refine g_cVv (Cn := RX5) C (ct_X5_pack g l N a0 a1 a2 a3 ((x2 + x3) - (x2 + x3) / x1 * x1) y3.1 v0 y3.2.1 v2 y3.2.2 hc) gX5_giveGrants_X5_pack rfl 2 (by decide +kernel) ⟨rfl, rfl, ⟨Nat.le_of_ble_eq_true rfl, Nat.le_of_ble_eq_true rfl⟩, Nat.le_of_ble_eq_true rfl, Nat.le_of_ble_eq_true rfl⟩ rfl hl (Nat.le_of_ble_eq_true rfl) dX5_giveGrants_102 rfl hW hA [0, 1, 2, 3] rfl rfl rfl (ch' := [kX3 g a0 v0, kX4 g a1 (a2 0) y4.1, kX0 g a2 y4.2, kX5 g a3 (a0 0) (a1 0) y3.2.2]) rfl 3 rfl rfl rfl (fun H locs hW => ?_)
                  refine lv_iinc (v := (x3 + 1)) (lv' := [(3, .int (x3 + 1)), (4, .int ((x2 + x3) - (x2 + x3) / x1 * x1)), (0, .ref (a3 0)), (1, .int x1), (2, .int x2)]) hx hb dX5_giveGrants_105 hl (k := 4) rfl (by first | rfl | decide) (by decide) rfl (fun ls hl => ?_)
                  refine lv_goto (tgt := 36) hx hb dX5_giveGrants_108 (by decide) ?_
                  exact ih _ _ _ _ H locs ls hf hW (lv_sub hl [2, 3, 4, 0] rfl)
  rw [fX5_giveGrants] at hf
  refine lv_aload_n hx hb dX5_giveGrants_0 rfl (lv_at hl 0 rfl) ?_
  refine g_get C hW inX5 3 rfl rfl rfl 0 (by decide) (List.mem_of_getElem? (i := 1) rfl) (v := .ref (a0 0)) rfl dX5_giveGrants_1 ?_
  refine g_get C hW inX3 0 rfl rfl rfl 0 (by decide) (List.mem_of_getElem? (i := 2) rfl) (v := .int (v0 0 0)) rfl dX5_giveGrants_4 ?_
  refine lv_istore_n (lv' := [(1, .int (v0 0 0)), (0, .ref (a3 0))]) hx hb dX5_giveGrants_7 rfl hl (by decide) rfl (fun ls hl => ?_)
  refine lv_aload_n hx hb dX5_giveGrants_8 rfl (lv_at hl 1 rfl) ?_
  refine g_get C hW inX5 3 rfl rfl rfl 1 (by decide) (List.mem_of_getElem? (i := 3) rfl) (v := .ref (a1 0)) rfl dX5_giveGrants_9 ?_
  refine g_get C hW inX4 1 rfl rfl rfl 2 (by decide) (List.mem_of_getElem? (i := 4) rfl) (v := .int (v1 2 0)) rfl dX5_giveGrants_12 ?_
  refine lv_bipush (v := (-9 : Int32)) hx hb dX5_giveGrants_15 (by decide) ?_
  refine lv_icmp_ne (tgt := 24) hx hb dX5_giveGrants_17 (by decide) (fun h => ?_) (fun h => ?_)
  · replace hf := (if_neg h).symm.trans hf
    refine lv_aload_n hx hb dX5_giveGrants_24 rfl (lv_at hl 1 rfl) ?_
    refine g_get C hW inX5 3 rfl rfl rfl 1 (by decide) (List.mem_of_getElem? (i := 3) rfl) (v := .ref (a1 0)) rfl dX5_giveGrants_25 ?_
    refine g_get C hW inX4 1 rfl rfl rfl 2 (by decide) (List.mem_of_getElem? (i := 4) rfl) (v := .int (v1 2 0)) rfl dX5_giveGrants_28 ?_
    refine lv_iconst (v := (1 : Int32)) hx hb dX5_giveGrants_31 (by decide) ?_
    refine lv_iadd hx hb dX5_giveGrants_32 ?_
    refine lv_istore_n (lv' := [(2, .int ((v1 2 0) + (1 : Int32))), (1, .int (v0 0 0)), (0, .ref (a3 0))]) hx hb dX5_giveGrants_33 rfl hl (by decide) rfl (fun ls hl => ?_)
    refine lv_iconst (v := (0 : Int32)) hx hb dX5_giveGrants_34 (by decide) ?_
    refine lv_istore_n (lv' := [(3, .int (0 : Int32)), (2, .int ((v1 2 0) + (1 : Int32))), (1, .int (v0 0 0)), (0, .ref (a3 0))]) hx hb dX5_giveGrants_35 rfl hl (by decide) rfl (fun ls hl => ?_)
    refine L36 (v0 0 0) ((v1 2 0) + (1 : Int32)) _ (fun x3_5 v1_5 v2_5 v3_5 H locs ls hf hW hl => ?_) N (0 : Int32) v1 v2 v3 H locs ls hf hW (lv_sub hl [3, 2, 1, 0] rfl)
    obtain rfl := Option.some.inj hf
    subst hQ
    exact g_vret C hr hk0 hW rfl rfl dX5_giveGrants_111
  · replace hf := (if_pos h).symm.trans hf
    refine lv_iconst (v := (0 : Int32)) hx hb dX5_giveGrants_20 (by decide) ?_
    refine lv_goto (tgt := 33) hx hb dX5_giveGrants_21 (by decide) ?_
    refine lv_istore_n (lv' := [(2, .int (0 : Int32)), (1, .int (v0 0 0)), (0, .ref (a3 0))]) hx hb dX5_giveGrants_33 rfl hl (by decide) rfl (fun ls hl => ?_)
    refine lv_iconst (v := (0 : Int32)) hx hb dX5_giveGrants_34 (by decide) ?_
    refine lv_istore_n (lv' := [(3, .int (0 : Int32)), (2, .int (0 : Int32)), (1, .int (v0 0 0)), (0, .ref (a3 0))]) hx hb dX5_giveGrants_35 rfl hl (by decide) rfl (fun ls hl => ?_)
    refine L36 (v0 0 0) (0 : Int32) _ (fun x3_6 v1_6 v2_6 v3_6 H locs ls hf hW hl => ?_) N (0 : Int32) v1 v2 v3 H locs ls hf hW (lv_sub hl [3, 2, 1, 0] rfl)
    obtain rfl := Option.some.inj hf
    subst hQ
    exact g_vret C hr hk0 hW rfl rfl dX5_giveGrants_111
def fX5_takeSteps_L10 (N : Nat) (k : Int32 → MM → MM → MM → Option (Int32 × MM × MM × MM)) (x1 : Int32) (x2 : Int32) (v0 : MM) : Nat → Int32 → MM → MM → MM → Option (Int32 × MM × MM × MM)
  | 0, _, _, _, _ => none
  | n + 1, x3, v1, v2, v3 => (if x1 ≤ x3 then k x3 v1 v2 v3 else ((fX5_gainTokens N v0 v1 v3).bind (fun y2 => ((fX5_askInPlaces N v0 y2 v3).bind (fun y3 => ((fX5_sendAgain N v0 y3 v2 (st v3 2 (fun _ => (y3 1 0)))).bind (fun y4 => ((fX5_giveGrants N v0 y4.1 y4.2.1 y4.2.2).bind (fun y5 => ((fX0_dropGone N y5.2.1).bind (fun y6 => fX5_takeSteps_L10 N k x1 x2 v0 n (x3 + 1) (st y5.1 0 (fun _ => ((y5.1 0 0) + (1 : Int32)))) y6 y5.2.2)))))))))))
def fX5_takeSteps (N : Nat) (x1 : Int32) (v0 : MM) (v1 : MM) (v2 : MM) (v3 : MM) : Option (Int32 × MM × MM × MM) := ((fX4_allThrough N v1).bind (fun y1 => (fX5_takeSteps_L10 N (fun (x3_7 : Int32) (v1_7 : MM) (v2_7 : MM) (v3_7 : MM) => ((fX4_allThrough N v1_7).bind (fun y8 => some ((y8 - y1), v1_7, v2_7, v3_7)))) x1 y1 v0 N (0 : Int32) v1 v2 v3)))
set_option maxHeartbeats 4000000 in
set_option maxRecDepth 100000 in
theorem ct_X5_takeSteps (g : GT) (l : Launch) (N : Nat) (a0 : Nat → Nat) (a1 : Nat → Nat) (a2 : Nat → Nat) (a3 : Nat → Nat) (x1 : Int32) (v0 : MM) (v1 : MM) (v2 : MM) (v3 : MM) {y : Int32 × MM × MM × MM} (hf : fX5_takeSteps N x1 v0 v1 v2 v3 = some y) : ct g l yX5_takeSteps wsX5_takeSteps (rmk 4 101) [.ref (a3 0), .int x1] [kX3 g a0 v0, kX4 g a1 (a2 0) v1, kX0 g a2 v2, kX5 g a3 (a0 0) (a1 0) v3] (some (.int y.1)) [kX3 g a0 v0, kX4 g a1 (a2 0) y.2.1, kX0 g a2 y.2.2.1, kX5 g a3 (a0 0) (a1 0) y.2.2.2] := by
  refine ct_of (cc := cX5_takeSteps) (maxL := 4) (ret := (some .int)) (by decide) rfl (Nat.le_of_ble_eq_true rfl) ?_
  intro p e s m args below meth c A ls C hr hk0 hA hW hl
  have hx := C.1.1
  have hb := C.1.2.1
  replace hl : lv_has ls 4 [(0, .ref (a3 0)), (1, .int x1)] := hl
  obtain ⟨Q, hQ⟩ : ∃ Q, Q = MQ below (ctQ g A (some (.int y.1)) [kX3 g a0 v0, kX4 g a1 (a2 0) y.2.1, kX0 g a2 y.2.2.1, kX5 g a3 (a0 0) (a1 0) y.2.2.2]) args s 0 0 A := ⟨_, rfl⟩
  rw [← hQ]
  obtain ⟨H, hH⟩ : ∃ H, H = s.heap := ⟨_, rfl⟩
  obtain ⟨locs, hL⟩ : ∃ locs : List Loc, locs = [] := ⟨_, rfl⟩
  replace hW : wd g A s.heap [kX3 g a0 v0, kX4 g a1 (a2 0) v1, kX0 g a2 v2, kX5 g a3 (a0 0) (a1 0) v3] H locs := by rw [hH, hL]; exact hW
  suffices hG : W p l e (rmk 4 101) s m args below meth c H locs 0 0 Q (F0 m 0 ls []) by
    rw [hH, hL] at hG; exact hG
  clear hH hL
  have inX4 : ∀ w ∈ wsX40, w ∈ wsX5_takeSteps := fun _ h => List.mem_cons_of_mem _ (List.mem_append_left _ (List.mem_append_left _ (List.mem_append_right _ (h))))
  have inX5 : ∀ w ∈ wsX50, w ∈ wsX5_takeSteps := fun _ h => List.mem_cons_of_mem _ (List.mem_append_left _ (List.mem_append_left _ (List.mem_append_left _ (List.mem_append_right _ (h)))))
  have L10 : ∀ (x1 : Int32) (x2 : Int32) (k : Int32 → MM → MM → MM → Option (Int32 × MM × MM × MM)) (hk : ∀ (x3 : Int32) (v1 : MM) (v2 : MM) (v3 : MM) (H : Heap) (locs : List Loc) (ls : Array Slot), k x3 v1 v2 v3 = some y → wd g A s.heap [kX3 g a0 v0, kX4 g a1 (a2 0) v1, kX0 g a2 v2, kX5 g a3 (a0 0) (a1 0) v3] H locs → lv_has ls 4 [(0, .ref (a3 0)), (1, .int x1), (2, .int x2), (3, .int x3)] → W p l e (rmk 4 101) s m args below meth c H locs 0 0 Q (F0 m 71 ls [])) (n : Nat) (x3 : Int32) (v1 : MM) (v2 : MM) (v3 : MM) (H : Heap) (locs : List Loc) (ls : Array Slot), fX5_takeSteps_L10 N k x1 x2 v0 n x3 v1 v2 v3 = some y → wd g A s.heap [kX3 g a0 v0, kX4 g a1 (a2 0) v1, kX0 g a2 v2, kX5 g a3 (a0 0) (a1 0) v3] H locs → lv_has ls 4 [(0, .ref (a3 0)), (1, .int x1), (2, .int x2), (3, .int x3)] → W p l e (rmk 4 101) s m args below meth c H locs 0 0 Q (F0 m 10 ls []) := by
    intro x1 x2 k hk n
    induction n with
    | zero => intro x3 v1 v2 v3 H locs ls hf; rw [fX5_takeSteps_L10] at hf; cases hf
    | succ n ih =>
      intro x3 v1 v2 v3 H locs ls hf hW hl
      rw [fX5_takeSteps_L10] at hf
      refine lv_iload_n hx hb dX5_takeSteps_10 rfl (lv_at hl 3 rfl) ?_
      refine lv_iload_n hx hb dX5_takeSteps_11 rfl (lv_at hl 1 rfl) ?_
      refine lv_icmp_ge (tgt := 71) hx hb dX5_takeSteps_12 (by decide) (fun h => ?_) (fun h => ?_)
      · replace hf := (if_pos h).symm.trans hf
        exact hk _ _ _ _ H locs ls hf hW (lv_sub hl [0, 1, 2, 3] rfl)
      · replace hf := (if_neg h).symm.trans hf
        refine lv_aload_n hx hb dX5_takeSteps_15 rfl (lv_at hl 0 rfl) ?_
        obtain ⟨y2, hc, hf⟩ := bd_of hf
        refine g_cVv (Cn := RX5) C (ct_X5_gainTokens g l N a0 a1 a3 (a2 0) v0 v1 v3 hc) gX5_takeSteps_X5_gainTokens rfl 0 (by decide +kernel) ⟨rfl, rfl, ⟨Nat.le_of_ble_eq_true rfl, Nat.le_of_ble_eq_true rfl⟩, Nat.le_of_ble_eq_true rfl, Nat.le_of_ble_eq_true rfl⟩ rfl hl (Nat.le_of_ble_eq_true rfl) dX5_takeSteps_16 rfl hW hA [0, 1, 3] rfl rfl rfl (ch' := [kX3 g a0 v0, kX4 g a1 (a2 0) y2, kX0 g a2 v2, kX5 g a3 (a0 0) (a1 0) v3]) rfl 3 rfl rfl rfl (fun H locs hW => ?_)
        refine lv_aload_n hx hb dX5_takeSteps_19 rfl (lv_at hl 0 rfl) ?_
        obtain ⟨y3, hc, hf⟩ := bd_of hf
        refine g_cVv (Cn := RX5) C (ct_X5_askInPlaces g l N a0 a1 a3 (a2 0) v0 y2 v3 hc) gX5_takeSteps_X5_askInPlaces rfl 0 (by decide +kernel) ⟨rfl, rfl, ⟨Nat.le_of_ble_eq_true rfl, Nat.le_of_ble_eq_true rfl⟩, Nat.le_of_ble_eq_true rfl, Nat.le_of_ble_eq_true rfl⟩ rfl hl (Nat.le_of_ble_eq_true rfl) dX5_takeSteps_20 rfl hW hA [0, 1, 3] rfl rfl rfl (ch' := [kX3 g a0 v0, kX4 g a1 (a2 0) y3, kX0 g a2 v2, kX5 g a3 (a0 0) (a1 0) v3]) rfl 3 rfl rfl rfl (fun H locs hW => ?_)
        refine lv_aload_n hx hb dX5_takeSteps_23 rfl (lv_at hl 0 rfl) ?_
        refine lv_aload_n hx hb dX5_takeSteps_24 rfl (lv_at hl 0 rfl) ?_
        refine g_get C hW inX5 3 rfl rfl rfl 1 (by decide) (List.mem_of_getElem? (i := 1) rfl) (v := .ref (a1 0)) rfl dX5_takeSteps_25 ?_
        refine g_get C hW inX4 1 rfl rfl rfl 1 (by decide) (List.mem_of_getElem? (i := 2) rfl) (v := .int (y3 1 0)) rfl dX5_takeSteps_28 ?_
        refine g_put C hW inX5 tyX5_ok nmX5 3 rfl rfl rfl 2 (by decide) (List.mem_of_getElem? (i := 3) rfl) rfl rfl rfl rfl (kX5_s2 g a3 (a0 0) (a1 0) v3 (y3 1 0)) (ch' := [kX3 g a0 v0, kX4 g a1 (a2 0) y3, kX0 g a2 v2, kX5 g a3 (a0 0) (a1 0) (st v3 2 (fun _ => (y3 1 0)))]) rfl dX5_takeSteps_31 (fun H locs hW => ?_)
        refine lv_aload_n hx hb dX5_takeSteps_34 rfl (lv_at hl 0 rfl) ?_
        obtain ⟨y4, hc, hf⟩ := bd_of hf
        refine g_cVv (Cn := RX5) C (ct_X5_sendAgain g l N a0 a1 a2 a3 v0 y3 v2 (st v3 2 (fun _ => (y3 1 0))) hc) gX5_takeSteps_X5_sendAgain rfl 0 (by decide +kernel) ⟨rfl, rfl, ⟨Nat.le_of_ble_eq_true rfl, Nat.le_of_ble_eq_true rfl⟩, Nat.le_of_ble_eq_true rfl, Nat.le_of_ble_eq_true rfl⟩ rfl hl (Nat.le_of_ble_eq_true rfl) dX5_takeSteps_35 rfl hW hA [0, 1, 2, 3] rfl rfl rfl (ch' := [kX3 g a0 v0, kX4 g a1 (a2 0) y4.1, kX0 g a2 y4.2.1, kX5 g a3 (a0 0) (a1 0) y4.2.2]) rfl 3 rfl rfl rfl (fun H locs hW => ?_)
        refine lv_aload_n hx hb dX5_takeSteps_38 rfl (lv_at hl 0 rfl) ?_
        obtain ⟨y5, hc, hf⟩ := bd_of hf
        refine g_cVv (Cn := RX5) C (ct_X5_giveGrants g l N a0 a1 a2 a3 v0 y4.1 y4.2.1 y4.2.2 hc) gX5_takeSteps_X5_giveGrants rfl 0 (by decide +kernel) ⟨rfl, rfl, ⟨Nat.le_of_ble_eq_true rfl, Nat.le_of_ble_eq_true rfl⟩, Nat.le_of_ble_eq_true rfl, Nat.le_of_ble_eq_true rfl⟩ rfl hl (Nat.le_of_ble_eq_true rfl) dX5_takeSteps_39 rfl hW hA [0, 1, 2, 3] rfl rfl rfl (ch' := [kX3 g a0 v0, kX4 g a1 (a2 0) y5.1, kX0 g a2 y5.2.1, kX5 g a3 (a0 0) (a1 0) y5.2.2]) rfl 3 rfl rfl rfl (fun H locs hW => ?_)
        refine lv_aload_n hx hb dX5_takeSteps_42 rfl (lv_at hl 0 rfl) ?_
        refine g_get C hW inX5 3 rfl rfl rfl 1 (by decide) (List.mem_of_getElem? (i := 1) rfl) (v := .ref (a1 0)) rfl dX5_takeSteps_43 ?_
        refine g_get C hW inX4 1 rfl rfl rfl 14 (by decide) (List.mem_of_getElem? (i := 4) rfl) (v := .ref (a2 0)) rfl dX5_takeSteps_46 ?_
        obtain ⟨y6, hc, hf⟩ := bd_of hf
        refine g_cVv (Cn := RX0) C (ct_X0_dropGone g l N a2 y5.2.1 hc) gX5_takeSteps_X0_dropGone rfl 0 (by decide +kernel) ⟨rfl, rfl, ⟨Nat.le_of_ble_eq_true rfl, Nat.le_of_ble_eq_true rfl⟩, Nat.le_of_ble_eq_true rfl, Nat.le_of_ble_eq_true rfl⟩ rfl hl (Nat.le_of_ble_eq_true rfl) dX5_takeSteps_49 rfl hW hA [2] rfl rfl rfl (ch' := [kX3 g a0 v0, kX4 g a1 (a2 0) y5.1, kX0 g a2 y6, kX5 g a3 (a0 0) (a1 0) y5.2.2]) rfl 2 rfl rfl rfl (fun H locs hW => ?_)
        refine lv_aload_n hx hb dX5_takeSteps_52 rfl (lv_at hl 0 rfl) ?_
        refine g_get C hW inX5 3 rfl rfl rfl 1 (by decide) (List.mem_of_getElem? (i := 1) rfl) (v := .ref (a1 0)) rfl dX5_takeSteps_53 ?_
        refine lv_dup hx hb dX5_takeSteps_56 rfl ?_
        refine g_get C hW inX4 1 rfl rfl rfl 0 (by decide) (List.mem_of_getElem? (i := 5) rfl) (v := .int (y5.1 0 0)) rfl dX5_takeSteps_57 ?_
        refine lv_iconst (v := (1 : Int32)) hx hb dX5_takeSteps_60 (by decide) ?_
        refine lv_iadd hx hb dX5_takeSteps_61 ?_
        refine g_put C hW inX4 tyX4_ok nmX4 1 rfl rfl rfl 0 (by decide) (List.mem_of_getElem? (i := 5) rfl) rfl rfl rfl rfl (kX4_s0 g a1 (a2 0) y5.1 ((y5.1 0 0) + (1 : Int32))) (ch' := [kX3 g a0 v0, kX4 g a1 (a2 0) (st y5.1 0 (fun _ => ((y5.1 0 0) + (1 : Int32)))), kX0 g a2 y6, kX5 g a3 (a0 0) (a1 0) y5.2.2]) rfl dX5_takeSteps_62 (fun H locs hW => ?_)
        refine lv_iinc (v := (x3 + 1)) (lv' := [(3, .int (x3 + 1)), (0, .ref (a3 0)), (1, .int x1), (2, .int x2)]) hx hb dX5_takeSteps_65 hl (k := 3) rfl (by first | rfl | decide) (by decide) rfl (fun ls hl => ?_)
        refine lv_goto (tgt := 10) hx hb dX5_takeSteps_68 (by decide) ?_
        exact ih _ _ _ _ H locs ls hf hW (lv_sub hl [1, 2, 3, 0] rfl)
  rw [fX5_takeSteps] at hf
  refine lv_aload_n hx hb dX5_takeSteps_0 rfl (lv_at hl 0 rfl) ?_
  refine g_get C hW inX5 3 rfl rfl rfl 1 (by decide) (List.mem_of_getElem? (i := 1) rfl) (v := .ref (a1 0)) rfl dX5_takeSteps_1 ?_
  obtain ⟨y1, hc, hf⟩ := bd_of hf
  refine g_cV (Cn := RX4) C (ct_X4_allThrough g l N a1 (a2 0) v1 hc) gX5_takeSteps_X4_allThrough rfl 0 (by decide +kernel) ⟨rfl, rfl, ⟨Nat.le_of_ble_eq_true rfl, Nat.le_of_ble_eq_true rfl⟩, Nat.le_of_ble_eq_true rfl, Nat.le_of_ble_eq_true rfl⟩ rfl hl (Nat.le_of_ble_eq_true rfl) dX5_takeSteps_4 rfl hW hA [1] rfl rfl rfl (ch' := [kX3 g a0 v0, kX4 g a1 (a2 0) v1, kX0 g a2 v2, kX5 g a3 (a0 0) (a1 0) v3]) rfl 1 rfl rfl rfl (fun H locs hW => ?_)
  refine lv_istore_n (lv' := [(2, .int y1), (0, .ref (a3 0)), (1, .int x1)]) hx hb dX5_takeSteps_7 rfl hl (by decide) rfl (fun ls hl => ?_)
  refine lv_iconst (v := (0 : Int32)) hx hb dX5_takeSteps_8 (by decide) ?_
  refine lv_istore_n (lv' := [(3, .int (0 : Int32)), (2, .int y1), (0, .ref (a3 0)), (1, .int x1)]) hx hb dX5_takeSteps_9 rfl hl (by decide) rfl (fun ls hl => ?_)
  refine L10 x1 y1 _ (fun x3_7 v1_7 v2_7 v3_7 H locs ls hf hW hl => ?_) N (0 : Int32) v1 v2 v3 H locs ls hf hW (lv_sub hl [2, 3, 1, 0] rfl)
  refine lv_aload_n hx hb dX5_takeSteps_71 rfl (lv_at hl 0 rfl) ?_
  refine g_get C hW inX5 3 rfl rfl rfl 1 (by decide) (List.mem_of_getElem? (i := 1) rfl) (v := .ref (a1 0)) rfl dX5_takeSteps_72 ?_
  obtain ⟨y8, hc, hf⟩ := bd_of hf
  refine g_cV (Cn := RX4) C (ct_X4_allThrough g l N a1 (a2 0) v1_7 hc) gX5_takeSteps_X4_allThrough rfl 0 (by decide +kernel) ⟨rfl, rfl, ⟨Nat.le_of_ble_eq_true rfl, Nat.le_of_ble_eq_true rfl⟩, Nat.le_of_ble_eq_true rfl, Nat.le_of_ble_eq_true rfl⟩ rfl hl (Nat.le_of_ble_eq_true rfl) dX5_takeSteps_75 rfl hW hA [1] rfl rfl rfl (ch' := [kX3 g a0 v0, kX4 g a1 (a2 0) v1_7, kX0 g a2 v2_7, kX5 g a3 (a0 0) (a1 0) v3_7]) rfl 1 rfl rfl rfl (fun H locs hW => ?_)
  refine lv_iload_n hx hb dX5_takeSteps_78 rfl (lv_at hl 2 rfl) ?_
  refine lv_isub hx hb dX5_takeSteps_79 ?_
  obtain rfl := Option.some.inj hf
  subst hQ
  exact g_iret C hr hk0 hW rfl rfl dX5_takeSteps_80
def fX5_drainedWithin_L2 (N : Nat) (k : Int32 → MM → MM → MM → Option (Int32 × MM × MM × MM)) (x1 : Int32) (v0 : MM) : Nat → Int32 → MM → MM → MM → Option (Int32 × MM × MM × MM)
  | 0, _, _, _, _ => none
  | n + 1, x2, v1, v2, v3 => (if x1 < x2 then k x2 v1 v2 v3 else ((fX4_isDrained N v2 v1).bind (fun y1 => (if y1 = 0 then ((fX5_takeSteps N (1 : Int32) v0 v1 v2 v3).bind (fun y2 => fX5_drainedWithin_L2 N k x1 v0 n (x2 + 1) y2.2.1 y2.2.2.1 y2.2.2.2)) else some (x2, v1, v2, v3)))))
def fX5_drainedWithin (N : Nat) (x1 : Int32) (v0 : MM) (v1 : MM) (v2 : MM) (v3 : MM) : Option (Int32 × MM × MM × MM) := (fX5_drainedWithin_L2 N (fun (x2_3 : Int32) (v1_3 : MM) (v2_3 : MM) (v3_3 : MM) => some ((-9 : Int32), v1_3, v2_3, v3_3)) x1 v0 N (0 : Int32) v1 v2 v3)
set_option maxHeartbeats 4000000 in
set_option maxRecDepth 100000 in
theorem ct_X5_drainedWithin (g : GT) (l : Launch) (N : Nat) (a0 : Nat → Nat) (a1 : Nat → Nat) (a2 : Nat → Nat) (a3 : Nat → Nat) (x1 : Int32) (v0 : MM) (v1 : MM) (v2 : MM) (v3 : MM) {y : Int32 × MM × MM × MM} (hf : fX5_drainedWithin N x1 v0 v1 v2 v3 = some y) : ct g l yX5_drainedWithin wsX5_drainedWithin (rmk 5 124) [.ref (a3 0), .int x1] [kX3 g a0 v0, kX4 g a1 (a2 0) v1, kX0 g a2 v2, kX5 g a3 (a0 0) (a1 0) v3] (some (.int y.1)) [kX3 g a0 v0, kX4 g a1 (a2 0) y.2.1, kX0 g a2 y.2.2.1, kX5 g a3 (a0 0) (a1 0) y.2.2.2] := by
  refine ct_of (cc := cX5_drainedWithin) (maxL := 3) (ret := (some .int)) (by decide) rfl (Nat.le_of_ble_eq_true rfl) ?_
  intro p e s m args below meth c A ls C hr hk0 hA hW hl
  have hx := C.1.1
  have hb := C.1.2.1
  replace hl : lv_has ls 3 [(0, .ref (a3 0)), (1, .int x1)] := hl
  obtain ⟨Q, hQ⟩ : ∃ Q, Q = MQ below (ctQ g A (some (.int y.1)) [kX3 g a0 v0, kX4 g a1 (a2 0) y.2.1, kX0 g a2 y.2.2.1, kX5 g a3 (a0 0) (a1 0) y.2.2.2]) args s 0 0 A := ⟨_, rfl⟩
  rw [← hQ]
  obtain ⟨H, hH⟩ : ∃ H, H = s.heap := ⟨_, rfl⟩
  obtain ⟨locs, hL⟩ : ∃ locs : List Loc, locs = [] := ⟨_, rfl⟩
  replace hW : wd g A s.heap [kX3 g a0 v0, kX4 g a1 (a2 0) v1, kX0 g a2 v2, kX5 g a3 (a0 0) (a1 0) v3] H locs := by rw [hH, hL]; exact hW
  suffices hG : W p l e (rmk 5 124) s m args below meth c H locs 0 0 Q (F0 m 0 ls []) by
    rw [hH, hL] at hG; exact hG
  clear hH hL
  have inX5 : ∀ w ∈ wsX50, w ∈ wsX5_drainedWithin := fun _ h => List.mem_cons_of_mem _ (List.mem_append_left _ (List.mem_append_left _ (List.mem_append_left _ (List.mem_append_right _ (h)))))
  have L2 : ∀ (x1 : Int32) (k : Int32 → MM → MM → MM → Option (Int32 × MM × MM × MM)) (hk : ∀ (x2 : Int32) (v1 : MM) (v2 : MM) (v3 : MM) (H : Heap) (locs : List Loc) (ls : Array Slot), k x2 v1 v2 v3 = some y → wd g A s.heap [kX3 g a0 v0, kX4 g a1 (a2 0) v1, kX0 g a2 v2, kX5 g a3 (a0 0) (a1 0) v3] H locs → lv_has ls 3 [(0, .ref (a3 0)), (1, .int x1), (2, .int x2)] → W p l e (rmk 5 124) s m args below meth c H locs 0 0 Q (F0 m 31 ls [])) (n : Nat) (x2 : Int32) (v1 : MM) (v2 : MM) (v3 : MM) (H : Heap) (locs : List Loc) (ls : Array Slot), fX5_drainedWithin_L2 N k x1 v0 n x2 v1 v2 v3 = some y → wd g A s.heap [kX3 g a0 v0, kX4 g a1 (a2 0) v1, kX0 g a2 v2, kX5 g a3 (a0 0) (a1 0) v3] H locs → lv_has ls 3 [(0, .ref (a3 0)), (1, .int x1), (2, .int x2)] → W p l e (rmk 5 124) s m args below meth c H locs 0 0 Q (F0 m 2 ls []) := by
    intro x1 k hk n
    induction n with
    | zero => intro x2 v1 v2 v3 H locs ls hf; rw [fX5_drainedWithin_L2] at hf; cases hf
    | succ n ih =>
      intro x2 v1 v2 v3 H locs ls hf hW hl
      rw [fX5_drainedWithin_L2] at hf
      refine lv_iload_n hx hb dX5_drainedWithin_2 rfl (lv_at hl 2 rfl) ?_
      refine lv_iload_n hx hb dX5_drainedWithin_3 rfl (lv_at hl 1 rfl) ?_
      refine lv_icmp_gt (tgt := 31) hx hb dX5_drainedWithin_4 (by decide) (fun h => ?_) (fun h => ?_)
      · replace hf := (if_pos h).symm.trans hf
        exact hk _ _ _ _ H locs ls hf hW (lv_sub hl [0, 1, 2] rfl)
      · replace hf := (if_neg h).symm.trans hf
        refine lv_aload_n hx hb dX5_drainedWithin_7 rfl (lv_at hl 0 rfl) ?_
        refine g_get C hW inX5 3 rfl rfl rfl 1 (by decide) (List.mem_of_getElem? (i := 1) rfl) (v := .ref (a1 0)) rfl dX5_drainedWithin_8 ?_
        obtain ⟨y1, hc, hf⟩ := bd_of hf
        refine g_cV (Cn := RX4) C (ct_X4_isDrained g l N a2 a1 v2 v1 hc) gX5_drainedWithin_X4_isDrained rfl 0 (by decide +kernel) ⟨rfl, rfl, ⟨Nat.le_of_ble_eq_true rfl, Nat.le_of_ble_eq_true rfl⟩, Nat.le_of_ble_eq_true rfl, Nat.le_of_ble_eq_true rfl⟩ rfl hl (Nat.le_of_ble_eq_true rfl) dX5_drainedWithin_11 rfl hW hA [2, 1] rfl rfl rfl (ch' := [kX3 g a0 v0, kX4 g a1 (a2 0) v1, kX0 g a2 v2, kX5 g a3 (a0 0) (a1 0) v3]) rfl 1 rfl rfl rfl (fun H locs hW => ?_)
        refine lv_if_eq (tgt := 19) hx hb dX5_drainedWithin_14 (by decide) (fun h => ?_) (fun h => ?_)
        · replace hf := (if_pos h).symm.trans hf
          refine lv_aload_n hx hb dX5_drainedWithin_19 rfl (lv_at hl 0 rfl) ?_
          refine lv_iconst (v := (1 : Int32)) hx hb dX5_drainedWithin_20 (by decide) ?_
          obtain ⟨y2, hc, hf⟩ := bd_of hf
          refine g_cV (Cn := RX5) C (ct_X5_takeSteps g l N a0 a1 a2 a3 (1 : Int32) v0 v1 v2 v3 hc) gX5_drainedWithin_X5_takeSteps rfl 1 (by decide +kernel) ⟨rfl, rfl, ⟨Nat.le_of_ble_eq_true rfl, Nat.le_of_ble_eq_true rfl⟩, Nat.le_of_ble_eq_true rfl, Nat.le_of_ble_eq_true rfl⟩ rfl hl (Nat.le_of_ble_eq_true rfl) dX5_drainedWithin_21 rfl hW hA [0, 1, 2, 3] rfl rfl rfl (ch' := [kX3 g a0 v0, kX4 g a1 (a2 0) y2.2.1, kX0 g a2 y2.2.2.1, kX5 g a3 (a0 0) (a1 0) y2.2.2.2]) rfl 3 rfl rfl rfl (fun H locs hW => ?_)
          refine lv_pop hx hb dX5_drainedWithin_24 rfl ?_
          refine lv_iinc (v := (x2 + 1)) (lv' := [(2, .int (x2 + 1)), (0, .ref (a3 0)), (1, .int x1)]) hx hb dX5_drainedWithin_25 hl (k := 2) rfl (by first | rfl | decide) (by decide) rfl (fun ls hl => ?_)
          refine lv_goto (tgt := 2) hx hb dX5_drainedWithin_28 (by decide) ?_
          exact ih _ _ _ _ H locs ls hf hW (lv_sub hl [1, 2, 0] rfl)
        · replace hf := (if_neg h).symm.trans hf
          refine lv_iload_n hx hb dX5_drainedWithin_17 rfl (lv_at hl 2 rfl) ?_
          obtain rfl := Option.some.inj hf
          subst hQ
          exact g_iret C hr hk0 hW rfl rfl dX5_drainedWithin_18
  rw [fX5_drainedWithin] at hf
  refine lv_iconst (v := (0 : Int32)) hx hb dX5_drainedWithin_0 (by decide) ?_
  refine lv_istore_n (lv' := [(2, .int (0 : Int32)), (0, .ref (a3 0)), (1, .int x1)]) hx hb dX5_drainedWithin_1 rfl hl (by decide) rfl (fun ls hl => ?_)
  refine L2 x1 _ (fun x2_3 v1_3 v2_3 v3_3 H locs ls hf hW hl => ?_) N (0 : Int32) v1 v2 v3 H locs ls hf hW (lv_sub hl [1, 2, 0] rfl)
  refine lv_bipush (v := (-9 : Int32)) hx hb dX5_drainedWithin_31 (by decide) ?_
  obtain rfl := Option.some.inj hf
  subst hQ
  exact g_iret C hr hk0 hW rfl rfl dX5_drainedWithin_33
