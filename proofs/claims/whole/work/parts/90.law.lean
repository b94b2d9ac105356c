-- ===== end of PART A; then your names; then what follows =====
/-! THE CLAIM OUT OF ONE WALK OF THE LAW'S BODY. Your part is whole_start (and what it stands on); all else here is the same for every law, but numbers. -/
def R_law : String := "UpwardGrantsLaw"
def lw_P (b : Addr) (xs : List Int32) (args : Array Value) (s : State) : Prop := args = #[.ref b] ∧ s.IntsAt b xs ∧ xs.length ≤ 2048 ∧ (Jvm.Cond.and given_1 narrow_1).before args s = true
def lw_Q (_ : Array Value) (s : State) (o : Outcome) (t : State) : Prop := o = .returned (some (.int 1)) ∧ Framed s o t [] 600000 7302250
def lw_Z (below : List Frame) (a : Array Value) (s : State) : State → Prop := fun t => ∃ o, t.status = .running ∧ Ended t below o ∧ lw_Q a s o t
/-- the law's own end, with 1 on the stack, nothing written that was there before, its room as the claim has it -/
theorem lw_ret {p : Program} {l : Launch} {e : Env} {s : State} {m : MethodId} {below : List Frame} {meth : Method} {c : Code} {b : Nat} (hx : p.tables.exec = Jvm.exec) (hb : c.code = code) (hr : meth.sig.returnType = ret) (hlocks : meth.locks = false) {pc : Nat} {H : Heap} {ls : Array Slot} (hdg : decode code pc = .ok (.ireturn, 1)) : W p l e room_1 s m #[Value.ref b] below meth c H [] 600000 7302250 (lw_Z below #[Value.ref b] s) (F0 m pc ls [.int 1]) := by
  intro T hT X
  obtain ⟨fs, hret, hrun, hended, hW, hframe⟩ := X.leave (v := some (.int 1)) (hlocks := hlocks) (fun h => by rw [hr] at h; cases h)
  have hmeth' : T.vm.method? m = some meth := X.method'
  refine ⟨T.setFrames fs, ?_, .returned (some (.int 1)), hrun, hended, rfl, ⟨_, rfl⟩, hW, hframe⟩
  jvm_step X.here [X.here.top, hx, hb, hdg, hmeth', hr, ret, narrow_b1]
  (try refine ⟨rfl, ?_⟩); (try refine ⟨rfl, ?_⟩)
  first | (intro acts; rw [hret _ acts rfl rfl rfl]) | rw [hret _ _ rfl rfl rfl]
  exact Steps.refl _
/-- what holds at the law's entry: the machine, the code, the tables' words (any of lw_tbl by 'hts w (by decide +kernel)'), the script of L ints xs at the cell b, what the Statement gives of the start (any of its parts by flat_of_before) -/
def lw_At (p : Program) (s : State) (m : MethodId) (meth : Method) (c : Code) (b L : Nat) (xs : Nat → Int32) : Prop :=
  p.tables.exec = Jvm.exec ∧ c.code = code ∧ meth.sig.returnType = ret ∧ c.maxLocals = 4 ∧ s.vm.findClass R_law = some m.cls ∧ (∀ w ∈ lw_tbl, w.before #[Value.ref b] s = true) ∧ va_X b L xs s s.heap ∧ b < s.heap.size ∧ meth.locks = false ∧ (Jvm.Cond.and given_1 narrow_1).before #[Value.ref b] s = true
set_option maxHeartbeats 4000000 in
set_option maxRecDepth 100000 in
theorem law_type {p : Program} {e : Env} {s : State} {m : MethodId} {below : List Frame} {meth : Method} {c : Code} (l : Launch) {b L : Nat} {xs : Nat → Int32} (hL : L ≤ 2048) (C0 : lw_At p s m meth c b L xs) {g : GT} (C : cx g p m c code 4 s #[Value.ref b] wsL_law RL) {i : Nat} (hi : i + 4 ≤ L) {ad : Nat → Nat → Nat} {am : Nat → Nat} {cv : Nat → MM} {u : MM} {H : Heap} {locs : List Loc} {ls : Array Slot} (hR : RR cv u) (hW : wd g (fun q : Nat => s.heap.size ≤ q) s.heap (wL g ad am cv u) H locs) (hl : lv_has ls 4 [(0, .ref b), (1, .ref (ad 0 0)), (2, .ref (am 0)), (3, .int (nI i))]) (kk : ∀ (H : Heap) (locs : List Loc) (cv : Nat → MM) (u : MM) (ls : Array Slot), RR cv u → wd g (fun q : Nat => s.heap.size ≤ q) s.heap (wL g ad am cv u) H locs → lv_has ls 4 [(0, .ref b), (1, .ref (ad 0 0)), (2, .ref (am 0)), (3, .int (nI i))] → W p l e room_1 s m #[Value.ref b] below meth c H locs 600000 7302250 (lw_Z below #[Value.ref b] s) (F0 m 645 ls [])) : W p l e room_1 s m #[Value.ref b] below meth c H locs 600000 7302250 (lw_Z below #[Value.ref b] s) (F0 m 132 ls []) := by
  obtain ⟨hx, hb, hr, hml, hown, -, hX, hbl, hlocks, hgv⟩ := id C0
  have hA : ∀ q : Nat, s.heap.size ≤ q → (fun q : Nat => s.heap.size ≤ q) q := fun _ h => h
  have hbA : ¬ (fun q : Nat => s.heap.size ≤ q) b := Nat.not_le.mpr hbl
  have i1 : vp_in (nI i + 1) L := by rw [show (1 : Int32) = nI 1 from rfl, nI_add]; exact vp_in_nI (by omega) (by omega)
  have i2 : vp_in (nI i + 2) L := by rw [show (2 : Int32) = nI 2 from rfl, nI_add]; exact vp_in_nI (by omega) (by omega)
  have i3 : vp_in (nI i + 3) L := by rw [show (3 : Int32) = nI 3 from rfl, nI_add]; exact vp_in_nI (by omega) (by omega)
  obtain ⟨y, z, hy, hz, hyz, hRR⟩ := sm_type (xs (Int32.toNatClampNeg (nI i + (1 : Int32)))) cv u hR
  refine lv_aload_n hx hb dL_law_132 rfl (lv_at hl 1 rfl) ?_
  refine lv_aload_n hx hb dL_law_133 rfl (lv_at hl 0 rfl) ?_
  refine lv_iload_n hx hb dL_law_134 rfl (lv_at hl 3 rfl) ?_
  refine lv_iconst (v := (1 : Int32)) hx hb dL_law_135 (by decide) ?_
  refine lv_iadd hx hb dL_law_136 ?_
  refine va_sld hx hb hX hbl hbA hW.2.2 i1 dL_law_137 ?_
  refine g_cV (Cn := RX7) C (ct_X7_type g l NF (ad 1) (ad 0) (ad 2 0) (ad 3 0) (ad 4 0) (ad 6 0) (ad 8 0) (ad 9 0) (ad 10 0) (ad 27 0) (ad 30 0) (xs (Int32.toNatClampNeg (nI i + (1 : Int32)))) (cv 1) (cv 0) hy) gL_law_X7_type rfl 1 (by decide +kernel) ⟨rfl, rfl, ⟨(Nat.le_of_ble_eq_true rfl), (Nat.le_of_ble_eq_true rfl)⟩, (Nat.le_of_ble_eq_true rfl), (Nat.le_of_ble_eq_true rfl)⟩ rfl hl (Nat.le_of_ble_eq_true rfl) dL_law_138 rfl hW hA [1, 0] rfl rfl rfl (ch' := wL g ad am (up cv 1 y.2) u) rfl 0 rfl rfl rfl (fun H locs hW => ?_)
  refine lv_aload_n hx hb dL_law_141 rfl (lv_at hl 2 rfl) ?_
  refine lv_aload_n hx hb dL_law_142 rfl (lv_at hl 0 rfl) ?_
  refine lv_iload_n hx hb dL_law_143 rfl (lv_at hl 3 rfl) ?_
  refine lv_iconst (v := (1 : Int32)) hx hb dL_law_144 (by decide) ?_
  refine lv_iadd hx hb dL_law_145 ?_
  refine va_sld hx hb hX hbl hbA hW.2.2 i1 dL_law_146 ?_
  refine g_cV (Cn := RX8) C (ct_X8_type g l NF (am) (xs (Int32.toNatClampNeg (nI i + (1 : Int32)))) u hz) gL_law_X8_type rfl 1 (by decide +kernel) ⟨rfl, rfl, ⟨(Nat.le_of_ble_eq_true rfl), (Nat.le_of_ble_eq_true rfl)⟩, (Nat.le_of_ble_eq_true rfl), (Nat.le_of_ble_eq_true rfl)⟩ rfl hl (Nat.le_of_ble_eq_true rfl) dL_law_147 rfl hW hA [33] rfl rfl rfl (ch' := wL g ad am (up cv 1 y.2) z.2) rfl 33 rfl rfl rfl (fun H locs hW => ?_)
  refine lv_icmp_eq (tgt := 645) hx hb dL_law_150 (by decide) (fun _ => ?_) (fun h => absurd hyz h)
  exact kk H locs (up cv 1 y.2) z.2 ls hRR hW hl
set_option maxHeartbeats 4000000 in
set_option maxRecDepth 100000 in
theorem law_clear {p : Program} {e : Env} {s : State} {m : MethodId} {below : List Frame} {meth : Method} {c : Code} (l : Launch) {b L : Nat} {xs : Nat → Int32} (hL : L ≤ 2048) (C0 : lw_At p s m meth c b L xs) {g : GT} (C : cx g p m c code 4 s #[Value.ref b] wsL_law RL) {i : Nat} (hi : i + 4 ≤ L) {ad : Nat → Nat → Nat} {am : Nat → Nat} {cv : Nat → MM} {u : MM} {H : Heap} {locs : List Loc} {ls : Array Slot} (hR : RR cv u) (hW : wd g (fun q : Nat => s.heap.size ≤ q) s.heap (wL g ad am cv u) H locs) (hl : lv_has ls 4 [(0, .ref b), (1, .ref (ad 0 0)), (2, .ref (am 0)), (3, .int (nI i))]) (kk : ∀ (H : Heap) (locs : List Loc) (cv : Nat → MM) (u : MM) (ls : Array Slot), RR cv u → wd g (fun q : Nat => s.heap.size ≤ q) s.heap (wL g ad am cv u) H locs → lv_has ls 4 [(0, .ref b), (1, .ref (ad 0 0)), (2, .ref (am 0)), (3, .int (nI i))] → W p l e room_1 s m #[Value.ref b] below meth c H locs 600000 7302250 (lw_Z below #[Value.ref b] s) (F0 m 645 ls [])) : W p l e room_1 s m #[Value.ref b] below meth c H locs 600000 7302250 (lw_Z below #[Value.ref b] s) (F0 m 155 ls []) := by
  obtain ⟨hx, hb, hr, hml, hown, -, hX, hbl, hlocks, hgv⟩ := id C0
  have hA : ∀ q : Nat, s.heap.size ≤ q → (fun q : Nat => s.heap.size ≤ q) q := fun _ h => h
  have hbA : ¬ (fun q : Nat => s.heap.size ≤ q) b := Nat.not_le.mpr hbl
  have i1 : vp_in (nI i + 1) L := by rw [show (1 : Int32) = nI 1 from rfl, nI_add]; exact vp_in_nI (by omega) (by omega)
  have i2 : vp_in (nI i + 2) L := by rw [show (2 : Int32) = nI 2 from rfl, nI_add]; exact vp_in_nI (by omega) (by omega)
  have i3 : vp_in (nI i + 3) L := by rw [show (3 : Int32) = nI 3 from rfl, nI_add]; exact vp_in_nI (by omega) (by omega)
  obtain ⟨y, z, hy, hz, hyz, hRR⟩ := sm_clear cv u hR
  refine lv_aload_n hx hb dL_law_155 rfl (lv_at hl 1 rfl) ?_
  refine g_cV (Cn := RX7) C (ct_X7_clear g l NF (ad 1) (ad 0) (ad 2 0) (ad 3 0) (ad 4 0) (ad 6 0) (ad 8 0) (ad 9 0) (ad 10 0) (ad 27 0) (ad 30 0) (cv 1) (cv 0) hy) gL_law_X7_clear rfl 0 (by decide +kernel) ⟨rfl, rfl, ⟨(Nat.le_of_ble_eq_true rfl), (Nat.le_of_ble_eq_true rfl)⟩, (Nat.le_of_ble_eq_true rfl), (Nat.le_of_ble_eq_true rfl)⟩ rfl hl (Nat.le_of_ble_eq_true rfl) dL_law_156 rfl hW hA [1, 0] rfl rfl rfl (ch' := wL g ad am (up cv 1 y.2) u) rfl 0 rfl rfl rfl (fun H locs hW => ?_)
  refine lv_aload_n hx hb dL_law_159 rfl (lv_at hl 2 rfl) ?_
  refine g_cV (Cn := RX8) C (ct_X8_clear g l NF (am)  u hz) gL_law_X8_clear rfl 0 (by decide +kernel) ⟨rfl, rfl, ⟨(Nat.le_of_ble_eq_true rfl), (Nat.le_of_ble_eq_true rfl)⟩, (Nat.le_of_ble_eq_true rfl), (Nat.le_of_ble_eq_true rfl)⟩ rfl hl (Nat.le_of_ble_eq_true rfl) dL_law_160 rfl hW hA [33] rfl rfl rfl (ch' := wL g ad am (up cv 1 y.2) z.2) rfl 33 rfl rfl rfl (fun H locs hW => ?_)
  refine lv_icmp_eq (tgt := 645) hx hb dL_law_163 (by decide) (fun _ => ?_) (fun h => absurd hyz h)
  exact kk H locs (up cv 1 y.2) z.2 ls hRR hW hl
set_option maxHeartbeats 4000000 in
set_option maxRecDepth 100000 in
theorem law_cell {p : Program} {e : Env} {s : State} {m : MethodId} {below : List Frame} {meth : Method} {c : Code} (l : Launch) {b L : Nat} {xs : Nat → Int32} (hL : L ≤ 2048) (C0 : lw_At p s m meth c b L xs) {g : GT} (C : cx g p m c code 4 s #[Value.ref b] wsL_law RL) {i : Nat} (hi : i + 4 ≤ L) {ad : Nat → Nat → Nat} {am : Nat → Nat} {cv : Nat → MM} {u : MM} {H : Heap} {locs : List Loc} {ls : Array Slot} (hR : RR cv u) (hW : wd g (fun q : Nat => s.heap.size ≤ q) s.heap (wL g ad am cv u) H locs) (hl : lv_has ls 4 [(0, .ref b), (1, .ref (ad 0 0)), (2, .ref (am 0)), (3, .int (nI i))]) (kk : ∀ (H : Heap) (locs : List Loc) (cv : Nat → MM) (u : MM) (ls : Array Slot), RR cv u → wd g (fun q : Nat => s.heap.size ≤ q) s.heap (wL g ad am cv u) H locs → lv_has ls 4 [(0, .ref b), (1, .ref (ad 0 0)), (2, .ref (am 0)), (3, .int (nI i))] → W p l e room_1 s m #[Value.ref b] below meth c H locs 600000 7302250 (lw_Z below #[Value.ref b] s) (F0 m 645 ls [])) : W p l e room_1 s m #[Value.ref b] below meth c H locs 600000 7302250 (lw_Z below #[Value.ref b] s) (F0 m 168 ls []) := by
  obtain ⟨hx, hb, hr, hml, hown, -, hX, hbl, hlocks, hgv⟩ := id C0
  have hA : ∀ q : Nat, s.heap.size ≤ q → (fun q : Nat => s.heap.size ≤ q) q := fun _ h => h
  have hbA : ¬ (fun q : Nat => s.heap.size ≤ q) b := Nat.not_le.mpr hbl
  have i1 : vp_in (nI i + 1) L := by rw [show (1 : Int32) = nI 1 from rfl, nI_add]; exact vp_in_nI (by omega) (by omega)
  have i2 : vp_in (nI i + 2) L := by rw [show (2 : Int32) = nI 2 from rfl, nI_add]; exact vp_in_nI (by omega) (by omega)
  have i3 : vp_in (nI i + 3) L := by rw [show (3 : Int32) = nI 3 from rfl, nI_add]; exact vp_in_nI (by omega) (by omega)
  obtain ⟨y, z, hy, hz, hyz, hRR⟩ := sm_cell cv u hR
  refine lv_aload_n hx hb dL_law_168 rfl (lv_at hl 1 rfl) ?_
  refine g_cV (Cn := RX7) C (ct_X7_cell g l NF (ad 1) (ad 2) (ad 3) (ad 4) (ad 5) (ad 10) (ad 27) (ad 30) (ad 0) (ad 11 0) (ad 13 0) (ad 15 0) (ad 17 0) (ad 19 0) (ad 21 0) (ad 23 0) (ad 25 0) (ad 28 0) (ad 31 0) (ad 6 0) (ad 8 0) (ad 9 0) (cv 1) (cv 2) (cv 3) (cv 4) (cv 5) (cv 10) (cv 27) (cv 30) (cv 0) hy) gL_law_X7_cell rfl 0 (by decide +kernel) ⟨rfl, rfl, ⟨(Nat.le_of_ble_eq_true rfl), (Nat.le_of_ble_eq_true rfl)⟩, (Nat.le_of_ble_eq_true rfl), (Nat.le_of_ble_eq_true rfl)⟩ rfl hl (Nat.le_of_ble_eq_true rfl) dL_law_169 rfl hW hA [1, 2, 3, 4, 5, 10, 27, 30, 0] rfl rfl rfl (ch' := wL g ad am (up (up (up (up (up (up (up (up (up cv 1 y.2.1) 2 y.2.2.1) 3 y.2.2.2.1) 4 y.2.2.2.2.1) 5 y.2.2.2.2.2.1) 10 y.2.2.2.2.2.2.1) 27 y.2.2.2.2.2.2.2.1) 30 y.2.2.2.2.2.2.2.2.1) 0 y.2.2.2.2.2.2.2.2.2) u) rfl 0 rfl rfl rfl (fun H locs hW => ?_)
  refine lv_aload_n hx hb dL_law_172 rfl (lv_at hl 2 rfl) ?_
  refine g_cV (Cn := RX8) C (ct_X8_cell g l NF (am)  u hz) gL_law_X8_cell rfl 0 (by decide +kernel) ⟨rfl, rfl, ⟨(Nat.le_of_ble_eq_true rfl), (Nat.le_of_ble_eq_true rfl)⟩, (Nat.le_of_ble_eq_true rfl), (Nat.le_of_ble_eq_true rfl)⟩ rfl hl (Nat.le_of_ble_eq_true rfl) dL_law_173 rfl hW hA [33] rfl rfl rfl (ch' := wL g ad am (up (up (up (up (up (up (up (up (up cv 1 y.2.1) 2 y.2.2.1) 3 y.2.2.2.1) 4 y.2.2.2.2.1) 5 y.2.2.2.2.2.1) 10 y.2.2.2.2.2.2.1) 27 y.2.2.2.2.2.2.2.1) 30 y.2.2.2.2.2.2.2.2.1) 0 y.2.2.2.2.2.2.2.2.2) z.2) rfl 33 rfl rfl rfl (fun H locs hW => ?_)
  refine lv_icmp_eq (tgt := 645) hx hb dL_law_176 (by decide) (fun _ => ?_) (fun h => absurd hyz h)
  exact kk H locs (up (up (up (up (up (up (up (up (up cv 1 y.2.1) 2 y.2.2.1) 3 y.2.2.2.1) 4 y.2.2.2.2.1) 5 y.2.2.2.2.2.1) 10 y.2.2.2.2.2.2.1) 27 y.2.2.2.2.2.2.2.1) 30 y.2.2.2.2.2.2.2.2.1) 0 y.2.2.2.2.2.2.2.2.2) z.2 ls hRR hW hl
set_option maxHeartbeats 4000000 in
set_option maxRecDepth 100000 in
theorem law_comes {p : Program} {e : Env} {s : State} {m : MethodId} {below : List Frame} {meth : Method} {c : Code} (l : Launch) {b L : Nat} {xs : Nat → Int32} (hL : L ≤ 2048) (C0 : lw_At p s m meth c b L xs) {g : GT} (C : cx g p m c code 4 s #[Value.ref b] wsL_law RL) {i : Nat} (hi : i + 4 ≤ L) {ad : Nat → Nat → Nat} {am : Nat → Nat} {cv : Nat → MM} {u : MM} {H : Heap} {locs : List Loc} {ls : Array Slot} (hR : RR cv u) (hW : wd g (fun q : Nat => s.heap.size ≤ q) s.heap (wL g ad am cv u) H locs) (hl : lv_has ls 4 [(0, .ref b), (1, .ref (ad 0 0)), (2, .ref (am 0)), (3, .int (nI i))]) (kk : ∀ (H : Heap) (locs : List Loc) (cv : Nat → MM) (u : MM) (ls : Array Slot), RR cv u → wd g (fun q : Nat => s.heap.size ≤ q) s.heap (wL g ad am cv u) H locs → lv_has ls 4 [(0, .ref b), (1, .ref (ad 0 0)), (2, .ref (am 0)), (3, .int (nI i))] → W p l e room_1 s m #[Value.ref b] below meth c H locs 600000 7302250 (lw_Z below #[Value.ref b] s) (F0 m 645 ls [])) : W p l e room_1 s m #[Value.ref b] below meth c H locs 600000 7302250 (lw_Z below #[Value.ref b] s) (F0 m 181 ls []) := by
  obtain ⟨hx, hb, hr, hml, hown, -, hX, hbl, hlocks, hgv⟩ := id C0
  have hA : ∀ q : Nat, s.heap.size ≤ q → (fun q : Nat => s.heap.size ≤ q) q := fun _ h => h
  have hbA : ¬ (fun q : Nat => s.heap.size ≤ q) b := Nat.not_le.mpr hbl
  have i1 : vp_in (nI i + 1) L := by rw [show (1 : Int32) = nI 1 from rfl, nI_add]; exact vp_in_nI (by omega) (by omega)
  have i2 : vp_in (nI i + 2) L := by rw [show (2 : Int32) = nI 2 from rfl, nI_add]; exact vp_in_nI (by omega) (by omega)
  have i3 : vp_in (nI i + 3) L := by rw [show (3 : Int32) = nI 3 from rfl, nI_add]; exact vp_in_nI (by omega) (by omega)
  obtain ⟨y, z, hy, hz, hyz, hRR⟩ := sm_comes (xs (Int32.toNatClampNeg (nI i + (1 : Int32)))) (xs (Int32.toNatClampNeg (nI i + (2 : Int32)))) cv u hR
  refine lv_aload_n hx hb dL_law_181 rfl (lv_at hl 1 rfl) ?_
  refine lv_aload_n hx hb dL_law_182 rfl (lv_at hl 0 rfl) ?_
  refine lv_iload_n hx hb dL_law_183 rfl (lv_at hl 3 rfl) ?_
  refine lv_iconst (v := (1 : Int32)) hx hb dL_law_184 (by decide) ?_
  refine lv_iadd hx hb dL_law_185 ?_
  refine va_sld hx hb hX hbl hbA hW.2.2 i1 dL_law_186 ?_
  refine lv_aload_n hx hb dL_law_187 rfl (lv_at hl 0 rfl) ?_
  refine lv_iload_n hx hb dL_law_188 rfl (lv_at hl 3 rfl) ?_
  refine lv_iconst (v := (2 : Int32)) hx hb dL_law_189 (by decide) ?_
  refine lv_iadd hx hb dL_law_190 ?_
  refine va_sld hx hb hX hbl hbA hW.2.2 i2 dL_law_191 ?_
  refine g_cV (Cn := RX7) C (ct_X7_comes g l NF (ad 2) (ad 4) (ad 5) (ad 8) (ad 10) (ad 11) (ad 12) (ad 13) (ad 14) (ad 15) (ad 16) (ad 17) (ad 18) (ad 19) (ad 20) (ad 21) (ad 22) (ad 23) (ad 24) (ad 25) (ad 26) (ad 0) (ad 1 0) (ad 3 0) (ad 6 0) (ad 9 0) (ad 27 0) (ad 30 0) (xs (Int32.toNatClampNeg (nI i + (1 : Int32)))) (xs (Int32.toNatClampNeg (nI i + (2 : Int32)))) (cv 2) (cv 4) (cv 5) (cv 8) (cv 10) (cv 11) (cv 12) (cv 13) (cv 14) (cv 15) (cv 16) (cv 17) (cv 18) (cv 19) (cv 20) (cv 21) (cv 22) (cv 23) (cv 24) (cv 25) (cv 26) (cv 0) hy) gL_law_X7_comes rfl 2 (by decide +kernel) ⟨rfl, rfl, ⟨(Nat.le_of_ble_eq_true rfl), (Nat.le_of_ble_eq_true rfl)⟩, (Nat.le_of_ble_eq_true rfl), (Nat.le_of_ble_eq_true rfl)⟩ rfl hl (Nat.le_of_ble_eq_true rfl) dL_law_192 rfl hW hA [2, 4, 5, 8, 10, 11, 12, 13, 14, 15, 16, 17, 18, 19, 20, 21, 22, 23, 24, 25, 26, 0] rfl rfl rfl (ch' := wL g ad am (up (up (up (up (up (up (up (up (up (up (up (up (up (up (up (up (up (up cv 4 y.2.1) 10 y.2.2.1) 11 y.2.2.2.1) 12 y.2.2.2.2.1) 13 y.2.2.2.2.2.1) 14 y.2.2.2.2.2.2.1) 15 y.2.2.2.2.2.2.2.1) 16 y.2.2.2.2.2.2.2.2.1) 17 y.2.2.2.2.2.2.2.2.2.1) 18 y.2.2.2.2.2.2.2.2.2.2.1) 19 y.2.2.2.2.2.2.2.2.2.2.2.1) 20 y.2.2.2.2.2.2.2.2.2.2.2.2.1) 21 y.2.2.2.2.2.2.2.2.2.2.2.2.2.1) 22 y.2.2.2.2.2.2.2.2.2.2.2.2.2.2.1) 23 y.2.2.2.2.2.2.2.2.2.2.2.2.2.2.2.1) 24 y.2.2.2.2.2.2.2.2.2.2.2.2.2.2.2.2.1) 25 y.2.2.2.2.2.2.2.2.2.2.2.2.2.2.2.2.2.1) 26 y.2.2.2.2.2.2.2.2.2.2.2.2.2.2.2.2.2.2) u) rfl 0 rfl rfl rfl (fun H locs hW => ?_)
  refine lv_aload_n hx hb dL_law_195 rfl (lv_at hl 2 rfl) ?_
  refine lv_aload_n hx hb dL_law_196 rfl (lv_at hl 0 rfl) ?_
  refine lv_iload_n hx hb dL_law_197 rfl (lv_at hl 3 rfl) ?_
  refine lv_iconst (v := (1 : Int32)) hx hb dL_law_198 (by decide) ?_
  refine lv_iadd hx hb dL_law_199 ?_
  refine va_sld hx hb hX hbl hbA hW.2.2 i1 dL_law_200 ?_
  refine lv_aload_n hx hb dL_law_201 rfl (lv_at hl 0 rfl) ?_
  refine lv_iload_n hx hb dL_law_202 rfl (lv_at hl 3 rfl) ?_
  refine lv_iconst (v := (2 : Int32)) hx hb dL_law_203 (by decide) ?_
  refine lv_iadd hx hb dL_law_204 ?_
  refine va_sld hx hb hX hbl hbA hW.2.2 i2 dL_law_205 ?_
  refine g_cV (Cn := RX8) C (ct_X8_comes g l NF (am) (xs (Int32.toNatClampNeg (nI i + (1 : Int32)))) (xs (Int32.toNatClampNeg (nI i + (2 : Int32)))) u hz) gL_law_X8_comes rfl 2 (by decide +kernel) ⟨rfl, rfl, ⟨(Nat.le_of_ble_eq_true rfl), (Nat.le_of_ble_eq_true rfl)⟩, (Nat.le_of_ble_eq_true rfl), (Nat.le_of_ble_eq_true rfl)⟩ rfl hl (Nat.le_of_ble_eq_true rfl) dL_law_206 rfl hW hA [33] rfl rfl rfl (ch' := wL g ad am (up (up (up (up (up (up (up (up (up (up (up (up (up (up (up (up (up (up cv 4 y.2.1) 10 y.2.2.1) 11 y.2.2.2.1) 12 y.2.2.2.2.1) 13 y.2.2.2.2.2.1) 14 y.2.2.2.2.2.2.1) 15 y.2.2.2.2.2.2.2.1) 16 y.2.2.2.2.2.2.2.2.1) 17 y.2.2.2.2.2.2.2.2.2.1) 18 y.2.2.2.2.2.2.2.2.2.2.1) 19 y.2.2.2.2.2.2.2.2.2.2.2.1) 20 y.2.2.2.2.2.2.2.2.2.2.2.2.1) 21 y.2.2.2.2.2.2.2.2.2.2.2.2.2.1) 22 y.2.2.2.2.2.2.2.2.2.2.2.2.2.2.1) 23 y.2.2.2.2.2.2.2.2.2.2.2.2.2.2.2.1) 24 y.2.2.2.2.2.2.2.2.2.2.2.2.2.2.2.2.1) 25 y.2.2.2.2.2.2.2.2.2.2.2.2.2.2.2.2.2.1) 26 y.2.2.2.2.2.2.2.2.2.2.2.2.2.2.2.2.2.2) z.2) rfl 33 rfl rfl rfl (fun H locs hW => ?_)
  refine lv_icmp_eq (tgt := 645) hx hb dL_law_209 (by decide) (fun _ => ?_) (fun h => absurd hyz h)
  exact kk H locs (up (up (up (up (up (up (up (up (up (up (up (up (up (up (up (up (up (up cv 4 y.2.1) 10 y.2.2.1) 11 y.2.2.2.1) 12 y.2.2.2.2.1) 13 y.2.2.2.2.2.1) 14 y.2.2.2.2.2.2.1) 15 y.2.2.2.2.2.2.2.1) 16 y.2.2.2.2.2.2.2.2.1) 17 y.2.2.2.2.2.2.2.2.2.1) 18 y.2.2.2.2.2.2.2.2.2.2.1) 19 y.2.2.2.2.2.2.2.2.2.2.2.1) 20 y.2.2.2.2.2.2.2.2.2.2.2.2.1) 21 y.2.2.2.2.2.2.2.2.2.2.2.2.2.1) 22 y.2.2.2.2.2.2.2.2.2.2.2.2.2.2.1) 23 y.2.2.2.2.2.2.2.2.2.2.2.2.2.2.2.1) 24 y.2.2.2.2.2.2.2.2.2.2.2.2.2.2.2.2.1) 25 y.2.2.2.2.2.2.2.2.2.2.2.2.2.2.2.2.2.1) 26 y.2.2.2.2.2.2.2.2.2.2.2.2.2.2.2.2.2.2) z.2 ls hRR hW hl
set_option maxHeartbeats 4000000 in
set_option maxRecDepth 100000 in
theorem law_steps {p : Program} {e : Env} {s : State} {m : MethodId} {below : List Frame} {meth : Method} {c : Code} (l : Launch) {b L : Nat} {xs : Nat → Int32} (hL : L ≤ 2048) (C0 : lw_At p s m meth c b L xs) {g : GT} (C : cx g p m c code 4 s #[Value.ref b] wsL_law RL) {i : Nat} (hi : i + 4 ≤ L) {ad : Nat → Nat → Nat} {am : Nat → Nat} {cv : Nat → MM} {u : MM} {H : Heap} {locs : List Loc} {ls : Array Slot} (hR : RR cv u) (hW : wd g (fun q : Nat => s.heap.size ≤ q) s.heap (wL g ad am cv u) H locs) (hl : lv_has ls 4 [(0, .ref b), (1, .ref (ad 0 0)), (2, .ref (am 0)), (3, .int (nI i))]) (kk : ∀ (H : Heap) (locs : List Loc) (cv : Nat → MM) (u : MM) (ls : Array Slot), RR cv u → wd g (fun q : Nat => s.heap.size ≤ q) s.heap (wL g ad am cv u) H locs → lv_has ls 4 [(0, .ref b), (1, .ref (ad 0 0)), (2, .ref (am 0)), (3, .int (nI i))] → W p l e room_1 s m #[Value.ref b] below meth c H locs 600000 7302250 (lw_Z below #[Value.ref b] s) (F0 m 645 ls [])) : W p l e room_1 s m #[Value.ref b] below meth c H locs 600000 7302250 (lw_Z below #[Value.ref b] s) (F0 m 214 ls []) := by
  obtain ⟨hx, hb, hr, hml, hown, -, hX, hbl, hlocks, hgv⟩ := id C0
  have hA : ∀ q : Nat, s.heap.size ≤ q → (fun q : Nat => s.heap.size ≤ q) q := fun _ h => h
  have hbA : ¬ (fun q : Nat => s.heap.size ≤ q) b := Nat.not_le.mpr hbl
  have i1 : vp_in (nI i + 1) L := by rw [show (1 : Int32) = nI 1 from rfl, nI_add]; exact vp_in_nI (by omega) (by omega)
  have i2 : vp_in (nI i + 2) L := by rw [show (2 : Int32) = nI 2 from rfl, nI_add]; exact vp_in_nI (by omega) (by omega)
  have i3 : vp_in (nI i + 3) L := by rw [show (3 : Int32) = nI 3 from rfl, nI_add]; exact vp_in_nI (by omega) (by omega)
  obtain ⟨y, z, hy, hz, hyz, hRR⟩ := sm_steps (xs (Int32.toNatClampNeg (nI i + (1 : Int32)))) cv u hR
  refine lv_aload_n hx hb dL_law_214 rfl (lv_at hl 1 rfl) ?_
  refine lv_aload_n hx hb dL_law_215 rfl (lv_at hl 0 rfl) ?_
  refine lv_iload_n hx hb dL_law_216 rfl (lv_at hl 3 rfl) ?_
  refine lv_iconst (v := (1 : Int32)) hx hb dL_law_217 (by decide) ?_
  refine lv_iadd hx hb dL_law_218 ?_
  refine va_sld hx hb hX hbl hbA hW.2.2 i1 dL_law_219 ?_
  refine g_cV (Cn := RX7) C (ct_X7_steps g l NF (ad 2) (ad 4) (ad 5) (ad 8) (ad 10) (ad 11) (ad 12) (ad 13) (ad 14) (ad 15) (ad 16) (ad 17) (ad 18) (ad 19) (ad 20) (ad 21) (ad 22) (ad 23) (ad 24) (ad 25) (ad 26) (ad 0) (ad 1 0) (ad 3 0) (ad 6 0) (ad 9 0) (ad 27 0) (ad 30 0) (xs (Int32.toNatClampNeg (nI i + (1 : Int32)))) (cv 2) (cv 4) (cv 5) (cv 8) (cv 10) (cv 11) (cv 12) (cv 13) (cv 14) (cv 15) (cv 16) (cv 17) (cv 18) (cv 19) (cv 20) (cv 21) (cv 22) (cv 23) (cv 24) (cv 25) (cv 26) (cv 0) hy) gL_law_X7_steps rfl 1 (by decide +kernel) ⟨rfl, rfl, ⟨(Nat.le_of_ble_eq_true rfl), (Nat.le_of_ble_eq_true rfl)⟩, (Nat.le_of_ble_eq_true rfl), (Nat.le_of_ble_eq_true rfl)⟩ rfl hl (Nat.le_of_ble_eq_true rfl) dL_law_220 rfl hW hA [2, 4, 5, 8, 10, 11, 12, 13, 14, 15, 16, 17, 18, 19, 20, 21, 22, 23, 24, 25, 26, 0] rfl rfl rfl (ch' := wL g ad am (up (up (up (up (up (up (up (up (up (up (up (up (up (up (up (up (up (up (up (up cv 4 y.2.1) 5 y.2.2.1) 8 y.2.2.2.1) 10 y.2.2.2.2.1) 11 y.2.2.2.2.2.1) 12 y.2.2.2.2.2.2.1) 13 y.2.2.2.2.2.2.2.1) 14 y.2.2.2.2.2.2.2.2.1) 15 y.2.2.2.2.2.2.2.2.2.1) 16 y.2.2.2.2.2.2.2.2.2.2.1) 17 y.2.2.2.2.2.2.2.2.2.2.2.1) 18 y.2.2.2.2.2.2.2.2.2.2.2.2.1) 19 y.2.2.2.2.2.2.2.2.2.2.2.2.2.1) 20 y.2.2.2.2.2.2.2.2.2.2.2.2.2.2.1) 21 y.2.2.2.2.2.2.2.2.2.2.2.2.2.2.2.1) 22 y.2.2.2.2.2.2.2.2.2.2.2.2.2.2.2.2.1) 23 y.2.2.2.2.2.2.2.2.2.2.2.2.2.2.2.2.2.1) 24 y.2.2.2.2.2.2.2.2.2.2.2.2.2.2.2.2.2.2.1) 25 y.2.2.2.2.2.2.2.2.2.2.2.2.2.2.2.2.2.2.2.1) 26 y.2.2.2.2.2.2.2.2.2.2.2.2.2.2.2.2.2.2.2.2) u) rfl 0 rfl rfl rfl (fun H locs hW => ?_)
  refine lv_aload_n hx hb dL_law_223 rfl (lv_at hl 2 rfl) ?_
  refine lv_aload_n hx hb dL_law_224 rfl (lv_at hl 0 rfl) ?_
  refine lv_iload_n hx hb dL_law_225 rfl (lv_at hl 3 rfl) ?_
  refine lv_iconst (v := (1 : Int32)) hx hb dL_law_226 (by decide) ?_
  refine lv_iadd hx hb dL_law_227 ?_
  refine va_sld hx hb hX hbl hbA hW.2.2 i1 dL_law_228 ?_
  refine g_cV (Cn := RX8) C (ct_X8_steps g l NF (am) (xs (Int32.toNatClampNeg (nI i + (1 : Int32)))) u hz) gL_law_X8_steps rfl 1 (by decide +kernel) ⟨rfl, rfl, ⟨(Nat.le_of_ble_eq_true rfl), (Nat.le_of_ble_eq_true rfl)⟩, (Nat.le_of_ble_eq_true rfl), (Nat.le_of_ble_eq_true rfl)⟩ rfl hl (Nat.le_of_ble_eq_true rfl) dL_law_229 rfl hW hA [33] rfl rfl rfl (ch' := wL g ad am (up (up (up (up (up (up (up (up (up (up (up (up (up (up (up (up (up (up (up (up cv 4 y.2.1) 5 y.2.2.1) 8 y.2.2.2.1) 10 y.2.2.2.2.1) 11 y.2.2.2.2.2.1) 12 y.2.2.2.2.2.2.1) 13 y.2.2.2.2.2.2.2.1) 14 y.2.2.2.2.2.2.2.2.1) 15 y.2.2.2.2.2.2.2.2.2.1) 16 y.2.2.2.2.2.2.2.2.2.2.1) 17 y.2.2.2.2.2.2.2.2.2.2.2.1) 18 y.2.2.2.2.2.2.2.2.2.2.2.2.1) 19 y.2.2.2.2.2.2.2.2.2.2.2.2.2.1) 20 y.2.2.2.2.2.2.2.2.2.2.2.2.2.2.1) 21 y.2.2.2.2.2.2.2.2.2.2.2.2.2.2.2.1) 22 y.2.2.2.2.2.2.2.2.2.2.2.2.2.2.2.2.1) 23 y.2.2.2.2.2.2.2.2.2.2.2.2.2.2.2.2.2.1) 24 y.2.2.2.2.2.2.2.2.2.2.2.2.2.2.2.2.2.2.1) 25 y.2.2.2.2.2.2.2.2.2.2.2.2.2.2.2.2.2.2.2.1) 26 y.2.2.2.2.2.2.2.2.2.2.2.2.2.2.2.2.2.2.2.2) z.2) rfl 33 rfl rfl rfl (fun H locs hW => ?_)
  refine lv_icmp_eq (tgt := 645) hx hb dL_law_232 (by decide) (fun _ => ?_) (fun h => absurd hyz h)
  exact kk H locs (up (up (up (up (up (up (up (up (up (up (up (up (up (up (up (up (up (up (up (up cv 4 y.2.1) 5 y.2.2.1) 8 y.2.2.2.1) 10 y.2.2.2.2.1) 11 y.2.2.2.2.2.1) 12 y.2.2.2.2.2.2.1) 13 y.2.2.2.2.2.2.2.1) 14 y.2.2.2.2.2.2.2.2.1) 15 y.2.2.2.2.2.2.2.2.2.1) 16 y.2.2.2.2.2.2.2.2.2.2.1) 17 y.2.2.2.2.2.2.2.2.2.2.2.1) 18 y.2.2.2.2.2.2.2.2.2.2.2.2.1) 19 y.2.2.2.2.2.2.2.2.2.2.2.2.2.1) 20 y.2.2.2.2.2.2.2.2.2.2.2.2.2.2.1) 21 y.2.2.2.2.2.2.2.2.2.2.2.2.2.2.2.1) 22 y.2.2.2.2.2.2.2.2.2.2.2.2.2.2.2.2.1) 23 y.2.2.2.2.2.2.2.2.2.2.2.2.2.2.2.2.2.1) 24 y.2.2.2.2.2.2.2.2.2.2.2.2.2.2.2.2.2.2.1) 25 y.2.2.2.2.2.2.2.2.2.2.2.2.2.2.2.2.2.2.2.1) 26 y.2.2.2.2.2.2.2.2.2.2.2.2.2.2.2.2.2.2.2.2) z.2 ls hRR hW hl
set_option maxHeartbeats 4000000 in
set_option maxRecDepth 100000 in
theorem law_deafens {p : Program} {e : Env} {s : State} {m : MethodId} {below : List Frame} {meth : Method} {c : Code} (l : Launch) {b L : Nat} {xs : Nat → Int32} (hL : L ≤ 2048) (C0 : lw_At p s m meth c b L xs) {g : GT} (C : cx g p m c code 4 s #[Value.ref b] wsL_law RL) {i : Nat} (hi : i + 4 ≤ L) {ad : Nat → Nat → Nat} {am : Nat → Nat} {cv : Nat → MM} {u : MM} {H : Heap} {locs : List Loc} {ls : Array Slot} (hR : RR cv u) (hW : wd g (fun q : Nat => s.heap.size ≤ q) s.heap (wL g ad am cv u) H locs) (hl : lv_has ls 4 [(0, .ref b), (1, .ref (ad 0 0)), (2, .ref (am 0)), (3, .int (nI i))]) (kk : ∀ (H : Heap) (locs : List Loc) (cv : Nat → MM) (u : MM) (ls : Array Slot), RR cv u → wd g (fun q : Nat => s.heap.size ≤ q) s.heap (wL g ad am cv u) H locs → lv_has ls 4 [(0, .ref b), (1, .ref (ad 0 0)), (2, .ref (am 0)), (3, .int (nI i))] → W p l e room_1 s m #[Value.ref b] below meth c H locs 600000 7302250 (lw_Z below #[Value.ref b] s) (F0 m 645 ls [])) : W p l e room_1 s m #[Value.ref b] below meth c H locs 600000 7302250 (lw_Z below #[Value.ref b] s) (F0 m 237 ls []) := by
  obtain ⟨hx, hb, hr, hml, hown, -, hX, hbl, hlocks, hgv⟩ := id C0
  have hA : ∀ q : Nat, s.heap.size ≤ q → (fun q : Nat => s.heap.size ≤ q) q := fun _ h => h
  have hbA : ¬ (fun q : Nat => s.heap.size ≤ q) b := Nat.not_le.mpr hbl
  have i1 : vp_in (nI i + 1) L := by rw [show (1 : Int32) = nI 1 from rfl, nI_add]; exact vp_in_nI (by omega) (by omega)
  have i2 : vp_in (nI i + 2) L := by rw [show (2 : Int32) = nI 2 from rfl, nI_add]; exact vp_in_nI (by omega) (by omega)
  have i3 : vp_in (nI i + 3) L := by rw [show (3 : Int32) = nI 3 from rfl, nI_add]; exact vp_in_nI (by omega) (by omega)
  obtain ⟨y, z, hy, hz, hyz, hRR⟩ := sm_deafens (xs (Int32.toNatClampNeg (nI i + (1 : Int32)))) (xs (Int32.toNatClampNeg (nI i + (2 : Int32)))) (xs (Int32.toNatClampNeg (nI i + (3 : Int32)))) cv u hR
  refine lv_aload_n hx hb dL_law_237 rfl (lv_at hl 1 rfl) ?_
  refine lv_aload_n hx hb dL_law_238 rfl (lv_at hl 0 rfl) ?_
  refine lv_iload_n hx hb dL_law_239 rfl (lv_at hl 3 rfl) ?_
  refine lv_iconst (v := (1 : Int32)) hx hb dL_law_240 (by decide) ?_
  refine lv_iadd hx hb dL_law_241 ?_
  refine va_sld hx hb hX hbl hbA hW.2.2 i1 dL_law_242 ?_
  refine lv_aload_n hx hb dL_law_243 rfl (lv_at hl 0 rfl) ?_
  refine lv_iload_n hx hb dL_law_244 rfl (lv_at hl 3 rfl) ?_
  refine lv_iconst (v := (2 : Int32)) hx hb dL_law_245 (by decide) ?_
  refine lv_iadd hx hb dL_law_246 ?_
  refine va_sld hx hb hX hbl hbA hW.2.2 i2 dL_law_247 ?_
  refine lv_aload_n hx hb dL_law_248 rfl (lv_at hl 0 rfl) ?_
  refine lv_iload_n hx hb dL_law_249 rfl (lv_at hl 3 rfl) ?_
  refine lv_iconst (v := (3 : Int32)) hx hb dL_law_250 (by decide) ?_
  refine lv_iadd hx hb dL_law_251 ?_
  refine va_sld hx hb hX hbl hbA hW.2.2 i3 dL_law_252 ?_
  refine g_cV (Cn := RX7) C (ct_X7_deafens g l NF (ad 2) (ad 4) (ad 5) (ad 10) (ad 11) (ad 12) (ad 13) (ad 14) (ad 15) (ad 16) (ad 17) (ad 18) (ad 19) (ad 20) (ad 21) (ad 22) (ad 23) (ad 24) (ad 25) (ad 26) (ad 0) (ad 1 0) (ad 3 0) (ad 6 0) (ad 8 0) (ad 9 0) (ad 27 0) (ad 30 0) (xs (Int32.toNatClampNeg (nI i + (1 : Int32)))) (xs (Int32.toNatClampNeg (nI i + (2 : Int32)))) (xs (Int32.toNatClampNeg (nI i + (3 : Int32)))) (cv 2) (cv 4) (cv 5) (cv 10) (cv 11) (cv 12) (cv 13) (cv 14) (cv 15) (cv 16) (cv 17) (cv 18) (cv 19) (cv 20) (cv 21) (cv 22) (cv 23) (cv 24) (cv 25) (cv 26) (cv 0) hy) gL_law_X7_deafens rfl 3 (by decide +kernel) ⟨rfl, rfl, ⟨(Nat.le_of_ble_eq_true rfl), (Nat.le_of_ble_eq_true rfl)⟩, (Nat.le_of_ble_eq_true rfl), (Nat.le_of_ble_eq_true rfl)⟩ rfl hl (Nat.le_of_ble_eq_true rfl) dL_law_253 rfl hW hA [2, 4, 5, 10, 11, 12, 13, 14, 15, 16, 17, 18, 19, 20, 21, 22, 23, 24, 25, 26, 0] rfl rfl rfl (ch' := wL g ad am (up (up (up (up (up (up (up (up (up (up (up (up (up (up (up (up (up (up cv 4 y.2.1) 10 y.2.2.1) 11 y.2.2.2.1) 12 y.2.2.2.2.1) 13 y.2.2.2.2.2.1) 14 y.2.2.2.2.2.2.1) 15 y.2.2.2.2.2.2.2.1) 16 y.2.2.2.2.2.2.2.2.1) 17 y.2.2.2.2.2.2.2.2.2.1) 18 y.2.2.2.2.2.2.2.2.2.2.1) 19 y.2.2.2.2.2.2.2.2.2.2.2.1) 20 y.2.2.2.2.2.2.2.2.2.2.2.2.1) 21 y.2.2.2.2.2.2.2.2.2.2.2.2.2.1) 22 y.2.2.2.2.2.2.2.2.2.2.2.2.2.2.1) 23 y.2.2.2.2.2.2.2.2.2.2.2.2.2.2.2.1) 24 y.2.2.2.2.2.2.2.2.2.2.2.2.2.2.2.2.1) 25 y.2.2.2.2.2.2.2.2.2.2.2.2.2.2.2.2.2.1) 26 y.2.2.2.2.2.2.2.2.2.2.2.2.2.2.2.2.2.2) u) rfl 0 rfl rfl rfl (fun H locs hW => ?_)
  refine lv_aload_n hx hb dL_law_256 rfl (lv_at hl 2 rfl) ?_
  refine lv_aload_n hx hb dL_law_257 rfl (lv_at hl 0 rfl) ?_
  refine lv_iload_n hx hb dL_law_258 rfl (lv_at hl 3 rfl) ?_
  refine lv_iconst (v := (1 : Int32)) hx hb dL_law_259 (by decide) ?_
  refine lv_iadd hx hb dL_law_260 ?_
  refine va_sld hx hb hX hbl hbA hW.2.2 i1 dL_law_261 ?_
  refine lv_aload_n hx hb dL_law_262 rfl (lv_at hl 0 rfl) ?_
  refine lv_iload_n hx hb dL_law_263 rfl (lv_at hl 3 rfl) ?_
  refine lv_iconst (v := (2 : Int32)) hx hb dL_law_264 (by decide) ?_
  refine lv_iadd hx hb dL_law_265 ?_
  refine va_sld hx hb hX hbl hbA hW.2.2 i2 dL_law_266 ?_
  refine lv_aload_n hx hb dL_law_267 rfl (lv_at hl 0 rfl) ?_
  refine lv_iload_n hx hb dL_law_268 rfl (lv_at hl 3 rfl) ?_
  refine lv_iconst (v := (3 : Int32)) hx hb dL_law_269 (by decide) ?_
  refine lv_iadd hx hb dL_law_270 ?_
  refine va_sld hx hb hX hbl hbA hW.2.2 i3 dL_law_271 ?_
  refine g_cV (Cn := RX8) C (ct_X8_deafens g l NF (am) (xs (Int32.toNatClampNeg (nI i + (1 : Int32)))) (xs (Int32.toNatClampNeg (nI i + (2 : Int32)))) (xs (Int32.toNatClampNeg (nI i + (3 : Int32)))) u hz) gL_law_X8_deafens rfl 3 (by decide +kernel) ⟨rfl, rfl, ⟨(Nat.le_of_ble_eq_true rfl), (Nat.le_of_ble_eq_true rfl)⟩, (Nat.le_of_ble_eq_true rfl), (Nat.le_of_ble_eq_true rfl)⟩ rfl hl (Nat.le_of_ble_eq_true rfl) dL_law_272 rfl hW hA [33] rfl rfl rfl (ch' := wL g ad am (up (up (up (up (up (up (up (up (up (up (up (up (up (up (up (up (up (up cv 4 y.2.1) 10 y.2.2.1) 11 y.2.2.2.1) 12 y.2.2.2.2.1) 13 y.2.2.2.2.2.1) 14 y.2.2.2.2.2.2.1) 15 y.2.2.2.2.2.2.2.1) 16 y.2.2.2.2.2.2.2.2.1) 17 y.2.2.2.2.2.2.2.2.2.1) 18 y.2.2.2.2.2.2.2.2.2.2.1) 19 y.2.2.2.2.2.2.2.2.2.2.2.1) 20 y.2.2.2.2.2.2.2.2.2.2.2.2.1) 21 y.2.2.2.2.2.2.2.2.2.2.2.2.2.1) 22 y.2.2.2.2.2.2.2.2.2.2.2.2.2.2.1) 23 y.2.2.2.2.2.2.2.2.2.2.2.2.2.2.2.1) 24 y.2.2.2.2.2.2.2.2.2.2.2.2.2.2.2.2.1) 25 y.2.2.2.2.2.2.2.2.2.2.2.2.2.2.2.2.2.1) 26 y.2.2.2.2.2.2.2.2.2.2.2.2.2.2.2.2.2.2) z.2) rfl 33 rfl rfl rfl (fun H locs hW => ?_)
  refine lv_icmp_eq (tgt := 645) hx hb dL_law_275 (by decide) (fun _ => ?_) (fun h => absurd hyz h)
  exact kk H locs (up (up (up (up (up (up (up (up (up (up (up (up (up (up (up (up (up (up cv 4 y.2.1) 10 y.2.2.1) 11 y.2.2.2.1) 12 y.2.2.2.2.1) 13 y.2.2.2.2.2.1) 14 y.2.2.2.2.2.2.1) 15 y.2.2.2.2.2.2.2.1) 16 y.2.2.2.2.2.2.2.2.1) 17 y.2.2.2.2.2.2.2.2.2.1) 18 y.2.2.2.2.2.2.2.2.2.2.1) 19 y.2.2.2.2.2.2.2.2.2.2.2.1) 20 y.2.2.2.2.2.2.2.2.2.2.2.2.1) 21 y.2.2.2.2.2.2.2.2.2.2.2.2.2.1) 22 y.2.2.2.2.2.2.2.2.2.2.2.2.2.2.1) 23 y.2.2.2.2.2.2.2.2.2.2.2.2.2.2.2.1) 24 y.2.2.2.2.2.2.2.2.2.2.2.2.2.2.2.2.1) 25 y.2.2.2.2.2.2.2.2.2.2.2.2.2.2.2.2.2.1) 26 y.2.2.2.2.2.2.2.2.2.2.2.2.2.2.2.2.2.2) z.2 ls hRR hW hl
set_option maxHeartbeats 4000000 in
set_option maxRecDepth 100000 in
theorem law_widens {p : Program} {e : Env} {s : State} {m : MethodId} {below : List Frame} {meth : Method} {c : Code} (l : Launch) {b L : Nat} {xs : Nat → Int32} (hL : L ≤ 2048) (C0 : lw_At p s m meth c b L xs) {g : GT} (C : cx g p m c code 4 s #[Value.ref b] wsL_law RL) {i : Nat} (hi : i + 4 ≤ L) {ad : Nat → Nat → Nat} {am : Nat → Nat} {cv : Nat → MM} {u : MM} {H : Heap} {locs : List Loc} {ls : Array Slot} (hR : RR cv u) (hW : wd g (fun q : Nat => s.heap.size ≤ q) s.heap (wL g ad am cv u) H locs) (hl : lv_has ls 4 [(0, .ref b), (1, .ref (ad 0 0)), (2, .ref (am 0)), (3, .int (nI i))]) (kk : ∀ (H : Heap) (locs : List Loc) (cv : Nat → MM) (u : MM) (ls : Array Slot), RR cv u → wd g (fun q : Nat => s.heap.size ≤ q) s.heap (wL g ad am cv u) H locs → lv_has ls 4 [(0, .ref b), (1, .ref (ad 0 0)), (2, .ref (am 0)), (3, .int (nI i))] → W p l e room_1 s m #[Value.ref b] below meth c H locs 600000 7302250 (lw_Z below #[Value.ref b] s) (F0 m 645 ls [])) : W p l e room_1 s m #[Value.ref b] below meth c H locs 600000 7302250 (lw_Z below #[Value.ref b] s) (F0 m 280 ls []) := by
  obtain ⟨hx, hb, hr, hml, hown, -, hX, hbl, hlocks, hgv⟩ := id C0
  have hA : ∀ q : Nat, s.heap.size ≤ q → (fun q : Nat => s.heap.size ≤ q) q := fun _ h => h
  have hbA : ¬ (fun q : Nat => s.heap.size ≤ q) b := Nat.not_le.mpr hbl
  have i1 : vp_in (nI i + 1) L := by rw [show (1 : Int32) = nI 1 from rfl, nI_add]; exact vp_in_nI (by omega) (by omega)
  have i2 : vp_in (nI i + 2) L := by rw [show (2 : Int32) = nI 2 from rfl, nI_add]; exact vp_in_nI (by omega) (by omega)
  have i3 : vp_in (nI i + 3) L := by rw [show (3 : Int32) = nI 3 from rfl, nI_add]; exact vp_in_nI (by omega) (by omega)
  obtain ⟨y, z, hy, hz, hyz, hRR⟩ := sm_widens (xs (Int32.toNatClampNeg (nI i + (1 : Int32)))) cv u hR
  refine lv_aload_n hx hb dL_law_280 rfl (lv_at hl 1 rfl) ?_
  refine lv_aload_n hx hb dL_law_281 rfl (lv_at hl 0 rfl) ?_
  refine lv_iload_n hx hb dL_law_282 rfl (lv_at hl 3 rfl) ?_
  refine lv_iconst (v := (1 : Int32)) hx hb dL_law_283 (by decide) ?_
  refine lv_iadd hx hb dL_law_284 ?_
  refine va_sld hx hb hX hbl hbA hW.2.2 i1 dL_law_285 ?_
  refine g_cV (Cn := RX7) C (ct_X7_widens g l NF (ad 4) (ad 5) (ad 10) (ad 11) (ad 12) (ad 13) (ad 14) (ad 15) (ad 16) (ad 17) (ad 18) (ad 19) (ad 20) (ad 21) (ad 22) (ad 23) (ad 24) (ad 25) (ad 26) (ad 0) (ad 1 0) (ad 2 0) (ad 3 0) (ad 6 0) (ad 8 0) (ad 9 0) (ad 27 0) (ad 30 0) (xs (Int32.toNatClampNeg (nI i + (1 : Int32)))) (cv 4) (cv 5) (cv 10) (cv 11) (cv 12) (cv 13) (cv 14) (cv 15) (cv 16) (cv 17) (cv 18) (cv 19) (cv 20) (cv 21) (cv 22) (cv 23) (cv 24) (cv 25) (cv 26) (cv 0) hy) gL_law_X7_widens rfl 1 (by decide +kernel) ⟨rfl, rfl, ⟨(Nat.le_of_ble_eq_true rfl), (Nat.le_of_ble_eq_true rfl)⟩, (Nat.le_of_ble_eq_true rfl), (Nat.le_of_ble_eq_true rfl)⟩ rfl hl (Nat.le_of_ble_eq_true rfl) dL_law_286 rfl hW hA [4, 5, 10, 11, 12, 13, 14, 15, 16, 17, 18, 19, 20, 21, 22, 23, 24, 25, 26, 0] rfl rfl rfl (ch' := wL g ad am (up (up (up (up (up (up (up (up (up (up (up (up (up (up (up (up (up (up cv 4 y.2.1) 10 y.2.2.1) 11 y.2.2.2.1) 12 y.2.2.2.2.1) 13 y.2.2.2.2.2.1) 14 y.2.2.2.2.2.2.1) 15 y.2.2.2.2.2.2.2.1) 16 y.2.2.2.2.2.2.2.2.1) 17 y.2.2.2.2.2.2.2.2.2.1) 18 y.2.2.2.2.2.2.2.2.2.2.1) 19 y.2.2.2.2.2.2.2.2.2.2.2.1) 20 y.2.2.2.2.2.2.2.2.2.2.2.2.1) 21 y.2.2.2.2.2.2.2.2.2.2.2.2.2.1) 22 y.2.2.2.2.2.2.2.2.2.2.2.2.2.2.1) 23 y.2.2.2.2.2.2.2.2.2.2.2.2.2.2.2.1) 24 y.2.2.2.2.2.2.2.2.2.2.2.2.2.2.2.2.1) 25 y.2.2.2.2.2.2.2.2.2.2.2.2.2.2.2.2.2.1) 26 y.2.2.2.2.2.2.2.2.2.2.2.2.2.2.2.2.2.2) u) rfl 0 rfl rfl rfl (fun H locs hW => ?_)
  refine lv_aload_n hx hb dL_law_289 rfl (lv_at hl 2 rfl) ?_
  refine lv_aload_n hx hb dL_law_290 rfl (lv_at hl 0 rfl) ?_
  refine lv_iload_n hx hb dL_law_291 rfl (lv_at hl 3 rfl) ?_
  refine lv_iconst (v := (1 : Int32)) hx hb dL_law_292 (by decide) ?_
  refine lv_iadd hx hb dL_law_293 ?_
  refine va_sld hx hb hX hbl hbA hW.2.2 i1 dL_law_294 ?_
  refine g_cV (Cn := RX8) C (ct_X8_widens g l NF (am) (xs (Int32.toNatClampNeg (nI i + (1 : Int32)))) u hz) gL_law_X8_widens rfl 1 (by decide +kernel) ⟨rfl, rfl, ⟨(Nat.le_of_ble_eq_true rfl), (Nat.le_of_ble_eq_true rfl)⟩, (Nat.le_of_ble_eq_true rfl), (Nat.le_of_ble_eq_true rfl)⟩ rfl hl (Nat.le_of_ble_eq_true rfl) dL_law_295 rfl hW hA [33] rfl rfl rfl (ch' := wL g ad am (up (up (up (up (up (up (up (up (up (up (up (up (up (up (up (up (up (up cv 4 y.2.1) 10 y.2.2.1) 11 y.2.2.2.1) 12 y.2.2.2.2.1) 13 y.2.2.2.2.2.1) 14 y.2.2.2.2.2.2.1) 15 y.2.2.2.2.2.2.2.1) 16 y.2.2.2.2.2.2.2.2.1) 17 y.2.2.2.2.2.2.2.2.2.1) 18 y.2.2.2.2.2.2.2.2.2.2.1) 19 y.2.2.2.2.2.2.2.2.2.2.2.1) 20 y.2.2.2.2.2.2.2.2.2.2.2.2.1) 21 y.2.2.2.2.2.2.2.2.2.2.2.2.2.1) 22 y.2.2.2.2.2.2.2.2.2.2.2.2.2.2.1) 23 y.2.2.2.2.2.2.2.2.2.2.2.2.2.2.2.1) 24 y.2.2.2.2.2.2.2.2.2.2.2.2.2.2.2.2.1) 25 y.2.2.2.2.2.2.2.2.2.2.2.2.2.2.2.2.2.1) 26 y.2.2.2.2.2.2.2.2.2.2.2.2.2.2.2.2.2.2) z.2) rfl 33 rfl rfl rfl (fun H locs hW => ?_)
  refine lv_icmp_eq (tgt := 645) hx hb dL_law_298 (by decide) (fun _ => ?_) (fun h => absurd hyz h)
  exact kk H locs (up (up (up (up (up (up (up (up (up (up (up (up (up (up (up (up (up (up cv 4 y.2.1) 10 y.2.2.1) 11 y.2.2.2.1) 12 y.2.2.2.2.1) 13 y.2.2.2.2.2.1) 14 y.2.2.2.2.2.2.1) 15 y.2.2.2.2.2.2.2.1) 16 y.2.2.2.2.2.2.2.2.1) 17 y.2.2.2.2.2.2.2.2.2.1) 18 y.2.2.2.2.2.2.2.2.2.2.1) 19 y.2.2.2.2.2.2.2.2.2.2.2.1) 20 y.2.2.2.2.2.2.2.2.2.2.2.2.1) 21 y.2.2.2.2.2.2.2.2.2.2.2.2.2.1) 22 y.2.2.2.2.2.2.2.2.2.2.2.2.2.2.1) 23 y.2.2.2.2.2.2.2.2.2.2.2.2.2.2.2.1) 24 y.2.2.2.2.2.2.2.2.2.2.2.2.2.2.2.2.1) 25 y.2.2.2.2.2.2.2.2.2.2.2.2.2.2.2.2.2.1) 26 y.2.2.2.2.2.2.2.2.2.2.2.2.2.2.2.2.2.2) z.2 ls hRR hW hl
set_option maxHeartbeats 4000000 in
set_option maxRecDepth 100000 in
theorem law_undo {p : Program} {e : Env} {s : State} {m : MethodId} {below : List Frame} {meth : Method} {c : Code} (l : Launch) {b L : Nat} {xs : Nat → Int32} (hL : L ≤ 2048) (C0 : lw_At p s m meth c b L xs) {g : GT} (C : cx g p m c code 4 s #[Value.ref b] wsL_law RL) {i : Nat} (hi : i + 4 ≤ L) {ad : Nat → Nat → Nat} {am : Nat → Nat} {cv : Nat → MM} {u : MM} {H : Heap} {locs : List Loc} {ls : Array Slot} (hR : RR cv u) (hW : wd g (fun q : Nat => s.heap.size ≤ q) s.heap (wL g ad am cv u) H locs) (hl : lv_has ls 4 [(0, .ref b), (1, .ref (ad 0 0)), (2, .ref (am 0)), (3, .int (nI i))]) (kk : ∀ (H : Heap) (locs : List Loc) (cv : Nat → MM) (u : MM) (ls : Array Slot), RR cv u → wd g (fun q : Nat => s.heap.size ≤ q) s.heap (wL g ad am cv u) H locs → lv_has ls 4 [(0, .ref b), (1, .ref (ad 0 0)), (2, .ref (am 0)), (3, .int (nI i))] → W p l e room_1 s m #[Value.ref b] below meth c H locs 600000 7302250 (lw_Z below #[Value.ref b] s) (F0 m 645 ls [])) : W p l e room_1 s m #[Value.ref b] below meth c H locs 600000 7302250 (lw_Z below #[Value.ref b] s) (F0 m 303 ls []) := by
  obtain ⟨hx, hb, hr, hml, hown, -, hX, hbl, hlocks, hgv⟩ := id C0
  have hA : ∀ q : Nat, s.heap.size ≤ q → (fun q : Nat => s.heap.size ≤ q) q := fun _ h => h
  have hbA : ¬ (fun q : Nat => s.heap.size ≤ q) b := Nat.not_le.mpr hbl
  have i1 : vp_in (nI i + 1) L := by rw [show (1 : Int32) = nI 1 from rfl, nI_add]; exact vp_in_nI (by omega) (by omega)
  have i2 : vp_in (nI i + 2) L := by rw [show (2 : Int32) = nI 2 from rfl, nI_add]; exact vp_in_nI (by omega) (by omega)
  have i3 : vp_in (nI i + 3) L := by rw [show (3 : Int32) = nI 3 from rfl, nI_add]; exact vp_in_nI (by omega) (by omega)
  obtain ⟨y, z, hy, hz, hyz, hRR⟩ := sm_undo cv u hR
  refine lv_aload_n hx hb dL_law_303 rfl (lv_at hl 1 rfl) ?_
  refine g_cV (Cn := RX7) C (ct_X7_undo g l NF (ad 4) (ad 5) (ad 10) (ad 11) (ad 12) (ad 13) (ad 14) (ad 15) (ad 16) (ad 17) (ad 18) (ad 19) (ad 20) (ad 21) (ad 22) (ad 23) (ad 24) (ad 25) (ad 26) (ad 0) (ad 1 0) (ad 2 0) (ad 3 0) (ad 6 0) (ad 8 0) (ad 9 0) (ad 27 0) (ad 30 0) (cv 4) (cv 5) (cv 10) (cv 11) (cv 12) (cv 13) (cv 14) (cv 15) (cv 16) (cv 17) (cv 18) (cv 19) (cv 20) (cv 21) (cv 22) (cv 23) (cv 24) (cv 25) (cv 26) (cv 0) hy) gL_law_X7_undo rfl 0 (by decide +kernel) ⟨rfl, rfl, ⟨(Nat.le_of_ble_eq_true rfl), (Nat.le_of_ble_eq_true rfl)⟩, (Nat.le_of_ble_eq_true rfl), (Nat.le_of_ble_eq_true rfl)⟩ rfl hl (Nat.le_of_ble_eq_true rfl) dL_law_304 rfl hW hA [4, 5, 10, 11, 12, 13, 14, 15, 16, 17, 18, 19, 20, 21, 22, 23, 24, 25, 26, 0] rfl rfl rfl (ch' := wL g ad am (up (up (up cv 4 y.2.1) 5 y.2.2.1) 10 y.2.2.2) u) rfl 0 rfl rfl rfl (fun H locs hW => ?_)
  refine lv_aload_n hx hb dL_law_307 rfl (lv_at hl 2 rfl) ?_
  refine g_cV (Cn := RX8) C (ct_X8_undo g l NF (am)  u hz) gL_law_X8_undo rfl 0 (by decide +kernel) ⟨rfl, rfl, ⟨(Nat.le_of_ble_eq_true rfl), (Nat.le_of_ble_eq_true rfl)⟩, (Nat.le_of_ble_eq_true rfl), (Nat.le_of_ble_eq_true rfl)⟩ rfl hl (Nat.le_of_ble_eq_true rfl) dL_law_308 rfl hW hA [33] rfl rfl rfl (ch' := wL g ad am (up (up (up cv 4 y.2.1) 5 y.2.2.1) 10 y.2.2.2) z.2) rfl 33 rfl rfl rfl (fun H locs hW => ?_)
  refine lv_icmp_eq (tgt := 645) hx hb dL_law_311 (by decide) (fun _ => ?_) (fun h => absurd hyz h)
  exact kk H locs (up (up (up cv 4 y.2.1) 5 y.2.2.1) 10 y.2.2.2) z.2 ls hRR hW hl
set_option maxHeartbeats 4000000 in
set_option maxRecDepth 100000 in
theorem law_sort {p : Program} {e : Env} {s : State} {m : MethodId} {below : List Frame} {meth : Method} {c : Code} (l : Launch) {b L : Nat} {xs : Nat → Int32} (hL : L ≤ 2048) (C0 : lw_At p s m meth c b L xs) {g : GT} (C : cx g p m c code 4 s #[Value.ref b] wsL_law RL) {i : Nat} (hi : i + 4 ≤ L) {ad : Nat → Nat → Nat} {am : Nat → Nat} {cv : Nat → MM} {u : MM} {H : Heap} {locs : List Loc} {ls : Array Slot} (hR : RR cv u) (hW : wd g (fun q : Nat => s.heap.size ≤ q) s.heap (wL g ad am cv u) H locs) (hl : lv_has ls 4 [(0, .ref b), (1, .ref (ad 0 0)), (2, .ref (am 0)), (3, .int (nI i))]) (kk : ∀ (H : Heap) (locs : List Loc) (cv : Nat → MM) (u : MM) (ls : Array Slot), RR cv u → wd g (fun q : Nat => s.heap.size ≤ q) s.heap (wL g ad am cv u) H locs → lv_has ls 4 [(0, .ref b), (1, .ref (ad 0 0)), (2, .ref (am 0)), (3, .int (nI i))] → W p l e room_1 s m #[Value.ref b] below meth c H locs 600000 7302250 (lw_Z below #[Value.ref b] s) (F0 m 645 ls [])) : W p l e room_1 s m #[Value.ref b] below meth c H locs 600000 7302250 (lw_Z below #[Value.ref b] s) (F0 m 316 ls []) := by
  obtain ⟨hx, hb, hr, hml, hown, -, hX, hbl, hlocks, hgv⟩ := id C0
  have hA : ∀ q : Nat, s.heap.size ≤ q → (fun q : Nat => s.heap.size ≤ q) q := fun _ h => h
  have hbA : ¬ (fun q : Nat => s.heap.size ≤ q) b := Nat.not_le.mpr hbl
  have i1 : vp_in (nI i + 1) L := by rw [show (1 : Int32) = nI 1 from rfl, nI_add]; exact vp_in_nI (by omega) (by omega)
  have i2 : vp_in (nI i + 2) L := by rw [show (2 : Int32) = nI 2 from rfl, nI_add]; exact vp_in_nI (by omega) (by omega)
  have i3 : vp_in (nI i + 3) L := by rw [show (3 : Int32) = nI 3 from rfl, nI_add]; exact vp_in_nI (by omega) (by omega)
  obtain ⟨y, z, hy, hz, hyz, hRR⟩ := sm_sort (xs (Int32.toNatClampNeg (nI i + (1 : Int32)))) (xs (Int32.toNatClampNeg (nI i + (2 : Int32)))) cv u hR
  refine lv_aload_n hx hb dL_law_316 rfl (lv_at hl 1 rfl) ?_
  refine lv_aload_n hx hb dL_law_317 rfl (lv_at hl 0 rfl) ?_
  refine lv_iload_n hx hb dL_law_318 rfl (lv_at hl 3 rfl) ?_
  refine lv_iconst (v := (1 : Int32)) hx hb dL_law_319 (by decide) ?_
  refine lv_iadd hx hb dL_law_320 ?_
  refine va_sld hx hb hX hbl hbA hW.2.2 i1 dL_law_321 ?_
  refine lv_aload_n hx hb dL_law_322 rfl (lv_at hl 0 rfl) ?_
  refine lv_iload_n hx hb dL_law_323 rfl (lv_at hl 3 rfl) ?_
  refine lv_iconst (v := (2 : Int32)) hx hb dL_law_324 (by decide) ?_
  refine lv_iadd hx hb dL_law_325 ?_
  refine va_sld hx hb hX hbl hbA hW.2.2 i2 dL_law_326 ?_
  refine g_cV (Cn := RX7) C (ct_X7_sort g l NF (ad 2) (ad 4) (ad 5) (ad 0) (ad 1 0) (ad 3 0) (ad 6 0) (ad 8 0) (ad 9 0) (ad 10 0) (ad 27 0) (ad 30 0) (xs (Int32.toNatClampNeg (nI i + (1 : Int32)))) (xs (Int32.toNatClampNeg (nI i + (2 : Int32)))) (cv 2) (cv 4) (cv 5) (cv 0) hy) gL_law_X7_sort rfl 2 (by decide +kernel) ⟨rfl, rfl, ⟨(Nat.le_of_ble_eq_true rfl), (Nat.le_of_ble_eq_true rfl)⟩, (Nat.le_of_ble_eq_true rfl), (Nat.le_of_ble_eq_true rfl)⟩ rfl hl (Nat.le_of_ble_eq_true rfl) dL_law_327 rfl hW hA [2, 4, 5, 0] rfl rfl rfl (ch' := wL g ad am cv u) rfl 0 rfl rfl rfl (fun H locs hW => ?_)
  refine lv_aload_n hx hb dL_law_330 rfl (lv_at hl 2 rfl) ?_
  refine lv_aload_n hx hb dL_law_331 rfl (lv_at hl 0 rfl) ?_
  refine lv_iload_n hx hb dL_law_332 rfl (lv_at hl 3 rfl) ?_
  refine lv_iconst (v := (1 : Int32)) hx hb dL_law_333 (by decide) ?_
  refine lv_iadd hx hb dL_law_334 ?_
  refine va_sld hx hb hX hbl hbA hW.2.2 i1 dL_law_335 ?_
  refine lv_aload_n hx hb dL_law_336 rfl (lv_at hl 0 rfl) ?_
  refine lv_iload_n hx hb dL_law_337 rfl (lv_at hl 3 rfl) ?_
  refine lv_iconst (v := (2 : Int32)) hx hb dL_law_338 (by decide) ?_
  refine lv_iadd hx hb dL_law_339 ?_
  refine va_sld hx hb hX hbl hbA hW.2.2 i2 dL_law_340 ?_
  refine g_cV (Cn := RX8) C (ct_X8_sort g l NF (am) (xs (Int32.toNatClampNeg (nI i + (1 : Int32)))) (xs (Int32.toNatClampNeg (nI i + (2 : Int32)))) u hz) gL_law_X8_sort rfl 2 (by decide +kernel) ⟨rfl, rfl, ⟨(Nat.le_of_ble_eq_true rfl), (Nat.le_of_ble_eq_true rfl)⟩, (Nat.le_of_ble_eq_true rfl), (Nat.le_of_ble_eq_true rfl)⟩ rfl hl (Nat.le_of_ble_eq_true rfl) dL_law_341 rfl hW hA [33] rfl rfl rfl (ch' := wL g ad am cv z.2) rfl 33 rfl rfl rfl (fun H locs hW => ?_)
  refine lv_icmp_eq (tgt := 645) hx hb dL_law_344 (by decide) (fun _ => ?_) (fun h => absurd hyz h)
  exact kk H locs cv z.2 ls hRR hW hl
set_option maxHeartbeats 4000000 in
set_option maxRecDepth 100000 in
theorem law_terminal {p : Program} {e : Env} {s : State} {m : MethodId} {below : List Frame} {meth : Method} {c : Code} (l : Launch) {b L : Nat} {xs : Nat → Int32} (hL : L ≤ 2048) (C0 : lw_At p s m meth c b L xs) {g : GT} (C : cx g p m c code 4 s #[Value.ref b] wsL_law RL) {i : Nat} (hi : i + 4 ≤ L) {ad : Nat → Nat → Nat} {am : Nat → Nat} {cv : Nat → MM} {u : MM} {H : Heap} {locs : List Loc} {ls : Array Slot} (hR : RR cv u) (hW : wd g (fun q : Nat => s.heap.size ≤ q) s.heap (wL g ad am cv u) H locs) (hl : lv_has ls 4 [(0, .ref b), (1, .ref (ad 0 0)), (2, .ref (am 0)), (3, .int (nI i))]) (kk : ∀ (H : Heap) (locs : List Loc) (cv : Nat → MM) (u : MM) (ls : Array Slot), RR cv u → wd g (fun q : Nat => s.heap.size ≤ q) s.heap (wL g ad am cv u) H locs → lv_has ls 4 [(0, .ref b), (1, .ref (ad 0 0)), (2, .ref (am 0)), (3, .int (nI i))] → W p l e room_1 s m #[Value.ref b] below meth c H locs 600000 7302250 (lw_Z below #[Value.ref b] s) (F0 m 645 ls [])) : W p l e room_1 s m #[Value.ref b] below meth c H locs 600000 7302250 (lw_Z below #[Value.ref b] s) (F0 m 349 ls []) := by
  obtain ⟨hx, hb, hr, hml, hown, -, hX, hbl, hlocks, hgv⟩ := id C0
  have hA : ∀ q : Nat, s.heap.size ≤ q → (fun q : Nat => s.heap.size ≤ q) q := fun _ h => h
  have hbA : ¬ (fun q : Nat => s.heap.size ≤ q) b := Nat.not_le.mpr hbl
  have i1 : vp_in (nI i + 1) L := by rw [show (1 : Int32) = nI 1 from rfl, nI_add]; exact vp_in_nI (by omega) (by omega)
  have i2 : vp_in (nI i + 2) L := by rw [show (2 : Int32) = nI 2 from rfl, nI_add]; exact vp_in_nI (by omega) (by omega)
  have i3 : vp_in (nI i + 3) L := by rw [show (3 : Int32) = nI 3 from rfl, nI_add]; exact vp_in_nI (by omega) (by omega)
  obtain ⟨y, z, hy, hz, hyz, hRR⟩ := sm_terminal (xs (Int32.toNatClampNeg (nI i + (1 : Int32)))) (xs (Int32.toNatClampNeg (nI i + (2 : Int32)))) cv u hR
  refine lv_aload_n hx hb dL_law_349 rfl (lv_at hl 1 rfl) ?_
  refine lv_aload_n hx hb dL_law_350 rfl (lv_at hl 0 rfl) ?_
  refine lv_iload_n hx hb dL_law_351 rfl (lv_at hl 3 rfl) ?_
  refine lv_iconst (v := (1 : Int32)) hx hb dL_law_352 (by decide) ?_
  refine lv_iadd hx hb dL_law_353 ?_
  refine va_sld hx hb hX hbl hbA hW.2.2 i1 dL_law_354 ?_
  refine lv_aload_n hx hb dL_law_355 rfl (lv_at hl 0 rfl) ?_
  refine lv_iload_n hx hb dL_law_356 rfl (lv_at hl 3 rfl) ?_
  refine lv_iconst (v := (2 : Int32)) hx hb dL_law_357 (by decide) ?_
  refine lv_iadd hx hb dL_law_358 ?_
  refine va_sld hx hb hX hbl hbA hW.2.2 i2 dL_law_359 ?_
  refine g_cV (Cn := RX7) C (ct_X7_terminal g l NF (ad 2) (ad 4) (ad 5) (ad 8) (ad 0) (ad 1 0) (ad 3 0) (ad 6 0) (ad 9 0) (ad 10 0) (ad 27 0) (ad 30 0) (xs (Int32.toNatClampNeg (nI i + (1 : Int32)))) (xs (Int32.toNatClampNeg (nI i + (2 : Int32)))) (cv 2) (cv 4) (cv 5) (cv 8) (cv 0) hy) gL_law_X7_terminal rfl 2 (by decide +kernel) ⟨rfl, rfl, ⟨(Nat.le_of_ble_eq_true rfl), (Nat.le_of_ble_eq_true rfl)⟩, (Nat.le_of_ble_eq_true rfl), (Nat.le_of_ble_eq_true rfl)⟩ rfl hl (Nat.le_of_ble_eq_true rfl) dL_law_360 rfl hW hA [2, 4, 5, 8, 0] rfl rfl rfl (ch' := wL g ad am cv u) rfl 0 rfl rfl rfl (fun H locs hW => ?_)
  refine lv_aload_n hx hb dL_law_363 rfl (lv_at hl 2 rfl) ?_
  refine lv_aload_n hx hb dL_law_364 rfl (lv_at hl 0 rfl) ?_
  refine lv_iload_n hx hb dL_law_365 rfl (lv_at hl 3 rfl) ?_
  refine lv_iconst (v := (1 : Int32)) hx hb dL_law_366 (by decide) ?_
  refine lv_iadd hx hb dL_law_367 ?_
  refine va_sld hx hb hX hbl hbA hW.2.2 i1 dL_law_368 ?_
  refine lv_aload_n hx hb dL_law_369 rfl (lv_at hl 0 rfl) ?_
  refine lv_iload_n hx hb dL_law_370 rfl (lv_at hl 3 rfl) ?_
  refine lv_iconst (v := (2 : Int32)) hx hb dL_law_371 (by decide) ?_
  refine lv_iadd hx hb dL_law_372 ?_
  refine va_sld hx hb hX hbl hbA hW.2.2 i2 dL_law_373 ?_
  refine g_cV (Cn := RX8) C (ct_X8_terminal g l NF (am) (xs (Int32.toNatClampNeg (nI i + (1 : Int32)))) (xs (Int32.toNatClampNeg (nI i + (2 : Int32)))) u hz) gL_law_X8_terminal rfl 2 (by decide +kernel) ⟨rfl, rfl, ⟨(Nat.le_of_ble_eq_true rfl), (Nat.le_of_ble_eq_true rfl)⟩, (Nat.le_of_ble_eq_true rfl), (Nat.le_of_ble_eq_true rfl)⟩ rfl hl (Nat.le_of_ble_eq_true rfl) dL_law_374 rfl hW hA [33] rfl rfl rfl (ch' := wL g ad am cv z.2) rfl 33 rfl rfl rfl (fun H locs hW => ?_)
  refine lv_icmp_eq (tgt := 645) hx hb dL_law_377 (by decide) (fun _ => ?_) (fun h => absurd hyz h)
  exact kk H locs cv z.2 ls hRR hW hl
set_option maxHeartbeats 4000000 in
set_option maxRecDepth 100000 in
theorem law_block {p : Program} {e : Env} {s : State} {m : MethodId} {below : List Frame} {meth : Method} {c : Code} (l : Launch) {b L : Nat} {xs : Nat → Int32} (hL : L ≤ 2048) (C0 : lw_At p s m meth c b L xs) {g : GT} (C : cx g p m c code 4 s #[Value.ref b] wsL_law RL) {i : Nat} (hi : i + 4 ≤ L) {ad : Nat → Nat → Nat} {am : Nat → Nat} {cv : Nat → MM} {u : MM} {H : Heap} {locs : List Loc} {ls : Array Slot} (hR : RR cv u) (hW : wd g (fun q : Nat => s.heap.size ≤ q) s.heap (wL g ad am cv u) H locs) (hl : lv_has ls 4 [(0, .ref b), (1, .ref (ad 0 0)), (2, .ref (am 0)), (3, .int (nI i))]) (kk : ∀ (H : Heap) (locs : List Loc) (cv : Nat → MM) (u : MM) (ls : Array Slot), RR cv u → wd g (fun q : Nat => s.heap.size ≤ q) s.heap (wL g ad am cv u) H locs → lv_has ls 4 [(0, .ref b), (1, .ref (ad 0 0)), (2, .ref (am 0)), (3, .int (nI i))] → W p l e room_1 s m #[Value.ref b] below meth c H locs 600000 7302250 (lw_Z below #[Value.ref b] s) (F0 m 645 ls [])) : W p l e room_1 s m #[Value.ref b] below meth c H locs 600000 7302250 (lw_Z below #[Value.ref b] s) (F0 m 382 ls []) := by
  obtain ⟨hx, hb, hr, hml, hown, -, hX, hbl, hlocks, hgv⟩ := id C0
  have hA : ∀ q : Nat, s.heap.size ≤ q → (fun q : Nat => s.heap.size ≤ q) q := fun _ h => h
  have hbA : ¬ (fun q : Nat => s.heap.size ≤ q) b := Nat.not_le.mpr hbl
  have i1 : vp_in (nI i + 1) L := by rw [show (1 : Int32) = nI 1 from rfl, nI_add]; exact vp_in_nI (by omega) (by omega)
  have i2 : vp_in (nI i + 2) L := by rw [show (2 : Int32) = nI 2 from rfl, nI_add]; exact vp_in_nI (by omega) (by omega)
  have i3 : vp_in (nI i + 3) L := by rw [show (3 : Int32) = nI 3 from rfl, nI_add]; exact vp_in_nI (by omega) (by omega)
  obtain ⟨y, z, hy, hz, hyz, hRR⟩ := sm_block (xs (Int32.toNatClampNeg (nI i + (1 : Int32)))) (xs (Int32.toNatClampNeg (nI i + (2 : Int32)))) cv u hR
  refine lv_aload_n hx hb dL_law_382 rfl (lv_at hl 1 rfl) ?_
  refine lv_aload_n hx hb dL_law_383 rfl (lv_at hl 0 rfl) ?_
  refine lv_iload_n hx hb dL_law_384 rfl (lv_at hl 3 rfl) ?_
  refine lv_iconst (v := (1 : Int32)) hx hb dL_law_385 (by decide) ?_
  refine lv_iadd hx hb dL_law_386 ?_
  refine va_sld hx hb hX hbl hbA hW.2.2 i1 dL_law_387 ?_
  refine lv_aload_n hx hb dL_law_388 rfl (lv_at hl 0 rfl) ?_
  refine lv_iload_n hx hb dL_law_389 rfl (lv_at hl 3 rfl) ?_
  refine lv_iconst (v := (2 : Int32)) hx hb dL_law_390 (by decide) ?_
  refine lv_iadd hx hb dL_law_391 ?_
  refine va_sld hx hb hX hbl hbA hW.2.2 i2 dL_law_392 ?_
  refine g_cV (Cn := RX7) C (ct_X7_block g l NF (ad 4) (ad 5) (ad 0) (ad 1 0) (ad 2 0) (ad 3 0) (ad 6 0) (ad 8 0) (ad 9 0) (ad 10 0) (ad 27 0) (ad 30 0) (xs (Int32.toNatClampNeg (nI i + (1 : Int32)))) (xs (Int32.toNatClampNeg (nI i + (2 : Int32)))) (cv 4) (cv 5) (cv 0) hy) gL_law_X7_block rfl 2 (by decide +kernel) ⟨rfl, rfl, ⟨(Nat.le_of_ble_eq_true rfl), (Nat.le_of_ble_eq_true rfl)⟩, (Nat.le_of_ble_eq_true rfl), (Nat.le_of_ble_eq_true rfl)⟩ rfl hl (Nat.le_of_ble_eq_true rfl) dL_law_393 rfl hW hA [4, 5, 0] rfl rfl rfl (ch' := wL g ad am cv u) rfl 0 rfl rfl rfl (fun H locs hW => ?_)
  refine lv_aload_n hx hb dL_law_396 rfl (lv_at hl 2 rfl) ?_
  refine lv_aload_n hx hb dL_law_397 rfl (lv_at hl 0 rfl) ?_
  refine lv_iload_n hx hb dL_law_398 rfl (lv_at hl 3 rfl) ?_
  refine lv_iconst (v := (1 : Int32)) hx hb dL_law_399 (by decide) ?_
  refine lv_iadd hx hb dL_law_400 ?_
  refine va_sld hx hb hX hbl hbA hW.2.2 i1 dL_law_401 ?_
  refine lv_aload_n hx hb dL_law_402 rfl (lv_at hl 0 rfl) ?_
  refine lv_iload_n hx hb dL_law_403 rfl (lv_at hl 3 rfl) ?_
  refine lv_iconst (v := (2 : Int32)) hx hb dL_law_404 (by decide) ?_
  refine lv_iadd hx hb dL_law_405 ?_
  refine va_sld hx hb hX hbl hbA hW.2.2 i2 dL_law_406 ?_
  refine g_cV (Cn := RX8) C (ct_X8_block g l NF (am) (xs (Int32.toNatClampNeg (nI i + (1 : Int32)))) (xs (Int32.toNatClampNeg (nI i + (2 : Int32)))) u hz) gL_law_X8_block rfl 2 (by decide +kernel) ⟨rfl, rfl, ⟨(Nat.le_of_ble_eq_true rfl), (Nat.le_of_ble_eq_true rfl)⟩, (Nat.le_of_ble_eq_true rfl), (Nat.le_of_ble_eq_true rfl)⟩ rfl hl (Nat.le_of_ble_eq_true rfl) dL_law_407 rfl hW hA [33] rfl rfl rfl (ch' := wL g ad am cv z.2) rfl 33 rfl rfl rfl (fun H locs hW => ?_)
  refine lv_icmp_eq (tgt := 645) hx hb dL_law_410 (by decide) (fun _ => ?_) (fun h => absurd hyz h)
  exact kk H locs cv z.2 ls hRR hW hl
set_option maxHeartbeats 4000000 in
set_option maxRecDepth 100000 in
theorem law_deaf {p : Program} {e : Env} {s : State} {m : MethodId} {below : List Frame} {meth : Method} {c : Code} (l : Launch) {b L : Nat} {xs : Nat → Int32} (hL : L ≤ 2048) (C0 : lw_At p s m meth c b L xs) {g : GT} (C : cx g p m c code 4 s #[Value.ref b] wsL_law RL) {i : Nat} (hi : i + 4 ≤ L) {ad : Nat → Nat → Nat} {am : Nat → Nat} {cv : Nat → MM} {u : MM} {H : Heap} {locs : List Loc} {ls : Array Slot} (hR : RR cv u) (hW : wd g (fun q : Nat => s.heap.size ≤ q) s.heap (wL g ad am cv u) H locs) (hl : lv_has ls 4 [(0, .ref b), (1, .ref (ad 0 0)), (2, .ref (am 0)), (3, .int (nI i))]) (kk : ∀ (H : Heap) (locs : List Loc) (cv : Nat → MM) (u : MM) (ls : Array Slot), RR cv u → wd g (fun q : Nat => s.heap.size ≤ q) s.heap (wL g ad am cv u) H locs → lv_has ls 4 [(0, .ref b), (1, .ref (ad 0 0)), (2, .ref (am 0)), (3, .int (nI i))] → W p l e room_1 s m #[Value.ref b] below meth c H locs 600000 7302250 (lw_Z below #[Value.ref b] s) (F0 m 645 ls [])) : W p l e room_1 s m #[Value.ref b] below meth c H locs 600000 7302250 (lw_Z below #[Value.ref b] s) (F0 m 415 ls []) := by
  obtain ⟨hx, hb, hr, hml, hown, -, hX, hbl, hlocks, hgv⟩ := id C0
  have hA : ∀ q : Nat, s.heap.size ≤ q → (fun q : Nat => s.heap.size ≤ q) q := fun _ h => h
  have hbA : ¬ (fun q : Nat => s.heap.size ≤ q) b := Nat.not_le.mpr hbl
  have i1 : vp_in (nI i + 1) L := by rw [show (1 : Int32) = nI 1 from rfl, nI_add]; exact vp_in_nI (by omega) (by omega)
  have i2 : vp_in (nI i + 2) L := by rw [show (2 : Int32) = nI 2 from rfl, nI_add]; exact vp_in_nI (by omega) (by omega)
  have i3 : vp_in (nI i + 3) L := by rw [show (3 : Int32) = nI 3 from rfl, nI_add]; exact vp_in_nI (by omega) (by omega)
  obtain ⟨y, z, hy, hz, hyz, hRR⟩ := sm_deaf (xs (Int32.toNatClampNeg (nI i + (1 : Int32)))) (xs (Int32.toNatClampNeg (nI i + (2 : Int32)))) cv u hR
  refine lv_aload_n hx hb dL_law_415 rfl (lv_at hl 1 rfl) ?_
  refine lv_aload_n hx hb dL_law_416 rfl (lv_at hl 0 rfl) ?_
  refine lv_iload_n hx hb dL_law_417 rfl (lv_at hl 3 rfl) ?_
  refine lv_iconst (v := (1 : Int32)) hx hb dL_law_418 (by decide) ?_
  refine lv_iadd hx hb dL_law_419 ?_
  refine va_sld hx hb hX hbl hbA hW.2.2 i1 dL_law_420 ?_
  refine lv_aload_n hx hb dL_law_421 rfl (lv_at hl 0 rfl) ?_
  refine lv_iload_n hx hb dL_law_422 rfl (lv_at hl 3 rfl) ?_
  refine lv_iconst (v := (2 : Int32)) hx hb dL_law_423 (by decide) ?_
  refine lv_iadd hx hb dL_law_424 ?_
  refine va_sld hx hb hX hbl hbA hW.2.2 i2 dL_law_425 ?_
  refine g_cV (Cn := RX7) C (ct_X7_deaf g l NF (ad 2) (ad 4) (ad 0) (ad 5 0) (ad 1 0) (ad 3 0) (ad 6 0) (ad 8 0) (ad 9 0) (ad 10 0) (ad 27 0) (ad 30 0) (xs (Int32.toNatClampNeg (nI i + (1 : Int32)))) (xs (Int32.toNatClampNeg (nI i + (2 : Int32)))) (cv 2) (cv 4) (cv 0) hy) gL_law_X7_deaf rfl 2 (by decide +kernel) ⟨rfl, rfl, ⟨(Nat.le_of_ble_eq_true rfl), (Nat.le_of_ble_eq_true rfl)⟩, (Nat.le_of_ble_eq_true rfl), (Nat.le_of_ble_eq_true rfl)⟩ rfl hl (Nat.le_of_ble_eq_true rfl) dL_law_426 rfl hW hA [2, 4, 0] rfl rfl rfl (ch' := wL g ad am cv u) rfl 0 rfl rfl rfl (fun H locs hW => ?_)
  refine lv_aload_n hx hb dL_law_429 rfl (lv_at hl 2 rfl) ?_
  refine lv_aload_n hx hb dL_law_430 rfl (lv_at hl 0 rfl) ?_
  refine lv_iload_n hx hb dL_law_431 rfl (lv_at hl 3 rfl) ?_
  refine lv_iconst (v := (1 : Int32)) hx hb dL_law_432 (by decide) ?_
  refine lv_iadd hx hb dL_law_433 ?_
  refine va_sld hx hb hX hbl hbA hW.2.2 i1 dL_law_434 ?_
  refine lv_aload_n hx hb dL_law_435 rfl (lv_at hl 0 rfl) ?_
  refine lv_iload_n hx hb dL_law_436 rfl (lv_at hl 3 rfl) ?_
  refine lv_iconst (v := (2 : Int32)) hx hb dL_law_437 (by decide) ?_
  refine lv_iadd hx hb dL_law_438 ?_
  refine va_sld hx hb hX hbl hbA hW.2.2 i2 dL_law_439 ?_
  refine g_cV (Cn := RX8) C (ct_X8_deaf g l NF (am) (xs (Int32.toNatClampNeg (nI i + (1 : Int32)))) (xs (Int32.toNatClampNeg (nI i + (2 : Int32)))) u hz) gL_law_X8_deaf rfl 2 (by decide +kernel) ⟨rfl, rfl, ⟨(Nat.le_of_ble_eq_true rfl), (Nat.le_of_ble_eq_true rfl)⟩, (Nat.le_of_ble_eq_true rfl), (Nat.le_of_ble_eq_true rfl)⟩ rfl hl (Nat.le_of_ble_eq_true rfl) dL_law_440 rfl hW hA [33] rfl rfl rfl (ch' := wL g ad am cv z.2) rfl 33 rfl rfl rfl (fun H locs hW => ?_)
  refine lv_icmp_eq (tgt := 645) hx hb dL_law_443 (by decide) (fun _ => ?_) (fun h => absurd hyz h)
  exact kk H locs cv z.2 ls hRR hW hl
set_option maxHeartbeats 4000000 in
set_option maxRecDepth 100000 in
theorem law_drain {p : Program} {e : Env} {s : State} {m : MethodId} {below : List Frame} {meth : Method} {c : Code} (l : Launch) {b L : Nat} {xs : Nat → Int32} (hL : L ≤ 2048) (C0 : lw_At p s m meth c b L xs) {g : GT} (C : cx g p m c code 4 s #[Value.ref b] wsL_law RL) {i : Nat} (hi : i + 4 ≤ L) {ad : Nat → Nat → Nat} {am : Nat → Nat} {cv : Nat → MM} {u : MM} {H : Heap} {locs : List Loc} {ls : Array Slot} (hR : RR cv u) (hW : wd g (fun q : Nat => s.heap.size ≤ q) s.heap (wL g ad am cv u) H locs) (hl : lv_has ls 4 [(0, .ref b), (1, .ref (ad 0 0)), (2, .ref (am 0)), (3, .int (nI i))]) (kk : ∀ (H : Heap) (locs : List Loc) (cv : Nat → MM) (u : MM) (ls : Array Slot), RR cv u → wd g (fun q : Nat => s.heap.size ≤ q) s.heap (wL g ad am cv u) H locs → lv_has ls 4 [(0, .ref b), (1, .ref (ad 0 0)), (2, .ref (am 0)), (3, .int (nI i))] → W p l e room_1 s m #[Value.ref b] below meth c H locs 600000 7302250 (lw_Z below #[Value.ref b] s) (F0 m 645 ls [])) : W p l e room_1 s m #[Value.ref b] below meth c H locs 600000 7302250 (lw_Z below #[Value.ref b] s) (F0 m 448 ls []) := by
  obtain ⟨hx, hb, hr, hml, hown, -, hX, hbl, hlocks, hgv⟩ := id C0
  have hA : ∀ q : Nat, s.heap.size ≤ q → (fun q : Nat => s.heap.size ≤ q) q := fun _ h => h
  have hbA : ¬ (fun q : Nat => s.heap.size ≤ q) b := Nat.not_le.mpr hbl
  have i1 : vp_in (nI i + 1) L := by rw [show (1 : Int32) = nI 1 from rfl, nI_add]; exact vp_in_nI (by omega) (by omega)
  have i2 : vp_in (nI i + 2) L := by rw [show (2 : Int32) = nI 2 from rfl, nI_add]; exact vp_in_nI (by omega) (by omega)
  have i3 : vp_in (nI i + 3) L := by rw [show (3 : Int32) = nI 3 from rfl, nI_add]; exact vp_in_nI (by omega) (by omega)
  obtain ⟨y, z, hy, hz, hyz, hRR⟩ := sm_drain cv u hR
  refine lv_aload_n hx hb dL_law_448 rfl (lv_at hl 1 rfl) ?_
  refine g_cV (Cn := RX7) C (ct_X7_drain g l NF (ad 2) (ad 4) (ad 5) (ad 6) (ad 7) (ad 9) (ad 0) (ad 1 0) (ad 3 0) (ad 8 0) (ad 10 0) (ad 27 0) (ad 30 0) (cv 2) (cv 4) (cv 5) (cv 6) (cv 7) (cv 9) (cv 0) hy) gL_law_X7_drain rfl 0 (by decide +kernel) ⟨rfl, rfl, ⟨(Nat.le_of_ble_eq_true rfl), (Nat.le_of_ble_eq_true rfl)⟩, (Nat.le_of_ble_eq_true rfl), (Nat.le_of_ble_eq_true rfl)⟩ rfl hl (Nat.le_of_ble_eq_true rfl) dL_law_449 rfl hW hA [2, 4, 5, 6, 7, 9, 0] rfl rfl rfl (ch' := wL g ad am (up (up (up cv 6 y.2.1) 7 y.2.2.1) 9 y.2.2.2) u) rfl 0 rfl rfl rfl (fun H locs hW => ?_)
  refine lv_aload_n hx hb dL_law_452 rfl (lv_at hl 2 rfl) ?_
  refine g_cV (Cn := RX8) C (ct_X8_drain g l NF (am)  u hz) gL_law_X8_drain rfl 0 (by decide +kernel) ⟨rfl, rfl, ⟨(Nat.le_of_ble_eq_true rfl), (Nat.le_of_ble_eq_true rfl)⟩, (Nat.le_of_ble_eq_true rfl), (Nat.le_of_ble_eq_true rfl)⟩ rfl hl (Nat.le_of_ble_eq_true rfl) dL_law_453 rfl hW hA [33] rfl rfl rfl (ch' := wL g ad am (up (up (up cv 6 y.2.1) 7 y.2.2.1) 9 y.2.2.2) z.2) rfl 33 rfl rfl rfl (fun H locs hW => ?_)
  refine lv_icmp_eq (tgt := 645) hx hb dL_law_456 (by decide) (fun _ => ?_) (fun h => absurd hyz h)
  exact kk H locs (up (up (up cv 6 y.2.1) 7 y.2.2.1) 9 y.2.2.2) z.2 ls hRR hW hl
set_option maxHeartbeats 4000000 in
set_option maxRecDepth 100000 in
theorem law_enough {p : Program} {e : Env} {s : State} {m : MethodId} {below : List Frame} {meth : Method} {c : Code} (l : Launch) {b L : Nat} {xs : Nat → Int32} (hL : L ≤ 2048) (C0 : lw_At p s m meth c b L xs) {g : GT} (C : cx g p m c code 4 s #[Value.ref b] wsL_law RL) {i : Nat} (hi : i + 4 ≤ L) {ad : Nat → Nat → Nat} {am : Nat → Nat} {cv : Nat → MM} {u : MM} {H : Heap} {locs : List Loc} {ls : Array Slot} (hR : RR cv u) (hW : wd g (fun q : Nat => s.heap.size ≤ q) s.heap (wL g ad am cv u) H locs) (hl : lv_has ls 4 [(0, .ref b), (1, .ref (ad 0 0)), (2, .ref (am 0)), (3, .int (nI i))]) (kk : ∀ (H : Heap) (locs : List Loc) (cv : Nat → MM) (u : MM) (ls : Array Slot), RR cv u → wd g (fun q : Nat => s.heap.size ≤ q) s.heap (wL g ad am cv u) H locs → lv_has ls 4 [(0, .ref b), (1, .ref (ad 0 0)), (2, .ref (am 0)), (3, .int (nI i))] → W p l e room_1 s m #[Value.ref b] below meth c H locs 600000 7302250 (lw_Z below #[Value.ref b] s) (F0 m 645 ls [])) : W p l e room_1 s m #[Value.ref b] below meth c H locs 600000 7302250 (lw_Z below #[Value.ref b] s) (F0 m 461 ls []) := by
  obtain ⟨hx, hb, hr, hml, hown, -, hX, hbl, hlocks, hgv⟩ := id C0
  have hA : ∀ q : Nat, s.heap.size ≤ q → (fun q : Nat => s.heap.size ≤ q) q := fun _ h => h
  have hbA : ¬ (fun q : Nat => s.heap.size ≤ q) b := Nat.not_le.mpr hbl
  have i1 : vp_in (nI i + 1) L := by rw [show (1 : Int32) = nI 1 from rfl, nI_add]; exact vp_in_nI (by omega) (by omega)
  have i2 : vp_in (nI i + 2) L := by rw [show (2 : Int32) = nI 2 from rfl, nI_add]; exact vp_in_nI (by omega) (by omega)
  have i3 : vp_in (nI i + 3) L := by rw [show (3 : Int32) = nI 3 from rfl, nI_add]; exact vp_in_nI (by omega) (by omega)
  obtain ⟨y, z, hy, hz, hyz, hRR⟩ := sm_enough (xs (Int32.toNatClampNeg (nI i + (1 : Int32)))) cv u hR
  refine lv_aload_n hx hb dL_law_461 rfl (lv_at hl 1 rfl) ?_
  refine lv_aload_n hx hb dL_law_462 rfl (lv_at hl 0 rfl) ?_
  refine lv_iload_n hx hb dL_law_463 rfl (lv_at hl 3 rfl) ?_
  refine lv_iconst (v := (1 : Int32)) hx hb dL_law_464 (by decide) ?_
  refine lv_iadd hx hb dL_law_465 ?_
  refine va_sld hx hb hX hbl hbA hW.2.2 i1 dL_law_466 ?_
  refine g_cV (Cn := RX7) C (ct_X7_enough g l NF (ad 2) (ad 4) (ad 5) (ad 6) (ad 7) (ad 9) (ad 0) (ad 1 0) (ad 3 0) (ad 8 0) (ad 10 0) (ad 27 0) (ad 30 0) (xs (Int32.toNatClampNeg (nI i + (1 : Int32)))) (cv 2) (cv 4) (cv 5) (cv 6) (cv 7) (cv 9) (cv 0) hy) gL_law_X7_enough rfl 1 (by decide +kernel) ⟨rfl, rfl, ⟨(Nat.le_of_ble_eq_true rfl), (Nat.le_of_ble_eq_true rfl)⟩, (Nat.le_of_ble_eq_true rfl), (Nat.le_of_ble_eq_true rfl)⟩ rfl hl (Nat.le_of_ble_eq_true rfl) dL_law_467 rfl hW hA [2, 4, 5, 6, 7, 9, 0] rfl rfl rfl (ch' := wL g ad am (up (up (up cv 6 y.2.1) 7 y.2.2.1) 9 y.2.2.2) u) rfl 0 rfl rfl rfl (fun H locs hW => ?_)
  refine lv_aload_n hx hb dL_law_470 rfl (lv_at hl 2 rfl) ?_
  refine lv_aload_n hx hb dL_law_471 rfl (lv_at hl 0 rfl) ?_
  refine lv_iload_n hx hb dL_law_472 rfl (lv_at hl 3 rfl) ?_
  refine lv_iconst (v := (1 : Int32)) hx hb dL_law_473 (by decide) ?_
  refine lv_iadd hx hb dL_law_474 ?_
  refine va_sld hx hb hX hbl hbA hW.2.2 i1 dL_law_475 ?_
  refine g_cV (Cn := RX8) C (ct_X8_enough g l NF (am) (xs (Int32.toNatClampNeg (nI i + (1 : Int32)))) u hz) gL_law_X8_enough rfl 1 (by decide +kernel) ⟨rfl, rfl, ⟨(Nat.le_of_ble_eq_true rfl), (Nat.le_of_ble_eq_true rfl)⟩, (Nat.le_of_ble_eq_true rfl), (Nat.le_of_ble_eq_true rfl)⟩ rfl hl (Nat.le_of_ble_eq_true rfl) dL_law_476 rfl hW hA [33] rfl rfl rfl (ch' := wL g ad am (up (up (up cv 6 y.2.1) 7 y.2.2.1) 9 y.2.2.2) z.2) rfl 33 rfl rfl rfl (fun H locs hW => ?_)
  refine lv_icmp_eq (tgt := 645) hx hb dL_law_479 (by decide) (fun _ => ?_) (fun h => absurd hyz h)
  exact kk H locs (up (up (up cv 6 y.2.1) 7 y.2.2.1) 9 y.2.2.2) z.2 ls hRR hW hl
set_option maxHeartbeats 4000000 in
set_option maxRecDepth 100000 in
theorem law_ahead {p : Program} {e : Env} {s : State} {m : MethodId} {below : List Frame} {meth : Method} {c : Code} (l : Launch) {b L : Nat} {xs : Nat → Int32} (hL : L ≤ 2048) (C0 : lw_At p s m meth c b L xs) {g : GT} (C : cx g p m c code 4 s #[Value.ref b] wsL_law RL) {i : Nat} (hi : i + 4 ≤ L) {ad : Nat → Nat → Nat} {am : Nat → Nat} {cv : Nat → MM} {u : MM} {H : Heap} {locs : List Loc} {ls : Array Slot} (hR : RR cv u) (hW : wd g (fun q : Nat => s.heap.size ≤ q) s.heap (wL g ad am cv u) H locs) (hl : lv_has ls 4 [(0, .ref b), (1, .ref (ad 0 0)), (2, .ref (am 0)), (3, .int (nI i))]) (kk : ∀ (H : Heap) (locs : List Loc) (cv : Nat → MM) (u : MM) (ls : Array Slot), RR cv u → wd g (fun q : Nat => s.heap.size ≤ q) s.heap (wL g ad am cv u) H locs → lv_has ls 4 [(0, .ref b), (1, .ref (ad 0 0)), (2, .ref (am 0)), (3, .int (nI i))] → W p l e room_1 s m #[Value.ref b] below meth c H locs 600000 7302250 (lw_Z below #[Value.ref b] s) (F0 m 645 ls [])) : W p l e room_1 s m #[Value.ref b] below meth c H locs 600000 7302250 (lw_Z below #[Value.ref b] s) (F0 m 484 ls []) := by
  obtain ⟨hx, hb, hr, hml, hown, -, hX, hbl, hlocks, hgv⟩ := id C0
  have hA : ∀ q : Nat, s.heap.size ≤ q → (fun q : Nat => s.heap.size ≤ q) q := fun _ h => h
  have hbA : ¬ (fun q : Nat => s.heap.size ≤ q) b := Nat.not_le.mpr hbl
  have i1 : vp_in (nI i + 1) L := by rw [show (1 : Int32) = nI 1 from rfl, nI_add]; exact vp_in_nI (by omega) (by omega)
  have i2 : vp_in (nI i + 2) L := by rw [show (2 : Int32) = nI 2 from rfl, nI_add]; exact vp_in_nI (by omega) (by omega)
  have i3 : vp_in (nI i + 3) L := by rw [show (3 : Int32) = nI 3 from rfl, nI_add]; exact vp_in_nI (by omega) (by omega)
  obtain ⟨y, z, hy, hz, hyz, hRR⟩ := sm_ahead (xs (Int32.toNatClampNeg (nI i + (1 : Int32)))) (xs (Int32.toNatClampNeg (nI i + (2 : Int32)))) cv u hR
  refine lv_aload_n hx hb dL_law_484 rfl (lv_at hl 1 rfl) ?_
  refine lv_aload_n hx hb dL_law_485 rfl (lv_at hl 0 rfl) ?_
  refine lv_iload_n hx hb dL_law_486 rfl (lv_at hl 3 rfl) ?_
  refine lv_iconst (v := (1 : Int32)) hx hb dL_law_487 (by decide) ?_
  refine lv_iadd hx hb dL_law_488 ?_
  refine va_sld hx hb hX hbl hbA hW.2.2 i1 dL_law_489 ?_
  refine lv_aload_n hx hb dL_law_490 rfl (lv_at hl 0 rfl) ?_
  refine lv_iload_n hx hb dL_law_491 rfl (lv_at hl 3 rfl) ?_
  refine lv_iconst (v := (2 : Int32)) hx hb dL_law_492 (by decide) ?_
  refine lv_iadd hx hb dL_law_493 ?_
  refine va_sld hx hb hX hbl hbA hW.2.2 i2 dL_law_494 ?_
  refine g_cV (Cn := RX7) C (ct_X7_ahead g l NF (ad 2) (ad 4) (ad 5) (ad 6) (ad 7) (ad 9) (ad 0) (ad 1 0) (ad 3 0) (ad 8 0) (ad 10 0) (ad 27 0) (ad 30 0) (xs (Int32.toNatClampNeg (nI i + (1 : Int32)))) (xs (Int32.toNatClampNeg (nI i + (2 : Int32)))) (cv 2) (cv 4) (cv 5) (cv 6) (cv 7) (cv 9) (cv 0) hy) gL_law_X7_ahead rfl 2 (by decide +kernel) ⟨rfl, rfl, ⟨(Nat.le_of_ble_eq_true rfl), (Nat.le_of_ble_eq_true rfl)⟩, (Nat.le_of_ble_eq_true rfl), (Nat.le_of_ble_eq_true rfl)⟩ rfl hl (Nat.le_of_ble_eq_true rfl) dL_law_495 rfl hW hA [2, 4, 5, 6, 7, 9, 0] rfl rfl rfl (ch' := wL g ad am (up (up (up cv 6 y.2.1) 7 y.2.2.1) 9 y.2.2.2) u) rfl 0 rfl rfl rfl (fun H locs hW => ?_)
  refine lv_aload_n hx hb dL_law_498 rfl (lv_at hl 2 rfl) ?_
  refine lv_aload_n hx hb dL_law_499 rfl (lv_at hl 0 rfl) ?_
  refine lv_iload_n hx hb dL_law_500 rfl (lv_at hl 3 rfl) ?_
  refine lv_iconst (v := (1 : Int32)) hx hb dL_law_501 (by decide) ?_
  refine lv_iadd hx hb dL_law_502 ?_
  refine va_sld hx hb hX hbl hbA hW.2.2 i1 dL_law_503 ?_
  refine lv_aload_n hx hb dL_law_504 rfl (lv_at hl 0 rfl) ?_
  refine lv_iload_n hx hb dL_law_505 rfl (lv_at hl 3 rfl) ?_
  refine lv_iconst (v := (2 : Int32)) hx hb dL_law_506 (by decide) ?_
  refine lv_iadd hx hb dL_law_507 ?_
  refine va_sld hx hb hX hbl hbA hW.2.2 i2 dL_law_508 ?_
  refine g_cV (Cn := RX8) C (ct_X8_ahead g l NF (am) (xs (Int32.toNatClampNeg (nI i + (1 : Int32)))) (xs (Int32.toNatClampNeg (nI i + (2 : Int32)))) u hz) gL_law_X8_ahead rfl 2 (by decide +kernel) ⟨rfl, rfl, ⟨(Nat.le_of_ble_eq_true rfl), (Nat.le_of_ble_eq_true rfl)⟩, (Nat.le_of_ble_eq_true rfl), (Nat.le_of_ble_eq_true rfl)⟩ rfl hl (Nat.le_of_ble_eq_true rfl) dL_law_509 rfl hW hA [33] rfl rfl rfl (ch' := wL g ad am (up (up (up cv 6 y.2.1) 7 y.2.2.1) 9 y.2.2.2) z.2) rfl 33 rfl rfl rfl (fun H locs hW => ?_)
  refine lv_icmp_eq (tgt := 645) hx hb dL_law_512 (by decide) (fun _ => ?_) (fun h => absurd hyz h)
  exact kk H locs (up (up (up cv 6 y.2.1) 7 y.2.2.1) 9 y.2.2.2) z.2 ls hRR hW hl
set_option maxHeartbeats 4000000 in
set_option maxRecDepth 100000 in
theorem law_sees {p : Program} {e : Env} {s : State} {m : MethodId} {below : List Frame} {meth : Method} {c : Code} (l : Launch) {b L : Nat} {xs : Nat → Int32} (hL : L ≤ 2048) (C0 : lw_At p s m meth c b L xs) {g : GT} (C : cx g p m c code 4 s #[Value.ref b] wsL_law RL) {i : Nat} (hi : i + 4 ≤ L) {ad : Nat → Nat → Nat} {am : Nat → Nat} {cv : Nat → MM} {u : MM} {H : Heap} {locs : List Loc} {ls : Array Slot} (hR : RR cv u) (hW : wd g (fun q : Nat => s.heap.size ≤ q) s.heap (wL g ad am cv u) H locs) (hl : lv_has ls 4 [(0, .ref b), (1, .ref (ad 0 0)), (2, .ref (am 0)), (3, .int (nI i))]) (kk : ∀ (H : Heap) (locs : List Loc) (cv : Nat → MM) (u : MM) (ls : Array Slot), RR cv u → wd g (fun q : Nat => s.heap.size ≤ q) s.heap (wL g ad am cv u) H locs → lv_has ls 4 [(0, .ref b), (1, .ref (ad 0 0)), (2, .ref (am 0)), (3, .int (nI i))] → W p l e room_1 s m #[Value.ref b] below meth c H locs 600000 7302250 (lw_Z below #[Value.ref b] s) (F0 m 645 ls [])) : W p l e room_1 s m #[Value.ref b] below meth c H locs 600000 7302250 (lw_Z below #[Value.ref b] s) (F0 m 517 ls []) := by
  obtain ⟨hx, hb, hr, hml, hown, -, hX, hbl, hlocks, hgv⟩ := id C0
  have hA : ∀ q : Nat, s.heap.size ≤ q → (fun q : Nat => s.heap.size ≤ q) q := fun _ h => h
  have hbA : ¬ (fun q : Nat => s.heap.size ≤ q) b := Nat.not_le.mpr hbl
  have i1 : vp_in (nI i + 1) L := by rw [show (1 : Int32) = nI 1 from rfl, nI_add]; exact vp_in_nI (by omega) (by omega)
  have i2 : vp_in (nI i + 2) L := by rw [show (2 : Int32) = nI 2 from rfl, nI_add]; exact vp_in_nI (by omega) (by omega)
  have i3 : vp_in (nI i + 3) L := by rw [show (3 : Int32) = nI 3 from rfl, nI_add]; exact vp_in_nI (by omega) (by omega)
  obtain ⟨y, z, hy, hz, hyz, hRR⟩ := sm_sees (xs (Int32.toNatClampNeg (nI i + (1 : Int32)))) (xs (Int32.toNatClampNeg (nI i + (2 : Int32)))) cv u hR
  refine lv_aload_n hx hb dL_law_517 rfl (lv_at hl 1 rfl) ?_
  refine lv_aload_n hx hb dL_law_518 rfl (lv_at hl 0 rfl) ?_
  refine lv_iload_n hx hb dL_law_519 rfl (lv_at hl 3 rfl) ?_
  refine lv_iconst (v := (1 : Int32)) hx hb dL_law_520 (by decide) ?_
  refine lv_iadd hx hb dL_law_521 ?_
  refine va_sld hx hb hX hbl hbA hW.2.2 i1 dL_law_522 ?_
  refine lv_aload_n hx hb dL_law_523 rfl (lv_at hl 0 rfl) ?_
  refine lv_iload_n hx hb dL_law_524 rfl (lv_at hl 3 rfl) ?_
  refine lv_iconst (v := (2 : Int32)) hx hb dL_law_525 (by decide) ?_
  refine lv_iadd hx hb dL_law_526 ?_
  refine va_sld hx hb hX hbl hbA hW.2.2 i2 dL_law_527 ?_
  refine g_cV (Cn := RX7) C (ct_X7_sees g l NF (ad 0) (ad 1 0) (ad 2 0) (ad 3 0) (ad 4 0) (ad 6 0) (ad 8 0) (ad 9 0) (ad 10 0) (ad 27 0) (ad 30 0) (xs (Int32.toNatClampNeg (nI i + (1 : Int32)))) (xs (Int32.toNatClampNeg (nI i + (2 : Int32)))) (cv 0) hy) gL_law_X7_sees rfl 2 (by decide +kernel) ⟨rfl, rfl, ⟨(Nat.le_of_ble_eq_true rfl), (Nat.le_of_ble_eq_true rfl)⟩, (Nat.le_of_ble_eq_true rfl), (Nat.le_of_ble_eq_true rfl)⟩ rfl hl (Nat.le_of_ble_eq_true rfl) dL_law_528 rfl hW hA [0] rfl rfl rfl (ch' := wL g ad am (up cv 0 y.2) u) rfl 0 rfl rfl rfl (fun H locs hW => ?_)
  refine lv_aload_n hx hb dL_law_531 rfl (lv_at hl 2 rfl) ?_
  refine lv_aload_n hx hb dL_law_532 rfl (lv_at hl 0 rfl) ?_
  refine lv_iload_n hx hb dL_law_533 rfl (lv_at hl 3 rfl) ?_
  refine lv_iconst (v := (1 : Int32)) hx hb dL_law_534 (by decide) ?_
  refine lv_iadd hx hb dL_law_535 ?_
  refine va_sld hx hb hX hbl hbA hW.2.2 i1 dL_law_536 ?_
  refine lv_aload_n hx hb dL_law_537 rfl (lv_at hl 0 rfl) ?_
  refine lv_iload_n hx hb dL_law_538 rfl (lv_at hl 3 rfl) ?_
  refine lv_iconst (v := (2 : Int32)) hx hb dL_law_539 (by decide) ?_
  refine lv_iadd hx hb dL_law_540 ?_
  refine va_sld hx hb hX hbl hbA hW.2.2 i2 dL_law_541 ?_
  refine g_cV (Cn := RX8) C (ct_X8_sees g l NF (am) (xs (Int32.toNatClampNeg (nI i + (1 : Int32)))) (xs (Int32.toNatClampNeg (nI i + (2 : Int32)))) u hz) gL_law_X8_sees rfl 2 (by decide +kernel) ⟨rfl, rfl, ⟨(Nat.le_of_ble_eq_true rfl), (Nat.le_of_ble_eq_true rfl)⟩, (Nat.le_of_ble_eq_true rfl), (Nat.le_of_ble_eq_true rfl)⟩ rfl hl (Nat.le_of_ble_eq_true rfl) dL_law_542 rfl hW hA [33] rfl rfl rfl (ch' := wL g ad am (up cv 0 y.2) z.2) rfl 33 rfl rfl rfl (fun H locs hW => ?_)
  refine lv_icmp_eq (tgt := 645) hx hb dL_law_545 (by decide) (fun _ => ?_) (fun h => absurd hyz h)
  exact kk H locs (up cv 0 y.2) z.2 ls hRR hW hl
set_option maxHeartbeats 4000000 in
set_option maxRecDepth 100000 in
theorem law_forget {p : Program} {e : Env} {s : State} {m : MethodId} {below : List Frame} {meth : Method} {c : Code} (l : Launch) {b L : Nat} {xs : Nat → Int32} (hL : L ≤ 2048) (C0 : lw_At p s m meth c b L xs) {g : GT} (C : cx g p m c code 4 s #[Value.ref b] wsL_law RL) {i : Nat} (hi : i + 4 ≤ L) {ad : Nat → Nat → Nat} {am : Nat → Nat} {cv : Nat → MM} {u : MM} {H : Heap} {locs : List Loc} {ls : Array Slot} (hR : RR cv u) (hW : wd g (fun q : Nat => s.heap.size ≤ q) s.heap (wL g ad am cv u) H locs) (hl : lv_has ls 4 [(0, .ref b), (1, .ref (ad 0 0)), (2, .ref (am 0)), (3, .int (nI i))]) (kk : ∀ (H : Heap) (locs : List Loc) (cv : Nat → MM) (u : MM) (ls : Array Slot), RR cv u → wd g (fun q : Nat => s.heap.size ≤ q) s.heap (wL g ad am cv u) H locs → lv_has ls 4 [(0, .ref b), (1, .ref (ad 0 0)), (2, .ref (am 0)), (3, .int (nI i))] → W p l e room_1 s m #[Value.ref b] below meth c H locs 600000 7302250 (lw_Z below #[Value.ref b] s) (F0 m 645 ls [])) : W p l e room_1 s m #[Value.ref b] below meth c H locs 600000 7302250 (lw_Z below #[Value.ref b] s) (F0 m 550 ls []) := by
  obtain ⟨hx, hb, hr, hml, hown, -, hX, hbl, hlocks, hgv⟩ := id C0
  have hA : ∀ q : Nat, s.heap.size ≤ q → (fun q : Nat => s.heap.size ≤ q) q := fun _ h => h
  have hbA : ¬ (fun q : Nat => s.heap.size ≤ q) b := Nat.not_le.mpr hbl
  have i1 : vp_in (nI i + 1) L := by rw [show (1 : Int32) = nI 1 from rfl, nI_add]; exact vp_in_nI (by omega) (by omega)
  have i2 : vp_in (nI i + 2) L := by rw [show (2 : Int32) = nI 2 from rfl, nI_add]; exact vp_in_nI (by omega) (by omega)
  have i3 : vp_in (nI i + 3) L := by rw [show (3 : Int32) = nI 3 from rfl, nI_add]; exact vp_in_nI (by omega) (by omega)
  obtain ⟨y, z, hy, hz, hyz, hRR⟩ := sm_forget cv u hR
  refine lv_aload_n hx hb dL_law_550 rfl (lv_at hl 1 rfl) ?_
  refine g_cV (Cn := RX7) C (ct_X7_forget g l NF (ad 0) (ad 1 0) (ad 2 0) (ad 3 0) (ad 4 0) (ad 6 0) (ad 8 0) (ad 9 0) (ad 10 0) (ad 27 0) (ad 30 0) (cv 0) hy) gL_law_X7_forget rfl 0 (by decide +kernel) ⟨rfl, rfl, ⟨(Nat.le_of_ble_eq_true rfl), (Nat.le_of_ble_eq_true rfl)⟩, (Nat.le_of_ble_eq_true rfl), (Nat.le_of_ble_eq_true rfl)⟩ rfl hl (Nat.le_of_ble_eq_true rfl) dL_law_551 rfl hW hA [0] rfl rfl rfl (ch' := wL g ad am (up cv 0 y.2) u) rfl 0 rfl rfl rfl (fun H locs hW => ?_)
  refine lv_aload_n hx hb dL_law_554 rfl (lv_at hl 2 rfl) ?_
  refine g_cV (Cn := RX8) C (ct_X8_forget g l NF (am)  u hz) gL_law_X8_forget rfl 0 (by decide +kernel) ⟨rfl, rfl, ⟨(Nat.le_of_ble_eq_true rfl), (Nat.le_of_ble_eq_true rfl)⟩, (Nat.le_of_ble_eq_true rfl), (Nat.le_of_ble_eq_true rfl)⟩ rfl hl (Nat.le_of_ble_eq_true rfl) dL_law_555 rfl hW hA [33] rfl rfl rfl (ch' := wL g ad am (up cv 0 y.2) z.2) rfl 33 rfl rfl rfl (fun H locs hW => ?_)
  refine lv_icmp_eq (tgt := 645) hx hb dL_law_558 (by decide) (fun _ => ?_) (fun h => absurd hyz h)
  exact kk H locs (up cv 0 y.2) z.2 ls hRR hW hl
set_option maxHeartbeats 4000000 in
set_option maxRecDepth 100000 in
theorem law_unseen {p : Program} {e : Env} {s : State} {m : MethodId} {below : List Frame} {meth : Method} {c : Code} (l : Launch) {b L : Nat} {xs : Nat → Int32} (hL : L ≤ 2048) (C0 : lw_At p s m meth c b L xs) {g : GT} (C : cx g p m c code 4 s #[Value.ref b] wsL_law RL) {i : Nat} (hi : i + 4 ≤ L) {ad : Nat → Nat → Nat} {am : Nat → Nat} {cv : Nat → MM} {u : MM} {H : Heap} {locs : List Loc} {ls : Array Slot} (hR : RR cv u) (hW : wd g (fun q : Nat => s.heap.size ≤ q) s.heap (wL g ad am cv u) H locs) (hl : lv_has ls 4 [(0, .ref b), (1, .ref (ad 0 0)), (2, .ref (am 0)), (3, .int (nI i))]) (kk : ∀ (H : Heap) (locs : List Loc) (cv : Nat → MM) (u : MM) (ls : Array Slot), RR cv u → wd g (fun q : Nat => s.heap.size ≤ q) s.heap (wL g ad am cv u) H locs → lv_has ls 4 [(0, .ref b), (1, .ref (ad 0 0)), (2, .ref (am 0)), (3, .int (nI i))] → W p l e room_1 s m #[Value.ref b] below meth c H locs 600000 7302250 (lw_Z below #[Value.ref b] s) (F0 m 645 ls [])) : W p l e room_1 s m #[Value.ref b] below meth c H locs 600000 7302250 (lw_Z below #[Value.ref b] s) (F0 m 563 ls []) := by
  obtain ⟨hx, hb, hr, hml, hown, -, hX, hbl, hlocks, hgv⟩ := id C0
  have hA : ∀ q : Nat, s.heap.size ≤ q → (fun q : Nat => s.heap.size ≤ q) q := fun _ h => h
  have hbA : ¬ (fun q : Nat => s.heap.size ≤ q) b := Nat.not_le.mpr hbl
  have i1 : vp_in (nI i + 1) L := by rw [show (1 : Int32) = nI 1 from rfl, nI_add]; exact vp_in_nI (by omega) (by omega)
  have i2 : vp_in (nI i + 2) L := by rw [show (2 : Int32) = nI 2 from rfl, nI_add]; exact vp_in_nI (by omega) (by omega)
  have i3 : vp_in (nI i + 3) L := by rw [show (3 : Int32) = nI 3 from rfl, nI_add]; exact vp_in_nI (by omega) (by omega)
  obtain ⟨y, z, hy, hz, hyz, hRR⟩ := sm_unseen cv u hR
  refine lv_aload_n hx hb dL_law_563 rfl (lv_at hl 1 rfl) ?_
  refine g_cV (Cn := RX7) C (ct_X7_unseen g l NF (ad 2) (ad 4) (ad 5) (ad 6) (ad 7) (ad 9) (ad 0) (ad 1 0) (ad 3 0) (ad 8 0) (ad 10 0) (ad 27 0) (ad 30 0) (cv 2) (cv 4) (cv 5) (cv 6) (cv 7) (cv 9) (cv 0) hy) gL_law_X7_unseen rfl 0 (by decide +kernel) ⟨rfl, rfl, ⟨(Nat.le_of_ble_eq_true rfl), (Nat.le_of_ble_eq_true rfl)⟩, (Nat.le_of_ble_eq_true rfl), (Nat.le_of_ble_eq_true rfl)⟩ rfl hl (Nat.le_of_ble_eq_true rfl) dL_law_564 rfl hW hA [2, 4, 5, 6, 7, 9, 0] rfl rfl rfl (ch' := wL g ad am (up (up (up cv 6 y.2.1) 7 y.2.2.1) 9 y.2.2.2) u) rfl 0 rfl rfl rfl (fun H locs hW => ?_)
  refine lv_aload_n hx hb dL_law_567 rfl (lv_at hl 2 rfl) ?_
  refine g_cV (Cn := RX8) C (ct_X8_unseen g l NF (am)  u hz) gL_law_X8_unseen rfl 0 (by decide +kernel) ⟨rfl, rfl, ⟨(Nat.le_of_ble_eq_true rfl), (Nat.le_of_ble_eq_true rfl)⟩, (Nat.le_of_ble_eq_true rfl), (Nat.le_of_ble_eq_true rfl)⟩ rfl hl (Nat.le_of_ble_eq_true rfl) dL_law_568 rfl hW hA [33] rfl rfl rfl (ch' := wL g ad am (up (up (up cv 6 y.2.1) 7 y.2.2.1) 9 y.2.2.2) z.2) rfl 33 rfl rfl rfl (fun H locs hW => ?_)
  refine lv_icmp_eq (tgt := 645) hx hb dL_law_571 (by decide) (fun _ => ?_) (fun h => absurd hyz h)
  exact kk H locs (up (up (up cv 6 y.2.1) 7 y.2.2.1) 9 y.2.2.2) z.2 ls hRR hW hl
set_option maxHeartbeats 4000000 in
set_option maxRecDepth 100000 in
theorem law_keep {p : Program} {e : Env} {s : State} {m : MethodId} {below : List Frame} {meth : Method} {c : Code} (l : Launch) {b L : Nat} {xs : Nat → Int32} (hL : L ≤ 2048) (C0 : lw_At p s m meth c b L xs) {g : GT} (C : cx g p m c code 4 s #[Value.ref b] wsL_law RL) {i : Nat} (hi : i + 4 ≤ L) {ad : Nat → Nat → Nat} {am : Nat → Nat} {cv : Nat → MM} {u : MM} {H : Heap} {locs : List Loc} {ls : Array Slot} (hR : RR cv u) (hW : wd g (fun q : Nat => s.heap.size ≤ q) s.heap (wL g ad am cv u) H locs) (hl : lv_has ls 4 [(0, .ref b), (1, .ref (ad 0 0)), (2, .ref (am 0)), (3, .int (nI i))]) (kk : ∀ (H : Heap) (locs : List Loc) (cv : Nat → MM) (u : MM) (ls : Array Slot), RR cv u → wd g (fun q : Nat => s.heap.size ≤ q) s.heap (wL g ad am cv u) H locs → lv_has ls 4 [(0, .ref b), (1, .ref (ad 0 0)), (2, .ref (am 0)), (3, .int (nI i))] → W p l e room_1 s m #[Value.ref b] below meth c H locs 600000 7302250 (lw_Z below #[Value.ref b] s) (F0 m 645 ls [])) : W p l e room_1 s m #[Value.ref b] below meth c H locs 600000 7302250 (lw_Z below #[Value.ref b] s) (F0 m 576 ls []) := by
  obtain ⟨hx, hb, hr, hml, hown, -, hX, hbl, hlocks, hgv⟩ := id C0
  have hA : ∀ q : Nat, s.heap.size ≤ q → (fun q : Nat => s.heap.size ≤ q) q := fun _ h => h
  have hbA : ¬ (fun q : Nat => s.heap.size ≤ q) b := Nat.not_le.mpr hbl
  have i1 : vp_in (nI i + 1) L := by rw [show (1 : Int32) = nI 1 from rfl, nI_add]; exact vp_in_nI (by omega) (by omega)
  have i2 : vp_in (nI i + 2) L := by rw [show (2 : Int32) = nI 2 from rfl, nI_add]; exact vp_in_nI (by omega) (by omega)
  have i3 : vp_in (nI i + 3) L := by rw [show (3 : Int32) = nI 3 from rfl, nI_add]; exact vp_in_nI (by omega) (by omega)
  obtain ⟨y, z, hy, hz, hyz, hRR⟩ := sm_keep (xs (Int32.toNatClampNeg (nI i + (1 : Int32)))) cv u hR
  refine lv_aload_n hx hb dL_law_576 rfl (lv_at hl 1 rfl) ?_
  refine lv_aload_n hx hb dL_law_577 rfl (lv_at hl 0 rfl) ?_
  refine lv_iload_n hx hb dL_law_578 rfl (lv_at hl 3 rfl) ?_
  refine lv_iconst (v := (1 : Int32)) hx hb dL_law_579 (by decide) ?_
  refine lv_iadd hx hb dL_law_580 ?_
  refine va_sld hx hb hX hbl hbA hW.2.2 i1 dL_law_581 ?_
  refine g_cV (Cn := RX7) C (ct_X7_keep g l NF (ad 4) (ad 5) (ad 27) (ad 28) (ad 29) (ad 30) (ad 31) (ad 32) (ad 0) (ad 1 0) (ad 2 0) (ad 3 0) (ad 6 0) (ad 8 0) (ad 9 0) (ad 10 0) (xs (Int32.toNatClampNeg (nI i + (1 : Int32)))) (cv 4) (cv 5) (cv 27) (cv 28) (cv 29) (cv 30) (cv 31) (cv 32) (cv 0) hy) gL_law_X7_keep rfl 1 (by decide +kernel) ⟨rfl, rfl, ⟨(Nat.le_of_ble_eq_true rfl), (Nat.le_of_ble_eq_true rfl)⟩, (Nat.le_of_ble_eq_true rfl), (Nat.le_of_ble_eq_true rfl)⟩ rfl hl (Nat.le_of_ble_eq_true rfl) dL_law_582 rfl hW hA [4, 5, 27, 28, 29, 30, 31, 32, 0] rfl rfl rfl (ch' := wL g ad am (up (up (up (up (up (up cv 27 y.2.1) 28 y.2.2.1) 29 y.2.2.2.1) 30 y.2.2.2.2.1) 31 y.2.2.2.2.2.1) 32 y.2.2.2.2.2.2) u) rfl 0 rfl rfl rfl (fun H locs hW => ?_)
  refine lv_aload_n hx hb dL_law_585 rfl (lv_at hl 2 rfl) ?_
  refine lv_aload_n hx hb dL_law_586 rfl (lv_at hl 0 rfl) ?_
  refine lv_iload_n hx hb dL_law_587 rfl (lv_at hl 3 rfl) ?_
  refine lv_iconst (v := (1 : Int32)) hx hb dL_law_588 (by decide) ?_
  refine lv_iadd hx hb dL_law_589 ?_
  refine va_sld hx hb hX hbl hbA hW.2.2 i1 dL_law_590 ?_
  refine g_cV (Cn := RX8) C (ct_X8_keep g l NF (am) (xs (Int32.toNatClampNeg (nI i + (1 : Int32)))) u hz) gL_law_X8_keep rfl 1 (by decide +kernel) ⟨rfl, rfl, ⟨(Nat.le_of_ble_eq_true rfl), (Nat.le_of_ble_eq_true rfl)⟩, (Nat.le_of_ble_eq_true rfl), (Nat.le_of_ble_eq_true rfl)⟩ rfl hl (Nat.le_of_ble_eq_true rfl) dL_law_591 rfl hW hA [33] rfl rfl rfl (ch' := wL g ad am (up (up (up (up (up (up cv 27 y.2.1) 28 y.2.2.1) 29 y.2.2.2.1) 30 y.2.2.2.2.1) 31 y.2.2.2.2.2.1) 32 y.2.2.2.2.2.2) z.2) rfl 33 rfl rfl rfl (fun H locs hW => ?_)
  refine lv_icmp_eq (tgt := 645) hx hb dL_law_594 (by decide) (fun _ => ?_) (fun h => absurd hyz h)
  exact kk H locs (up (up (up (up (up (up cv 27 y.2.1) 28 y.2.2.1) 29 y.2.2.2.1) 30 y.2.2.2.2.1) 31 y.2.2.2.2.2.1) 32 y.2.2.2.2.2.2) z.2 ls hRR hW hl
set_option maxHeartbeats 4000000 in
set_option maxRecDepth 100000 in
theorem law_back {p : Program} {e : Env} {s : State} {m : MethodId} {below : List Frame} {meth : Method} {c : Code} (l : Launch) {b L : Nat} {xs : Nat → Int32} (hL : L ≤ 2048) (C0 : lw_At p s m meth c b L xs) {g : GT} (C : cx g p m c code 4 s #[Value.ref b] wsL_law RL) {i : Nat} (hi : i + 4 ≤ L) {ad : Nat → Nat → Nat} {am : Nat → Nat} {cv : Nat → MM} {u : MM} {H : Heap} {locs : List Loc} {ls : Array Slot} (hR : RR cv u) (hW : wd g (fun q : Nat => s.heap.size ≤ q) s.heap (wL g ad am cv u) H locs) (hl : lv_has ls 4 [(0, .ref b), (1, .ref (ad 0 0)), (2, .ref (am 0)), (3, .int (nI i))]) (kk : ∀ (H : Heap) (locs : List Loc) (cv : Nat → MM) (u : MM) (ls : Array Slot), RR cv u → wd g (fun q : Nat => s.heap.size ≤ q) s.heap (wL g ad am cv u) H locs → lv_has ls 4 [(0, .ref b), (1, .ref (ad 0 0)), (2, .ref (am 0)), (3, .int (nI i))] → W p l e room_1 s m #[Value.ref b] below meth c H locs 600000 7302250 (lw_Z below #[Value.ref b] s) (F0 m 645 ls [])) : W p l e room_1 s m #[Value.ref b] below meth c H locs 600000 7302250 (lw_Z below #[Value.ref b] s) (F0 m 599 ls []) := by
  obtain ⟨hx, hb, hr, hml, hown, -, hX, hbl, hlocks, hgv⟩ := id C0
  have hA : ∀ q : Nat, s.heap.size ≤ q → (fun q : Nat => s.heap.size ≤ q) q := fun _ h => h
  have hbA : ¬ (fun q : Nat => s.heap.size ≤ q) b := Nat.not_le.mpr hbl
  have i1 : vp_in (nI i + 1) L := by rw [show (1 : Int32) = nI 1 from rfl, nI_add]; exact vp_in_nI (by omega) (by omega)
  have i2 : vp_in (nI i + 2) L := by rw [show (2 : Int32) = nI 2 from rfl, nI_add]; exact vp_in_nI (by omega) (by omega)
  have i3 : vp_in (nI i + 3) L := by rw [show (3 : Int32) = nI 3 from rfl, nI_add]; exact vp_in_nI (by omega) (by omega)
  obtain ⟨y, z, hy, hz, hyz, hRR⟩ := sm_back (xs (Int32.toNatClampNeg (nI i + (1 : Int32)))) cv u hR
  refine lv_aload_n hx hb dL_law_599 rfl (lv_at hl 1 rfl) ?_
  refine lv_aload_n hx hb dL_law_600 rfl (lv_at hl 0 rfl) ?_
  refine lv_iload_n hx hb dL_law_601 rfl (lv_at hl 3 rfl) ?_
  refine lv_iconst (v := (1 : Int32)) hx hb dL_law_602 (by decide) ?_
  refine lv_iadd hx hb dL_law_603 ?_
  refine va_sld hx hb hX hbl hbA hW.2.2 i1 dL_law_604 ?_
  refine g_cV (Cn := RX7) C (ct_X7_back g l NF (ad 4) (ad 5) (ad 10) (ad 27) (ad 28) (ad 29) (ad 30) (ad 31) (ad 32) (ad 0) (ad 11 0) (ad 13 0) (ad 15 0) (ad 17 0) (ad 19 0) (ad 21 0) (ad 23 0) (ad 25 0) (ad 1 0) (ad 2 0) (ad 3 0) (ad 6 0) (ad 8 0) (ad 9 0) (xs (Int32.toNatClampNeg (nI i + (1 : Int32)))) (cv 4) (cv 5) (cv 10) (cv 27) (cv 28) (cv 29) (cv 30) (cv 31) (cv 32) (cv 0) hy) gL_law_X7_back rfl 1 (by decide +kernel) ⟨rfl, rfl, ⟨(Nat.le_of_ble_eq_true rfl), (Nat.le_of_ble_eq_true rfl)⟩, (Nat.le_of_ble_eq_true rfl), (Nat.le_of_ble_eq_true rfl)⟩ rfl hl (Nat.le_of_ble_eq_true rfl) dL_law_605 rfl hW hA [4, 5, 10, 27, 28, 29, 30, 31, 32, 0] rfl rfl rfl (ch' := wL g ad am (up (up (up cv 4 y.2.1) 5 y.2.2.1) 10 y.2.2.2) u) rfl 0 rfl rfl rfl (fun H locs hW => ?_)
  refine lv_aload_n hx hb dL_law_608 rfl (lv_at hl 2 rfl) ?_
  refine lv_aload_n hx hb dL_law_609 rfl (lv_at hl 0 rfl) ?_
  refine lv_iload_n hx hb dL_law_610 rfl (lv_at hl 3 rfl) ?_
  refine lv_iconst (v := (1 : Int32)) hx hb dL_law_611 (by decide) ?_
  refine lv_iadd hx hb dL_law_612 ?_
  refine va_sld hx hb hX hbl hbA hW.2.2 i1 dL_law_613 ?_
  refine g_cV (Cn := RX8) C (ct_X8_back g l NF (am) (xs (Int32.toNatClampNeg (nI i + (1 : Int32)))) u hz) gL_law_X8_back rfl 1 (by decide +kernel) ⟨rfl, rfl, ⟨(Nat.le_of_ble_eq_true rfl), (Nat.le_of_ble_eq_true rfl)⟩, (Nat.le_of_ble_eq_true rfl), (Nat.le_of_ble_eq_true rfl)⟩ rfl hl (Nat.le_of_ble_eq_true rfl) dL_law_614 rfl hW hA [33] rfl rfl rfl (ch' := wL g ad am (up (up (up cv 4 y.2.1) 5 y.2.2.1) 10 y.2.2.2) z.2) rfl 33 rfl rfl rfl (fun H locs hW => ?_)
  refine lv_icmp_eq (tgt := 645) hx hb dL_law_617 (by decide) (fun _ => ?_) (fun h => absurd hyz h)
  exact kk H locs (up (up (up cv 4 y.2.1) 5 y.2.2.1) 10 y.2.2.2) z.2 ls hRR hW hl
set_option maxHeartbeats 4000000 in
set_option maxRecDepth 100000 in
theorem law_count {p : Program} {e : Env} {s : State} {m : MethodId} {below : List Frame} {meth : Method} {c : Code} (l : Launch) {b L : Nat} {xs : Nat → Int32} (hL : L ≤ 2048) (C0 : lw_At p s m meth c b L xs) {g : GT} (C : cx g p m c code 4 s #[Value.ref b] wsL_law RL) {i : Nat} (hi : i + 4 ≤ L) {ad : Nat → Nat → Nat} {am : Nat → Nat} {cv : Nat → MM} {u : MM} {H : Heap} {locs : List Loc} {ls : Array Slot} (hR : RR cv u) (hW : wd g (fun q : Nat => s.heap.size ≤ q) s.heap (wL g ad am cv u) H locs) (hl : lv_has ls 4 [(0, .ref b), (1, .ref (ad 0 0)), (2, .ref (am 0)), (3, .int (nI i))]) (kk : ∀ (H : Heap) (locs : List Loc) (cv : Nat → MM) (u : MM) (ls : Array Slot), RR cv u → wd g (fun q : Nat => s.heap.size ≤ q) s.heap (wL g ad am cv u) H locs → lv_has ls 4 [(0, .ref b), (1, .ref (ad 0 0)), (2, .ref (am 0)), (3, .int (nI i))] → W p l e room_1 s m #[Value.ref b] below meth c H locs 600000 7302250 (lw_Z below #[Value.ref b] s) (F0 m 645 ls [])) : W p l e room_1 s m #[Value.ref b] below meth c H locs 600000 7302250 (lw_Z below #[Value.ref b] s) (F0 m 622 ls []) := by
  obtain ⟨hx, hb, hr, hml, hown, -, hX, hbl, hlocks, hgv⟩ := id C0
  have hA : ∀ q : Nat, s.heap.size ≤ q → (fun q : Nat => s.heap.size ≤ q) q := fun _ h => h
  have hbA : ¬ (fun q : Nat => s.heap.size ≤ q) b := Nat.not_le.mpr hbl
  have i1 : vp_in (nI i + 1) L := by rw [show (1 : Int32) = nI 1 from rfl, nI_add]; exact vp_in_nI (by omega) (by omega)
  have i2 : vp_in (nI i + 2) L := by rw [show (2 : Int32) = nI 2 from rfl, nI_add]; exact vp_in_nI (by omega) (by omega)
  have i3 : vp_in (nI i + 3) L := by rw [show (3 : Int32) = nI 3 from rfl, nI_add]; exact vp_in_nI (by omega) (by omega)
  obtain ⟨y, z, hy, hz, hyz, hRR⟩ := sm_count (xs (Int32.toNatClampNeg (nI i + (1 : Int32)))) cv u hR
  refine lv_aload_n hx hb dL_law_622 rfl (lv_at hl 1 rfl) ?_
  refine lv_aload_n hx hb dL_law_623 rfl (lv_at hl 0 rfl) ?_
  refine lv_iload_n hx hb dL_law_624 rfl (lv_at hl 3 rfl) ?_
  refine lv_iconst (v := (1 : Int32)) hx hb dL_law_625 (by decide) ?_
  refine lv_iadd hx hb dL_law_626 ?_
  refine va_sld hx hb hX hbl hbA hW.2.2 i1 dL_law_627 ?_
  refine g_cV (Cn := RX7) C (ct_X7_count g l NF (ad 1) (ad 2) (ad 4) (ad 5) (ad 10) (ad 0) (ad 11 0) (ad 13 0) (ad 15 0) (ad 17 0) (ad 19 0) (ad 21 0) (ad 23 0) (ad 25 0) (ad 3 0) (ad 6 0) (ad 8 0) (ad 9 0) (ad 27 0) (ad 30 0) (xs (Int32.toNatClampNeg (nI i + (1 : Int32)))) (cv 1) (cv 2) (cv 4) (cv 5) (cv 10) (cv 0) hy) gL_law_X7_count rfl 1 (by decide +kernel) ⟨rfl, rfl, ⟨(Nat.le_of_ble_eq_true rfl), (Nat.le_of_ble_eq_true rfl)⟩, (Nat.le_of_ble_eq_true rfl), (Nat.le_of_ble_eq_true rfl)⟩ rfl hl (Nat.le_of_ble_eq_true rfl) dL_law_628 rfl hW hA [1, 2, 4, 5, 10, 0] rfl rfl rfl (ch' := wL g ad am cv u) rfl 0 rfl rfl rfl (fun H locs hW => ?_)
  refine lv_aload_n hx hb dL_law_631 rfl (lv_at hl 2 rfl) ?_
  refine lv_aload_n hx hb dL_law_632 rfl (lv_at hl 0 rfl) ?_
  refine lv_iload_n hx hb dL_law_633 rfl (lv_at hl 3 rfl) ?_
  refine lv_iconst (v := (1 : Int32)) hx hb dL_law_634 (by decide) ?_
  refine lv_iadd hx hb dL_law_635 ?_
  refine va_sld hx hb hX hbl hbA hW.2.2 i1 dL_law_636 ?_
  refine g_cV (Cn := RX8) C (ct_X8_count g l NF (am) (xs (Int32.toNatClampNeg (nI i + (1 : Int32)))) u hz) gL_law_X8_count rfl 1 (by decide +kernel) ⟨rfl, rfl, ⟨(Nat.le_of_ble_eq_true rfl), (Nat.le_of_ble_eq_true rfl)⟩, (Nat.le_of_ble_eq_true rfl), (Nat.le_of_ble_eq_true rfl)⟩ rfl hl (Nat.le_of_ble_eq_true rfl) dL_law_637 rfl hW hA [33] rfl rfl rfl (ch' := wL g ad am cv z.2) rfl 33 rfl rfl rfl (fun H locs hW => ?_)
  refine lv_icmp_eq (tgt := 645) hx hb dL_law_640 (by decide) (fun _ => ?_) (fun h => absurd hyz h)
  exact kk H locs cv z.2 ls hRR hW hl
set_option maxHeartbeats 4000000 in
set_option maxRecDepth 100000 in
theorem law_loop {p : Program} {e : Env} {s : State} {m : MethodId} {below : List Frame} {meth : Method} {c : Code} (l : Launch) {b L : Nat} {xs : Nat → Int32} (hL : L ≤ 2048) (C0 : lw_At p s m meth c b L xs) {g : GT} (C : cx g p m c code 4 s #[Value.ref b] wsL_law RL) : ∀ (d i : Nat), L - i < d → i ≤ L + 4 → ∀ (ad : Nat → Nat → Nat) (am : Nat → Nat) (cv : Nat → MM) (u : MM) (H : Heap) (locs : List Loc) (ls : Array Slot), RR cv u → wd g (fun q : Nat => s.heap.size ≤ q) s.heap (wL g ad am cv u) H locs → lv_has ls 4 [(0, .ref b), (1, .ref (ad 0 0)), (2, .ref (am 0)), (3, .int (nI i))] → W p l e room_1 s m #[Value.ref b] below meth c H locs 600000 7302250 (lw_Z below #[Value.ref b] s) (F0 m 18 ls []) := by
  intro d
  induction d with
  | zero => intro i h; omega
  | succ d ih =>
    intro i hd hi ad am cv u H locs ls hR hW hl
    obtain ⟨hx, hb, hr, hml, hown, -, hX, hbl, hlocks, hgv⟩ := id C0
    have hA : ∀ q : Nat, s.heap.size ≤ q → (fun q : Nat => s.heap.size ≤ q) q := fun _ h => h
    have hbA : ¬ (fun q : Nat => s.heap.size ≤ q) b := Nat.not_le.mpr hbl
    refine lv_iload_n hx hb dL_law_18 rfl (lv_at hl 3 rfl) ?_
    refine lv_aload_n hx hb dL_law_19 rfl (lv_at hl 0 rfl) ?_
    refine va_slen hx hb hX hbl hbA hW.2.2 dL_law_20 ?_
    refine lv_iconst (v := (4 : Int32)) hx hb dL_law_21 (by decide) ?_
    refine lv_isub hx hb dL_law_22 ?_
    have e4 : (Int32.ofNat L - (4 : Int32)).toInt = (L : Int) - (4 : Nat) := pk_sub_toInt (a := L) (b := 4) (by omega) (by omega)
    have ei : (nI i).toInt = (i : Int) := nI_toInt (by omega)
    refine lv_icmp_gt (tgt := 651) hx hb dL_law_23 (by decide) (fun h => ?_) (fun h => ?_)
    · refine va_forget (fun q hq => hW.2.2.2.2 q hq) ?_
      refine lv_iconst (v := (1 : Int32)) hx hb dL_law_651 (by decide) ?_
      exact lw_ret hx hb hr hlocks dL_law_652
    · have hi4 : i + 4 ≤ L := by
        rw [Int32.lt_iff_toInt_lt, e4, ei] at h
        omega
      have i0 : vp_in (nI i) L := vp_in_nI (by omega) (by omega)
      refine lv_aload_n hx hb dL_law_26 rfl (lv_at hl 0 rfl) ?_
      refine lv_iload_n hx hb dL_law_27 rfl (lv_at hl 3 rfl) ?_
      refine va_sld hx hb hX hbl hbA hW.2.2 i0 dL_law_28 ?_
      refine lv_bipush (v := (31 : Int32)) hx hb dL_law_29 (by decide) ?_
      refine lv_iand hx hb dL_law_31 ?_
      have kk : ∀ (H : Heap) (locs : List Loc) (cv : Nat → MM) (u : MM) (ls : Array Slot), RR cv u → wd g (fun q : Nat => s.heap.size ≤ q) s.heap (wL g ad am cv u) H locs → lv_has ls 4 [(0, .ref b), (1, .ref (ad 0 0)), (2, .ref (am 0)), (3, .int (nI i))] → W p l e room_1 s m #[Value.ref b] below meth c H locs 600000 7302250 (lw_Z below #[Value.ref b] s) (F0 m 645 ls []) := by
        intro H locs cv u ls hR hW hl
        refine lv_iinc (v := nI (i + 4)) (lv' := [(3, .int (nI (i + 4))), (0, .ref b), (1, .ref (ad 0 0)), (2, .ref (am 0))]) hx hb dL_law_645 hl (k := 3) rfl (by rw [show Int32.ofInt 4 = nI 4 from rfl, nI_add]) (by decide) rfl (fun ls hl => ?_)
        refine lv_goto (tgt := 18) hx hb dL_law_648 (by decide) ?_
        exact ih (i + 4) (by omega) (by omega) ad am cv u H locs ls hR hW (lv_sub hl [1, 2, 3, 0] rfl)
      obtain ⟨w, hw⟩ : ∃ w, w = xs (nI i).toNatClampNeg &&& (31 : Int32) := ⟨_, rfl⟩
      rw [← hw]
      rcases Decidable.em (w = (0 : Int32)) with h0 | h0
      · refine g_tsw C (off := 100) h0 dL_law_32 (by decide) (by decide) (tgt := 132) (by decide) ?_
        exact law_type l hL C0 C hi4 hR hW hl kk
      rcases Decidable.em (w = (1 : Int32)) with h1 | h1
      · refine g_tsw C (off := 123) h1 dL_law_32 (by decide) (by decide) (tgt := 155) (by decide) ?_
        exact law_clear l hL C0 C hi4 hR hW hl kk
      rcases Decidable.em (w = (2 : Int32)) with h2 | h2
      · refine g_tsw C (off := 136) h2 dL_law_32 (by decide) (by decide) (tgt := 168) (by decide) ?_
        exact law_cell l hL C0 C hi4 hR hW hl kk
      rcases Decidable.em (w = (3 : Int32)) with h3 | h3
      · refine g_tsw C (off := 149) h3 dL_law_32 (by decide) (by decide) (tgt := 181) (by decide) ?_
        exact law_comes l hL C0 C hi4 hR hW hl kk
      rcases Decidable.em (w = (4 : Int32)) with h4 | h4
      · refine g_tsw C (off := 182) h4 dL_law_32 (by decide) (by decide) (tgt := 214) (by decide) ?_
        exact law_steps l hL C0 C hi4 hR hW hl kk
      rcases Decidable.em (w = (5 : Int32)) with h5 | h5
      · refine g_tsw C (off := 205) h5 dL_law_32 (by decide) (by decide) (tgt := 237) (by decide) ?_
        exact law_deafens l hL C0 C hi4 hR hW hl kk
      rcases Decidable.em (w = (6 : Int32)) with h6 | h6
      · refine g_tsw C (off := 248) h6 dL_law_32 (by decide) (by decide) (tgt := 280) (by decide) ?_
        exact law_widens l hL C0 C hi4 hR hW hl kk
      rcases Decidable.em (w = (7 : Int32)) with h7 | h7
      · refine g_tsw C (off := 271) h7 dL_law_32 (by decide) (by decide) (tgt := 303) (by decide) ?_
        exact law_undo l hL C0 C hi4 hR hW hl kk
      rcases Decidable.em (w = (8 : Int32)) with h8 | h8
      · refine g_tsw C (off := 284) h8 dL_law_32 (by decide) (by decide) (tgt := 316) (by decide) ?_
        exact law_sort l hL C0 C hi4 hR hW hl kk
      rcases Decidable.em (w = (9 : Int32)) with h9 | h9
      · refine g_tsw C (off := 317) h9 dL_law_32 (by decide) (by decide) (tgt := 349) (by decide) ?_
        exact law_terminal l hL C0 C hi4 hR hW hl kk
      rcases Decidable.em (w = (10 : Int32)) with h10 | h10
      · refine g_tsw C (off := 350) h10 dL_law_32 (by decide) (by decide) (tgt := 382) (by decide) ?_
        exact law_block l hL C0 C hi4 hR hW hl kk
      rcases Decidable.em (w = (11 : Int32)) with h11 | h11
      · refine g_tsw C (off := 383) h11 dL_law_32 (by decide) (by decide) (tgt := 415) (by decide) ?_
        exact law_deaf l hL C0 C hi4 hR hW hl kk
      rcases Decidable.em (w = (12 : Int32)) with h12 | h12
      · refine g_tsw C (off := 416) h12 dL_law_32 (by decide) (by decide) (tgt := 448) (by decide) ?_
        exact law_drain l hL C0 C hi4 hR hW hl kk
      rcases Decidable.em (w = (13 : Int32)) with h13 | h13
      · refine g_tsw C (off := 429) h13 dL_law_32 (by decide) (by decide) (tgt := 461) (by decide) ?_
        exact law_enough l hL C0 C hi4 hR hW hl kk
      rcases Decidable.em (w = (14 : Int32)) with h14 | h14
      · refine g_tsw C (off := 452) h14 dL_law_32 (by decide) (by decide) (tgt := 484) (by decide) ?_
        exact law_ahead l hL C0 C hi4 hR hW hl kk
      rcases Decidable.em (w = (15 : Int32)) with h15 | h15
      · refine g_tsw C (off := 485) h15 dL_law_32 (by decide) (by decide) (tgt := 517) (by decide) ?_
        exact law_sees l hL C0 C hi4 hR hW hl kk
      rcases Decidable.em (w = (16 : Int32)) with h16 | h16
      · refine g_tsw C (off := 518) h16 dL_law_32 (by decide) (by decide) (tgt := 550) (by decide) ?_
        exact law_forget l hL C0 C hi4 hR hW hl kk
      rcases Decidable.em (w = (17 : Int32)) with h17 | h17
      · refine g_tsw C (off := 531) h17 dL_law_32 (by decide) (by decide) (tgt := 563) (by decide) ?_
        exact law_unseen l hL C0 C hi4 hR hW hl kk
      rcases Decidable.em (w = (18 : Int32)) with h18 | h18
      · refine g_tsw C (off := 544) h18 dL_law_32 (by decide) (by decide) (tgt := 576) (by decide) ?_
        exact law_keep l hL C0 C hi4 hR hW hl kk
      rcases Decidable.em (w = (19 : Int32)) with h19 | h19
      · refine g_tsw C (off := 567) h19 dL_law_32 (by decide) (by decide) (tgt := 599) (by decide) ?_
        exact law_back l hL C0 C hi4 hR hW hl kk
      rcases Decidable.em (w = (20 : Int32)) with h20 | h20
      · refine g_tsw C (off := 590) h20 dL_law_32 (by decide) (by decide) (tgt := 622) (by decide) ?_
        exact law_count l hL C0 C hi4 hR hW hl kk
      have t0 := lv_neT h0 (show (0 : Int32).toInt = 0 by decide)
      have t1 := lv_neT h1 (show (1 : Int32).toInt = 1 by decide)
      have t2 := lv_neT h2 (show (2 : Int32).toInt = 2 by decide)
      have t3 := lv_neT h3 (show (3 : Int32).toInt = 3 by decide)
      have t4 := lv_neT h4 (show (4 : Int32).toInt = 4 by decide)
      have t5 := lv_neT h5 (show (5 : Int32).toInt = 5 by decide)
      have t6 := lv_neT h6 (show (6 : Int32).toInt = 6 by decide)
      have t7 := lv_neT h7 (show (7 : Int32).toInt = 7 by decide)
      have t8 := lv_neT h8 (show (8 : Int32).toInt = 8 by decide)
      have t9 := lv_neT h9 (show (9 : Int32).toInt = 9 by decide)
      have t10 := lv_neT h10 (show (10 : Int32).toInt = 10 by decide)
      have t11 := lv_neT h11 (show (11 : Int32).toInt = 11 by decide)
      have t12 := lv_neT h12 (show (12 : Int32).toInt = 12 by decide)
      have t13 := lv_neT h13 (show (13 : Int32).toInt = 13 by decide)
      have t14 := lv_neT h14 (show (14 : Int32).toInt = 14 by decide)
      have t15 := lv_neT h15 (show (15 : Int32).toInt = 15 by decide)
      have t16 := lv_neT h16 (show (16 : Int32).toInt = 16 by decide)
      have t17 := lv_neT h17 (show (17 : Int32).toInt = 17 by decide)
      have t18 := lv_neT h18 (show (18 : Int32).toInt = 18 by decide)
      have t19 := lv_neT h19 (show (19 : Int32).toInt = 19 by decide)
      have t20 := lv_neT h20 (show (20 : Int32).toInt = 20 by decide)
      refine lv_tableOut hx hb dL_law_32 (by omega) (tgt := 645) (by decide) ?_
      exact kk H locs cv u ls hR hW hl
set_option maxHeartbeats 4000000 in
set_option maxRecDepth 100000 in
theorem law_known {s : State} {b : Nat} (hts : ∀ w ∈ lw_tbl, w.before #[Value.ref b] s = true) : ∃ g : GT, gK g s ∧ AO s := by
  obtain ⟨c0, iS0, hKn0⟩ := u_known (C := RX0) (T := TX0) (N := 6) (n := 6) hts inX0 (hts (.instantiable RX0 6) (by decide +kernel))
  obtain ⟨c1, iS1, hKn1⟩ := u_known (C := RX1) (T := TX1) (N := 3) (n := 3) hts inX1 (hts (.instantiable RX1 3) (by decide +kernel))
  obtain ⟨c2, iS2, hKn2⟩ := u_known (C := RX2) (T := TX2) (N := 2) (n := 2) hts inX2 (hts (.instantiable RX2 2) (by decide +kernel))
  obtain ⟨c3, iS3, hKn3⟩ := u_known (C := RX3) (T := TX3) (N := 11) (n := 11) hts inX3 (hts (.instantiable RX3 11) (by decide +kernel))
  obtain ⟨c4, iS4, hKn4⟩ := u_known (C := RX4) (T := TX4) (N := 15) (n := 15) hts inX4 (hts (.instantiable RX4 15) (by decide +kernel))
  obtain ⟨c5, iS5, hKn5⟩ := u_known (C := RX5) (T := TX5) (N := 3) (n := 3) hts inX5 (hts (.instantiable RX5 3) (by decide +kernel))
  obtain ⟨c6, iS6, hKn6⟩ := u_known (C := RX6) (T := TX6) (N := 6) (n := 6) hts inX6 (hts (.instantiable RX6 6) (by decide +kernel))
  obtain ⟨c7, iS7, hKn7⟩ := u_known (C := RX7) (T := TX7) (N := 13) (n := 13) hts inX7 (hts (.instantiable RX7 13) (by decide +kernel))
  obtain ⟨c8, iS8, hKn8⟩ := u_known (C := RX8) (T := TX8) (N := 32) (n := 32) hts inX8 (hts (.instantiable RX8 32) (by decide +kernel))
  obtain ⟨yI, kI, mI, aI1, aI2, aI3⟩ := Cond.arrayClass_spec (show (Cond.arrayClass .int).holds #[Value.ref b] s none s [] = true from hts (.arrayClass .int) (by decide +kernel))
  obtain ⟨yC, kC, mC, aC1, aC2, aC3⟩ := Cond.arrayClass_spec (show (Cond.arrayClass .char).holds #[Value.ref b] s none s [] = true from hts (.arrayClass .char) (by decide +kernel))
  obtain ⟨yZ, kZ, mZ, aZ1, aZ2, aZ3⟩ := Cond.arrayClass_spec (show (Cond.arrayClass .boolean).holds #[Value.ref b] s none s [] = true from hts (.arrayClass .boolean) (by decide +kernel))
  have hO : AO s := va_AO.of (hts (.arrayOver (.object "UpwardGrants$State")) (by decide +kernel))
  obtain ⟨oc, yO, kO, o1, o2, o3, o4, o5⟩ := Cond.arrayOver_spec (va_AO.use (A := #[]) hO)
  refine ⟨((fun k => if k = 0 then c0 else if k = 1 then c1 else if k = 2 then c2 else if k = 3 then c3 else if k = 4 then c4 else if k = 5 then c5 else if k = 6 then c6 else if k = 7 then c7 else c8, fun k => if k = 0 then iS0 else if k = 1 then iS1 else if k = 2 then iS2 else if k = 3 then iS3 else if k = 4 then iS4 else if k = 5 then iS5 else if k = 6 then iS6 else if k = 7 then iS7 else iS8), (yI, yC, yZ, yO)), ⟨⟨?_, ?_⟩, ?_⟩, hO⟩
  · intro k q hq
    match k, hq with
    | 0, hq => cases hq; exact hKn0
    | 1, hq => cases hq; exact hKn1
    | 2, hq => cases hq; exact hKn2
    | 3, hq => cases hq; exact hKn3
    | 4, hq => cases hq; exact hKn4
    | 5, hq => cases hq; exact hKn5
    | 6, hq => cases hq; exact hKn6
    | 7, hq => cases hq; exact hKn7
    | 8, hq => cases hq; exact hKn8
    | k + 9, hq => simp [vwCl] at hq
  · intro k q hq
    match k, hq with
    | 0, hq => cases hq; exact ⟨fun n z => ⟨fun k h => (by cases h), kI, aI2, mI, aI3⟩, aI1⟩
    | 1, hq => cases hq; exact ⟨fun n z => ⟨fun k h => (by cases h), kC, aC2, mC, aC3⟩, aC1⟩
    | 2, hq => cases hq; exact ⟨fun n z => ⟨fun k h => (by cases h), kZ, aZ2, mZ, aZ3⟩, aZ1⟩
    | 3, hq => cases hq; exact ⟨fun n z => ⟨fun k h => (by cases h), kO, o3, oc, o4⟩, kO, oc, o3, o4, o1, o5⟩
    | k + 4, hq => simp [gTy] at hq
  · intro q hq
    have hall : ∀ q ∈ gNest, Cond.methodLinkNest q.1 q.2.1 q.2.2 "UpwardGrants" ∈ lw_tbl := by decide +kernel
    exact va_Nw.of rfl (hts _ (hall q hq))
set_option maxHeartbeats 4000000 in
set_option maxRecDepth 100000 in
theorem whole_start {p : Program} {e : Env} {s : State} {m : MethodId} {below : List Frame} {meth : Method} {c : Code} (l : Launch) (hflags : l.flags = flags0) {b L : Nat} {xs : Nat → Int32} (hL : L ≤ 2048) (C0 : lw_At p s m meth c b L xs) : W p l e room_1 s m #[Value.ref b] below meth c s.heap [] 0 0 (lw_Z below #[Value.ref b] s) (entryFrame m ([Value.ref b] : List Value).toArray 4) := by
  obtain ⟨hx, hb, hr, hml, hown, hts, hX, hbl, hlocks, hgv⟩ := id C0
  obtain ⟨g, hK, hO⟩ := law_known hts
  have C : cx g p m c code 4 s #[Value.ref b] wsL_law RL := ⟨⟨hx, hb, hml, hown, fun w h => hts w (wsL_law_in w h)⟩, hK⟩
  have hA : ∀ q : Nat, s.heap.size ≤ q → (fun q : Nat => s.heap.size ≤ q) q := fun _ h => h
  have hW : wd g (fun q : Nat => s.heap.size ≤ q) s.heap [] s.heap [] := ⟨fun k q h => by simp at h, ⟨fun i j p q h => by simp at h, fun k q h => by simp at h⟩, va_S.rf⟩
  have hl := lv_entry ([.ref b]) (n := 4) (Nat.le_of_ble_eq_true rfl)
  rw [lg_entry_eq]
  generalize (lg_sl ([.ref b]) ++ List.replicate (4 - (lg_sl ([.ref b])).length) Slot.unset).toArray = ls at hl ⊢
  have hl : lv_has ls 4 [(0, .ref b)] := hl
  obtain ⟨su, yb, y1, y2, h1, h2, h3, h4, hR⟩ := rr_init
  refine g_new C hW hA inlX7 tyX7_ok (by decide +kernel) (by decide +kernel) (by decide +kernel) (ci := 7) rfl (fs := [.null, .null, .null, .null, .null, .null, .null, .null, .null, .null, .null, .null, .int 0]) (fun j hj => by rcases (show j = 0 ∨ j = 1 ∨ j = 2 ∨ j = 3 ∨ j = 4 ∨ j = 5 ∨ j = 6 ∨ j = 7 ∨ j = 8 ∨ j = 9 ∨ j = 10 ∨ j = 11 ∨ j = 12 by omega) with rfl | rfl | rfl | rfl | rfl | rfl | rfl | rfl | rfl | rfl | rfl | rfl | rfl <;> rfl) rfl rfl dL_law_0 (fun q H hW => ?_)
  replace hW : wd g (fun q : Nat => s.heap.size ≤ q) s.heap [[(q, .inr (7, [.null, .null, .null, .null, .null, .null, .null, .null, .null, .null, .null, .null, .int 0]))]] H [] := hW
  refine lv_dup hx hb dL_law_3 rfl ?_
  refine g_cI C hO (ct_X7_init g l q NF su h1 yb h2) gL_law_X7_init rfl 0 (by decide +kernel) (by decide +kernel) (by decide +kernel) (by decide +kernel) rfl ⟨rfl, rfl, ⟨(Nat.le_of_ble_eq_true rfl), (Nat.le_of_ble_eq_true rfl)⟩, (Nat.le_of_ble_eq_true rfl), (Nat.le_of_ble_eq_true rfl)⟩ rfl hl (Nat.le_of_ble_eq_true rfl) dL_law_4 rfl hW hA 0 rfl (fun ch1 hp H locs hW => ?_)
  obtain ⟨e0, e1, e2, e3, e4, e5, e6, e7, e8, e9, e10, e11, e12, e13, e14, e15, e16, e17, e18, e19, e20, e21, e22, e23, e24, e25, e26, e27, e28, e29, e30, e31, e32, ho, rfl⟩ := hp
  subst ho
  obtain ⟨ad, had⟩ : ∃ ad : Nat → Nat → Nat, ad = (fun q => match q with | 0 => e0 | 1 => e1 | 2 => e2 | 3 => e3 | 4 => e4 | 5 => e5 | 6 => e6 | 7 => e7 | 8 => e8 | 9 => e9 | 10 => e10 | 11 => e11 | 12 => e12 | 13 => e13 | 14 => e14 | 15 => e15 | 16 => e16 | 17 => e17 | 18 => e18 | 19 => e19 | 20 => e20 | 21 => e21 | 22 => e22 | 23 => e23 | 24 => e24 | 25 => e25 | 26 => e26 | 27 => e27 | 28 => e28 | 29 => e29 | 30 => e30 | 31 => e31 | _ => e32) := ⟨_, rfl⟩
  replace hW : wd g (fun q : Nat => s.heap.size ≤ q) s.heap [kX7 g (ad 0) (ad 1 0) (ad 2 0) (ad 3 0) (ad 4 0) (ad 6 0) (ad 8 0) (ad 9 0) (ad 10 0) (ad 27 0) (ad 30 0) (cv0 su yb 0), kX6 g (ad 1) (cv0 su yb 1), kX3 g (ad 2) (cv0 su yb 2), kX3 g (ad 3) (cv0 su yb 3), kX4 g (ad 4) (ad 5 0) (cv0 su yb 4), kX0 g (ad 5) (cv0 su yb 5), kX4 g (ad 6) (ad 7 0) (cv0 su yb 6), kX0 g (ad 7) (cv0 su yb 7), kX5 g (ad 8) (ad 2 0) (ad 4 0) (cv0 su yb 8), kX5 g (ad 9) (ad 2 0) (ad 6 0) (cv0 su yb 9), kX1 g (ad 10) (ad 11 0) (ad 13 0) (ad 15 0) (ad 17 0) (ad 19 0) (ad 21 0) (ad 23 0) (ad 25 0) (cv0 su yb 10), kX4 g (ad 11) (ad 12 0) (cv0 su yb 11), kX0 g (ad 12) (cv0 su yb 12), kX4 g (ad 13) (ad 14 0) (cv0 su yb 13), kX0 g (ad 14) (cv0 su yb 14), kX4 g (ad 15) (ad 16 0) (cv0 su yb 15), kX0 g (ad 16) (cv0 su yb 16), kX4 g (ad 17) (ad 18 0) (cv0 su yb 17), kX0 g (ad 18) (cv0 su yb 18), kX4 g (ad 19) (ad 20 0) (cv0 su yb 19), kX0 g (ad 20) (cv0 su yb 20), kX4 g (ad 21) (ad 22 0) (cv0 su yb 21), kX0 g (ad 22) (cv0 su yb 22), kX4 g (ad 23) (ad 24 0) (cv0 su yb 23), kX0 g (ad 24) (cv0 su yb 24), kX4 g (ad 25) (ad 26 0) (cv0 su yb 25), kX0 g (ad 26) (cv0 su yb 26), kX2 g (ad 27) (ad 28 0) (cv0 su yb 27), kX4 g (ad 28) (ad 29 0) (cv0 su yb 28), kX0 g (ad 29) (cv0 su yb 29), kX2 g (ad 30) (ad 31 0) (cv0 su yb 30), kX4 g (ad 31) (ad 32 0) (cv0 su yb 31), kX0 g (ad 32) (cv0 su yb 32)] H locs := hW.re (by rw [had]; rfl)
  refine lv_astore_n (lv' := [(1, .ref (e0 0)), (0, .ref b)]) hx hb dL_law_7 rfl hl (by decide) rfl (fun ls hl => ?_)
  replace hl : lv_has ls 4 [(1, .ref (ad 0 0)), (0, .ref b)] := by rw [had]; exact hl
  refine g_new C hW hA inlX8 tyX8_ok (by decide +kernel) (by decide +kernel) (by decide +kernel) (ci := 8) rfl (fs := [.int 0, .int 0, .int 0, .int 0, .int 0, .int 0, .null, .null, .int 0, .int 0, .int 0, .int 0, .int 0, .int 0, .null, .null, .null, .int 0, .null, .null, .null, .null, .int 0, .null, .null, .int 0, .null, .int 0, .int 0, .int 0, .int 0, .int 0]) (fun j hj => by rcases (show j = 0 ∨ j = 1 ∨ j = 2 ∨ j = 3 ∨ j = 4 ∨ j = 5 ∨ j = 6 ∨ j = 7 ∨ j = 8 ∨ j = 9 ∨ j = 10 ∨ j = 11 ∨ j = 12 ∨ j = 13 ∨ j = 14 ∨ j = 15 ∨ j = 16 ∨ j = 17 ∨ j = 18 ∨ j = 19 ∨ j = 20 ∨ j = 21 ∨ j = 22 ∨ j = 23 ∨ j = 24 ∨ j = 25 ∨ j = 26 ∨ j = 27 ∨ j = 28 ∨ j = 29 ∨ j = 30 ∨ j = 31 by omega) with rfl | rfl | rfl | rfl | rfl | rfl | rfl | rfl | rfl | rfl | rfl | rfl | rfl | rfl | rfl | rfl | rfl | rfl | rfl | rfl | rfl | rfl | rfl | rfl | rfl | rfl | rfl | rfl | rfl | rfl | rfl | rfl <;> rfl) rfl rfl dL_law_8 (fun q H hW => ?_)
  replace hW : wd g (fun q : Nat => s.heap.size ≤ q) s.heap [kX7 g (ad 0) (ad 1 0) (ad 2 0) (ad 3 0) (ad 4 0) (ad 6 0) (ad 8 0) (ad 9 0) (ad 10 0) (ad 27 0) (ad 30 0) (cv0 su yb 0), kX6 g (ad 1) (cv0 su yb 1), kX3 g (ad 2) (cv0 su yb 2), kX3 g (ad 3) (cv0 su yb 3), kX4 g (ad 4) (ad 5 0) (cv0 su yb 4), kX0 g (ad 5) (cv0 su yb 5), kX4 g (ad 6) (ad 7 0) (cv0 su yb 6), kX0 g (ad 7) (cv0 su yb 7), kX5 g (ad 8) (ad 2 0) (ad 4 0) (cv0 su yb 8), kX5 g (ad 9) (ad 2 0) (ad 6 0) (cv0 su yb 9), kX1 g (ad 10) (ad 11 0) (ad 13 0) (ad 15 0) (ad 17 0) (ad 19 0) (ad 21 0) (ad 23 0) (ad 25 0) (cv0 su yb 10), kX4 g (ad 11) (ad 12 0) (cv0 su yb 11), kX0 g (ad 12) (cv0 su yb 12), kX4 g (ad 13) (ad 14 0) (cv0 su yb 13), kX0 g (ad 14) (cv0 su yb 14), kX4 g (ad 15) (ad 16 0) (cv0 su yb 15), kX0 g (ad 16) (cv0 su yb 16), kX4 g (ad 17) (ad 18 0) (cv0 su yb 17), kX0 g (ad 18) (cv0 su yb 18), kX4 g (ad 19) (ad 20 0) (cv0 su yb 19), kX0 g (ad 20) (cv0 su yb 20), kX4 g (ad 21) (ad 22 0) (cv0 su yb 21), kX0 g (ad 22) (cv0 su yb 22), kX4 g (ad 23) (ad 24 0) (cv0 su yb 23), kX0 g (ad 24) (cv0 su yb 24), kX4 g (ad 25) (ad 26 0) (cv0 su yb 25), kX0 g (ad 26) (cv0 su yb 26), kX2 g (ad 27) (ad 28 0) (cv0 su yb 27), kX4 g (ad 28) (ad 29 0) (cv0 su yb 28), kX0 g (ad 29) (cv0 su yb 29), kX2 g (ad 30) (ad 31 0) (cv0 su yb 30), kX4 g (ad 31) (ad 32 0) (cv0 su yb 31), kX0 g (ad 32) (cv0 su yb 32), [(q, .inr (8, [.int 0, .int 0, .int 0, .int 0, .int 0, .int 0, .null, .null, .int 0, .int 0, .int 0, .int 0, .int 0, .int 0, .null, .null, .null, .int 0, .null, .null, .null, .null, .int 0, .null, .null, .int 0, .null, .int 0, .int 0, .int 0, .int 0, .int 0]))]] H locs := hW
  refine lv_dup hx hb dL_law_11 rfl ?_
  refine g_cI C hO (ct_X8_init g l q NF y1 h3 y2 h4) gL_law_X8_init rfl 0 (by decide +kernel) (by decide +kernel) (by decide +kernel) (by decide +kernel) rfl ⟨rfl, rfl, ⟨(Nat.le_of_ble_eq_true rfl), (Nat.le_of_ble_eq_true rfl)⟩, (Nat.le_of_ble_eq_true rfl), (Nat.le_of_ble_eq_true rfl)⟩ rfl hl (Nat.le_of_ble_eq_true rfl) dL_law_12 rfl hW hA 33 rfl (fun ch1 hp H locs hW => ?_)
  obtain ⟨am, ho, rfl⟩ := hp
  subst ho
  replace hW : wd g (fun q : Nat => s.heap.size ≤ q) s.heap (wL g ad am (cv0 su yb) y2) H locs := hW.re rfl
  refine lv_astore_n (lv' := [(2, .ref (am 0)), (1, .ref (ad 0 0)), (0, .ref b)]) hx hb dL_law_15 rfl hl (by decide) rfl (fun ls hl => ?_)
  refine lv_iconst (v := (0 : Int32)) hx hb dL_law_16 (by decide) ?_
  refine lv_istore_n (lv' := [(3, .int (nI 0)), (2, .ref (am 0)), (1, .ref (ad 0 0)), (0, .ref b)]) hx hb dL_law_17 rfl hl (by decide) rfl (fun ls hl => ?_)
  refine W.widen (k := 600000) (n := 7302250) (Nat.le_of_ble_eq_true rfl) (Nat.le_of_ble_eq_true rfl) ?_
  exact law_loop l hL C0 C (L + 1) 0 (by omega) (by omega) ad am (cv0 su yb) y2 H locs ls hR hW (lv_sub hl [3, 2, 1, 0] rfl)
