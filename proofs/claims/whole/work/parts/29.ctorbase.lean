/-! constructors: methods that make cells -/
def z0 : MM := fun _ _ => 0
def adr (l : List Nat) : Nat → Nat := fun i => l.getD i 0
abbrev AO (U : State) : Prop := va_AO "UpwardGrants$State" U
def ctnP (g : GT) (As : List Value) (ch : List va_W) (sz : Nat) : Array Value → State → Prop := va_Pc As (fun U => U.heap.size = sz ∧ va_P g.1 vwCl ch.flatten U.heap ∧ (gK g U ∧ AO U) ∧ va_D (fun _ => True) ch.flatten)
def ctnQ (g : GT) (A : Nat → Prop) (Post : List va_W → Prop) : Array Value → State → Outcome → State → Prop := fun _ st oc t => (∃ ch1, oc = .returned none ∧ Post ch1 ∧ va_P g.1 vwCl ch1.flatten t.heap ∧ va_D A ch1.flatten) ∧ va_F A st t
def ctn (g : GT) (l : Launch) (y : MethodName) (ws : List Cond) (rm : Room) (mc ms : Nat) (As : List Value) (ch : List va_W) (Post : List va_W → Prop) : Prop :=
  ∀ sz : Nat, Met l y ws rm (ctnP g As ch sz) (ctnQ g (va_A ch.flatten sz) Post) mc ms (va_A ch.flatten sz)
theorem ctnP_blind {g : GT} {As : List Value} {ch : List va_W} {sz : Nat} : FrameBlind (ctnP g As ch sz) := fun a U g mk q => by
  obtain ⟨q0, q1, qP, ⟨qK, qO⟩, qD⟩ := q
  exact ⟨q0, q1, qP, ⟨gK.same rfl qK, va_AO.moved (u := U) (Vm.Alike.refl U.vm) qO⟩, qD⟩
section GN
variable {p : Program} {l : Launch} {e : Env} {R : Room} {s : State} {m : MethodId} {args : Array Value} {below : List Frame} {meth : Method} {c : Code} {H : Heap} {locs : List Loc} {cells slots : Nat} {Q : State → Prop} {cc : ByteArray} {pc nL : Nat} {ls : Array Slot} {rest : List Value} {g : GT} {A : Nat → Prop} {H0 : Heap} {Ts : List Cond} {own : String} {ch : List va_W}
theorem ctn_of {y : MethodName} {ws ws' : List Cond} {rm : Room} {mc ms : Nat} {As : List Value} {Post : List va_W → Prop} {maxL : Nat} {ret : Option FieldType} (hy : plainName y.cls = true) (hw : ws = Cond.code y cc maxL ret :: ws') (hAs : (lg_sl As).length ≤ maxL)
    (body : ∀ (p : Program) (e : Env) (s : State) (m : MethodId) (args : Array Value) (below : List Frame) (meth : Method) (c : Code) (A : Nat → Prop) (ls : Array Slot), cx g p m c cc maxL s args ws y.cls → AO s → meth.name = y.name → meth.sig.returnType = ret → meth.locks = false → (∀ q, s.heap.size ≤ q → A q) → wd g A s.heap ch s.heap [] → lv_has ls maxL (lv_args 0 As) →
      W p l e rm s m args below meth c s.heap [] 0 0 (MQ below (ctnQ g A Post) args s mc ms A) (F0 m 0 ls [])) : ctn g l y ws rm mc ms As ch Post := by
  intro sz
  refine Met.ofW (cc := cc) (maxL := maxL) (ret := ret) hy hw ?_
  intro p e s m args below meth c s₁ B hml hv
  obtain ⟨rfl, hsz, hP, ⟨hK, hO⟩, hD0⟩ := hv
  subst hsz
  rw [lg_entry_eq]
  exact body p e s m _ below meth c _ _ ⟨⟨B.exec, B.bytes, hml, findClass_of_methodNamed B.named, atoms_spec (ws := ws) B.pre⟩, hK⟩ hO (name_of_methodNamed B.named B.method).1 B.returns B.notSynchronized (fun q h => Or.inr h) ⟨hP, hD0.self, va_S.rf⟩ (lv_entry As hAs)
theorem g_objInit (C : cx g p m c cc nL s args Ts own) {idx : Nat} (h1 : Cond.methodLink own idx objectInit ∈ Ts) (h2 : Cond.instanceMethod objectInit ∈ Ts) (h3 : Cond.code objectInit ⟨#[0xb1]⟩ 1 none ∈ Ts) {lvs : List (Nat × Value)} (hl : lv_has ls nL lvs) {a : Nat} (hdg : decode cc pc = .ok (.invokespecial idx, 3)) (hR : 1 ≤ R.frames ∧ 20 ≤ R.locals) (hrest : (rest.map fun v => v.category).sum ≤ 8)
    (kk : W p l e R s m args below meth c H locs cells slots Q (F0 m (pc + 3) ls rest)) : W p l e R s m args below meth c H locs cells slots Q (F0 m pc ls (.ref a :: rest)) := by
  have hts := C.1.2.2.2.2
  exact W.objInit C.1.1 C.1.2.1 C.1.2.2.2.1 (hts _ h1) (hts _ h2) (hts _ h3) rfl (by rw [C.1.2.2.1]; exact hl.1) rfl hdg hR.1 (by show 2 * 0 + _ + 12 ≤ _; have := hR.2; omega) kk
theorem fl_push {α : Type} (ch : List (List α)) (x : α) : (ch ++ [[x]]).flatten = ch.flatten ++ [x] := by simp
theorem g_new (C : cx g p m c cc nL s args Ts own) (hW : wd g A H0 ch H locs) (hA : ∀ q, H0.size ≤ q → A q) {Rn : String} {T : u_T} {N ci index : Nat} (hin : ∀ w ∈ u_ws Rn T N, w ∈ Ts) {ty : Nat → FieldType} (hty : ∀ k, k < N → parseFieldDescriptor (T k).2.2.1 = some (ty k)) (h1 : Cond.classLink own index Rn ∈ Ts) (h2 : Cond.instantiable Rn N ∈ Ts) (h3 : Cond.initialized Rn ∈ Ts) (hc : vwCl[ci]? = some (Rn, T, N)) {fs : List Value} (hfs : ∀ j, j < N → defaultValue (ty j) = vp_V fs j) (hcells : Nat.ble (cells + 1) R.cells = true) (hslots : Nat.ble (slots + N) R.slots = true) (hdg : decode cc pc = .ok (.new index, 3))
    (kk : ∀ (q : Nat) (H1 : Heap), wd g A H0 (ch ++ [[(q, .inr (ci, fs))]]) H1 locs → W p l e R s m args below meth c H1 locs (cells + 1) (slots + N) Q (F0 m (pc + 3) ls (.ref q :: rest))) : W p l e R s m args below meth c H locs cells slots Q (F0 m pc ls rest) := by
  obtain ⟨⟨hx, hb, -, hown, hts⟩, hK, -⟩ := C
  refine va_new hx hb hts hin ty hty hown (hts _ h1) (hts _ h2) (hts _ h3) hK hW.1 hW.2.1 hW.2.2 hA hc hfs (Nat.le_of_ble_eq_true hcells) (Nat.le_of_ble_eq_true hslots) hdg (fun q H1 hP hD hS => ?_)
  rw [← fl_push] at hP hD
  exact kk q H1 ⟨hP, hD, hS⟩
theorem gTy_at {k : Nat} {cA cB : ClassId} {t : FieldType} (hK : va_K g.1 vwCl (gTy g) s) (h4 : va_K g.1 vwCl (gTy g ++ [(cA, t)]) s) (hk : (gTy g)[k]? = some (cB, t)) : cA = cB := by
  have a1 := (hK.2 k _ hk).2
  have a2 := (h4.2 4 (cA, t) rfl).2
  cases t with
  | object C =>
    obtain ⟨_, _, _, _, _, e1⟩ := a1
    obtain ⟨_, _, _, _, _, e2⟩ := a2
    exact Option.some.inj (e2.symm.trans e1)
  | _ => exact Option.some.inj (Eq.trans (Eq.symm a2) a1)
theorem g_newa (C : cx g p m c cc nL s args Ts own) (hW : wd g A H0 ch H locs) (hA : ∀ q, H0.size ≤ q → A q) {atype : ArrayType} (harr : Cond.arrayClass (newarray.typeOf atype) ∈ Ts) {ty : FieldType} (hty : newarray.typeOf atype = ty) (k : Nat) {cB : ClassId} (hk : (gTy g)[k]? = some (cB, ty)) {n : Int32} {N' : Nat} (ha : ∀ cA : ClassId, vp_cell cA (N', .inl (fun _ => 0)) = arrV cA N' (fun _ => defaultValue ty)) (hn : decide (n < 0) = false) (hN : n.toNatClampNeg = N') (hbytes : Nat.ble (N' * componentBytes ty) 536870912 = true) (hcells : Nat.ble (cells + 1) R.cells = true) (hslots : Nat.ble (slots + N') R.slots = true) (hdg : decode cc pc = .ok (.newarray atype, 2))
    (kk : ∀ (q : Nat) (H1 : Heap), wd g A H0 (ch ++ [[(q, .inl (cB, N', .inl (fun _ => 0)))]]) H1 locs → W p l e R s m args below meth c H1 locs (cells + 1) (slots + N') Q (F0 m (pc + 2) ls (.ref q :: rest))) : W p l e R s m args below meth c H locs cells slots Q (F0 m pc ls (.int n :: rest)) := by
  obtain ⟨⟨hx, hb, -, hown, hts⟩, hK, -⟩ := C
  refine va_newa hx hb (hts _ harr) hty hK hW.1 hW.2.1 hW.2.2 hA ha (of_decide_eq_false hn) hN (Nat.le_of_ble_eq_true hbytes) (Nat.le_of_ble_eq_true hcells) (Nat.le_of_ble_eq_true hslots) hdg (fun q cA H1 hK4 hP hD hS => ?_)
  have e1 := gTy_at hK hK4 hk
  subst e1
  rw [← fl_push] at hP hD
  exact kk q H1 ⟨hP, hD, hS⟩
theorem g_newq (C : cx g p m c cc nL s args Ts own) (hO : AO s) (hW : wd g A H0 ch H locs) (hA : ∀ q, H0.size ≤ q → A q) {index : Nat} (h1 : Cond.classLink own index "UpwardGrants$State" ∈ Ts) {n : Int32} {N' : Nat} (hn : decide (n < 0) = false) (hN : n.toNatClampNeg = N') (hbytes : Nat.ble (N' * 4) 536870912 = true) (hcells : Nat.ble (cells + 1) R.cells = true) (hslots : Nat.ble (slots + N') R.slots = true) (hdg : decode cc pc = .ok (.anewarray index, 3))
    (kk : ∀ (q : Nat) (H1 : Heap), wd g A H0 (ch ++ [[(q, .inl (g.2.2.2.2, N', .inr (.inr (.inr (.inr (fun _ => none))))))]]) H1 locs → W p l e R s m args below meth c H1 locs (cells + 1) (slots + N') Q (F0 m (pc + 3) ls (.ref q :: rest))) : W p l e R s m args below meth c H locs cells slots Q (F0 m pc ls (.int n :: rest)) := by
  obtain ⟨⟨hx, hb, -, hown, hts⟩, hK, -⟩ := C
  refine va_newq (C := "UpwardGrants$State") hx hb hown (hts _ h1) hO hK hW.1 hW.2.1 hW.2.2 hA (of_decide_eq_false hn) hN (Nat.le_of_ble_eq_true hbytes) (Nat.le_of_ble_eq_true hcells) (Nat.le_of_ble_eq_true hslots) hdg (fun q cA H1 hK4 hP hD hS => ?_)
  have e1 := gTy_at (k := 3) hK hK4 rfl
  subst e1
  rw [← fl_push] at hP hD
  exact kk q H1 ⟨hP, hD, hS⟩
theorem g_putF (C : cx g p m c cc nL s args Ts own) (hnm0 : meth.name = "<init>") (hW : wd g A H0 ch H locs) {Rn : String} {T : u_T} {N ci index : Nat} (hin : ∀ w ∈ u_ws Rn T N, w ∈ Ts) {ty0 : Nat → FieldType} (hty : ∀ k, k < N → parseFieldDescriptor (T k).2.2.1 = some (ty0 k)) (hnm : ∀ a, a < N → ∀ b, b < N → a ≠ b → (T a).2.1 ≠ (T b).2.1) (i : Nat) {k : va_W} (hi : ch[i]? = some k) {a : Nat} {fs : List Value} (hj : k[0]? = some (a, .inr (ci, fs))) (hc : vwCl[ci]? = some (Rn, T, N)) (f : Nat) (hf : f < N) (hl : Cond.fieldLink own index (T f).1 (T f).2.1 (T f).2.2.1 ∈ Ts) (hfin : (T f).2.2.2 = true) (hdecl : (T f).1 = own) {v : Value} (hn : narrow (ty0 f) v = v) (hfit : fits (ty0 f) v = true) (hlen : Nat.ble (f + 1) fs.length = true) {ch' : List va_W} (he : ch.set i (k.set 0 (a, .inr (ci, fs.set f v))) = ch') (hdg : decode cc pc = .ok (.putfield index, 3))
    (kk : ∀ (H1 : Heap) (locs1 : List Loc), wd g A H0 ch' H1 locs1 → W p l e R s m args below meth c H1 locs1 cells slots Q (F0 m (pc + 3) ls rest)) : W p l e R s m args below meth c H locs cells slots Q (F0 m pc ls (v :: .ref a :: rest)) := by
  obtain ⟨⟨hx, hb, -, hown, hts⟩, hK, -⟩ := C
  obtain ⟨q, hq, hset⟩ := fl_at ch i 0 k _ hi hj
  refine va_putF hx hb hts hin ty0 hty hnm hown hK hW.1 hW.2.1 hW.2.2 q hq hc f hf (hts _ hl) (fun _ h => h) hfin hnm0 hdecl (hty f hf) hn hfit (Nat.le_of_ble_eq_true hlen) hdg (fun H1 locs1 hP hD hS => ?_)
  rw [hset, he] at hP hD
  exact kk H1 locs1 ⟨hP, hD, hS⟩
theorem g_aast (C : cx g p m c cc nL s args Ts own) (hW : wd g A H0 ch H locs) (i j iv jv : Nat) {k kv : va_W} (hi : ch[i]? = some k) {a n v : Nat} {f : Nat → Option Nat} (hj : k[j]? = some (a, .inl (g.2.2.2.2, n, .inr (.inr (.inr (.inr f)))))) (hiv : ch[iv]? = some kv) {vs : List Value} (hjv : kv[jv]? = some (v, .inr (4, vs))) {ix : Int32} (hin : vp_in ix n) {f' : Nat → Option Nat} (hf' : va_up f ix.toNatClampNeg (some v) = f') {ch' : List va_W} (he : ch.set i (k.set j (a, .inl (g.2.2.2.2, n, .inr (.inr (.inr (.inr f')))))) = ch') (hdg : decode cc pc = .ok (.aastore, 1))
    (kk : ∀ (H1 : Heap) (locs1 : List Loc), wd g A H0 ch' H1 locs1 → W p l e R s m args below meth c H1 locs1 cells slots Q (F0 m (pc + 1) ls rest)) : W p l e R s m args below meth c H locs cells slots Q (F0 m pc ls (.ref v :: .int ix :: .ref a :: rest)) := by
  obtain ⟨⟨hx, hb, -, hown, hts⟩, hK, -⟩ := C
  obtain ⟨q, hq, hset⟩ := fl_at ch i j k _ hi hj
  obtain ⟨qv, hqv, -⟩ := fl_at ch iv jv kv _ hiv hjv
  refine va_astq (r := (RX4, TX4, 15)) hx hb hK hW.1 hW.2.1 hW.2.2 q 3 qv 4 hq rfl hqv rfl hin hdg (fun H1 locs1 hP hD hS => ?_)
  rw [hf', hset, he] at hP hD
  exact kk H1 locs1 ⟨hP, hD, hS⟩
variable {y : MethodName} {bytes : ByteArray} {maxL index n mc ms : Nat} {wsy wsy' : List Cond} {rm : Room} {b : Nat} {As : List Value} {lvs : List (Nat × Value)} {c0 : va_W} {Post : List va_W → Prop}
/-- behind a constructor: the raw object's chunk is what the constructor made -/
theorem g_callN {st0 : List Value} {a : Array Value} (hr : va_Run p l e R s m args below meth c H locs cells slots mc ms (F0 m pc ls st0) rest (ctnQ g (va_A [c0].flatten H.size) Post a) (va_A [c0].flatten H.size)) (hW : wd g A H0 ch H locs) (hA : ∀ q, H0.size ≤ q → A q) (i : Nat) (hi : ch[i]? = some c0)
    (kk : ∀ (ch1 : List va_W), Post ch1 → ∀ (H1 : Heap) (locs1 : List Loc), wd g A H0 (ch.set i ch1.flatten) H1 locs1 → W p l e R s m args below meth c H1 locs1 (cells + mc) (slots + ms) Q (F0 m (pc + 3) ls rest)) : W p l e R s m args below meth c H locs cells slots Q (F0 m pc ls st0) := by
  intro T hT X
  obtain ⟨v, st₀, t, T', L, h0, X', hL, e1, e2, ⟨⟨ch1, hv, hPost, hP1, hD1⟩, hz, hk⟩, st⟩ := hr T hT X
  cases hv
  rw [h0] at hz hk
  obtain ⟨hP, hD, hS⟩ := hW
  have hC : [i].map (fun i => ch[i]?) = [c0].map some := by simp [hi]
  have hF : ∀ q, va_A [c0].flatten H.size q → A q := by
    intro q h
    rcases h with ⟨k, e, h⟩ | h
    · exact (chs_D hD [i] hC rfl).2 k _ h
    · exact hA q (Nat.le_trans hS.1 h)
  obtain ⟨g1, g2⟩ := chs_repl (ch1 := [ch1.flatten]) (H1 := T'.heap) hP hD [i] hC rfl rfl (fun q h1 h2 => by rw [e1]; exact hk q h1 h2) hF (by rw [e1]; simpa using hP1) (by simpa using hD1)
  obtain ⟨t2, a1, b1⟩ := kk ch1 hPost T'.heap (locs ++ L) ⟨g1, g2, Nat.le_trans hS.1 (by rw [e1]; exact hz), fun q h1 h2 => by rw [e1, hk q (Nat.lt_of_lt_of_le h1 hS.1) (fun z => h2 (hF q z))]; exact hS.2.1 q h1 h2, fun q hq => by
      rcases List.mem_append.mp hq with h | h
      · exact hS.2.2 q h
      · exact hF _ (hL q h)⟩ T' rfl X'
  exact ⟨t2, st t2 a1, b1⟩
theorem g_preN (C : cx g p m c cc nL s args Ts own) (hO : AO s) (hW : wd g A H0 ch H locs) (i : Nat) (hi : ch[i]? = some c0) : ∀ U : State, U.heap = H → s.WarmedH U.vm → ctnP g As [c0] H.size As.toArray U := fun U hU hw => by
  have hC : [i].map (fun i => ch[i]?) = [c0].map some := by simp [hi]
  exact ⟨rfl, by rw [hU], by rw [hU]; exact chs_P hW.1 [i] hC, ⟨C.2.warm hw, va_AO.moved hw.alike hO⟩, (chs_D hW.2.1 [i] hC rfl).weaken (fun _ _ _ _ => trivial)⟩
abbrev rOKn (rm R : Room) (maxL mc ms cells slots : Nat) : Prop := rm.cells = mc ∧ rm.slots = ms ∧ (rm.frames + 1 ≤ R.frames ∧ 8 + (maxL + 11) + rm.locals ≤ R.locals) ∧ cells + mc ≤ R.cells ∧ slots + ms ≤ R.slots
theorem g_cI (C : cx g p m c cc nL s args Ts own) (hO : AO s) (hM : ctn g l y wsy rm mc ms (.ref b :: As) [c0] Post) (hG : GoodIn Ts wsy) (hw : wsy = Cond.code y bytes maxL none :: wsy') (n : Nat) (hd : y.cls ≠ "java/lang/invoke/MethodHandle" ∧ y.cls ≠ "java/lang/invoke/VarHandle" ∧ (parseMethodDescriptor y.desc).map (fun d => d.parameters.length) = some n) (h1 : Cond.initialized y.cls ∈ Ts) (h2 : Cond.methodLink own index y ∈ Ts) (h3 : Cond.instanceMethod y ∈ Ts) (hy1 : y.name = "<init>") (hR : rOKn rm R maxL mc ms cells slots) (hnA : As.length = n) (hl : lv_has ls nL lvs) (hrest : (rest.map fun v => v.category).sum ≤ 8) (hdg : decode cc pc = .ok (.invokespecial index, 3)) {st0 : List Value} (hst : st0 = As.reverse ++ .ref b :: rest)
    (hW : wd g A H0 ch H locs) (hA : ∀ q, H0.size ≤ q → A q) (i : Nat) (hi : ch[i]? = some c0)
    (kk : ∀ (ch1 : List va_W), Post ch1 → ∀ (H1 : Heap) (locs1 : List Loc), wd g A H0 (ch.set i ch1.flatten) H1 locs1 → W p l e R s m args below meth c H1 locs1 (cells + mc) (slots + ms) Q (F0 m (pc + 3) ls rest)) : W p l e R s m args below meth c H locs cells slots Q (F0 m pc ls st0) := by
  subst hst
  have hts := C.1.2.2.2.2
  exact g_callN (va_runI C.1 (hM H.size) (cwI n hts hG hw hR.1 hR.2.1 (hts _ h1) (hts _ h2) (hts _ h3) hy1 hd hR.2.2.1) ⟨ctnP_blind, g_preN C hO hW i hi⟩ rfl hnA hl.1 rfl (lv_room hrest) hdg hR.2.2.2) hW hA i hi kk
theorem g_cIN (C : cx g p m c cc nL s args Ts own) (hO : AO s) (hM : ctn g l y wsy rm mc ms (.ref b :: As) [c0] Post) (hG : GoodIn Ts wsy) (hw : wsy = Cond.code y bytes maxL none :: wsy') (n : Nat) (hd : y.cls ≠ "java/lang/invoke/MethodHandle" ∧ y.cls ≠ "java/lang/invoke/VarHandle" ∧ (parseMethodDescriptor y.desc).map (fun d => d.parameters.length) = some n) (h1 : Cond.initialized y.cls ∈ Ts) (hnest : (own, index, y) ∈ gNest) (h3 : Cond.instanceMethod y ∈ Ts) (hy1 : y.name = "<init>") (hR : rOKn rm R maxL mc ms cells slots) (hnA : As.length = n) (hl : lv_has ls nL lvs) (hrest : (rest.map fun v => v.category).sum ≤ 8) (hdg : decode cc pc = .ok (.invokespecial index, 3)) {st0 : List Value} (hst : st0 = As.reverse ++ .ref b :: rest)
    (hW : wd g A H0 ch H locs) (hA : ∀ q, H0.size ≤ q → A q) (i : Nat) (hi : ch[i]? = some c0)
    (kk : ∀ (ch1 : List va_W), Post ch1 → ∀ (H1 : Heap) (locs1 : List Loc), wd g A H0 (ch.set i ch1.flatten) H1 locs1 → W p l e R s m args below meth c H1 locs1 (cells + mc) (slots + ms) Q (F0 m (pc + 3) ls rest)) : W p l e R s m args below meth c H locs cells slots Q (F0 m pc ls st0) := by
  subst hst
  have hts := C.1.2.2.2.2
  exact g_callN (va_runIN C.1 (hM H.size) ⟨va_cnB n hts hG hw hR.1 hR.2.1 (C.2.2 _ hnest) (hts _ h1) hd hR.2.2.1, hy1, hts _ h3⟩ ⟨ctnP_blind, g_preN C hO hW i hi⟩ rfl hnA hl.1 rfl (lv_room hrest) hdg hR.2.2.2) hW hA i hi kk
theorem g_vretN (C : cx g p m c cc nL s args Ts own) (hr : meth.sig.returnType = none) (hk : meth.locks = false) (hW : wd g A s.heap ch H locs) (hp : Post ch) (h1 : cells = mc) (h2 : slots = ms) (hdg : decode cc pc = .ok (.return_, 1)) : W p l e R s m args below meth c H locs cells slots (MQ below (ctnQ g A Post) args s mc ms A) (F0 m pc ls []) := by
  subst h1; subst h2
  exact W.vret C.1.1 C.1.2.1 hr (fun t ht hw => ⟨⟨ch, rfl, hp, by rw [ht]; exact hW.1, hW.2.1⟩, hW.2.2.F ht⟩) hW.2.2.2.2 hdg hk
end GN
theorem wd_perm {g : GT} {A : Nat → Prop} {H0 H : Heap} {ch ch' : List va_W} {locs : List Loc} (h : wd g A H0 ch H locs) (is : List Nat) (hC : is.map (fun i => ch[i]?) = ch'.map some) (hn : va_nd is = true) : wd g A H0 ch' H locs := ⟨chs_P h.1 is hC, chs_D h.2.1 is hC hn, h.2.2⟩
