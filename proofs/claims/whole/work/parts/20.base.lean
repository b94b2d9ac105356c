/-! words of this proof: numbers of an object as a function (row, place); worlds as lists of chunks, a chunk being an object with its rows of numbers -/
abbrev MM : Type := Nat → Nat → Int32
def st (v : MM) (k : Nat) (f : Nat → Int32) : MM := fun q => bif Nat.beq k q then f else v q
theorem st_eq (v : MM) (k : Nat) (f : Nat → Int32) : st v k f k = f := by simp [st]
theorem st_ne {v : MM} {k q : Nat} {f : Nat → Int32} (h : k ≠ q) : st v k f q = v q := by
  have h2 : Nat.beq k q = false := by
    cases hb : Nat.beq k q with
    | false => rfl
    | true => exact absurd (Nat.eq_of_beq_eq_true hb) h
  simp [st, h2]
abbrev GT : Type := va_G × (ClassId × ClassId × ClassId × ClassId)
abbrev gTy (g : GT) : List (ClassId × FieldType) := [(g.2.1, .int), (g.2.2.1, .char), (g.2.2.2.1, .boolean), (g.2.2.2.2, .object "UpwardGrants$State")]
/-- the links to private members of nest mates -/
def gNest : List (String × Nat × MethodName) := [(RX3, 49, yX7_copyRow), (RX1, 39, yX7_isWithin), (RX4, 71, yX7_copyRow), (RX0, 53, yX7_copyRow), (RX5, 29, yX7_isWithin), (RX7, 9, yX6_init), (RX7, 28, yX4_init), (RX4, 47, yX0_init), (RX1, 24, yX4_init), (RX7, 57, yX2_init), (RX2, 15, yX4_init)]
def gK (g : GT) (U : State) : Prop := va_K g.1 vwCl (gTy g) U ∧ ∀ q ∈ gNest, va_Nw (.methodLinkNest q.1 q.2.1 q.2.2 "UpwardGrants") U
theorem gK.same {g : GT} {u U : State} (h : u.vm = U.vm) (hk : gK g u) : gK g U := ⟨va_K.moved (by rw [h]; exact Vm.Alike.refl _) hk.1, fun q hq => va_Nw.same rfl h (hk.2 q hq)⟩
theorem gK.warm {g : GT} {s U : State} (h : s.WarmedH U.vm) (hk : gK g s) : gK g U := ⟨va_K.moved h.alike hk.1, fun q hq => va_Nw.warmM h (hk.2 q hq)⟩
theorem fl_at {α : Type} : ∀ (ch : List (List α)) (i j : Nat) (c : List α) (x : α), ch[i]? = some c → c[j]? = some x → ∃ q : Nat, ch.flatten[q]? = some x ∧ ∀ y : α, ch.flatten.set q y = (ch.set i (c.set j y)).flatten
  | [], i, j, c, x, h, _ => by simp at h
  | d :: ch, 0, j, c, x, h, hj => by
    simp only [List.getElem?_cons_zero, Option.some.injEq] at h
    subst h
    have hl := (List.getElem?_eq_some_iff.mp hj).1
    refine ⟨j, ?_, fun y => ?_⟩
    · rw [List.flatten_cons, List.getElem?_append_left hl]; exact hj
    · rw [List.flatten_cons, List.set_append, if_pos hl, List.set_cons_zero, List.flatten_cons]
  | d :: ch, i + 1, j, c, x, h, hj => by
    obtain ⟨q, h1, h2⟩ := fl_at ch i j c x (by simpa using h) hj
    refine ⟨d.length + q, ?_, fun y => ?_⟩
    · rw [List.flatten_cons, List.getElem?_append_right (by omega), Nat.add_sub_cancel_left]; exact h1
    · rw [List.flatten_cons, List.set_append, if_neg (by omega), Nat.add_sub_cancel_left, h2 y, List.set_cons_succ, List.flatten_cons]
theorem va_P_iff {D : va_G} {cl : List vw_C} {ws : va_W} {H : Heap} : va_P D cl ws H ↔ ∀ x ∈ ws, va_at D cl x H := ⟨fun h x hx => by
    obtain ⟨k, hk⟩ := List.getElem?_of_mem hx
    exact h k x hk, fun h k q hk => h q (List.mem_of_getElem? hk)⟩
theorem va_D_iff {A : Nat → Prop} {ws : va_W} : va_D A ws ↔ ws.Pairwise (fun p q => p.1 ≠ q.1) ∧ ∀ x ∈ ws, A x.1 := by
  constructor
  · intro hD
    refine ⟨List.pairwise_iff_getElem.mpr fun i j hi hj hij h => ?_, fun x hx => ?_⟩
    · have := hD.1 i j _ _ (List.getElem?_eq_getElem hi) (List.getElem?_eq_getElem hj) h
      omega
    · obtain ⟨k, hk⟩ := List.getElem?_of_mem hx
      exact hD.2 k x hk
  · intro h
    refine ⟨fun i j p q hi hj hpq => ?_, fun k q hk => h.2 q (List.mem_of_getElem? hk)⟩
    obtain ⟨li, ei⟩ := List.getElem?_eq_some_iff.mp hi
    obtain ⟨lj, ej⟩ := List.getElem?_eq_some_iff.mp hj
    rcases Nat.lt_trichotomy i j with q1 | q1 | q1
    · exact absurd (by rw [ei, ej]; exact hpq) (List.pairwise_iff_getElem.mp h.1 i j li lj q1)
    · exact q1
    · exact absurd (by rw [ei, ej]; exact hpq.symm) (List.pairwise_iff_getElem.mp h.1 j i lj li q1)
theorem va_D2 {A : Nat → Prop} {ch : List va_W} : va_D A ch.flatten ↔ (∀ (i j : Nat) (c d : va_W), ch[i]? = some c → ch[j]? = some d → i ≠ j → ∀ x ∈ c, ∀ y ∈ d, x.1 ≠ y.1) ∧ (∀ c ∈ ch, c.Pairwise (fun p q => p.1 ≠ q.1)) ∧ ∀ c ∈ ch, ∀ x ∈ c, A x.1 := by
  rw [va_D_iff, List.pairwise_flatten]
  constructor
  · rintro ⟨⟨h1, h2⟩, h3⟩
    refine ⟨fun i j c d hi hj hij x hx y hy => ?_, h1, fun c hc x hx => h3 x (List.mem_flatten.mpr ⟨c, hc, hx⟩)⟩
    obtain ⟨li, ei⟩ := List.getElem?_eq_some_iff.mp hi
    obtain ⟨lj, ej⟩ := List.getElem?_eq_some_iff.mp hj
    rcases Nat.lt_or_gt_of_ne hij with q | q
    · exact List.pairwise_iff_getElem.mp h2 i j li lj q x (by rw [ei]; exact hx) y (by rw [ej]; exact hy)
    · exact fun z => List.pairwise_iff_getElem.mp h2 j i lj li q y (by rw [ej]; exact hy) x (by rw [ei]; exact hx) z.symm
  · rintro ⟨h1, h2, h3⟩
    refine ⟨⟨h2, List.pairwise_iff_getElem.mpr fun i j hi hj hij x hx y hy => h1 i j _ _ (List.getElem?_eq_getElem hi) (List.getElem?_eq_getElem hj) (by omega) x hx y hy⟩, fun x hx => ?_⟩
    obtain ⟨c, hc, hxc⟩ := List.mem_flatten.mp hx
    exact h3 c hc x hxc
def pAll {α : Type} : List α → List Nat → List α → List α
  | ch, i :: is, c :: cs => pAll (ch.set i c) is cs
  | ch, _, _ => ch
theorem pAll_get {α : Type} : ∀ (is : List Nat) (cs ch : List α) (j : Nat) (x : α), is.length = cs.length → (pAll ch is cs)[j]? = some x → (∃ u : Nat, is[u]? = some j ∧ cs[u]? = some x) ∨ (j ∉ is ∧ ch[j]? = some x)
  | [], cs, ch, j, x, _, h => by
    right
    cases cs <;> exact ⟨by simp, h⟩
  | i :: is, [], ch, j, x, hl, h => by simp at hl
  | i :: is, c :: cs, ch, j, x, hl, h => by
    have h : (pAll (ch.set i c) is cs)[j]? = some x := h
    rcases pAll_get is cs (ch.set i c) j x (by simpa using hl) h with ⟨u, h1, h2⟩ | ⟨h1, h2⟩
    · exact Or.inl ⟨u + 1, by simpa using h1, by simpa using h2⟩
    · by_cases hij : i = j
      · subst hij
        left
        refine ⟨0, by simp, ?_⟩
        have hlt : i < (ch.set i c).length := (List.getElem?_eq_some_iff.mp h2).1
        rw [List.getElem?_set_self (by simpa using hlt)] at h2
        simpa using h2
      · right
        rw [List.getElem?_set_ne hij] at h2
        exact ⟨by simp only [List.mem_cons, not_or]; exact ⟨fun q => hij q.symm, h1⟩, h2⟩
theorem map_at {α β : Type} {is : List Nat} {f : Nat → Option β} {cs : List β} (h : is.map f = cs.map some) : ∀ (u : Nat) (c : β), cs[u]? = some c → ∃ i, is[u]? = some i ∧ f i = some c := by
  intro u c hc
  have h1 : (is.map f)[u]? = some (some c) := by rw [h, List.getElem?_map, hc]; rfl
  rw [List.getElem?_map] at h1
  cases hi : is[u]? with
  | none => rw [hi] at h1; cases h1
  | some i => rw [hi] at h1; exact ⟨i, rfl, Option.some.inj h1⟩
theorem chs_P {D : va_G} {cl : List vw_C} {ch chc : List va_W} {H : Heap} (hP : va_P D cl ch.flatten H) (is : List Nat) (hC : is.map (fun i => ch[i]?) = chc.map some) : va_P D cl chc.flatten H := by
  rw [va_P_iff] at hP ⊢
  intro x hx
  obtain ⟨c, hc, hxc⟩ := List.mem_flatten.mp hx
  obtain ⟨u, hu⟩ := List.getElem?_of_mem hc
  obtain ⟨i, -, hi⟩ := map_at (α := Nat) hC u c hu
  exact hP x (List.mem_flatten.mpr ⟨c, List.mem_of_getElem? hi, hxc⟩)
theorem chs_D {A : Nat → Prop} {ch chc : List va_W} (hD : va_D A ch.flatten) (is : List Nat) (hC : is.map (fun i => ch[i]?) = chc.map some) (hn : va_nd is = true) : va_D A chc.flatten := by
  rw [va_D2] at hD ⊢
  obtain ⟨h1, h2, h3⟩ := hD
  refine ⟨fun i j c d hi hj hij x hx y hy => ?_, fun c hc => ?_, fun c hc x hx => ?_⟩
  · obtain ⟨i', e1, e2⟩ := map_at (α := Nat) hC i c hi
    obtain ⟨j', e3, e4⟩ := map_at (α := Nat) hC j d hj
    refine h1 i' j' c d e2 e4 (fun q => hij ?_) x hx y hy
    subst q
    exact va_nd_inj is hn i j i' e1 e3
  · obtain ⟨u, hu⟩ := List.getElem?_of_mem hc
    obtain ⟨i, -, hi⟩ := map_at (α := Nat) hC u c hu
    exact h2 c (List.mem_of_getElem? hi)
  · obtain ⟨u, hu⟩ := List.getElem?_of_mem hc
    obtain ⟨i, -, hi⟩ := map_at (α := Nat) hC u c hu
    exact h3 c (List.mem_of_getElem? hi) x hx
theorem chs_repl {A : Nat → Prop} {D : va_G} {cl : List vw_C} {ch chc ch1 : List va_W} {H H1 : Heap} (hP : va_P D cl ch.flatten H) (hD : va_D A ch.flatten) (is : List Nat) (hC : is.map (fun i => ch[i]?) = chc.map some) (hn : va_nd is = true) (hlen : chc.length = ch1.length)
    (hk : ∀ q : Nat, q < H.size → ¬ va_A chc.flatten H.size q → H1[q]? = H[q]?) (hF : ∀ q, va_A chc.flatten H.size q → A q) (hP1 : va_P D cl ch1.flatten H1) (hD1 : va_D (va_A chc.flatten H.size) ch1.flatten) : va_P D cl (pAll ch is ch1).flatten H1 ∧ va_D A (pAll ch is ch1).flatten := by
  have hl : is.length = ch1.length := by
    have := congrArg List.length hC
    simp only [List.length_map] at this
    omega
  have hP0 := va_P_iff.mp hP
  obtain ⟨d1, d2, d3⟩ := va_D2.mp hD
  obtain ⟨f1, f2, f3⟩ := va_D2.mp hD1
  have hQ1 := va_P_iff.mp hP1
  have apart : ∀ (j : Nat) (c : va_W), j ∉ is → ch[j]? = some c → ∀ x ∈ c, x.1 < H.size ∧ ¬ va_A chc.flatten H.size x.1 := by
    intro j c hj hc x hx
    have hlt := (hP0 x (List.mem_flatten.mpr ⟨c, List.mem_of_getElem? hc, hx⟩)).lt
    refine ⟨hlt, fun h => ?_⟩
    rcases h with ⟨k, e, h⟩ | h
    · obtain ⟨d, hd, hxd⟩ := List.mem_flatten.mp (List.mem_of_getElem? h)
      obtain ⟨u, hu⟩ := List.getElem?_of_mem hd
      obtain ⟨i, hi, hdi⟩ := map_at (α := Nat) hC u d hu
      exact d1 i j d c hdi hc (fun q => hj (q ▸ List.mem_of_getElem? hi)) _ hxd x hx rfl
    · omega
  refine ⟨va_P_iff.mpr fun x hx => ?_, va_D2.mpr ⟨fun i j c d hi hj hij x hx y hy => ?_, fun c hc => ?_, fun c hc x hx => ?_⟩⟩
  · obtain ⟨c, hc, hxc⟩ := List.mem_flatten.mp hx
    obtain ⟨j, hj⟩ := List.getElem?_of_mem hc
    rcases pAll_get is ch1 ch j c hl hj with ⟨u, h1, h2⟩ | ⟨h1, h2⟩
    · exact hQ1 x (List.mem_flatten.mpr ⟨c, List.mem_of_getElem? h2, hxc⟩)
    · obtain ⟨g1, g2⟩ := apart j c h1 h2 x hxc
      exact (hP0 x (List.mem_flatten.mpr ⟨c, List.mem_of_getElem? h2, hxc⟩)).kept (hk x.1 g1 g2)
  · rcases pAll_get is ch1 ch i c hl hi with ⟨u, h1, h2⟩ | ⟨h1, h2⟩ <;> rcases pAll_get is ch1 ch j d hl hj with ⟨w, h3, h4⟩ | ⟨h3, h4⟩
    · exact f1 u w c d h2 h4 (fun q => hij (by subst q; exact Option.some.inj (h1.symm.trans h3))) x hx y hy
    · exact fun z => (apart j d h3 h4 y hy).2 (by rw [← z]; exact f3 c (List.mem_of_getElem? h2) x hx)
    · exact fun z => (apart i c h1 h2 x hx).2 (by rw [z]; exact f3 d (List.mem_of_getElem? h4) y hy)
    · exact d1 i j c d h2 h4 hij x hx y hy
  · obtain ⟨j, hj⟩ := List.getElem?_of_mem hc
    rcases pAll_get is ch1 ch j c hl hj with ⟨u, h1, h2⟩ | ⟨h1, h2⟩
    · exact f2 c (List.mem_of_getElem? h2)
    · exact d2 c (List.mem_of_getElem? h2)
  · obtain ⟨j, hj⟩ := List.getElem?_of_mem hc
    rcases pAll_get is ch1 ch j c hl hj with ⟨u, h1, h2⟩ | ⟨h1, h2⟩
    · exact hF _ (f3 c (List.mem_of_getElem? h2) x hx)
    · exact d3 c (List.mem_of_getElem? h2) x hx
/-- the world of a walk: chunks, apart, what isn't in them stays -/
def wd (g : GT) (A : Nat → Prop) (H0 : Heap) (ch : List va_W) (H : Heap) (locs : List Loc) : Prop := va_P g.1 vwCl ch.flatten H ∧ va_D A ch.flatten ∧ va_S A H0 H locs
/-- other cuts of the same cells -/
theorem wd.re {g : GT} {A : Nat → Prop} {H0 H : Heap} {ch : List va_W} {locs : List Loc} (h : wd g A H0 ch H locs) {ch' : List va_W} (e : ch.flatten = ch'.flatten) : wd g A H0 ch' H locs := by
  unfold wd at h ⊢
  rw [← e]
  exact h
def ctQ (g : GT) (A : Nat → Prop) (r : Option Value) (ch1 : List va_W) : Array Value → State → Outcome → State → Prop := fun _ st oc t => (oc = .returned r ∧ va_P g.1 vwCl ch1.flatten t.heap ∧ va_D A ch1.flatten) ∧ va_F A st t
def ctP (g : GT) (As : List Value) (ch : List va_W) (sz : Nat) : Array Value → State → Prop := va_Pc As (fun U => U.heap.size = sz ∧ va_P g.1 vwCl ch.flatten U.heap ∧ gK g U ∧ va_D (fun _ => True) ch.flatten)
/-- a method that makes no cells, at these arguments and in this world: its answer and the world behind it -/
def ct (g : GT) (l : Launch) (y : MethodName) (ws : List Cond) (rm : Room) (As : List Value) (ch : List va_W) (r : Option Value) (ch1 : List va_W) : Prop :=
  ∀ sz : Nat, Met l y ws rm (ctP g As ch sz) (ctQ g (va_A ch.flatten sz) r ch1) 0 0 (va_A ch.flatten sz)
theorem ctP_blind {g : GT} {As : List Value} {ch : List va_W} {sz : Nat} : FrameBlind (ctP g As ch sz) := fun a U g mk q => by
  obtain ⟨q0, q1, qP, qK, qD⟩ := q
  exact ⟨q0, q1, qP, gK.same rfl qK, qD⟩
abbrev rmk (f n : Nat) : Room := { frames := f, cells := 0, slots := 0, locals := n }
section GR
variable {p : Program} {l : Launch} {e : Env} {R : Room} {s : State} {m : MethodId} {args : Array Value} {below : List Frame} {meth : Method} {c : Code} {H : Heap} {locs : List Loc} {cells slots : Nat} {Q : State → Prop} {cc : ByteArray} {pc nL : Nat} {ls : Array Slot} {rest : List Value} {g : GT} {A : Nat → Prop} {H0 : Heap} {Ts : List Cond} {own : String} {ch : List va_W}
abbrev cx (g : GT) (p : Program) (m : MethodId) (c : Code) (cc : ByteArray) (nL : Nat) (s : State) (args : Array Value) (Ts : List Cond) (own : String) : Prop := CallFix p m c cc nL s args Ts own ∧ gK g s
theorem ct_of {y : MethodName} {ws ws' : List Cond} {rm : Room} {As : List Value} {r : Option Value} {ch1 : List va_W} {maxL : Nat} {ret : Option FieldType} (hy : plainName y.cls = true) (hw : ws = Cond.code y cc maxL ret :: ws') (hAs : (lg_sl As).length ≤ maxL)
    (body : ∀ (p : Program) (e : Env) (s : State) (m : MethodId) (args : Array Value) (below : List Frame) (meth : Method) (c : Code) (A : Nat → Prop) (ls : Array Slot), cx g p m c cc maxL s args ws y.cls → meth.sig.returnType = ret → meth.locks = false → (∀ q, s.heap.size ≤ q → A q) → wd g A s.heap ch s.heap [] → lv_has ls maxL (lv_args 0 As) →
      W p l e rm s m args below meth c s.heap [] 0 0 (MQ below (ctQ g A r ch1) args s 0 0 A) (F0 m 0 ls [])) : ct g l y ws rm As ch r ch1 := by
  intro sz
  refine Met.ofW (cc := cc) (maxL := maxL) (ret := ret) hy hw ?_
  intro p e s m args below meth c s₁ B hml hv
  obtain ⟨rfl, hsz, hP, hK, hD0⟩ := hv
  subst hsz
  rw [lg_entry_eq]
  exact body p e s m _ below meth c _ _ ⟨⟨B.exec, B.bytes, hml, findClass_of_methodNamed B.named, atoms_spec (ws := ws) B.pre⟩, hK⟩ B.returns B.notSynchronized (fun q h => Or.inr h) ⟨hP, hD0.self, va_S.rf⟩ (lv_entry As hAs)
theorem g_get (C : cx g p m c cc nL s args Ts own) (hW : wd g A H0 ch H locs) {Rn : String} {T : u_T} {N ci index : Nat} (hin : ∀ w ∈ u_ws Rn T N, w ∈ Ts) (i : Nat) {k : va_W} (hi : ch[i]? = some k) {a : Nat} {fs : List Value} (hj : k[0]? = some (a, .inr (ci, fs))) (hc : vwCl[ci]? = some (Rn, T, N)) (f : Nat) (hf : f < N) (hl : Cond.fieldLink own index (T f).1 (T f).2.1 (T f).2.2.1 ∈ Ts) {v : Value} (hv : fs[f]? = some v) (hdg : decode cc pc = .ok (.getfield index, 3))
    (kk : W p l e R s m args below meth c H locs cells slots Q (F0 m (pc + 3) ls (v :: rest))) : W p l e R s m args below meth c H locs cells slots Q (F0 m pc ls (.ref a :: rest)) := by
  obtain ⟨⟨hx, hb, -, hown, hts⟩, hK, -⟩ := C
  obtain ⟨q, hq, -⟩ := fl_at ch i 0 k _ hi hj
  exact va_get hx hb hts hin hown hK hW.1 q hq hc f hf (hts _ hl) (fun _ h => h) hv hdg kk
theorem g_put (C : cx g p m c cc nL s args Ts own) (hW : wd g A H0 ch H locs) {Rn : String} {T : u_T} {N ci index : Nat} (hin : ∀ w ∈ u_ws Rn T N, w ∈ Ts) {ty0 : Nat → FieldType} (hty : ∀ k, k < N → parseFieldDescriptor (T k).2.2.1 = some (ty0 k)) (hnm : ∀ a, a < N → ∀ b, b < N → a ≠ b → (T a).2.1 ≠ (T b).2.1) (i : Nat) {k : va_W} (hi : ch[i]? = some k) {a : Nat} {fs : List Value} (hj : k[0]? = some (a, .inr (ci, fs))) (hc : vwCl[ci]? = some (Rn, T, N)) (f : Nat) (hf : f < N) (hl : Cond.fieldLink own index (T f).1 (T f).2.1 (T f).2.2.1 ∈ Ts) (hfin : (T f).2.2.2 = false) {v : Value} (hn : narrow (ty0 f) v = v) (hfit : fits (ty0 f) v = true) (hlen : Nat.ble (f + 1) fs.length = true) {k' : va_W} (hk' : k.set 0 (a, .inr (ci, fs.set f v)) = k') {ch' : List va_W} (he : ch.set i k' = ch') (hdg : decode cc pc = .ok (.putfield index, 3))
    (kk : ∀ (H1 : Heap) (locs1 : List Loc), wd g A H0 ch' H1 locs1 → W p l e R s m args below meth c H1 locs1 cells slots Q (F0 m (pc + 3) ls rest)) : W p l e R s m args below meth c H locs cells slots Q (F0 m pc ls (v :: .ref a :: rest)) := by
  obtain ⟨⟨hx, hb, -, hown, hts⟩, hK, -⟩ := C
  obtain ⟨q, hq, hset⟩ := fl_at ch i 0 k _ hi hj
  refine va_put hx hb hts hin ty0 hty hnm hown hK hW.1 hW.2.1 hW.2.2 q hq hc f hf (hts _ hl) (fun _ h => h) hfin (hty f hf) hn hfit (Nat.le_of_ble_eq_true hlen) hdg (fun H1 locs1 hP hD hS => ?_)
  rw [hset, hk', he] at hP hD
  exact kk H1 locs1 ⟨hP, hD, hS⟩
theorem g_iald (C : cx g p m c cc nL s args Ts own) (hW : wd g A H0 ch H locs) (i j : Nat) {k : va_W} (hi : ch[i]? = some k) {a n : Nat} {f : Nat → Int32} (hj : k[j]? = some (a, .inl (g.2.1, n, .inl f))) {ix : Int32} (hin : vp_in ix n) (hdg : decode cc pc = .ok (.iaload, 1))
    (kk : W p l e R s m args below meth c H locs cells slots Q (F0 m (pc + 1) ls (.int (f ix.toNatClampNeg) :: rest))) : W p l e R s m args below meth c H locs cells slots Q (F0 m pc ls (.int ix :: .ref a :: rest)) := by
  obtain ⟨⟨hx, hb, -, hown, hts⟩, hK, -⟩ := C
  obtain ⟨q, hq, -⟩ := fl_at ch i j k _ hi hj
  exact va_iald hx hb hK hW.1 q 0 hq rfl hin hdg kk
theorem g_cald (C : cx g p m c cc nL s args Ts own) (hW : wd g A H0 ch H locs) (i j : Nat) {k : va_W} (hi : ch[i]? = some k) {a n : Nat} {f : Nat → Int32} (hj : k[j]? = some (a, .inl (g.2.2.1, n, .inl f))) {ix : Int32} (hin : vp_in ix n) (hdg : decode cc pc = .ok (.caload, 1))
    (kk : W p l e R s m args below meth c H locs cells slots Q (F0 m (pc + 1) ls (.int (f ix.toNatClampNeg) :: rest))) : W p l e R s m args below meth c H locs cells slots Q (F0 m pc ls (.int ix :: .ref a :: rest)) := by
  obtain ⟨⟨hx, hb, -, hown, hts⟩, hK, -⟩ := C
  obtain ⟨q, hq, -⟩ := fl_at ch i j k _ hi hj
  exact va_cald hx hb hK hW.1 q 1 hq rfl hin hdg kk
theorem g_zald (C : cx g p m c cc nL s args Ts own) (hW : wd g A H0 ch H locs) (i j : Nat) {k : va_W} (hi : ch[i]? = some k) {a n : Nat} {f : Nat → Int32} (hj : k[j]? = some (a, .inl (g.2.2.2.1, n, .inl f))) {ix : Int32} (hin : vp_in ix n) (hdg : decode cc pc = .ok (.baload, 1))
    (kk : W p l e R s m args below meth c H locs cells slots Q (F0 m (pc + 1) ls (.int (f ix.toNatClampNeg) :: rest))) : W p l e R s m args below meth c H locs cells slots Q (F0 m pc ls (.int ix :: .ref a :: rest)) := by
  obtain ⟨⟨hx, hb, -, hown, hts⟩, hK, -⟩ := C
  obtain ⟨q, hq, -⟩ := fl_at ch i j k _ hi hj
  exact va_zald hx hb hK hW.1 q 2 hq rfl hin hdg kk
theorem g_aald (C : cx g p m c cc nL s args Ts own) (hW : wd g A H0 ch H locs) (i j : Nat) {k : va_W} (hi : ch[i]? = some k) {a n : Nat} {f : Nat → Option Nat} (hj : k[j]? = some (a, .inl (g.2.2.2.2, n, .inr (.inr (.inr (.inr f)))))) {ix : Int32} (hin : vp_in ix n) (hdg : decode cc pc = .ok (.aaload, 1))
    (kk : W p l e R s m args below meth c H locs cells slots Q (F0 m (pc + 1) ls (va_rf (f ix.toNatClampNeg) :: rest))) : W p l e R s m args below meth c H locs cells slots Q (F0 m pc ls (.int ix :: .ref a :: rest)) := by
  obtain ⟨⟨hx, hb, -, hown, hts⟩, hK, -⟩ := C
  obtain ⟨q, hq, -⟩ := fl_at ch i j k _ hi hj
  exact va_aldq (C := "UpwardGrants$State") hx hb hK hW.1 q 3 hq rfl hin hdg kk
theorem g_iast (C : cx g p m c cc nL s args Ts own) (hW : wd g A H0 ch H locs) (i j : Nat) {k : va_W} (hi : ch[i]? = some k) {a n : Nat} {f : Nat → Int32} (hj : k[j]? = some (a, .inl (g.2.1, n, .inl f))) {ix x : Int32} (hin : vp_in ix n) {k' : va_W} (hk' : k.set j (a, .inl (g.2.1, n, .inl (upd f ix.toNatClampNeg x))) = k') {ch' : List va_W} (he : ch.set i k' = ch') (hdg : decode cc pc = .ok (.iastore, 1))
    (kk : ∀ (H1 : Heap) (locs1 : List Loc), wd g A H0 ch' H1 locs1 → W p l e R s m args below meth c H1 locs1 cells slots Q (F0 m (pc + 1) ls rest)) : W p l e R s m args below meth c H locs cells slots Q (F0 m pc ls (.int x :: .int ix :: .ref a :: rest)) := by
  obtain ⟨⟨hx, hb, -, hown, hts⟩, hK, -⟩ := C
  obtain ⟨q, hq, hset⟩ := fl_at ch i j k _ hi hj
  refine va_iast hx hb hK hW.1 hW.2.1 hW.2.2 q 0 hq rfl hin hdg (fun H1 locs1 hP hD hS => ?_)
  rw [hset, hk', he] at hP hD
  exact kk H1 locs1 ⟨hP, hD, hS⟩
theorem g_cast (C : cx g p m c cc nL s args Ts own) (hW : wd g A H0 ch H locs) (i j : Nat) {k : va_W} (hi : ch[i]? = some k) {a n : Nat} {f : Nat → Int32} (hj : k[j]? = some (a, .inl (g.2.2.1, n, .inl f))) {ix x : Int32} (hin : vp_in ix n) {k' : va_W} (hk' : k.set j (a, .inl (g.2.2.1, n, .inl (upd f ix.toNatClampNeg (vp_nar .char x)))) = k') {ch' : List va_W} (he : ch.set i k' = ch') (hdg : decode cc pc = .ok (.castore, 1))
    (kk : ∀ (H1 : Heap) (locs1 : List Loc), wd g A H0 ch' H1 locs1 → W p l e R s m args below meth c H1 locs1 cells slots Q (F0 m (pc + 1) ls rest)) : W p l e R s m args below meth c H locs cells slots Q (F0 m pc ls (.int x :: .int ix :: .ref a :: rest)) := by
  obtain ⟨⟨hx, hb, -, hown, hts⟩, hK, -⟩ := C
  obtain ⟨q, hq, hset⟩ := fl_at ch i j k _ hi hj
  refine va_cast hx hb hK hW.1 hW.2.1 hW.2.2 q 1 hq rfl hin hdg (fun H1 locs1 hP hD hS => ?_)
  rw [hset, hk', he] at hP hD
  exact kk H1 locs1 ⟨hP, hD, hS⟩
theorem g_zast (C : cx g p m c cc nL s args Ts own) (hW : wd g A H0 ch H locs) (i j : Nat) {k : va_W} (hi : ch[i]? = some k) {a n : Nat} {f : Nat → Int32} (hj : k[j]? = some (a, .inl (g.2.2.2.1, n, .inl f))) {ix x : Int32} (hin : vp_in ix n) {k' : va_W} (hk' : k.set j (a, .inl (g.2.2.2.1, n, .inl (upd f ix.toNatClampNeg (vp_nar .boolean x)))) = k') {ch' : List va_W} (he : ch.set i k' = ch') (hdg : decode cc pc = .ok (.bastore, 1))
    (kk : ∀ (H1 : Heap) (locs1 : List Loc), wd g A H0 ch' H1 locs1 → W p l e R s m args below meth c H1 locs1 cells slots Q (F0 m (pc + 1) ls rest)) : W p l e R s m args below meth c H locs cells slots Q (F0 m pc ls (.int x :: .int ix :: .ref a :: rest)) := by
  obtain ⟨⟨hx, hb, -, hown, hts⟩, hK, -⟩ := C
  obtain ⟨q, hq, hset⟩ := fl_at ch i j k _ hi hj
  refine va_zast hx hb hK hW.1 hW.2.1 hW.2.2 q 2 hq rfl hin hdg (fun H1 locs1 hP hD hS => ?_)
  rw [hset, hk', he] at hP hD
  exact kk H1 locs1 ⟨hP, hD, hS⟩
theorem g_alen (C : cx g p m c cc nL s args Ts own) (hW : wd g A H0 ch H locs) (i j t0 : Nat) {k : va_W} (hi : ch[i]? = some k) {a : Nat} {cA : ClassId} {x : vp_A} (hj : k[j]? = some (a, .inl (cA, x))) {ty : FieldType} (ht : (gTy g)[t0]? = some (cA, ty)) {v : Int32} (hv : Int32.ofNat x.1 = v) (hdg : decode cc pc = .ok (.arraylength, 1))
    (kk : W p l e R s m args below meth c H locs cells slots Q (F0 m (pc + 1) ls (.int v :: rest))) : W p l e R s m args below meth c H locs cells slots Q (F0 m pc ls (.ref a :: rest)) := by
  obtain ⟨⟨hx, hb, -, hown, hts⟩, hK, -⟩ := C
  obtain ⟨q, hq, -⟩ := fl_at ch i j k _ hi hj
  exact va_alen hx hb hK hW.1 q t0 hq ht hv hdg kk
/-- behind a call: the callee's chunks are put at their places -/
theorem g_call {chc ch1 : List va_W} {r : Option Value} {st0 : List Value} {a : Array Value} (hr : va_Run p l e R s m args below meth c H locs cells slots 0 0 (F0 m pc ls st0) rest (ctQ g (va_A chc.flatten H.size) r ch1 a) (va_A chc.flatten H.size)) (hW : wd g A H0 ch H locs) (hA : ∀ q, H0.size ≤ q → A q) (is : List Nat) (hC : is.map (fun i => ch[i]?) = chc.map some) (hn : va_nd is = true) (hlen : chc.length = ch1.length) {ch' : List va_W} (he : pAll ch is ch1 = ch')
    (kk : ∀ (H1 : Heap) (locs1 : List Loc), wd g A H0 ch' H1 locs1 → W p l e R s m args below meth c H1 locs1 cells slots Q (F0 m (pc + 3) ls (r.toList ++ rest))) : W p l e R s m args below meth c H locs cells slots Q (F0 m pc ls st0) := by
  intro T hT X
  obtain ⟨v, st₀, t, T', L, h0, X', hL, e1, e2, ⟨⟨hv, hP1, hD1⟩, hz, hk⟩, st⟩ := hr T hT X
  cases hv
  rw [h0] at hz hk
  obtain ⟨hP, hD, hS⟩ := hW
  have hF : ∀ q, va_A chc.flatten H.size q → A q := by
    intro q h
    rcases h with ⟨k, e, h⟩ | h
    · exact (chs_D hD is hC hn).2 k _ h
    · exact hA q (Nat.le_trans hS.1 h)
  obtain ⟨g1, g2⟩ := chs_repl (H1 := T'.heap) hP hD is hC hn hlen (fun q h1 h2 => by rw [e1]; exact hk q h1 h2) hF (by rw [e1]; exact hP1) hD1
  rw [he] at g1 g2
  obtain ⟨t2, a1, b1⟩ := kk T'.heap (locs ++ L) ⟨g1, g2, Nat.le_trans hS.1 (by rw [e1]; exact hz), fun q h1 h2 => by rw [e1, hk q (Nat.lt_of_lt_of_le h1 hS.1) (fun z => h2 (hF q z))]; exact hS.2.1 q h1 h2, fun q hq => by
      rcases List.mem_append.mp hq with h | h
      · exact hS.2.2 q h
      · exact hF _ (hL q h)⟩ T' rfl X'
  exact ⟨t2, st t2 a1, b1⟩
theorem g_pre {Cn : String} {b : Nat} {As : List Value} {chc : List va_W} (C : cx g p m c cc nL s args Ts own) (hW : wd g A H0 ch H locs) (is : List Nat) (hC : is.map (fun i => ch[i]?) = chc.map some) (hn : va_nd is = true) : ∀ U : State, U.heap = H → s.WarmedH U.vm → ctP g As chc H.size As.toArray U := fun U hU hw => ⟨rfl, by rw [hU], by rw [hU]; exact chs_P hW.1 is hC, C.2.warm hw, (chs_D hW.2.1 is hC hn).weaken (fun _ _ _ _ => trivial)⟩
variable {y : MethodName} {bytes : ByteArray} {maxL index n : Nat} {ret : Option FieldType} {wsy wsy' : List Cond} {rm : Room} {b : Nat} {As : List Value} {chc ch1 ch' : List va_W} {lvs : List (Nat × Value)} {Cn : String}
/-- what a callee's room asks of the caller's -/
abbrev rOK (rm R : Room) (maxL cells slots : Nat) : Prop := rm.cells = 0 ∧ rm.slots = 0 ∧ (rm.frames + 1 ≤ R.frames ∧ 8 + (maxL + 11) + rm.locals ≤ R.locals) ∧ cells ≤ R.cells ∧ slots ≤ R.slots
theorem g_cV {v : Value} (C : cx g p m c cc nL s args Ts own) (hM : ct g l y wsy rm (.ref b :: As) chc (some v) ch1) (hG : GoodIn Ts (wsV own index Cn y wsy)) (hw : wsy = Cond.code y bytes maxL ret :: wsy') (n : Nat) (hd : y.cls = Cn ∧ y.cls ≠ "java/lang/invoke/MethodHandle" ∧ y.cls ≠ "java/lang/invoke/VarHandle" ∧ (parseMethodDescriptor y.desc).map (fun d => d.parameters.length) = some n) (hR : rOK rm R maxL cells slots) (hnA : As.length = n) (hl : lv_has ls nL lvs) (hrest : (rest.map fun v => v.category).sum ≤ 8) (hdg : decode cc pc = .ok (.invokevirtual index, 3)) {st0 : List Value} (hst : st0 = As.reverse ++ .ref b :: rest)
    (hW : wd g A H0 ch H locs) (hA : ∀ q, H0.size ≤ q → A q) (is : List Nat) (hC : is.map (fun i => ch[i]?) = chc.map some) (hn : va_nd is = true) (hlen : chc.length = ch1.length) (he : pAll ch is ch1 = ch') (ir : Nat) {kr : va_W} (hir : ch[ir]? = some kr) {ci : Nat} {fs : List Value} (hkr : kr[0]? = some (b, .inr (ci, fs))) {T : u_T} {N : Nat} (hcl : vwCl[ci]? = some (Cn, T, N))
    (kk : ∀ (H1 : Heap) (locs1 : List Loc), wd g A H0 ch' H1 locs1 → W p l e R s m args below meth c H1 locs1 cells slots Q (F0 m (pc + 3) ls (v :: rest))) : W p l e R s m args below meth c H locs cells slots Q (F0 m pc ls st0) := by
  obtain ⟨q, hq, -⟩ := fl_at ch ir 0 kr _ hir hkr
  subst hst
  exact g_call (va_runV C.1 (hM H.size) (cwV n C.1.2.2.2.2 hG hw hR.1 hR.2.1 hd hR.2.2.1) ⟨ctP_blind, va_recv C.2.1 hW.1 hcl hq, g_pre C hW (Cn := "") (b := 0) is hC hn⟩ rfl hnA hl.1 rfl (lv_room hrest) hdg hR.2.2.2) hW hA is hC hn hlen he kk
theorem g_cVv (C : cx g p m c cc nL s args Ts own) (hM : ct g l y wsy rm (.ref b :: As) chc none ch1) (hG : GoodIn Ts (wsV own index Cn y wsy)) (hw : wsy = Cond.code y bytes maxL ret :: wsy') (n : Nat) (hd : y.cls = Cn ∧ y.cls ≠ "java/lang/invoke/MethodHandle" ∧ y.cls ≠ "java/lang/invoke/VarHandle" ∧ (parseMethodDescriptor y.desc).map (fun d => d.parameters.length) = some n) (hR : rOK rm R maxL cells slots) (hnA : As.length = n) (hl : lv_has ls nL lvs) (hrest : (rest.map fun v => v.category).sum ≤ 8) (hdg : decode cc pc = .ok (.invokevirtual index, 3)) {st0 : List Value} (hst : st0 = As.reverse ++ .ref b :: rest)
    (hW : wd g A H0 ch H locs) (hA : ∀ q, H0.size ≤ q → A q) (is : List Nat) (hC : is.map (fun i => ch[i]?) = chc.map some) (hn : va_nd is = true) (hlen : chc.length = ch1.length) (he : pAll ch is ch1 = ch') (ir : Nat) {kr : va_W} (hir : ch[ir]? = some kr) {ci : Nat} {fs : List Value} (hkr : kr[0]? = some (b, .inr (ci, fs))) {T : u_T} {N : Nat} (hcl : vwCl[ci]? = some (Cn, T, N))
    (kk : ∀ (H1 : Heap) (locs1 : List Loc), wd g A H0 ch' H1 locs1 → W p l e R s m args below meth c H1 locs1 cells slots Q (F0 m (pc + 3) ls rest)) : W p l e R s m args below meth c H locs cells slots Q (F0 m pc ls st0) := by
  obtain ⟨q, hq, -⟩ := fl_at ch ir 0 kr _ hir hkr
  subst hst
  exact g_call (va_runV C.1 (hM H.size) (cwV n C.1.2.2.2.2 hG hw hR.1 hR.2.1 hd hR.2.2.1) ⟨ctP_blind, va_recv C.2.1 hW.1 hcl hq, g_pre C hW (Cn := "") (b := 0) is hC hn⟩ rfl hnA hl.1 rfl (lv_room hrest) hdg hR.2.2.2) hW hA is hC hn hlen he kk
theorem g_cS {v : Value} (C : cx g p m c cc nL s args Ts own) (hM : ct g l y wsy rm As chc (some v) ch1) (hG : GoodIn Ts (va_wsS own index y wsy)) (hw : wsy = Cond.code y bytes maxL ret :: wsy') (n : Nat) (hd : y.cls ≠ "java/lang/invoke/MethodHandle" ∧ y.cls ≠ "java/lang/invoke/VarHandle" ∧ (parseMethodDescriptor y.desc).map (fun d => d.parameters.length) = some n) (hR : rOK rm R maxL cells slots) (hnA : As.length = n) (hl : lv_has ls nL lvs) (hrest : (rest.map fun v => v.category).sum ≤ 8) (hdg : decode cc pc = .ok (.invokestatic index, 3)) {st0 : List Value} (hst : st0 = As.reverse ++ rest)
    (hW : wd g A H0 ch H locs) (hA : ∀ q, H0.size ≤ q → A q) (is : List Nat) (hC : is.map (fun i => ch[i]?) = chc.map some) (hn : va_nd is = true) (hlen : chc.length = ch1.length) (he : pAll ch is ch1 = ch')
    (kk : ∀ (H1 : Heap) (locs1 : List Loc), wd g A H0 ch' H1 locs1 → W p l e R s m args below meth c H1 locs1 cells slots Q (F0 m (pc + 3) ls (v :: rest))) : W p l e R s m args below meth c H locs cells slots Q (F0 m pc ls st0) := by
  subst hst
  exact g_call (va_runS C.1 (hM H.size) (va_cwS n C.1.2.2.2.2 hG hw hR.1 hR.2.1 hd hR.2.2.1) ⟨ctP_blind, g_pre C hW (Cn := "") (b := 0) is hC hn⟩ rfl hnA hl.1 rfl (lv_room hrest) hdg hR.2.2.2) hW hA is hC hn hlen he kk
theorem g_cSv (C : cx g p m c cc nL s args Ts own) (hM : ct g l y wsy rm As chc none ch1) (hG : GoodIn Ts (va_wsS own index y wsy)) (hw : wsy = Cond.code y bytes maxL ret :: wsy') (n : Nat) (hd : y.cls ≠ "java/lang/invoke/MethodHandle" ∧ y.cls ≠ "java/lang/invoke/VarHandle" ∧ (parseMethodDescriptor y.desc).map (fun d => d.parameters.length) = some n) (hR : rOK rm R maxL cells slots) (hnA : As.length = n) (hl : lv_has ls nL lvs) (hrest : (rest.map fun v => v.category).sum ≤ 8) (hdg : decode cc pc = .ok (.invokestatic index, 3)) {st0 : List Value} (hst : st0 = As.reverse ++ rest)
    (hW : wd g A H0 ch H locs) (hA : ∀ q, H0.size ≤ q → A q) (is : List Nat) (hC : is.map (fun i => ch[i]?) = chc.map some) (hn : va_nd is = true) (hlen : chc.length = ch1.length) (he : pAll ch is ch1 = ch')
    (kk : ∀ (H1 : Heap) (locs1 : List Loc), wd g A H0 ch' H1 locs1 → W p l e R s m args below meth c H1 locs1 cells slots Q (F0 m (pc + 3) ls rest)) : W p l e R s m args below meth c H locs cells slots Q (F0 m pc ls st0) := by
  subst hst
  exact g_call (va_runS C.1 (hM H.size) (va_cwS n C.1.2.2.2.2 hG hw hR.1 hR.2.1 hd hR.2.2.1) ⟨ctP_blind, g_pre C hW (Cn := "") (b := 0) is hC hn⟩ rfl hnA hl.1 rfl (lv_room hrest) hdg hR.2.2.2) hW hA is hC hn hlen he kk
theorem g_cSN {v : Value} (C : cx g p m c cc nL s args Ts own) (hM : ct g l y wsy rm As chc (some v) ch1) (hG : GoodIn Ts wsy) (hw : wsy = Cond.code y bytes maxL ret :: wsy') (n : Nat) (hd : y.cls ≠ "java/lang/invoke/MethodHandle" ∧ y.cls ≠ "java/lang/invoke/VarHandle" ∧ (parseMethodDescriptor y.desc).map (fun d => d.parameters.length) = some n) (hnest : (own, index, y) ∈ gNest) (hst2 : Cond.static y ∈ Ts) (hini : Cond.initialized y.cls ∈ Ts) (hR : rOK rm R maxL cells slots) (hnA : As.length = n) (hl : lv_has ls nL lvs) (hrest : (rest.map fun v => v.category).sum ≤ 8) (hdg : decode cc pc = .ok (.invokestatic index, 3)) {st0 : List Value} (hst : st0 = As.reverse ++ rest)
    (hW : wd g A H0 ch H locs) (hA : ∀ q, H0.size ≤ q → A q) (is : List Nat) (hC : is.map (fun i => ch[i]?) = chc.map some) (hn : va_nd is = true) (hlen : chc.length = ch1.length) (he : pAll ch is ch1 = ch')
    (kk : ∀ (H1 : Heap) (locs1 : List Loc), wd g A H0 ch' H1 locs1 → W p l e R s m args below meth c H1 locs1 cells slots Q (F0 m (pc + 3) ls (v :: rest))) : W p l e R s m args below meth c H locs cells slots Q (F0 m pc ls st0) := by
  subst hst
  exact g_call (va_runSN C.1 (hM H.size) ⟨va_cnB n C.1.2.2.2.2 hG hw hR.1 hR.2.1 (C.2.2 _ hnest) (C.1.2.2.2.2 _ hini) hd hR.2.2.1, C.1.2.2.2.2 _ hst2, trivial⟩ ⟨ctP_blind, g_pre C hW (Cn := "") (b := 0) is hC hn⟩ rfl hnA hl.1 rfl (lv_room hrest) hdg hR.2.2.2) hW hA is hC hn hlen he kk
theorem g_cSNv (C : cx g p m c cc nL s args Ts own) (hM : ct g l y wsy rm As chc none ch1) (hG : GoodIn Ts wsy) (hw : wsy = Cond.code y bytes maxL ret :: wsy') (n : Nat) (hd : y.cls ≠ "java/lang/invoke/MethodHandle" ∧ y.cls ≠ "java/lang/invoke/VarHandle" ∧ (parseMethodDescriptor y.desc).map (fun d => d.parameters.length) = some n) (hnest : (own, index, y) ∈ gNest) (hst2 : Cond.static y ∈ Ts) (hini : Cond.initialized y.cls ∈ Ts) (hR : rOK rm R maxL cells slots) (hnA : As.length = n) (hl : lv_has ls nL lvs) (hrest : (rest.map fun v => v.category).sum ≤ 8) (hdg : decode cc pc = .ok (.invokestatic index, 3)) {st0 : List Value} (hst : st0 = As.reverse ++ rest)
    (hW : wd g A H0 ch H locs) (hA : ∀ q, H0.size ≤ q → A q) (is : List Nat) (hC : is.map (fun i => ch[i]?) = chc.map some) (hn : va_nd is = true) (hlen : chc.length = ch1.length) (he : pAll ch is ch1 = ch')
    (kk : ∀ (H1 : Heap) (locs1 : List Loc), wd g A H0 ch' H1 locs1 → W p l e R s m args below meth c H1 locs1 cells slots Q (F0 m (pc + 3) ls rest)) : W p l e R s m args below meth c H locs cells slots Q (F0 m pc ls st0) := by
  subst hst
  exact g_call (va_runSN C.1 (hM H.size) ⟨va_cnB n C.1.2.2.2.2 hG hw hR.1 hR.2.1 (C.2.2 _ hnest) (C.1.2.2.2.2 _ hini) hd hR.2.2.1, C.1.2.2.2.2 _ hst2, trivial⟩ ⟨ctP_blind, g_pre C hW (Cn := "") (b := 0) is hC hn⟩ rfl hnA hl.1 rfl (lv_room hrest) hdg hR.2.2.2) hW hA is hC hn hlen he kk
theorem g_mmax (C : cx g p m c cc nL s args Ts own) (hl : lv_has ls nL lvs) (h1 : Cond.methodLink own index Lib.Math.max.name ∈ Ts) (h2 : Cond.static Lib.Math.max.name ∈ Ts) (h3 : Cond.initialized "java/lang/Math" ∈ Ts) (h4 : Cond.code Lib.Math.max.name Lib.Math.max.code 2 (some .int) ∈ Ts) (hR : 1 ≤ R.frames ∧ 21 ≤ R.locals ∧ cells ≤ R.cells ∧ slots ≤ R.slots) (hrest : (rest.map fun v => v.category).sum ≤ 8) {x y : Int32} (hdg : decode cc pc = .ok (.invokestatic index, 3))
    (kk : W p l e R s m args below meth c H locs cells slots Q (F0 m (pc + 3) ls (.int (if x < y then y else x) :: rest))) : W p l e R s m args below meth c H locs cells slots Q (F0 m pc ls (.int y :: .int x :: rest)) := by
  have hts := C.1.2.2.2.2
  exact va_mmax C.1.1 C.1.2.1 (by rw [C.1.2.2.1, hl.1]) C.1.2.2.2.1 (hts _ h1) (hts _ h2) (hts _ h3) (hts _ h4) hR.1 (by have := hR.2.1; omega) hR.2.2.1 hR.2.2.2 hdg kk
theorem g_mmin (C : cx g p m c cc nL s args Ts own) (hl : lv_has ls nL lvs) (h1 : Cond.methodLink own index Lib.Math.min.name ∈ Ts) (h2 : Cond.static Lib.Math.min.name ∈ Ts) (h3 : Cond.initialized "java/lang/Math" ∈ Ts) (h4 : Cond.code Lib.Math.min.name Lib.Math.min.code 2 (some .int) ∈ Ts) (hR : 1 ≤ R.frames ∧ 21 ≤ R.locals ∧ cells ≤ R.cells ∧ slots ≤ R.slots) (hrest : (rest.map fun v => v.category).sum ≤ 8) {x y : Int32} (hdg : decode cc pc = .ok (.invokestatic index, 3))
    (kk : W p l e R s m args below meth c H locs cells slots Q (F0 m (pc + 3) ls (.int (if y < x then y else x) :: rest))) : W p l e R s m args below meth c H locs cells slots Q (F0 m pc ls (.int y :: .int x :: rest)) := by
  have hts := C.1.2.2.2.2
  exact va_mmin C.1.1 C.1.2.1 (by rw [C.1.2.2.1, hl.1]) C.1.2.2.2.1 (hts _ h1) (hts _ h2) (hts _ h3) (hts _ h4) hR.1 (by have := hR.2.1; omega) hR.2.2.1 hR.2.2.2 hdg kk
/-- a tableswitch that is met, and one that isn't -/
theorem g_tsw (C : cx g p m c cc nL s args Ts own) {dflt lo hi : Int} {offs : Array Int} {len : Nat} {x k : Int32} {off : Int} {tgt : Nat} (hx : x = k) (hdg : decode cc pc = .ok (.tableswitch dflt lo hi offs, len)) (hk : (decide (k.toInt < lo) || decide (hi < k.toInt)) = false) (ho : offs[(k.toInt - lo).toNat]? = some off) (ht : (pc : Int) + off = (tgt : Int))
    (kk : W p l e R s m args below meth c H locs cells slots Q (F0 m tgt ls rest)) : W p l e R s m args below meth c H locs cells slots Q (F0 m pc ls (.int x :: rest)) := by
  subst hx
  simp only [Bool.or_eq_false_iff, decide_eq_false_iff_not] at hk
  exact lv_tableIn C.1.1 C.1.2.1 hdg hk.1 hk.2 ho ht kk
def acb (sp dp w : Int32) (n n' : Nat) : Bool := !(decide (sp < 0) || decide (dp < 0) || decide (w < 0)) && Nat.ble (sp.toNatClampNeg + w.toNatClampNeg) n && Nat.ble (dp.toNatClampNeg + w.toNatClampNeg) n'
theorem g_acp (C : cx g p m c cc nL s args Ts own) (hW : wd g A H0 ch H locs) (hl : lv_has ls nL lvs) (h1 : Cond.methodLink own index arraycopyName ∈ Ts) (h2 : Cond.native arraycopyName ∈ Ts) (h3 : Cond.static arraycopyName ∈ Ts) (h4 : Cond.initialized "java/lang/System" ∈ Ts) (i j i' j' : Nat) {k k' : va_W} {a n b2 n' : Nat} {f f' : Nat → Int32} (hi : ch[i]? = some k) (hj : k[j]? = some (a, .inl (g.2.1, n, .inl f))) (hi' : ch[i']? = some k') (hj' : k'[j']? = some (b2, .inl (g.2.1, n', .inl f'))) {sp dp w : Int32} (hc : acb sp dp w n n' = true) (hR : 1 ≤ R.frames ∧ 8 + (nativeFrameWords "java/lang/System" "arraycopy" 5 + 11) ≤ R.locals) (hrest : (rest.map fun v => v.category).sum ≤ 8) (he : ch.set i' (k'.set j' (b2, .inl (g.2.1, n', .inl (va_cpy f f' sp.toNatClampNeg dp.toNatClampNeg w.toNatClampNeg)))) = ch') (hdg : decode cc pc = .ok (.invokestatic index, 3))
    (kk : ∀ (H1 : Heap) (locs1 : List Loc), wd g A H0 ch' H1 locs1 → W p l e R s m args below meth c H1 locs1 cells slots Q (F0 m (pc + 3) ls rest)) : W p l e R s m args below meth c H locs cells slots Q (F0 m pc ls (.int w :: .int dp :: .ref b2 :: .int sp :: .ref a :: rest)) := by
  obtain ⟨q, hq, -⟩ := fl_at ch i j k _ hi hj
  obtain ⟨q', hq', hset⟩ := fl_at ch i' j' k' _ hi' hj'
  unfold acb at hc
  simp only [Bool.and_eq_true, Bool.not_eq_true', Bool.or_eq_false_iff, decide_eq_false_iff_not] at hc
  have hts := C.1.2.2.2.2
  refine va_copyi C.1.1 C.1.2.1 (by rw [C.1.2.2.1, hl.1]) C.1.2.2.2.1 (hts _ h1) (hts _ h2) (hts _ h3) (hts _ h4) C.2.1 hW.1 hW.2.1 hW.2.2 q q' 0 0 hq hq' rfl rfl rfl hc.1.1.1.1 hc.1.1.1.2 hc.1.1.2 (Nat.le_of_ble_eq_true hc.1.2) (Nat.le_of_ble_eq_true hc.2) (fun _ _ => rfl) hR.1 (by have := hR.2; omega) hdg (fun H1 locs1 hP hD hS => ?_)
  rw [hset, he] at hP hD
  exact kk H1 locs1 ⟨hP, hD, hS⟩
/-- the ends -/
theorem g_iret {v : Int32} {r : Option Value} {ch1 : List va_W} (C : cx g p m c cc nL s args Ts own) (hr : meth.sig.returnType = some .int) (hk : meth.locks = false) (hW : wd g A s.heap ch H locs) (hv : r = some (.int v)) (hc : ch1 = ch) (hdg : decode cc pc = .ok (.ireturn, 1)) : W p l e R s m args below meth c H locs 0 0 (MQ below (ctQ g A r ch1) args s 0 0 A) (F0 m pc ls [.int v]) := by
  subst hv; subst hc
  exact W.iret C.1.1 C.1.2.1 hr (fun t ht hw => ⟨⟨rfl, by rw [ht]; exact hW.1, hW.2.1⟩, hW.2.2.F ht⟩) hW.2.2.2.2 hdg hk
theorem g_zret {v : Int32} {r : Option Value} {ch1 : List va_W} (C : cx g p m c cc nL s args Ts own) {ty : FieldType} (hr : meth.sig.returnType = some ty) (hk : meth.locks = false) (hW : wd g A s.heap ch H locs) (hn : narrow ty (.int v) = .int v) (hv : r = some (.int v)) (hc : ch1 = ch) (hdg : decode cc pc = .ok (.ireturn, 1)) : W p l e R s m args below meth c H locs 0 0 (MQ below (ctQ g A r ch1) args s 0 0 A) (F0 m pc ls [.int v]) := by
  subst hv; subst hc
  exact W.zret C.1.1 C.1.2.1 hr hn (fun t ht hw => ⟨⟨rfl, by rw [ht]; exact hW.1, hW.2.1⟩, hW.2.2.F ht⟩) hW.2.2.2.2 hdg hk
theorem g_vret {r : Option Value} {ch1 : List va_W} (C : cx g p m c cc nL s args Ts own) (hr : meth.sig.returnType = none) (hk : meth.locks = false) (hW : wd g A s.heap ch H locs) (hv : r = none) (hc : ch1 = ch) (hdg : decode cc pc = .ok (.return_, 1)) : W p l e R s m args below meth c H locs 0 0 (MQ below (ctQ g A r ch1) args s 0 0 A) (F0 m pc ls []) := by
  subst hv; subst hc
  exact W.vret C.1.1 C.1.2.1 hr (fun t ht hw => ⟨⟨rfl, by rw [ht]; exact hW.1, hW.2.1⟩, hW.2.2.F ht⟩) hW.2.2.2.2 hdg hk
theorem g_aret {v : Value} {r : Option Value} {ch1 : List va_W} (C : cx g p m c cc nL s args Ts own) {n : String} (hr : meth.sig.returnType = some (.object n)) (hk : meth.locks = false) (hW : wd g A s.heap ch H locs) (hvv : v = .null ∨ ∃ a, v = .ref a) (hv : r = some v) (hc : ch1 = ch) (hdg : decode cc pc = .ok (.areturn, 1)) : W p l e R s m args below meth c H locs 0 0 (MQ below (ctQ g A r ch1) args s 0 0 A) (F0 m pc ls [v]) := by
  subst hv; subst hc
  exact W.aret C.1.1 C.1.2.1 hr (Or.inl ⟨_, rfl⟩) hvv (fun t ht hw => ⟨⟨rfl, by rw [ht]; exact hW.1, hW.2.1⟩, hW.2.2.F ht⟩) hW.2.2.2.2 hdg hk
end GR
/-- checks and binds of the functions that the methods are -/
theorem gd_of {c : Prop} {i : Decidable c} {α : Type} {e : Option α} {r : α} (h : (@ite _ c i e none) = some r) : c ∧ e = some r := by
  by_cases hc : c
  · rw [if_pos hc] at h; exact ⟨hc, h⟩
  · rw [if_neg hc] at h; cases h
theorem bd_of {α β : Type} {x : Option α} {k : α → Option β} {r : β} (h : x.bind k = some r) : ∃ y, x = some y ∧ k y = some r := by
  cases x with
  | none => cases h
  | some y => exact ⟨y, rfl, h⟩
def ib (i : Int32) (n : Nat) : Bool := !(decide (i < 0) || Nat.ble n i.toNatClampNeg)
theorem ib_in {i : Int32} {n : Nat} (h : ib i n = true) : vp_in i n := by
  unfold ib at h
  unfold vp_in
  simp only [Bool.not_eq_true', Bool.or_eq_false_iff, decide_eq_false_iff_not] at h
  rintro (q | q)
  · exact h.1 q
  · rw [Nat.ble_eq_true_of_le q] at h
    exact absurd h.2 (by decide)
def zb (x : Int32) : Bool := decide (x = 0) || decide (x = 1)
theorem zb_nar {x : Int32} (h : zb x = true) : narrow .boolean (.int x) = .int x := by
  unfold zb at h
  simp only [Bool.or_eq_true, decide_eq_true_eq] at h
  rcases h with rfl | rfl <;> rfl
def cb (x : Int32) : Bool := !decide (x < 0) && decide (x ≤ 65535)
theorem cb_nar {x : Int32} (h : cb x = true) : narrow .char (.int x) = .int x := by
  unfold cb at h
  simp only [Bool.and_eq_true, Bool.not_eq_true', decide_eq_false_iff_not, decide_eq_true_eq] at h
  obtain ⟨j, hj, rfl⟩ := nI_of2 (n := 65535) (by decide) h.1 h.2
  exact (pk_charN (by omega)).1
