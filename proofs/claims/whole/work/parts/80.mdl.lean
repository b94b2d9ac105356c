/-! the model: its row of numbers, a block of it sent, gone blocks cleared -/
theorem qbn {ρ : Type} (N k e : Nat) (f : Int32 → Option ρ) : (fX8_ofBlock N (nI k) (nI e)).bind f = f (nI (67 + 10 * k + e)) := by
  rw [bk_8]
  rfl
theorem qb0 {ρ : Type} (N k : Nat) (f : Int32 → Option ρ) : (fX8_ofBlock N (nI k) (0 : Int32)).bind f = f (nI (67 + 10 * k + 0)) := qbn N k 0 f
theorem qb1 {ρ : Type} (N k : Nat) (f : Int32 → Option ρ) : (fX8_ofBlock N (nI k) (1 : Int32)).bind f = f (nI (67 + 10 * k + 1)) := qbn N k 1 f
theorem qb2 {ρ : Type} (N k : Nat) (f : Int32 → Option ρ) : (fX8_ofBlock N (nI k) (2 : Int32)).bind f = f (nI (67 + 10 * k + 2)) := qbn N k 2 f
theorem qb3 {ρ : Type} (N k : Nat) (f : Int32 → Option ρ) : (fX8_ofBlock N (nI k) (3 : Int32)).bind f = f (nI (67 + 10 * k + 3)) := qbn N k 3 f
theorem qb4 {ρ : Type} (N k c : Nat) (f : Int32 → Option ρ) : (fX8_ofBlock N (nI k) ((4 : Int32) + nI c)).bind f = f (nI (67 + 10 * k + (4 + c))) := by
  rw [show (4 : Int32) + nI c = nI (4 + c) from nI_add 4 c]
  exact qbn N k (4 + c) f
theorem qtn {ρ : Type} (N k e : Nat) (f : Int32 → Option ρ) : (fX8_ofTerminal N (nI k) (nI e)).bind f = f (nI (4 + 13 * k + e)) := by
  rw [tm_8]
  rfl
theorem qt0 {ρ : Type} (N k : Nat) (f : Int32 → Option ρ) : (fX8_ofTerminal N (nI k) (0 : Int32)).bind f = f (nI (4 + 13 * k + 0)) := qtn N k 0 f
theorem qt1 {ρ : Type} (N k : Nat) (f : Int32 → Option ρ) : (fX8_ofTerminal N (nI k) (1 : Int32)).bind f = f (nI (4 + 13 * k + 1)) := qtn N k 1 f
theorem qt2 {ρ : Type} (N k : Nat) (f : Int32 → Option ρ) : (fX8_ofTerminal N (nI k) (2 : Int32)).bind f = f (nI (4 + 13 * k + 2)) := qtn N k 2 f
theorem qt3 {ρ : Type} (N k : Nat) (f : Int32 → Option ρ) : (fX8_ofTerminal N (nI k) (3 : Int32)).bind f = f (nI (4 + 13 * k + 3)) := qtn N k 3 f
theorem qt4 {ρ : Type} (N k : Nat) (f : Int32 → Option ρ) : (fX8_ofTerminal N (nI k) (4 : Int32)).bind f = f (nI (4 + 13 * k + 4)) := qtn N k 4 f
theorem qt5 {ρ : Type} (N k : Nat) (f : Int32 → Option ρ) : (fX8_ofTerminal N (nI k) (5 : Int32)).bind f = f (nI (4 + 13 * k + 5)) := qtn N k 5 f
theorem qcn {ρ : Type} (N k e : Nat) (f : Int32 → Option ρ) : (fX8_ofClass N (nI k) (nI e)).bind f = f (nI (43 + 4 * k + e)) := by
  rw [cl_8]
  rfl
theorem qc0 {ρ : Type} (N k : Nat) (f : Int32 → Option ρ) : (fX8_ofClass N (nI k) (0 : Int32)).bind f = f (nI (43 + 4 * k + 0)) := qcn N k 0 f
theorem qc1 {ρ : Type} (N k : Nat) (f : Int32 → Option ρ) : (fX8_ofClass N (nI k) (1 : Int32)).bind f = f (nI (43 + 4 * k + 1)) := qcn N k 1 f
theorem qc2 {ρ : Type} (N k : Nat) (f : Int32 → Option ρ) : (fX8_ofClass N (nI k) (2 : Int32)).bind f = f (nI (43 + 4 * k + 2)) := qcn N k 2 f
theorem qc3 {ρ : Type} (N k : Nat) (f : Int32 → Option ρ) : (fX8_ofClass N (nI k) (3 : Int32)).bind f = f (nI (43 + 4 * k + 3)) := qcn N k 3 f
theorem qls {ρ : Type} (N : Nat) {a b : Nat} (ha : a < 2 ^ 31) (hb : b < 2 ^ 31) (f : Int32 → Option ρ) : (fX8_less N (nI a) (nI b)).bind f = f (nI (min a b)) := by
  rw [ls_8 N ha hb]
  rfl
/-- a loop whose rest is not known yet -/
theorem lp_all {α ρ κ : Type} (L : κ → Nat → Nat → α → Option ρ) (X : κ → α → Option ρ) (e : Nat) (P : Nat → α → Prop) (hx : ∀ K n a, P e a → L K (n + 1) e a = X K a) (hs : ∀ n i a, i < e → P i a → ∃ a', P (i + 1) a' ∧ ∀ K, L K (n + 1) i a = L K n (i + 1) a') : ∀ (d n i : Nat) (a : α), i + d = e → d < n → P i a → ∃ a', P e a' ∧ ∀ K, L K n i a = X K a'
  | 0, n, i, a, hi, hn, hp => by
    obtain ⟨n, rfl⟩ : ∃ m, n = m + 1 := ⟨n - 1, by omega⟩
    have h : i = e := by omega
    subst h
    exact ⟨a, hp, fun K => hx K n a hp⟩
  | d + 1, n, i, a, hi, hn, hp => by
    obtain ⟨n, rfl⟩ : ∃ m, n = m + 1 := ⟨n - 1, by omega⟩
    obtain ⟨a1, h1, h2⟩ := hs n i a (by omega) hp
    obtain ⟨a', h3, h4⟩ := lp_all L X e P hx hs d n (i + 1) a1 (by omega) (by omega) h1
    exact ⟨a', h3, fun K => (h2 K).trans (h4 K)⟩
/-- a block in the model's row -/
def bkM (s : Nat → Int32) (k : Nat) (x : BL) : Prop := s (67 + 10 * k) = nI x.1 ∧ s (67 + 10 * k + 1) = dueI x.2.1 ∧ s (67 + 10 * k + 2) = nI x.2.2.1 ∧ s (67 + 10 * k + 3) = repI x.2.2.2.1 ∧ ∀ c, c < 6 → s (67 + 10 * k + (4 + c)) = nI (x.2.2.2.2 c)
theorem blM_at {s : Nat → Int32} {l : List BL} {k : Nat} (h : blM s l) (hk : k < l.length) : bkM s k (bAt l k) := h.2.2 k _ (bAt_some hk)
theorem bkM_c {s s' : Nat → Int32} {k : Nat} {x : BL} (h : bkM s k x) (hs : ∀ j, 67 + 10 * k ≤ j → j < 67 + 10 * k + 10 → s' j = s j) : bkM s' k x := by
  obtain ⟨h1, h2, h3, h4, h5⟩ := h
  exact ⟨by rw [hs _ (by omega) (by omega)]; exact h1, by rw [hs _ (by omega) (by omega)]; exact h2, by rw [hs _ (by omega) (by omega)]; exact h3, by rw [hs _ (by omega) (by omega)]; exact h4, fun c hc => by rw [hs _ (by omega) (by omega)]; exact h5 c hc⟩
theorem blM_put {s s' : Nat → Int32} {l : List BL} {k : Nat} {x : BL} (h : blM s l) (hk : k < l.length) (h3 : s' 3 = s 3) (ho : ∀ j, 67 ≤ j → (j < 67 + 10 * k ∨ 67 + 10 * k + 10 ≤ j) → s' j = s j) (hn : bkM s' k x) : blM s' (l.set k x) := by
  refine ⟨by rw [List.length_set]; exact h.1, by rw [List.length_set, h3]; exact h.2.1, fun j y hj => ?_⟩
  rw [List.getElem?_set] at hj
  by_cases e : k = j
  · subst e
    rw [if_pos rfl, if_pos hk] at hj
    cases hj
    exact hn
  · rw [if_neg e] at hj
    exact bkM_c (h.2.2 j y hj) (fun i h1 h2 => ho i (by omega) (by omega))
theorem au_comm {r : RW} {k i x q j y : Nat} (h : k ≠ q) : au (au r k i x) q j y = au (au r q j y) k i x := by
  funext a b
  by_cases h1 : a = q ∧ b = j
  · rw [h1.1, h1.2, au_eq, au_ne (Or.inl (Ne.symm h)), au_eq]
  · by_cases h2 : a = k ∧ b = i
    · rw [h2.1, h2.2, au_ne (Or.inl h), au_eq, au_eq]
    · rw [au_ne (by omega), au_ne (by omega), au_ne (by omega), au_ne (by omega)]
theorem au_ar {r : RW} {k q j x : Nat} {f : Nat → Nat} (h : k ≠ q) : au (ar r k f) q j x = ar (au r q j x) k f := by
  funext a b
  by_cases h1 : a = k
  · subst h1
    rw [au_ne (Or.inl h), ar_eq, ar_eq]
  · by_cases h2 : a = q ∧ b = j
    · rw [h2.1, h2.2, au_eq, ar_ne (Ne.symm h), au_eq]
    · rw [au_ne (by omega), ar_ne h1, ar_ne h1, au_ne (by omega)]
theorem smN_add (f g : Nat → Nat) : ∀ n : Nat, smN (fun i => f i + g i) n = smN f n + smN g n
  | 0 => rfl
  | n + 1 => by
    show smN (fun i => f i + g i) n + (f n + g n) = smN f n + f n + (smN g n + g n)
    rw [smN_add f g n]
    omega
theorem thr_row {r r' : RW} (h : r' 11 = r 11) : aThr r' = aThr r := by
  unfold aThr
  rw [h]
theorem rwM_row {s s' : Nat → Int32} {r : RW} (h : rwM s r) {q : Nat} (hq : q < 4) {g : Nat → Nat} (hs : ∀ j, (∀ c, c < 6 → j ≠ 43 + 4 * c + q) → j < 67 → j ≠ 3 → s' j = s j) (hg : ∀ c, c < 6 → s' (43 + 4 * c + q) = nI (g c)) : rwM s' (ar r (9 + q) g) := by
  obtain ⟨h0, h1, h2, h3, h4, h5⟩ := h
  refine ⟨?_, ?_, ?_, fun k t hk ht => ?_, fun k c hk hc => ?_, fun t j ht hj => ?_⟩
  · rw [hs 0 (fun c hc => by omega) (by omega) (by omega), ar_ne (by omega)]; exact h0
  · rw [hs 1 (fun c hc => by omega) (by omega) (by omega), ar_ne (by omega)]; exact h1
  · rw [hs 2 (fun c hc => by omega) (by omega) (by omega), ar_ne (by omega)]; exact h2
  · rw [hs _ (fun c hc => by omega) (by omega) (by omega), ar_ne (by omega)]; exact h3 k t hk ht
  · by_cases e : k = q
    · subst e
      rw [ar_at]
      exact hg c hc
    · rw [hs _ (fun c' hc' => by omega) (by omega) (by omega), ar_ne (by omega)]; exact h4 k c hk hc
  · rw [hs _ (fun c hc => by omega) (by omega) (by omega), ar_ne (by omega)]; exact h5 t j ht hj
theorem lin_8 {u : MM} {C k : Nat} {lt : Nat → Nat} (hC : C ≤ 6) (h2 : u 2 0 = nI C) (hk : k < 60) (h : ∀ c, c < 6 → u 16 (67 + 10 * k + (4 + c)) = nI (lt c)) {N : Nat} (hN : 100 < N) : fX8_lettersIn N (nI k) u = some (nI (aTot C lt)) := by
  unfold fX8_lettersIn
  exact lp_sum (fun n acc i => fX8_lettersIn_L4 N (fun (x : Int32) (_ : Int32) => some x) (nI k) u n acc i) (fun acc _ => some acc) C lt
    (fun n acc => by
      show fX8_lettersIn_L4 N _ (nI k) u (n + 1) acc (nI C) = _
      rw [fX8_lettersIn_L4, h2, if_pos (nI_le (Nat.le_refl _) (by omega))])
    (fun n i acc hi => by
      show fX8_lettersIn_L4 N _ (nI k) u (n + 1) acc (nI i) = _
      rw [fX8_lettersIn_L4, h2, if_neg (nI_ge hi (by omega)), qb4, if_pos (ib_n (by omega) (by omega)), nI_clamp (by omega), h i (by omega), nI_1]) (by omega)
theorem inb_8 {u : MM} {C k rp : Nat} {lt : Nat → Nat} (hC : C ≤ 6) (h2 : u 2 0 = nI C) (hk : k < 60) (h : ∀ c, c < 6 → u 16 (67 + 10 * k + (4 + c)) = nI (lt c)) (h3 : u 16 (67 + 10 * k + 3) = repI rp) (hr : rp < 2 ^ 31) {N : Nat} (hN : 100 < N) : fX8_inBlock N (nI k) u = some (nI (aTot C lt + (if rp = 0 then 0 else 2))) := by
  unfold fX8_inBlock
  rw [lin_8 hC h2 hk h hN, Option.bind_some, qb3, if_pos (ib_n (by omega) (by omega)), nI_clamp (by omega), h3]
  by_cases e : rp = 0
  · subst e
    rw [if_pos (show repI 0 = (-9 : Int32) from rfl), if_pos rfl, show (0 : Int32) = nI 0 from rfl, nI_add]
  · rw [if_neg (show ¬ repI rp = (-9 : Int32) from fun q => e ((rep_none hr).mp q)), if_neg e, show (2 : Int32) = nI 2 from rfl, nI_add]
theorem adl_8 {u : MM} {C k q : Nat} {x3 : Int32} {lt g : Nat → Nat} (hC : C ≤ 6) (h2 : u 2 0 = nI C) (hk : k < 60) (h : ∀ c, c < 6 → u 16 (67 + 10 * k + (4 + c)) = nI (lt c)) (hz : ∀ c, C ≤ c → lt c = 0) (hq : (x3 = (1 : Int32) ∧ q = 2) ∨ (x3 = (0 : Int32) ∧ q = 3)) (hg : ∀ c, c < 6 → u 16 (43 + 4 * c + q) = nI (g c)) (x2 : Int32) {N : Nat} (hN : 100 < N) : ∃ v, (∀ K, fX8_sends_L91 N K (nI k) x2 x3 N (0 : Int32) u = K (nI C) v) ∧ (∀ j, j ≠ 16 → v j = u j) ∧ (∀ c, c < 6 → v 16 (43 + 4 * c + q) = nI (g c + lt c)) ∧ ∀ j, (∀ c, c < 6 → j ≠ 43 + 4 * c + q) → v 16 j = u 16 j := by
  obtain ⟨v, ⟨p1, p2, p3⟩, e⟩ := lp_all (fun K n i (v : MM) => fX8_sends_L91 N K (nI k) x2 x3 n (nI i) v) (fun K v => K (nI C) v) C (fun i v => (∀ j, j ≠ 16 → v j = u j) ∧ (∀ c, c < i → v 16 (43 + 4 * c + q) = nI (g c + lt c)) ∧ ∀ j, (∀ c, c < i → j ≠ 43 + 4 * c + q) → v 16 j = u 16 j)
    (fun K n v hv => by
      have a3 : v 2 0 = nI C := by rw [hv.1 2 (by omega)]; exact h2
      show fX8_sends_L91 N K (nI k) x2 x3 (n + 1) (nI C) v = _
      rw [fX8_sends_L91, a3, if_pos (nI_le (Nat.le_refl _) (by omega))])
    (fun n i v hi hv => by
      obtain ⟨v1, v2, v3⟩ := hv
      have a3 : v 2 0 = nI C := by rw [v1 2 (by omega)]; exact h2
      have a2 : v 16 (67 + 10 * k + (4 + i)) = nI (lt i) := by
        rw [v3 _ (fun c hc => by omega)]
        exact h i (by omega)
      have a1 : v 16 (43 + 4 * i + q) = nI (g i) := by
        rw [v3 _ (fun c hc => by omega)]
        exact hg i (by omega)
      refine ⟨st v 16 (upd (v 16) (43 + 4 * i + q) (nI (g i + lt i))), ⟨fun j hj => ?_, fun c hc => ?_, fun j hj => ?_⟩, fun K => ?_⟩
      · rw [st_ne (Ne.symm hj)]
        exact v1 j hj
      · rw [st_eq]
        by_cases e : c = i
        · rw [e, upd_eq]
        · rw [upd_ne (by omega)]
          exact v2 c (by omega)
      · rw [st_eq, upd_ne (hj i (by omega))]
        exact v3 j (fun c hc => hj c (by omega))
      · show fX8_sends_L91 N K (nI k) x2 x3 (n + 1) (nI i) v = _
        rcases hq with ⟨rfl, rfl⟩ | ⟨rfl, rfl⟩
        · rw [fX8_sends_L91, a3, if_neg (nI_ge hi (by omega)), if_neg (show ¬ (1 : Int32) = 0 by decide), qc2, if_pos (ib_n (by omega) (by omega)), qb4, if_pos (ib_n (by omega) (by omega)), if_pos (ib_n (by omega) (by omega)), nI_clamp (n := 43 + 4 * i + 2) (by omega), nI_clamp (n := 67 + 10 * k + (4 + i)) (by omega), a1, a2, nI_add, nI_1]
        · rw [fX8_sends_L91, a3, if_neg (nI_ge hi (by omega)), if_pos rfl, qc3, if_pos (ib_n (by omega) (by omega)), qb4, if_pos (ib_n (by omega) (by omega)), if_pos (ib_n (by omega) (by omega)), nI_clamp (n := 43 + 4 * i + 3) (by omega), nI_clamp (n := 67 + 10 * k + (4 + i)) (by omega), a1, a2, nI_add, nI_1]) C N 0 u (by omega) (by omega) ⟨fun _ _ => rfl, fun c hc => absurd hc (by omega), fun _ _ => rfl⟩
  refine ⟨v, e, p1, fun c hc => ?_, fun j hj => p3 j (fun c hc => hj c (by omega))⟩
  by_cases e : c < C
  · exact p2 c e
  · rw [p3 _ (fun c' hc' => by omega), hg c hc, hz c (by omega), Nat.add_zero]
/-- the model between two places of a step -/
def sgM (u0 : MM) (D : Int32) (v : MM) (r : RW) (l : List BL) : Prop := rwM (v 16) r ∧ blM (v 16) l ∧ (∀ j, j ≠ 16 → j ≠ 31 → v j = u0 j) ∧ v 31 0 = D + nI (aThr r)
theorem sub_le0 {a b : Nat} (hb : b < 2 ^ 30) (h : a ≤ b) : nI a - nI b ≤ (0 : Int32) := by
  rw [Int32.le_iff_toInt_le, pk_sub_toInt (by omega) hb, Int32.toInt_zero]
  omega
theorem sends_8 {u0 u : MM} {D : Int32} {S r : RW} {l : List BL} {k : Nat} {x : BL} (hS : suR S) (hM : suM u0 S) (hg : sgM u0 D u r l) (h0 : r 0 0 ≤ 400) (h6 : ∀ t, t < 3 → r 6 t ≤ 6000) (hk : k < l.length) (hx : x = bAt l k) (ho : okS S x) {N : Nat} (hN : 100 < N) : ∃ v, fX8_sends N (nI k) u = some v ∧ sgM u0 D v (aSendR S r x) (l.set k (aSendB S r x)) := by
  have hT3 := hS.1
  have hC6 := hS.2.1
  obtain ⟨g1, g2, g3, g4⟩ := hg
  have h60 : k < 60 := by have := g2.1; omega
  obtain ⟨o1, o2, o3, o4, o5⟩ := ho
  obtain ⟨b1, b2, b3, b4, b5⟩ : bkM (u 16) k x := hx ▸ blM_at g2 hk
  have b1' : u 16 (67 + 10 * k + 0) = nI x.1 := b1
  have ht3 : x.1 < 3 := by omega
  have t0 := g1.1
  have htot := tot_6 hC6 o4
  obtain ⟨B, hB⟩ : ∃ B, B = upd (u 16) (67 + 10 * k + 2) (nI (x.2.2.1 + 1)) := ⟨_, rfl⟩
  have Bo : ∀ j, j ≠ 67 + 10 * k + 2 → B j = u 16 j := fun j hj => by rw [hB, upd_ne hj]
  have B2 : B (67 + 10 * k + 2) = nI (x.2.2.1 + 1) := by rw [hB, upd_eq]
  obtain ⟨U, hU⟩ : ∃ U, U = st u 16 B := ⟨_, rfl⟩
  have U16 : U 16 = B := by rw [hU, st_eq]
  have Uo : ∀ j, j ≠ 16 → U j = u j := fun j hj => by rw [hU, st_ne (Ne.symm hj)]
  have hBr : rwM (U 16) r := by rw [U16]; exact rwM_b g1 (fun j h1 h2 => Bo j (by omega))
  have hdf := deaf_8 hBr N ht3 (show r 0 0 < 2 ^ 30 by omega)
  have c2 : U 2 0 = nI (S 1 0) := by rw [Uo 2 (by omega), g3 2 (by omega) (by omega)]; exact hM.2.1
  have c4 : u 4 0 = nI (S 4 0) := by rw [g3 4 (by omega) (by omega)]; exact hM.2.2.2.1
  have c5 : u 5 0 = nI (S 5 0) := by rw [g3 5 (by omega) (by omega)]; exact hM.2.2.2.2.1
  have b5' : ∀ c, c < 6 → U 16 (67 + 10 * k + (4 + c)) = nI (x.2.2.2.2 c) := fun c hc => by rw [U16, Bo _ (by omega)]; exact b5 c hc
  have fin : ∀ (v : MM) (r' : RW) (d : Nat), v 16 3 = u 16 3 → (∀ j, 67 ≤ j → (j < 67 + 10 * k ∨ 67 + 10 * k + 10 ≤ j) → v 16 j = u 16 j) → (∀ j, 67 + 10 * k ≤ j → j < 67 + 10 * k + 10 → j ≠ 67 + 10 * k + 1 → v 16 j = B j) → v 16 (67 + 10 * k + 1) = dueI d → rwM (v 16) r' → (∀ j, j ≠ 16 → j ≠ 31 → v j = u j) → v 31 0 = D + nI (aThr r') → sgM u0 D v r' (l.set k (x.1, d, x.2.2.1 + 1, x.2.2.2)) := by
    intro v r' d f3 fo fk fd fr fz ft
    refine ⟨fr, blM_put g2 hk f3 fo ⟨?_, fd, ?_, ?_, fun c hc => ?_⟩, fun j h1 h2 => (fz j h1 h2).trans (g3 j h1 h2), ft⟩
    · rw [fk _ (by omega) (by omega) (by omega), Bo _ (by omega)]; exact b1
    · rw [fk _ (by omega) (by omega) (by omega)]; exact B2
    · rw [fk _ (by omega) (by omega) (by omega), Bo _ (by omega)]; exact b4
    · rw [fk _ (by omega) (by omega) (by omega), Bo _ (by omega)]; exact b5 c hc
  unfold fX8_sends
  rw [qb0, if_pos (ib_n (by omega) (by omega)), qb2, if_pos (ib_n (by omega) (by omega)), if_pos (ib_n (by omega) (by omega)), if_pos (show ib (0 : Int32) 667 = true by decide), nI_clamp (n := 67 + 10 * k + 0) (by omega), nI_clamp (n := 67 + 10 * k + 2) (by omega), b1', b3, nI_1, ← hB, ← hU, show Int32.toNatClampNeg (0 : Int32) = 0 by decide, Bo 0 (by omega), t0, hdf, Option.bind_some]
  unfold aSendR aSendB
  by_cases hd : r 0 0 ≤ 199 ∧ r (20 + x.1) (r 0 0) = 1
  · rw [if_pos hd, if_neg (show ¬ (1 : Int32) = 0 by decide), if_pos hd, if_pos hd, qb2, if_pos (ib_n (by omega) (by omega)), nI_clamp (by omega), B2, c5]
    by_cases ht : S 5 0 ≤ x.2.2.1 + 1
    · rw [if_pos (nI_le ht (by omega)), if_pos ht, if_pos ht]
      obtain ⟨v, v1, v2, v3, v4⟩ := adl_8 (u := U) (C := S 1 0) (k := k) (q := 3) (x3 := (0 : Int32)) (lt := x.2.2.2.2) (g := r 12) hC6 c2 h60 b5' o4 (Or.inr ⟨rfl, rfl⟩) (fun c hc => by rw [U16, Bo _ (by omega)]; exact g1.2.2.2.2.1 3 c (by omega) hc) (nI x.1) hN
      rw [v1]
      have w2 : v 2 0 = nI (S 1 0) := by rw [v2 2 (by omega)]; exact c2
      have wl := lin_8 (u := v) (lt := x.2.2.2.2) hC6 w2 h60 (fun c hc => by rw [v4 _ (fun c' hc' => by omega)]; exact b5' c hc) hN
      refine ⟨st v 16 (upd (upd (v 16) (4 + 13 * x.1 + 0) (nI 1)) (67 + 10 * k + 1) nM1), ?_, fin _ _ 0 ?_ (fun j h1 h2 => ?_) (fun j h1 h2 h3 => ?_) ?_ ?_ (fun j h1 h2 => ?_) ?_⟩
      · rw [qt3, if_pos (ib_n (by omega) (by omega)), wl, Option.bind_some, qt0, if_pos (ib_n (by omega) (by omega)), qb1, if_pos (ib_n (by omega) (by omega)), nI_clamp (n := 4 + 13 * x.1 + 0) (by omega), nI_clamp (n := 67 + 10 * k + 1) (by omega), st_st]
        rfl
      · rw [st_eq, upd_ne (by omega), upd_ne (by omega), v4 _ (fun c hc => by omega), U16, Bo _ (by omega)]
      · rw [st_eq, upd_ne (by omega), upd_ne (by omega), v4 _ (fun c hc => by omega), U16, Bo _ (by omega)]
      · rw [st_eq, upd_ne h3, upd_ne (by omega), v4 _ (fun c hc => by omega), U16]
      · rw [st_eq, upd_eq]
        rfl
      · have e1 : rwM (v 16) (ar r (9 + 3) (fun c => r 12 c + x.2.2.2.2 c)) := rwM_row hBr (by omega) (fun j h1 h2 h3 => v4 j h1) v3
        have e2 := rwM_1 (k := 0) (t := x.1) (x := 1) e1 (by omega) ht3
        rw [st_eq]
        unfold aLose
        rw [← au_ar (show 12 ≠ 3 by omega)]
        exact rwM_b e2 (fun j h1 h2 => by rw [upd_ne (by omega)])
      · rw [st_ne (Ne.symm h1), v2 j h1, Uo j h1]
      · rw [st_ne (by omega), v2 31 (by omega), Uo 31 (by omega), g4]
        exact congrArg (fun n => D + nI n) (thr_row (by unfold aLose; rw [ar_ne (by omega), au_row (by omega)])).symm
    · rw [if_neg (nI_ge (by omega) (by have := hS.2.2.2.2.1; omega)), if_neg ht, if_neg ht]
      refine ⟨st U 16 (upd B (67 + 10 * k + 1) (nI (r 0 0 + S 4 0))), ?_, fin _ _ (r 0 0 + S 4 0 + 1) ?_ (fun j h1 h2 => ?_) (fun j h1 h2 h3 => ?_) ?_ ?_ (fun j h1 h2 => ?_) ?_⟩
      · rw [qb1, if_pos (show ib (0 : Int32) 667 = true by decide), if_pos (ib_n (by omega) (by omega)), nI_clamp (by omega), c4, nI_add]
      · rw [st_eq, upd_ne (by omega), Bo _ (by omega)]
      · rw [st_eq, upd_ne (by omega), Bo _ (by omega)]
      · rw [st_eq, upd_ne h3]
      · rw [st_eq, upd_eq]
        rfl
      · rw [st_eq, ← U16]
        exact rwM_b hBr (fun j h1 h2 => by rw [upd_ne (by omega)])
      · rw [st_ne (Ne.symm h1), Uo j h1]
      · rw [st_ne (by omega), Uo 31 (by omega), g4]
  · rw [if_neg hd, if_pos rfl, if_neg hd, if_neg hd]
    obtain ⟨v, v1, v2, v3, v4⟩ := adl_8 (u := U) (C := S 1 0) (k := k) (q := 2) (x3 := (1 : Int32)) (lt := x.2.2.2.2) (g := r 11) hC6 c2 h60 b5' o4 (Or.inl ⟨rfl, rfl⟩) (fun c hc => by rw [U16, Bo _ (by omega)]; exact g1.2.2.2.2.1 2 c (by omega) hc) (nI x.1) hN
    rw [v1]
    have w2 : v 2 0 = nI (S 1 0) := by rw [v2 2 (by omega)]; exact c2
    have wl := lin_8 (u := v) (lt := x.2.2.2.2) hC6 w2 h60 (fun c hc => by rw [v4 _ (fun c' hc' => by omega)]; exact b5' c hc) hN
    have w6 : v 16 (4 + 13 * x.1 + 3) = nI (r 6 x.1) := by rw [v4 _ (fun c hc => by omega)]; exact hBr.2.2.2.1 3 x.1 (by omega) ht3
    have w3 : v 16 (67 + 10 * k + 3) = repI x.2.2.2.1 := by rw [v4 _ (fun c hc => by omega), U16, Bo _ (by omega)]; exact b4
    have h6x := h6 x.1 ht3
    have e1 : rwM (v 16) (ar r (9 + 2) (fun c => r 11 c + x.2.2.2.2 c)) := rwM_row hBr (by omega) (fun j h1 h2 h3 => v4 j h1) v3
    have hres : ∀ y : Nat, y = (if x.2.2.2.1 = 0 then r 6 x.1 - aTot (S 1 0) x.2.2.2.2 else x.2.2.2.1 - 1) → sgM u0 D (st (st v 31 (fun _ => v 31 0 + nI (aTot (S 1 0) x.2.2.2.2))) 16 (upd (upd (v 16) (4 + 13 * x.1 + 3) (nI y)) (67 + 10 * k + 1) nM1)) (aHear S r x) (l.set k (x.1, 0, x.2.2.1 + 1, x.2.2.2)) := by
      intro y hy
      refine fin _ _ 0 ?_ (fun j h1 h2 => ?_) (fun j h1 h2 h3 => ?_) ?_ ?_ (fun j h1 h2 => ?_) ?_
      · rw [st_eq, upd_ne (by omega), upd_ne (by omega), v4 _ (fun c hc => by omega), U16, Bo _ (by omega)]
      · rw [st_eq, upd_ne (by omega), upd_ne (by omega), v4 _ (fun c hc => by omega), U16, Bo _ (by omega)]
      · rw [st_eq, upd_ne h3, upd_ne (by omega), v4 _ (fun c hc => by omega), U16]
      · rw [st_eq, upd_eq]
        rfl
      · have e2 := rwM_1 (k := 3) (t := x.1) (x := y) e1 (by omega) ht3
        rw [st_eq]
        unfold aHear
        rw [← au_ar (show 11 ≠ 6 by omega), ← hy]
        exact rwM_b e2 (fun j h1 h2 => by rw [upd_ne (by omega)])
      · rw [st_ne (Ne.symm h1), st_ne (Ne.symm h2), v2 j h1, Uo j h1]
      · rw [st_ne (by omega), st_eq, v2 31 (by omega), Uo 31 (by omega), g4, Int32.add_assoc, nI_add]
        refine congrArg (fun n => D + nI n) ?_
        show aThr r + _ = smN (fun c => r 11 c + x.2.2.2.2 c) 6
        rw [smN_add, htot]
        rfl
    rw [qt3, if_pos (ib_n (by omega) (by omega)), wl, Option.bind_some, Option.bind_some, qt3, qb3, if_pos (ib_n (by omega) (by omega)), nI_clamp (n := 67 + 10 * k + 3) (by omega), w3]
    by_cases e : x.2.2.2.1 = 0
    · rw [if_pos (show repI x.2.2.2.1 = (-9 : Int32) by rw [e]; rfl), nI_clamp (n := 4 + 13 * x.1 + 3) (by omega), w6]
      by_cases e2 : r 6 x.1 ≤ aTot (S 1 0) x.2.2.2.2
      · rw [if_pos (sub_le0 (by omega) e2), if_pos (ib_n (by omega) (by omega)), qb1, if_pos (ib_n (by omega) (by omega)), nI_clamp (by omega), st_st]
        exact ⟨_, rfl, hres 0 (by rw [if_pos e]; omega)⟩
      · rw [if_neg (show ¬ nI (r 6 x.1) - nI (aTot (S 1 0) x.2.2.2.2) ≤ (0 : Int32) by rw [pk_sub (by omega)]; exact nI_nle (by omega) (by omega)), if_pos (ib_n (by omega) (by omega)), qb1, if_pos (ib_n (by omega) (by omega)), nI_clamp (by omega), st_st, pk_sub (by omega)]
        exact ⟨_, rfl, hres _ (by rw [if_pos e])⟩
    · rw [if_neg (show ¬ repI x.2.2.2.1 = (-9 : Int32) from fun q => e ((rep_none (by omega)).mp q)), qb3, if_pos (ib_n (by omega) (by omega)), if_pos (ib_n (by omega) (by omega)), qb1, if_pos (ib_n (by omega) (by omega)), nI_clamp (n := 67 + 10 * k + 3) (by omega), nI_clamp (n := 4 + 13 * x.1 + 3) (by omega), nI_clamp (n := 67 + 10 * k + 1) (by omega), st_st, w3, rep_s e]
      exact ⟨_, rfl, hres _ (by rw [if_neg e])⟩
