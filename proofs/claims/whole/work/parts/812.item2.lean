/-! an item of the text, on both sides -/
/-- the class's way with an item whose first token is read -/
def clItem (N : Nat) (a d : MM) : Option (Int32 × MM × MM) := if a 4 0 = (98 : Int32) then fX6_readBan N a d else if a 4 0 = (99 : Int32) then fX6_readClass N a d else if a 4 0 = (114 : Int32) then fX6_readBackAndTries N a d else if a 4 0 = (115 : Int32) then fX6_readRoom N a d else if a 4 0 = (116 : Int32) then fX6_readTerminal N a d else some ((0 : Int32), a, d)
/-- what comes of an item: it fails, or it holds -/
def itF (n : Nat) (A : Option (Int32 × MM × MM)) (U : Option (Int32 × MM)) (a u : MM) : Prop := ∃ (q : Nat) (y : Int32 × MM × MM) (z : Int32 × MM), q ≤ n ∧ A = some y ∧ U = some z ∧ y.1 = 0 ∧ z.1 = 0 ∧ y.2.1 3 0 = nI q ∧ z.2 28 0 = nI q ∧ frC y.2.1 a ∧ frM z.2 u
def itY (n p : Nat) (A : Option (Int32 × MM × MM)) (U : Option (Int32 × MM)) (a u : MM) : Prop := ∃ (p' : Nat) (y : Int32 × MM × MM) (z : Int32 × MM) (S' : RW), p ≤ p' ∧ p' ≤ n ∧ A = some y ∧ U = some z ∧ y.1 = 1 ∧ z.1 = 1 ∧ y.2.1 2 0 = nI p' ∧ z.2 27 0 = nI p' ∧ drC y.2.2 S' ∧ drM z.2 S' ∧ drR S' ∧ frC y.2.1 a ∧ frM z.2 u
theorem frC_t {a b c : MM} (h : frC a b) (g : frC b c) : frC a c := fun k k1 k2 k3 k4 => (h k k1 k2 k3 k4).trans (g k k1 k2 k3 k4)
theorem frM_t {a b c : MM} (h : frM a b) (g : frM b c) : frM a c := fun k hk => (h k hk).trans (g k hk)
theorem frM_of {u' u : MM} (h : ∀ k, k ≠ 27 → k ≠ 28 → k ≠ 29 → k ≠ 30 → u' k = u k) : frM u' u := fun k hk => h k (by omega) (by omega) (by omega) (by omega)
theorem one_sim {n p lo hb : Nat} {w : Nat → Nat} {a d u : MM} {S : RW} {hi : Int32} {k : Nat} (hC : txC n w a) (hM : txM n w u) (ha2 : a 2 0 = nI p) (hu : u 27 0 = nI p) (hp : p ≤ n) (dC : drC d S) (dM : drM u S) (dR : drR S) (hlo : lo ≤ 1) (hhb : hb ≤ 100) (hhi : hi = nI hb - (1 : Int32)) (hk : 2 ≤ k ∧ k ≤ 5) (k2 : k = 2 → hb ≤ 61) (k3 : k = 3 → hb ≤ 10) (k4 : k = 4 → lo = 1 ∧ hb ≤ 7) (k5 : k = 5 → lo = 1 ∧ hb ≤ 5) {N : Nat} (hN : 200 < N) {A : Option (Int32 × MM × MM)} {U : Option (Int32 × MM)} (hA : A = (fX6_readNumber N (nI lo) hi a).bind (fun y1 => (if y1.1 = 0 then some ((0 : Int32), y1.2, d) else some ((1 : Int32), y1.2, (st d k (fun _ => (y1.2 5 0))))))) (hU : U = (fX8_reads N (nI lo) hi u).bind (fun y1 => (if zb y1.1 = true then some (y1.1, (st y1.2 (8 + k) (fun _ => (y1.2 30 0)))) else none))) : itF n A U a u ∨ itY n p A U a u := by
  have hle := tk_le hp (fun j hj => (hC.2.2 j hj).1)
  obtain ⟨y, y1, y2, y3, y4, y5, y6⟩ := rn_7 hC hp ha2 hlo hhb hhi hN
  obtain ⟨z, z1, zb', z2, z3, z4, z5, z6⟩ := rd_8 hM hp hu hlo hhb hhi hN
  rw [y1, Option.bind_some] at hA
  rw [z1, Option.bind_some, if_pos zb'] at hU
  have fz : frM (st z.2 (8 + k) (fun _ => (z.2 30 0))) u := fun j hj => by
    rw [st_ne (by omega)]
    exact z6 j (by omega) (by omega) (by omega) (by omega)
  by_cases e : aNm (aTt n w p) lo hb
  · right
    obtain ⟨v, hv⟩ : ∃ v, v = aTt n w p - 1000 := ⟨_, rfl⟩
    obtain ⟨e1, e5⟩ := y2 e
    obtain ⟨g1, g5⟩ := z2 e
    rw [← hv] at e5 g5
    have hv1 : lo ≤ v ∧ v < hb := by unfold aNm at e; omega
    rw [if_neg (show ¬ y.1 = 0 by rw [e1]; decide), e5] at hA
    rw [g5] at hU fz
    have hd := dr_1 (u' := st z.2 (8 + k) (fun _ => nI v)) (k := k) (x := v) dC dM hk (by rw [st_eq]) (fun j j1 j2 j3 => by rw [st_ne (Ne.symm j3)]; exact z6 j (by omega) (by omega) (by omega) (by omega))
    refine ⟨aTe n w p, _, _, au S k 0 v, by omega, by omega, hA, hU, rfl, g1, y4, ?_, hd.1, hd.2, dr_R dR hk (by omega) (by omega) (by omega) (by omega), y6, fz⟩
    dsimp only
    rw [st_ne (by omega)]
    exact z4
  · left
    have e1 := y3 e
    have g1 := z3 e
    rw [if_pos e1] at hA
    refine ⟨aTq n w p, _, _, by omega, hA, hU, rfl, g1, y5, ?_, y6, fz⟩
    dsimp only
    rw [st_ne (by omega)]
    exact z5
theorem trm_sim {n p : Nat} {w : Nat → Nat} {a d u : MM} {S : RW} {q : Nat} (hC : txC n w a) (hM : txM n w u) (ha2 : a 2 0 = nI p) (hu : u 27 0 = nI p) (hp : p ≤ n) (ha3 : a 3 0 = nI q) (hu28 : u 28 0 = nI q) (hq : q ≤ n) (dC : drC d S) (dM : drM u S) (dR : drR S) {N : Nat} (hN : 200 < N) : itF n (fX6_readTerminal N a d) (fX8_readsTerminal N u) a u ∨ itY n p (fX6_readTerminal N a d) (fX8_readsTerminal N u) a u := by
  have hle := tk_le hp (fun j hj => (hC.2.2 j hj).1)
  have hT := dR.1.1
  unfold fX6_readTerminal fX8_readsTerminal
  rw [dC.1.1, dM.1]
  by_cases e3 : S 0 0 = 3
  · left
    rw [if_pos (show (3 : Int32) ≤ nI (S 0 0) by rw [e3]; decide), if_pos (show nI (S 0 0) = (3 : Int32) by rw [e3]; rfl)]
    exact ⟨q, _, _, hq, rfl, rfl, rfl, rfl, ha3, hu28, fun _ _ _ _ _ => rfl, fun _ _ => rfl⟩
  · rw [if_neg (show ¬ (3 : Int32) ≤ nI (S 0 0) from nI_ge (b := 3) (by omega) (by omega)), if_neg (show ¬ nI (S 0 0) = (3 : Int32) from fun x => e3 ((nI_eq (b := 3) (by omega) (by omega)).mp x))]
    obtain ⟨y, y1, y2, y3, y4, y5, y6⟩ := rn_7 (lo := 1) (hb := 10) (hi := (9 : Int32)) hC hp ha2 (by omega) (by omega) (by decide) hN
    obtain ⟨z, z1, zb', z2, z3, z4, z5, z6⟩ := rd_8 (lo := 1) (hb := 10) (hi := (9 : Int32)) hM hp hu (by omega) (by omega) (by decide) hN
    have y1 : fX6_readNumber N (1 : Int32) (9 : Int32) a = some y := y1
    have z1 : fX8_reads N (1 : Int32) (9 : Int32) u = some z := z1
    rw [y1, Option.bind_some, z1, Option.bind_some]
    by_cases e : aNm (aTt n w p) 1 10
    · right
      obtain ⟨v, hv⟩ : ∃ v, v = aTt n w p - 1000 := ⟨_, rfl⟩
      obtain ⟨e1, e5⟩ := y2 e
      obtain ⟨g1, g5⟩ := z2 e
      rw [← hv] at e5 g5
      have hv1 : 1 ≤ v ∧ v < 10 := by unfold aNm at e; omega
      have g8 : z.2 8 0 = nI (S 0 0) := by rw [z6 8 (by omega) (by omega) (by omega) (by omega)]; exact dM.1
      have hib : ib (nI (S 0 0)) 3 = true := ib_n (by omega) (by omega)
      rw [if_neg (show ¬ y.1 = 0 by rw [e1]; decide), if_neg (show ¬ z.1 = 0 by rw [g1]; decide), if_pos hib, g8, if_pos hib, nI_clamp (n := S 0 0) (by omega), e5, g5, nI_1]
      refine ⟨aTe n w p, _, _, aTrm S v, by omega, by omega, rfl, rfl, rfl, rfl, y4, ?_, trm_C dC, trm_M dM ?_ ?_ (fun k k1 k2 k3 => ?_), trm_R dR (by omega) (by omega), y6, fun k hk => ?_⟩
      · dsimp only
        rw [st_ne (by omega), st_ne (by omega)]; exact z4
      · dsimp only
        rw [st_eq]
      · dsimp only
        rw [st_ne (by omega), st_eq, z6 14 (by omega) (by omega) (by omega) (by omega)]
      · dsimp only
        rw [st_ne (by omega), st_ne (by omega)]; exact z6 k (by omega) (by omega) (by omega) (by omega)
      · dsimp only
        rw [st_ne (by omega), st_ne (by omega)]; exact z6 k (by omega) (by omega) (by omega) (by omega)
    · left
      rw [if_pos (y3 e), if_pos (z3 e)]
      exact ⟨aTq n w p, _, _, by omega, rfl, rfl, rfl, rfl, y5, z5, y6, frM_of z6⟩
theorem bt_sim {n p : Nat} {w : Nat → Nat} {a d u : MM} {S : RW} (hC : txC n w a) (hM : txM n w u) (ha2 : a 2 0 = nI p) (hu : u 27 0 = nI p) (hp : p ≤ n) (dC : drC d S) (dM : drM u S) (dR : drR S) {N : Nat} (hN : 200 < N) {U : Option (Int32 × MM)} (hU : U = (fX8_reads N (1 : Int32) (6 : Int32) u).bind (fun y3 => (if y3.1 = 0 then some ((0 : Int32), (st y3.2 12 (fun _ => (y3.2 30 0)))) else ((fX8_reads N (1 : Int32) (4 : Int32) (st y3.2 12 (fun _ => (y3.2 30 0)))).bind (fun y4 => (if zb y4.1 = true then some (y4.1, (st y4.2 13 (fun _ => (y4.2 30 0)))) else none)))))) : itF n (fX6_readBackAndTries N a d) U a u ∨ itY n p (fX6_readBackAndTries N a d) U a u := by
  have hle := tk_le hp (fun j hj => (hC.2.2 j hj).1)
  obtain ⟨y, y1, y2, y3, y4, y5, y6⟩ := rn_7 (lo := 1) (hb := 7) (hi := (6 : Int32)) hC hp ha2 (by omega) (by omega) (by decide) hN
  obtain ⟨z, z1, zb', z2, z3, z4, z5, z6⟩ := rd_8 (lo := 1) (hb := 7) (hi := (6 : Int32)) hM hp hu (by omega) (by omega) (by decide) hN
  have y1 : fX6_readNumber N (1 : Int32) (6 : Int32) a = some y := y1
  have z1 : fX8_reads N (1 : Int32) (6 : Int32) u = some z := z1
  unfold fX6_readBackAndTries
  rw [y1, Option.bind_some]
  rw [z1, Option.bind_some] at hU
  have fz : frM (st z.2 12 (fun _ => (z.2 30 0))) u := fun j hj => by
    rw [st_ne (by omega)]
    exact z6 j (by omega) (by omega) (by omega) (by omega)
  by_cases e : aNm (aTt n w p) 1 7
  · obtain ⟨v, hv⟩ : ∃ v, v = aTt n w p - 1000 := ⟨_, rfl⟩
    obtain ⟨e1, e5⟩ := y2 e
    obtain ⟨g1, g5⟩ := z2 e
    rw [← hv] at e5 g5
    have hv1 : 1 ≤ v ∧ v < 7 := by unfold aNm at e; omega
    rw [if_neg (show ¬ y.1 = 0 by rw [e1]; decide), e5]
    rw [if_neg (show ¬ z.1 = 0 by rw [g1]; decide), g5] at hU
    rw [g5] at fz
    have hd := dr_1 (u' := st z.2 12 (fun _ => nI v)) (k := 4) (x := v) dC dM (by omega) (by rw [show 8 + 4 = 12 from rfl, st_eq]) (fun j j1 j2 j3 => by rw [st_ne (by omega)]; exact z6 j (by omega) (by omega) (by omega) (by omega))
    have hR := dr_R (k := 4) (x := v) dR (by omega) (by omega) (by omega) (by omega) (by omega)
    have hC' : txC n w y.2 := txC_c hC (y6 0 (by omega) (by omega) (by omega) (by omega)) (y6 1 (by omega) (by omega) (by omega) (by omega))
    have hM' : txM n w (st z.2 12 (fun _ => nI v)) := txM_c hM (fz 25 (by omega)) (fz 26 (by omega))
    rcases one_sim (lo := 1) (hb := 5) (hi := (4 : Int32)) (k := 5) hC' hM' y4 (by rw [st_ne (by omega)]; exact z4) (by omega) hd.1 hd.2 hR (by omega) (by omega) (by decide) (by omega) (by omega) (by omega) (by omega) (by omega) hN rfl hU with ⟨q, Y, Z, k1, k2, k3, k4, k5, k6, k7, k8, k9⟩ | ⟨p', Y, Z, S', k1, k2, k3, k4, k5, k6, k7, k8, k9, kA, kB, kC, kD⟩
    · left
      exact ⟨q, Y, Z, k1, k2, k3, k4, k5, k6, k7, frC_t k8 y6, frM_t k9 fz⟩
    · right
      exact ⟨p', Y, Z, S', by omega, k2, k3, k4, k5, k6, k7, k8, k9, kA, kB, frC_t kC y6, frM_t kD fz⟩
  · left
    rw [if_pos (y3 e)]
    rw [if_pos (z3 e)] at hU
    refine ⟨aTq n w p, _, _, by omega, rfl, hU, rfl, rfl, y5, ?_, y6, fz⟩
    dsimp only
    rw [st_ne (by omega)]
    exact z5
theorem ro_8 {n p C k hb : Nat} {w : Nat → Nat} {u : MM} {hi x1 : Int32} (h : txM n w u) (hp : p ≤ n) (h2 : u 27 0 = nI p) (h9 : u 9 0 = nI C) (hCk : C < 6) (hk : k < 4) (hx : x1 = nI k) (hhb : hb ≤ 100) (hhi : hi = nI hb - (1 : Int32)) {N : Nat} (hN : 200 < N) : ∃ y, fX8_readsOne N x1 hi u = some y ∧ (aNm (aTt n w p) 0 hb → y.1 = 1 ∧ y.2 15 (4 * C + k) = nI (aTt n w p - 1000)) ∧ (¬ aNm (aTt n w p) 0 hb → y.1 = 0) ∧ y.2 27 0 = nI (aTe n w p) ∧ y.2 28 0 = nI (aTq n w p) ∧ (∀ j, j ≠ 4 * C + k → y.2 15 j = u 15 j) ∧ ∀ j, j ≠ 15 → j ≠ 27 → j ≠ 28 → j ≠ 29 → j ≠ 30 → y.2 j = u j := by
  obtain ⟨z, z1, zb', z2, z3, z4, z5, z6⟩ := rd_8 (lo := 0) h hp h2 (by omega) hhb hhi hN
  have z1 : fX8_reads N (0 : Int32) hi u = some z := z1
  have g9 : z.2 9 0 = nI C := by rw [z6 9 (by omega) (by omega) (by omega) (by omega)]; exact h9
  have e4 : (4 : Int32) * nI C + x1 = nI (4 * C + k) := by rw [hx, show (4 : Int32) * nI C = nI (4 * C) from pk_mul 4 C, nI_add]
  have hib : ib (nI (4 * C + k)) 24 = true := ib_n (by omega) (by omega)
  unfold fX8_readsOne
  rw [z1, Option.bind_some, g9, e4, if_pos hib, if_pos zb', nI_clamp (n := 4 * C + k) (by omega)]
  refine ⟨_, rfl, fun e => ⟨(z2 e).1, ?_⟩, z3, ?_, ?_, fun j hj => ?_, fun j j1 j2 j3 j4 j5 => ?_⟩
  · dsimp only
    rw [st_eq, upd_eq]
    exact (z2 e).2
  · dsimp only
    rw [st_ne (by omega)]; exact z4
  · dsimp only
    rw [st_ne (by omega)]; exact z5
  · dsimp only
    rw [st_eq, upd_ne hj, z6 15 (by omega) (by omega) (by omega) (by omega)]
  · dsimp only
    rw [st_ne (Ne.symm j1)]; exact z6 j j2 j3 j4 j5
theorem cls_sim {n p : Nat} {w : Nat → Nat} {a d u : MM} {S : RW} {q : Nat} (hC : txC n w a) (hM : txM n w u) (ha2 : a 2 0 = nI p) (hu : u 27 0 = nI p) (hp : p ≤ n) (ha3 : a 3 0 = nI q) (hu28 : u 28 0 = nI q) (hq : q ≤ n) (dC : drC d S) (dM : drM u S) (dR : drR S) {N : Nat} (hN : 200 < N) : itF n (fX6_readClass N a d) (fX8_readsClass N u) a u ∨ itY n p (fX6_readClass N a d) (fX8_readsClass N u) a u := by
  have hw : ∀ j, j < n → w j ≤ 255 := fun j hj => (hC.2.2 j hj).1
  have hle := tk_le hp hw
  have hT := dR.1.1
  have hC6 := dR.1.2.1
  have u9 := dM.2.1
  unfold fX6_readClass fX8_readsClass
  rw [dC.1.2.1, dC.1.1, u9, dM.1]
  by_cases e6 : S 1 0 = 6
  · left
    rw [if_pos (show (6 : Int32) ≤ nI (S 1 0) by rw [e6]; decide), if_pos (show nI (S 1 0) = (6 : Int32) by rw [e6]; rfl)]
    exact ⟨q, _, _, hq, rfl, rfl, rfl, rfl, ha3, hu28, fun _ _ _ _ _ => rfl, fun _ _ => rfl⟩
  · have hc6 : S 1 0 < 6 := by omega
    have hib : ib (nI (S 1 0)) 6 = true := ib_n (by omega) (by omega)
    have hcl : Int32.toNatClampNeg (nI (S 1 0)) = S 1 0 := nI_clamp (by omega)
    rw [if_neg (show ¬ (6 : Int32) ≤ nI (S 1 0) from nI_ge (b := 6) (by omega) (by omega)), if_neg (show ¬ nI (S 1 0) = (6 : Int32) from fun x => e6 ((nI_eq (b := 6) (by omega) (by omega)).mp x)), hcl]
    -- the owner
    obtain ⟨y, y1, y2, y3, y4, y5, y6⟩ := rn_7 (lo := 0) (hb := S 0 0) (hi := nI (S 0 0) - (1 : Int32)) hC hp ha2 (by omega) (by omega) rfl hN
    obtain ⟨z, z1, z2, z3, z4, z5, z6, z7⟩ := ro_8 (hb := S 0 0) (hi := nI (S 0 0) - (1 : Int32)) (k := 0) (x1 := (0 : Int32)) hM hp hu u9 hc6 (by omega) rfl (by omega) rfl hN
    have y1 : fX6_readNumber N (0 : Int32) (nI (S 0 0) - (1 : Int32)) a = some y := y1
    rw [y1, Option.bind_some, z1, Option.bind_some]
    have fz : frM z.2 u := fun j hj => z7 j (by omega) (by omega) (by omega) (by omega) (by omega)
    by_cases e : aNm (aTt n w p) 0 (S 0 0)
    · obtain ⟨e1, e5⟩ := y2 e
      obtain ⟨g1, g5⟩ := z2 e
      obtain ⟨v, hv⟩ : ∃ v, v = aTt n w p - 1000 := ⟨_, rfl⟩
      rw [← hv] at e5 g5
      have hv1 : v < S 0 0 := by unfold aNm at e; omega
      rw [if_neg (show ¬ y.1 = 0 by rw [e1]; decide), if_neg (show ¬ z.1 = 0 by rw [g1]; decide), if_pos hib]
      obtain ⟨p1, hp1⟩ : ∃ p1, p1 = aTe n w p := ⟨_, rfl⟩
      rw [← hp1] at y4 z4 hle
      have hC1 : txC n w y.2 := txC_c hC (y6 0 (by omega) (by omega) (by omega) (by omega)) (y6 1 (by omega) (by omega) (by omega) (by omega))
      have hM1 : txM n w z.2 := txM_c hM (fz 25 (by omega)) (fz 26 (by omega))
      have u91 : z.2 9 0 = nI (S 1 0) := by rw [z7 9 (by omega) (by omega) (by omega) (by omega) (by omega)]; exact u9
      have hle1 := tk_le (p := p1) (by omega) hw
      -- the priority
      obtain ⟨Y, Y1, Y2, Y3, Y4, Y5, Y6⟩ := rn_7 (lo := 0) (hb := 10) (hi := (9 : Int32)) hC1 (show p1 ≤ n by omega) y4 (by omega) (by omega) (by decide) hN
      obtain ⟨Z, Z1, Z2, Z3, Z4, Z5, Z6, Z7⟩ := ro_8 (hb := 10) (hi := (9 : Int32)) (k := 1) (x1 := (1 : Int32)) hM1 (show p1 ≤ n by omega) z4 u91 hc6 (by omega) rfl (by omega) (by decide) hN
      have Y1 : fX6_readNumber N (0 : Int32) (9 : Int32) y.2 = some Y := Y1
      rw [Y1, Option.bind_some, Z1, Option.bind_some]
      have fZ : frM Z.2 u := fun j hj => (Z7 j (by omega) (by omega) (by omega) (by omega) (by omega)).trans (fz j hj)
      have fY : frC Y.2 a := frC_t Y6 y6
      by_cases f : aNm (aTt n w p1) 0 10
      · obtain ⟨f1, f5⟩ := Y2 f
        obtain ⟨h1, h5⟩ := Z2 f
        obtain ⟨v2, hv2⟩ : ∃ v2, v2 = aTt n w p1 - 1000 := ⟨_, rfl⟩
        rw [← hv2] at f5 h5
        have hv21 : v2 < 10 := by unfold aNm at f; omega
        rw [if_neg (show ¬ Y.1 = 0 by rw [f1]; decide), if_neg (show ¬ Z.1 = 0 by rw [h1]; decide), if_pos hib]
        obtain ⟨p2, hp2⟩ : ∃ p2, p2 = aTe n w p1 := ⟨_, rfl⟩
        rw [← hp2] at Y4 Z4 hle1
        have hC2 : txC n w Y.2 := txC_c hC (fY 0 (by omega) (by omega) (by omega) (by omega)) (fY 1 (by omega) (by omega) (by omega) (by omega))
        have hM2 : txM n w Z.2 := txM_c hM (fZ 25 (by omega)) (fZ 26 (by omega))
        have u92 : Z.2 9 0 = nI (S 1 0) := by rw [Z7 9 (by omega) (by omega) (by omega) (by omega) (by omega)]; exact u91
        have hle2 := tk_le (p := p2) (by omega) hw
        -- the rate
        obtain ⟨A, A1, A2, A3, A4, A5, A6⟩ := rn_7 (lo := 0) (hb := 21) (hi := (20 : Int32)) hC2 (show p2 ≤ n by omega) Y4 (by omega) (by omega) (by decide) hN
        obtain ⟨B, B1, B2, B3, B4, B5, B6, B7⟩ := ro_8 (hb := 21) (hi := (20 : Int32)) (k := 2) (x1 := (2 : Int32)) hM2 (show p2 ≤ n by omega) Z4 u92 hc6 (by omega) rfl (by omega) (by decide) hN
        have A1 : fX6_readNumber N (0 : Int32) (20 : Int32) Y.2 = some A := A1
        rw [A1, Option.bind_some, B1, Option.bind_some]
        have fB : frM B.2 u := fun j hj => (B7 j (by omega) (by omega) (by omega) (by omega) (by omega)).trans (fZ j hj)
        have fA : frC A.2 a := frC_t A6 fY
        by_cases g : aNm (aTt n w p2) 0 21
        · obtain ⟨k1, k5⟩ := A2 g
          obtain ⟨m1, m5⟩ := B2 g
          obtain ⟨v3, hv3⟩ : ∃ v3, v3 = aTt n w p2 - 1000 := ⟨_, rfl⟩
          rw [← hv3] at k5 m5
          have hv31 : v3 < 21 := by unfold aNm at g; omega
          rw [if_neg (show ¬ A.1 = 0 by rw [k1]; decide), if_neg (show ¬ B.1 = 0 by rw [m1]; decide), if_pos hib]
          obtain ⟨p3, hp3⟩ : ∃ p3, p3 = aTe n w p2 := ⟨_, rfl⟩
          rw [← hp3] at A4 B4 hle2
          have hC3 : txC n w A.2 := txC_c hC (fA 0 (by omega) (by omega) (by omega) (by omega)) (fA 1 (by omega) (by omega) (by omega) (by omega))
          have hM3 : txM n w B.2 := txM_c hM (fB 25 (by omega)) (fB 26 (by omega))
          have u93 : B.2 9 0 = nI (S 1 0) := by rw [B7 9 (by omega) (by omega) (by omega) (by omega) (by omega)]; exact u92
          have hle3 := tk_le (p := p3) (by omega) hw
          -- the limit
          obtain ⟨E, E1, E2, E3, E4, E5, E6⟩ := rn_7 (lo := 0) (hb := 61) (hi := (60 : Int32)) hC3 (show p3 ≤ n by omega) A4 (by omega) (by omega) (by decide) hN
          obtain ⟨F, F1, F2, F3, F4, F5, F6, F7⟩ := ro_8 (hb := 61) (hi := (60 : Int32)) (k := 3) (x1 := (3 : Int32)) hM3 (show p3 ≤ n by omega) B4 u93 hc6 (by omega) rfl (by omega) (by decide) hN
          have E1 : fX6_readNumber N (0 : Int32) (60 : Int32) A.2 = some E := E1
          rw [E1, Option.bind_some, F1, Option.bind_some]
          have fF : frM F.2 u := fun j hj => (F7 j (by omega) (by omega) (by omega) (by omega) (by omega)).trans (fB j hj)
          have fE : frC E.2 a := frC_t E6 fA
          by_cases r : aNm (aTt n w p3) 0 61
          · right
            obtain ⟨r1, r5⟩ := E2 r
            obtain ⟨s1, s5⟩ := F2 r
            obtain ⟨v4, hv4⟩ : ∃ v4, v4 = aTt n w p3 - 1000 := ⟨_, rfl⟩
            rw [← hv4] at r5 s5
            have hv41 : v4 < 61 := by unfold aNm at r; omega
            rw [if_neg (show ¬ E.1 = 0 by rw [r1]; decide), if_neg (show ¬ F.1 = 0 by rw [s1]; decide), if_pos hib, e5, f5, k5, r5, F7 9 (by omega) (by omega) (by omega) (by omega) (by omega), u93, nI_1]
            have hfo : ∀ k, 8 ≤ k → k ≤ 14 → k ≠ 9 → F.2 k = u k := fun k x1 x2 x3 => by
              rw [F7 k (by omega) (by omega) (by omega) (by omega) (by omega), B7 k (by omega) (by omega) (by omega) (by omega) (by omega), Z7 k (by omega) (by omega) (by omega) (by omega) (by omega), z7 k (by omega) (by omega) (by omega) (by omega) (by omega)]
            obtain ⟨fv, hfv⟩ : ∃ fv : Nat → Nat, fv = fun k => if k = 7 then v else if k = 8 then v2 else if k = 9 then v3 else v4 := ⟨_, rfl⟩
            have fv7 : fv 7 = v := by rw [hfv]; rfl
            have fv8 : fv 8 = v2 := by rw [hfv]; rfl
            have fv9 : fv 9 = v3 := by rw [hfv]; rfl
            have fvA : fv 10 = v4 := by rw [hfv]; rfl
            refine ⟨aTe n w p3, _, _, aCls S fv, by omega, by omega, rfl, rfl, rfl, rfl, E4, ?_, cls_C dC ?_ (fun k x1 x2 => ?_) (fun k x1 x2 => ?_), cls_M dM ?_ (fun k x1 x2 => ?_) (fun j hj => ?_) (fun k x1 x2 x3 => ?_), cls_R dR hc6 (by omega) (by omega) (by omega) (by omega), fE, fun k hk => ?_⟩
            · dsimp only
              rw [st_ne (by omega)]; exact F4
            · dsimp only
              rw [st_eq]
            · dsimp only
              have hk4 : k = 7 ∨ k = 8 ∨ k = 9 ∨ k = 10 := by omega
              rcases hk4 with rfl | rfl | rfl | rfl
              · rw [st_ne (by omega), st_ne (by omega), st_ne (by omega), st_ne (by omega), st_eq, fv7]
              · rw [st_ne (by omega), st_ne (by omega), st_ne (by omega), st_eq, fv8]
              · rw [st_ne (by omega), st_ne (by omega), st_eq, fv9]
              · rw [st_ne (by omega), st_eq, fvA]
            · dsimp only
              rw [st_ne (by omega), st_ne (by omega), st_ne (by omega), st_ne (by omega), st_ne (by omega)]
            · dsimp only
              rw [st_eq]
            · dsimp only
              rw [st_ne (by omega)]
              have hk4 : k = 7 ∨ k = 8 ∨ k = 9 ∨ k = 10 := by omega
              rcases hk4 with rfl | rfl | rfl | rfl
              · rw [fv7, F6 _ (by omega), B6 _ (by omega), Z6 _ (by omega)]; exact g5
              · rw [fv8, F6 _ (by omega), B6 _ (by omega)]; exact h5
              · rw [fv9, F6 _ (by omega)]; exact m5
              · rw [fvA]; exact s5
            · dsimp only
              rw [st_ne (by omega), F6 j (by omega), B6 j (by omega), Z6 j (by omega), z6 j (by omega)]
            · dsimp only
              rw [st_ne (by omega)]; exact hfo k x1 x2 x3
            · dsimp only
              rw [st_ne (by omega)]; exact fF k hk
          · left
            rw [if_pos (E3 r), if_pos (F3 r)]
            exact ⟨aTq n w p3, _, _, by omega, rfl, rfl, rfl, rfl, E5, F5, fE, fF⟩
        · left
          rw [if_pos (A3 g), if_pos (B3 g)]
          exact ⟨aTq n w p2, _, _, by omega, rfl, rfl, rfl, rfl, A5, B5, fA, fB⟩
      · left
        rw [if_pos (Y3 f), if_pos (Z3 f)]
        exact ⟨aTq n w p1, _, _, by omega, rfl, rfl, rfl, rfl, Y5, Z5, fY, fZ⟩
    · left
      rw [if_pos (y3 e), if_pos (z3 e)]
      exact ⟨aTq n w p, _, _, by omega, rfl, rfl, rfl, rfl, y5, z5, y6, fz⟩
theorem item_sim {n p t q : Nat} {w : Nat → Nat} {a d u : MM} {S : RW} (hC : txC n w a) (hM : txM n w u) (ha2 : a 2 0 = nI p) (hu : u 27 0 = nI p) (hp : p ≤ n) (ha3 : a 3 0 = nI q) (hu28 : u 28 0 = nI q) (hq : q ≤ n) (ha4 : clT t (a 4 0)) (hu29 : mdT t (u 29 0)) (ht : t ≠ 3000) (dC : drC d S) (dM : drM u S) (dR : drR S) {N : Nat} (hN : 200 < N) : itF n (clItem N a d) (fX8_item N u) a u ∨ itY n p (clItem N a d) (fX8_item N u) a u := by
  have e29 : u 29 0 = nI t ∧ t ≤ 2000 := by
    rcases hu29 with ⟨h, -⟩ | ⟨h1, h2⟩
    · exact absurd h ht
    · exact ⟨h2, h1⟩
  have hne : ∀ c : Nat, c ≤ 255 → t ≠ c → ¬ u 29 0 = nI c := fun c hc h x => by
    rw [e29.1] at x
    exact h ((nI_eq (by omega) (by omega)).mp x)
  have hcl : ∀ c : Nat, c ≤ 255 → c ≠ 46 → c ≠ 63 → c ≠ 48 → t ≠ c → ¬ a 4 0 = nI c := fun c hc h1 h2 h3 h x => by
    rcases ha4 with ⟨-, y⟩ | ⟨-, y⟩ | ⟨-, -, y⟩ | ⟨k1, -, y⟩ | ⟨-, -, y⟩
    · rw [y] at x; exact h1 ((nI_eq (by omega) (by omega)).mp x).symm
    · rw [y] at x; exact h2 ((nI_eq (by omega) (by omega)).mp x).symm
    · rw [y] at x; exact h3 ((nI_eq (by omega) (by omega)).mp x).symm
    · rw [y] at x; exact h ((nI_eq (by omega) (by omega)).mp x)
    · rw [y] at x; exact h2 ((nI_eq (by omega) (by omega)).mp x).symm
  have hsg : ∀ c : Nat, c ≤ 255 → aSg c → t = c → a 4 0 = nI c := fun c hc hs h => by
    rcases ha4 with ⟨y, -⟩ | ⟨y, -⟩ | ⟨y, -, -⟩ | ⟨-, -, y⟩ | ⟨-, y, -⟩
    · omega
    · omega
    · omega
    · rw [y, h]
    · exact absurd (h ▸ hs) y
  unfold clItem fX8_item
  by_cases c1 : t = 98
  · rw [if_pos (show a 4 0 = (98 : Int32) from hsg 98 (by omega) (by unfold aSg; omega) c1), if_pos (show u 29 0 = (98 : Int32) by rw [e29.1, c1]; rfl)]
    exact one_sim (lo := 0) (hb := 10) (hi := (9 : Int32)) (k := 3) hC hM ha2 hu hp dC dM dR (by omega) (by omega) (by decide) (by omega) (by omega) (by omega) (by omega) (by omega) hN rfl rfl
  rw [if_neg (show ¬ a 4 0 = (98 : Int32) from hcl 98 (by omega) (by omega) (by omega) (by omega) c1), if_neg (show ¬ u 29 0 = (98 : Int32) from hne 98 (by omega) c1)]
  by_cases c2 : t = 99
  · rw [if_pos (show a 4 0 = (99 : Int32) from hsg 99 (by omega) (by unfold aSg; omega) c2), if_pos (show u 29 0 = (99 : Int32) by rw [e29.1, c2]; rfl)]
    rcases cls_sim hC hM ha2 hu hp ha3 hu28 hq dC dM dR hN with ⟨q, Y, Z, k1, k2, k3, k4, k5, k6⟩ | ⟨p', Y, Z, S', k1, k2, k3, k4, k5, k6, k7⟩
    · left
      rw [k3, Option.bind_some, if_pos (show zb Z.1 = true by rw [k5]; decide)]
      exact ⟨q, Y, Z, k1, k2, rfl, k4, k5, k6⟩
    · right
      rw [k4, Option.bind_some, if_pos (show zb Z.1 = true by rw [k6]; decide)]
      exact ⟨p', Y, Z, S', k1, k2, k3, rfl, k5, k6, k7⟩
  rw [if_neg (show ¬ a 4 0 = (99 : Int32) from hcl 99 (by omega) (by omega) (by omega) (by omega) c2), if_neg (show ¬ u 29 0 = (99 : Int32) from hne 99 (by omega) c2)]
  by_cases c3 : t = 114
  · rw [if_pos (show a 4 0 = (114 : Int32) from hsg 114 (by omega) (by unfold aSg; omega) c3), if_pos (show u 29 0 = (114 : Int32) by rw [e29.1, c3]; rfl)]
    exact bt_sim hC hM ha2 hu hp dC dM dR hN rfl
  rw [if_neg (show ¬ a 4 0 = (114 : Int32) from hcl 114 (by omega) (by omega) (by omega) (by omega) c3), if_neg (show ¬ u 29 0 = (114 : Int32) from hne 114 (by omega) c3)]
  by_cases c4 : t = 115
  · rw [if_pos (show a 4 0 = (115 : Int32) from hsg 115 (by omega) (by unfold aSg; omega) c4), if_pos (show u 29 0 = (115 : Int32) by rw [e29.1, c4]; rfl)]
    exact one_sim (lo := 0) (hb := 61) (hi := (60 : Int32)) (k := 2) hC hM ha2 hu hp dC dM dR (by omega) (by omega) (by decide) (by omega) (by omega) (by omega) (by omega) (by omega) hN rfl rfl
  rw [if_neg (show ¬ a 4 0 = (115 : Int32) from hcl 115 (by omega) (by omega) (by omega) (by omega) c4), if_neg (show ¬ u 29 0 = (115 : Int32) from hne 115 (by omega) c4)]
  by_cases c5 : t = 116
  · rw [if_pos (show a 4 0 = (116 : Int32) from hsg 116 (by omega) (by unfold aSg; omega) c5), if_pos (show u 29 0 = (116 : Int32) by rw [e29.1, c5]; rfl)]
    rcases trm_sim hC hM ha2 hu hp ha3 hu28 hq dC dM dR hN with ⟨q, Y, Z, k1, k2, k3, k4, k5, k6⟩ | ⟨p', Y, Z, S', k1, k2, k3, k4, k5, k6, k7⟩
    · left
      rw [k3, Option.bind_some, if_pos (show zb Z.1 = true by rw [k5]; decide)]
      exact ⟨q, Y, Z, k1, k2, rfl, k4, k5, k6⟩
    · right
      rw [k4, Option.bind_some, if_pos (show zb Z.1 = true by rw [k6]; decide)]
      exact ⟨p', Y, Z, S', k1, k2, k3, rfl, k5, k6, k7⟩
  rw [if_neg (show ¬ a 4 0 = (116 : Int32) from hcl 116 (by omega) (by omega) (by omega) (by omega) c5), if_neg (show ¬ u 29 0 = (116 : Int32) from hne 116 (by omega) c5)]
  left
  exact ⟨q, _, _, hq, rfl, rfl, rfl, rfl, ha3, hu28, fun _ _ _ _ _ => rfl, fun _ _ => rfl⟩
