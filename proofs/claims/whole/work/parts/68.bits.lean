/-! bits: who is deaf -/
theorem and_bit (x : Int32) {t : Nat} (ht : t < 3) : (x &&& ((1 : Int32) <<< (nI t &&& 31))) = 0 ↔ x.toBitVec.getLsbD t = false := by
  have hm : ((1 : Int32) <<< (nI t &&& 31)).toBitVec = BitVec.twoPow 32 t := by
    have h3 : t = 0 ∨ t = 1 ∨ t = 2 := by omega
    rcases h3 with rfl | rfl | rfl <;> decide
  rw [← Int32.toBitVec_inj, Int32.toBitVec_and, hm]
  constructor
  · intro h
    have h2 := congrArg (fun b : BitVec 32 => b.getLsbD t) h
    rw [BitVec.getLsbD_and, BitVec.getLsbD_twoPow] at h2
    have h32 : t < 32 := by omega
    simpa [h32] using h2
  · intro h
    refine BitVec.eq_of_getLsbD_eq fun i hi => ?_
    rw [BitVec.getLsbD_and, BitVec.getLsbD_twoPow]
    by_cases hti : t = i
    · subst hti
      simp [h]
    · simp [hti]
theorem or_bit (x : Int32) {t : Nat} (ht : t < 30) (i : Nat) : (x ||| ((1 : Int32) <<< (nI t &&& 31))).toBitVec.getLsbD i = (x.toBitVec.getLsbD i || decide (t = i)) := by
  have hm : ∀ t : Fin 30, ((1 : Int32) <<< (nI t.val &&& 31)).toBitVec = BitVec.twoPow 32 t.val := by decide
  rw [Int32.toBitVec_or, hm ⟨t, ht⟩, BitVec.getLsbD_or, BitVec.getLsbD_twoPow]
  have h32 : t < 32 := by omega
  simp [h32]
theorem shr_bit (y : Int32) {r : Nat} (hr : r < 30) : ((y >>> (nI r &&& 31)) &&& (1 : Int32)) = 1 ↔ y.toBitVec.getLsbD r = true := by
  have hk : ∀ r : Fin 30, ((nI r.val &&& 31).toBitVec.smod 32).toNat = r.val := by decide
  have e : (y >>> (nI r &&& 31)).toBitVec = y.toBitVec.sshiftRight r := by
    have h0 := hk ⟨r, hr⟩
    show y.toBitVec.sshiftRight' ((nI r &&& 31).toBitVec.smod 32) = _
    unfold BitVec.sshiftRight'
    rw [show ((nI r &&& 31).toBitVec.smod 32).toNat = r from h0]
  rw [← Int32.toBitVec_inj, Int32.toBitVec_and, e]
  have h1 : (1 : Int32).toBitVec = BitVec.twoPow 32 0 := by decide
  rw [h1]
  constructor
  · intro h
    have h2 := congrArg (fun b : BitVec 32 => b.getLsbD 0) h
    rw [BitVec.getLsbD_and, BitVec.getLsbD_twoPow, BitVec.getLsbD_sshiftRight] at h2
    have h32 : r < 32 := by omega
    simpa [h32] using h2
  · intro h
    refine BitVec.eq_of_getLsbD_eq fun i hi => ?_
    rw [BitVec.getLsbD_and, BitVec.getLsbD_twoPow, BitVec.getLsbD_sshiftRight]
    by_cases hti : 0 = i
    · subst hti
      have h32 : r + 0 < 32 := by omega
      have hr32 : r < 32 := by omega
      simp [hr32, h]
    · simp [hti]
/-- the class's isDeaf -/
theorem deaf_7 {a : MM} {r : RW} (h : rwC a r) (N : Nat) {t j : Nat} (ht : t < 3) (hj : j < 2 ^ 30) : fX4_isDeaf N (nI t) (nI j) a = some (if j ≤ 199 ∧ r (20 + t) j = 1 then 1 else 0) := by
  unfold fX4_isDeaf
  rw [if_neg (nI_pos (by omega))]
  by_cases h1 : 199 < j
  · rw [if_pos (show (199 : Int32) < nI j from nI_lt (a := 199) h1 (by omega)), if_neg (fun q => absurd q.1 (by omega))]
  · rw [if_neg (show ¬ (199 : Int32) < nI j from nI_nlt (b := j) (a := 199) (by omega) (by omega)), if_pos (ib_nI (by omega) (by omega)), nI_clamp (by omega)]
    have h5 := h.2.2.2.2.2 t j ht (by omega)
    by_cases hd : r (20 + t) j = 1
    · rw [if_neg (fun q => by rw [(and_bit _ ht).mp q] at h5; simp [hd] at h5), if_pos ⟨by omega, hd⟩]
    · rw [if_pos ((and_bit _ ht).mpr (by rw [h5]; simp [hd])), if_neg (fun q => hd q.2)]
theorem j30 {j : Nat} (hj : j < 2 ^ 30) : nI j / (30 : Int32) = nI (j / 30) ∧ (nI j - nI j / (30 : Int32) * (30 : Int32)) = nI (j % 30) := ⟨pk_div (d := 30) (by omega) (by omega) (by omega), pk_rem (d := 30) (by omega) (by omega) (by omega)⟩
theorem tm_8 (N t k : Nat) : fX8_ofTerminal N (nI t) (nI k) = some (nI (4 + 13 * t + k)) := by
  show some ((4 : Int32) + (13 : Int32) * nI t + nI k) = _
  rw [show (13 : Int32) * nI t = nI (13 * t) from pk_mul 13 t, show (4 : Int32) + nI (13 * t) = nI (4 + 13 * t) from nI_add 4 (13 * t), nI_add]
theorem cl_8 (N c k : Nat) : fX8_ofClass N (nI c) (nI k) = some (nI (43 + 4 * c + k)) := by
  show some ((43 : Int32) + (4 : Int32) * nI c + nI k) = _
  rw [show (4 : Int32) * nI c = nI (4 * c) from pk_mul 4 c, show (43 : Int32) + nI (4 * c) = nI (43 + 4 * c) from nI_add 43 (4 * c), nI_add]
theorem bk_8 (N k e : Nat) : fX8_ofBlock N (nI k) (nI e) = some (nI (67 + 10 * k + e)) := by
  show some ((67 : Int32) + (10 : Int32) * nI k + nI e) = _
  rw [show (10 : Int32) * nI k = nI (10 * k) from pk_mul 10 k, show (67 : Int32) + nI (10 * k) = nI (67 + 10 * k) from nI_add 67 (10 * k), nI_add]
/-- the model's isDeaf -/
theorem deaf_8 {u : MM} {r : RW} (h : rwM (u 16) r) (N : Nat) {t j : Nat} (ht : t < 3) (hj : j < 2 ^ 30) : fX8_isDeaf N (nI t) (nI j) u = some (if j ≤ 199 ∧ r (20 + t) j = 1 then 1 else 0) := by
  unfold fX8_isDeaf
  by_cases h1 : 199 < j
  · rw [if_pos (show (199 : Int32) < nI j from nI_lt (a := 199) h1 (by omega)), if_neg (fun q => absurd q.1 (by omega))]
  · rw [if_neg (show ¬ (199 : Int32) < nI j from nI_nlt (b := j) (a := 199) (by omega) (by omega)), (j30 hj).2, (j30 hj).1, show (6 : Int32) + nI (j / 30) = nI (6 + j / 30) from nI_add 6 (j / 30), tm_8, Option.bind_some, if_pos (ib_nI (by omega) (by omega)), nI_clamp (by omega)]
    have h5 := h.2.2.2.2.2 t j ht (by omega)
    by_cases hd : r (20 + t) j = 1
    · rw [if_pos ((shr_bit _ (by omega)).mpr (by rw [h5]; simp [hd])), if_pos ⟨by omega, hd⟩]
    · rw [if_neg (fun q => by rw [(shr_bit _ (by omega)).mp q] at h5; simp [hd] at h5), if_neg (fun q => hd q.2)]
