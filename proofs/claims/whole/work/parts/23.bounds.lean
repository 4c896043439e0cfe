/-! The bounds of a capability, as the class computes them, and as natural numbers. -/
def sIn (m : Int32) : Bool := decide (¬ (m &&& 16384) = 0)
def sLo0 (m : Int32) : Int32 := m &&& 255
def sHi0 (m : Int32) : Int32 := jus m 8 &&& 63
def jmin (x y : Int32) : Int32 := if y < x then y else x
def sEx (m : Int32) : Int32 := if sIn m then jmin (((sHi0 m &&& 7) * 8) + (sLo0 m &&& 7)) 26 else 0
def sLo (m : Int32) : Int32 := if sIn m then sLo0 m &&& (-8) else sLo0 m
def sHi1 (m : Int32) : Int32 := if sIn m then sHi0 m &&& (-8) else sHi0 m
def sAb (m : Int32) : Int32 := (jus (sLo m) 6 + (if sHi1 m < (sLo m &&& 63) then 1 else 0)) + jb (sIn m)
def sHi (m : Int32) : Int32 := sHi1 m ||| ((sAb m &&& 3) <<< ((6 : Int32) &&& 31))
def sMid (m a : Int32) : Int32 := (jul (cLow a) (sEx m)).toInt32 &&& 255
def sEdge (m : Int32) : Int32 := (jus (sLo m) 5 - 1) &&& 7
def sBel (x d : Int32) : Int32 := if jus x 5 < d then 1 else 0
def sReg (m a : Int32) : Int64 := jul (cLow a) (sEx m + 8) - (sBel (sMid m a) (sEdge m)).toInt64
def cbase (m a : Int32) : Int64 := (jsl (jsl (sReg m a + (sBel (sLo m) (sEdge m)).toInt64) 8 + (sLo m).toInt64) (sEx m)) &&& 4294967295
def ctop0 (m a : Int32) : Int64 := (jsl (jsl (sReg m a + (sBel (sHi m) (sEdge m)).toInt64) 8 + (sHi m).toInt64) (sEx m)) &&& 8589934591
def ctop (m a : Int32) : Int64 := if sEx m < 25 then (if (1 : Int64) < ((jul (ctop0 m a) 31 - jul (cbase m a) 31) &&& 3) then ctop0 m a ^^^ 4294967296 else ctop0 m a) else ctop0 m a
-- natural numbers
def bI (M : Nat) : Nat := M / 16384 % 2
def bE (M : Nat) : Nat := if bI M = 0 then 0 else if M / 256 % 8 * 8 + M % 8 ≤ 26 then M / 256 % 8 * 8 + M % 8 else 26
def bB (M : Nat) : Nat := if bI M = 0 then M % 256 else M % 256 / 8 * 8
def bS (M : Nat) : Nat := if bI M = 0 then M / 256 % 64 else M / 256 % 64 / 8 * 8
def bT (M : Nat) : Nat := (bB M / 64 + (if bS M < bB M % 64 then 1 else 0) + bI M) % 4 * 64 + bS M
def bR (M : Nat) : Nat := (bB M / 32 + 7) % 8
def bW (M A x : Nat) : Int := (((A / 2 ^ (bE M + 8) : Nat) : Int) - (if A / 2 ^ bE M % 256 / 32 < bR M then 1 else 0) + (if x / 32 < bR M then 1 else 0)) * 256 + (x : Int)
def nBase (M A : Nat) : Nat := (bW M A (bB M) * 2 ^ bE M % 4294967296).toNat
def nTop0 (M A : Nat) : Nat := (bW M A (bT M) * 2 ^ bE M % 8589934592).toNat
def nTop (M A : Nat) : Nat := if bE M < 25 then (if 1 < (nTop0 M A / 2147483648 + 4 - nBase M A / 2147483648) % 4 then nTop0 M A ^^^ 4294967296 else nTop0 M A) else nTop0 M A
theorem bI_lt (M : Nat) : bI M < 2 := Nat.mod_lt _ (by decide)
theorem bE_le (M : Nat) : bE M ≤ 26 := by unfold bE; split; omega; split <;> omega
theorem bB_lt (M : Nat) : bB M < 256 := by unfold bB; split <;> omega
theorem bS_lt (M : Nat) : bS M < 64 := by unfold bS; split <;> omega
theorem bT_lt (M : Nat) : bT M < 256 := by have := bS_lt M; unfold bT; omega
theorem bR_lt (M : Nat) : bR M < 8 := Nat.mod_lt _ (by decide)
theorem n_lo0 (m : Int32) : sLo0 m = nI (m.toBitVec.toNat % 256) := pk_and m 8 rfl
theorem n_hi0 (m : Int32) : sHi0 m = nI (m.toBitVec.toNat / 256 % 64) := by
  unfold sHi0
  rw [pk_and _ 6 rfl, iN_us m 8 8 (by decide), iN_tn (Nat.lt_of_le_of_lt (Nat.div_le_self _ _) (iN_lt m))]
theorem and8 : ∀ n, n < 256 → nI n &&& (-8) = nI (n / 8 * 8) := by decide +kernel
theorem and7 (n : Nat) (h : n < 4294967296) : nI n &&& 7 = nI (n % 8) := pk_andN h 3 rfl
theorem n_in (m : Int32) : sIn m = decide (bI m.toBitVec.toNat = 1) := by
  unfold sIn bI
  have h : (m &&& 16384) = 0 ↔ m.toBitVec.toNat / 16384 % 2 = 0 := by
    constructor
    · intro h
      have h1 : (m.toBitVec &&& 16384#32) = 0#32 := congrArg Int32.toBitVec h
      have h2 : (m.toBitVec &&& 16384#32).getLsbD 14 = false := by rw [h1]; rfl
      rw [BitVec.getLsbD_and] at h2
      have h3 : m.toBitVec.getLsbD 14 = false := by simpa using h2
      rw [← BitVec.testBit_toNat, Nat.testBit_eq_decide_div_mod_eq] at h3
      have h4 : ¬ m.toBitVec.toNat / 2 ^ 14 % 2 = 1 := by simpa using h3
      omega
    · intro h
      apply Int32.toBitVec_inj.mp
      show m.toBitVec &&& 16384#32 = 0#32
      apply BitVec.eq_of_getLsbD_eq
      intro i hi
      rw [BitVec.getLsbD_and, BitVec.getLsbD_zero]
      by_cases h14 : i = 14
      · subst h14
        have h3 : m.toBitVec.getLsbD 14 = false := by
          rw [← BitVec.testBit_toNat, Nat.testBit_eq_decide_div_mod_eq]
          have : ¬ m.toBitVec.toNat / 2 ^ 14 % 2 = 1 := by omega
          simpa using this
        rw [h3]; rfl
      · have h4 : (16384#32).getLsbD i = false := by
          rw [BitVec.getLsbD_ofNat]
          have : (16384 : Nat) = 2 ^ 14 := by decide
          rw [this, Nat.testBit_two_pow]
          simp [Ne.symm h14]
        rw [h4, Bool.and_false]
  have h0 : m.toBitVec.toNat / 16384 % 2 < 2 := Nat.mod_lt _ (by decide)
  by_cases hh : (m &&& 16384) = 0
  · have := h.mp hh
    simp [hh, this]
  · have h5 : ¬ m.toBitVec.toNat / 16384 % 2 = 0 := fun q => hh (h.mpr q)
    have h6 : m.toBitVec.toNat / 16384 % 2 = 1 := by omega
    simp [hh, h6]
theorem n_ex (m : Int32) : sEx m = nI (bE m.toBitVec.toNat) := by
  unfold sEx bE
  rw [n_in, n_hi0, n_lo0, and7 _ (by omega), and7 _ (by omega)]
  generalize m.toBitVec.toNat = M
  have := bI_lt M
  by_cases h : bI M = 0
  · simp [h, nI_0]
  · have h1 : bI M = 1 := by omega
    have e8 : (8 : Int32) = nI 8 := rfl
    have e26 : (26 : Int32) = nI 26 := rfl
    rw [e8, pk_mul, nI_add]
    unfold jmin
    rw [e26]
    have h3 : M / 256 % 64 % 8 = M / 256 % 8 := by omega
    have h4 : M % 256 % 8 = M % 8 := by omega
    rw [h3, h4]
    by_cases h2 : M / 256 % 8 * 8 + M % 8 ≤ 26
    · have h5 : ¬ nI 26 < nI (M / 256 % 8 * 8 + M % 8) := nI_nlt h2 (by decide)
      simp [h1, h2, h5]
    · have h5 : nI 26 < nI (M / 256 % 8 * 8 + M % 8) := nI_lt (by omega) (by omega)
      simp [h1, h2, h5]
theorem n_lo (m : Int32) : sLo m = nI (bB m.toBitVec.toNat) := by
  unfold sLo bB
  rw [n_in, n_lo0]
  generalize m.toBitVec.toNat = M
  have := bI_lt M
  by_cases h : bI M = 0
  · simp [h]
  · have h1 : bI M = 1 := by omega
    simp [h1, and8 (M % 256) (by omega)]
theorem n_hi1 (m : Int32) : sHi1 m = nI (bS m.toBitVec.toNat) := by
  unfold sHi1 bS
  rw [n_in, n_hi0]
  generalize m.toBitVec.toNat = M
  have := bI_lt M
  by_cases h : bI M = 0
  · simp [h]
  · have h1 : bI M = 1 := by omega
    simp [h1, and8 (M / 256 % 64) (by omega)]
