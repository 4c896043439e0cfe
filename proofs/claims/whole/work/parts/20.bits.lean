/-! Numbers: masks, shifts, lows of ints and longs as natural numbers. -/
theorem iN_of (x : Int32) : x = nI x.toBitVec.toNat := by
  apply Int32.toBitVec_inj.mp
  show x.toBitVec = BitVec.ofNat 32 x.toBitVec.toNat
  rw [BitVec.ofNat_toNat, BitVec.setWidth_eq]
theorem iN_lt (x : Int32) : x.toBitVec.toNat < 4294967296 := x.toBitVec.isLt
theorem iN_tn {n : Nat} (h : n < 4294967296) : (nI n).toBitVec.toNat = n := pk_tn h
theorem iN_inj {a b : Nat} (ha : a < 4294967296) (hb : b < 4294967296) (h : nI a = nI b) : a = b := by
  rw [← iN_tn ha, ← iN_tn hb, h]
theorem iN_us (x s : Int32) (k : Nat) (hs : ((s.toUInt32 &&& Int32.toUInt32 31).toBitVec % 32).toNat = k) : jus x s = nI (x.toBitVec.toNat / 2 ^ k) := by
  rw [iN_of (jus x s)]
  exact congrArg nI (pk_ushr x s k hs)
theorem lL_of (x : Int64) : x = lN x.toBitVec.toNat := by
  apply Int64.toBitVec_inj.mp
  show x.toBitVec = BitVec.ofNat 64 x.toBitVec.toNat
  rw [BitVec.ofNat_toNat, BitVec.setWidth_eq]
theorem lL_tn {n : Nat} (h : n < 18446744073709551616) : (lN n).toBitVec.toNat = n := by
  show (BitVec.ofNat 64 n).toNat = n
  rw [BitVec.toNat_ofNat]
  exact Nat.mod_eq_of_lt h
/-- an arithmetic shift under a mask is a division -/
theorem iN_sra (x s mask : Int32) (n k : Nat) (hs : (s.toBitVec.smod 32).toNat = n) (hm : mask.toBitVec.toNat = 2 ^ k - 1) (h : n + k ≤ 32) : (x >>> s) &&& mask = nI (x.toBitVec.toNat / 2 ^ n % 2 ^ k) := by
  rw [pk_and _ k hm]
  congr 1
  have h1 : (x >>> s).toBitVec = x.toBitVec.sshiftRight n := by
    show BitVec.sshiftRight' x.toBitVec (s.toBitVec.smod 32) = _
    rw [BitVec.sshiftRight', hs]
  rw [h1]
  apply Nat.eq_of_testBit_eq
  intro i
  rw [Nat.testBit_mod_two_pow, Nat.testBit_mod_two_pow, Nat.testBit_div_two_pow]
  by_cases hi : i < k
  · simp only [hi, decide_true, Bool.true_and]
    rw [BitVec.testBit_toNat, BitVec.getLsbD_sshiftRight, BitVec.testBit_toNat]
    have h2 : n + i < 32 := by omega
    have h3 : ¬ 32 ≤ i := by omega
    simp [h2, h3, Nat.add_comm]
  · simp [hi]
/-- the low half of a long -/
def cLow (a : Int32) : Int64 := a.toInt64 &&& 4294967295
theorem cLow_n (a : Int32) : cLow a = lN a.toBitVec.toNat := by
  rw [lL_of (cLow a)]
  congr 1
  show (a.toBitVec.signExtend 64 &&& 4294967295#64).toNat = _
  apply Nat.eq_of_testBit_eq
  intro i
  rw [BitVec.testBit_toNat, BitVec.getLsbD_and, BitVec.getLsbD_signExtend, BitVec.testBit_toNat]
  have hm : (4294967295#64).getLsbD i = decide (i < 32) := by
    rw [BitVec.getLsbD_ofNat]
    have : (4294967295 : Nat) = 2 ^ 32 - 1 := by decide
    rw [this, Nat.testBit_two_pow_sub_one]
    by_cases h : i < 32
    · have h2 : i < 64 := by omega
      simp [h, h2]
    · simp [h]
  rw [hm]
  by_cases h : i < 32
  · have h2 : i < 64 := by omega
    simp [h, h2]
  · have h2 : a.toBitVec.getLsbD i = false := BitVec.getLsbD_of_ge _ _ (by omega)
    simp [h, h2]
theorem cLow_lt (a : Int32) : a.toBitVec.toNat < 4294967296 := a.toBitVec.isLt
