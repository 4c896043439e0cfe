theorem wb_tb (n : Nat) : (lN n).toBitVec = BitVec.ofNat 64 n := rfl
theorem wb_inj {a b : Int64} (h : a.toBitVec = b.toBitVec) : a = b := Int64.toBitVec_inj.mp h
theorem wb_tn {n : Nat} (h : n < 2 ^ 64) : (lN n).toBitVec.toNat = n := by rw [wb_tb, BitVec.toNat_ofNat, Nat.mod_eq_of_lt h]
theorem wb_c : ∀ k, k < 64 → ((nI k).toInt64 &&& 63) = lN k := by decide +kernel
theorem wb_cu : ∀ k, k < 64 → ((nI k).toInt64.toUInt64 &&& Int64.toUInt64 63) = UInt64.ofNat k := by decide +kernel
theorem wb_sm : ∀ k, k < 64 → (BitVec.ofNat 64 k).smod 64 = BitVec.ofNat 64 k := by decide +kernel
theorem wb_lt2 {a b : Nat} (h : a < b) : 2 ^ a < 2 ^ b := Nat.pow_lt_pow_right (by decide) h
theorem wb_mod (n : Nat) : lN n = lN (n % 2 ^ 64) := wb_inj (by rw [wb_tb, wb_tb]; apply BitVec.eq_of_toNat_eq; rw [BitVec.toNat_ofNat, BitVec.toNat_ofNat, Nat.mod_mod])
theorem wb_shr {n k : Nat} (hn : n < 2 ^ 64) (hk : k < 64) : jul (lN n) (nI k) = lN (n / 2 ^ k) := by
  unfold jul
  rw [wb_cu k hk]
  apply wb_inj
  apply BitVec.eq_of_toNat_eq
  show ((lN n).toUInt64 >>> UInt64.ofNat k).toNat = (BitVec.ofNat 64 _).toNat
  have h1 : (UInt64.ofNat k).toNat = k := by
    show (BitVec.ofNat 64 k).toNat = k
    rw [BitVec.toNat_ofNat, Nat.mod_eq_of_lt (by omega)]
  have h2 : (lN n).toUInt64.toNat = n := wb_tn hn
  rw [UInt64.toNat_shiftRight, h1, h2, Nat.mod_eq_of_lt hk, Nat.shiftRight_eq_div_pow, BitVec.toNat_ofNat, Nat.mod_eq_of_lt (Nat.lt_of_le_of_lt (Nat.div_le_self _ _) hn)]
theorem wb_shl (n : Nat) {k : Nat} (hk : k < 64) : jsl (lN n) (nI k) = lN (n * 2 ^ k) := by
  unfold jsl
  rw [wb_c k hk]
  apply wb_inj
  rw [Int64.toBitVec_shiftLeft, wb_tb, wb_tb, wb_tb, wb_sm k hk]
  apply BitVec.eq_of_toNat_eq
  rw [BitVec.shiftLeft_eq', BitVec.toNat_shiftLeft, BitVec.toNat_ofNat, BitVec.toNat_ofNat, BitVec.toNat_ofNat, Nat.mod_eq_of_lt (show k < 2 ^ 64 by omega), Nat.shiftLeft_eq, Nat.mul_mod, Nat.mod_mod, ← Nat.mul_mod]
theorem wb_and {a b : Nat} (ha : a < 2 ^ 64) (hb : b < 2 ^ 64) : lN a &&& lN b = lN (a &&& b) := by
  apply wb_inj
  rw [Int64.toBitVec_and, wb_tb, wb_tb, wb_tb]
  apply BitVec.eq_of_toNat_eq
  rw [BitVec.toNat_and, BitVec.toNat_ofNat, BitVec.toNat_ofNat, BitVec.toNat_ofNat, Nat.mod_eq_of_lt ha, Nat.mod_eq_of_lt hb, Nat.mod_eq_of_lt (Nat.and_lt_two_pow _ hb)]
theorem wb_mask {n k : Nat} (hn : n < 2 ^ 64) (hk : k < 64) : lN n &&& lN (2 ^ k - 1) = lN (n % 2 ^ k) := by
  rw [wb_and hn (by have := wb_lt2 hk; omega), Nat.and_two_pow_sub_one_eq_mod]
theorem pf_lI {a : Nat} (h : a < 2 ^ 63) : (lN a).toInt = (a : Int) := lg_ofNat_toInt h
theorem wb_sra {a k : Nat} (hk : k < 64) (h : a < 2 ^ 62) : jsr (lN a) (nI k) = lN (a / 2 ^ k) := by
  unfold jsr
  rw [wb_c k hk]
  have hd : a / 2 ^ k ≤ a := Nat.div_le_self _ _
  have hD : ((lN k).toBitVec.smod 64).toNat = k := by
    rw [wb_tb, wb_sm k hk, BitVec.toNat_ofNat, Nat.mod_eq_of_lt (by omega)]
  apply Int64.toInt_inj.mp
  have e : (lN a >>> lN k).toInt = (lN a).toInt >>> ((lN k).toBitVec.smod 64).toNat := BitVec.toInt_sshiftRight ..
  rw [e, hD, Int.shiftRight_eq_div_pow, pf_lI (by omega), pf_lI (by omega)]
  rfl
/-- a long by any integer -/
theorem oI_n (z : Int) : Int64.ofInt z = lN (z % 18446744073709551616).toNat := by
  apply wb_inj
  apply BitVec.eq_of_toNat_eq
  rw [Int64.toBitVec_ofInt, BitVec.toNat_ofInt, wb_tb, BitVec.toNat_ofNat]
  have h1 : (0 : Int) ≤ z % 18446744073709551616 := Int.emod_nonneg _ (by decide)
  have h2 : z % 18446744073709551616 < 18446744073709551616 := Int.emod_lt_of_pos _ (by decide)
  show (z % ((2 ^ 64 : Nat) : Int)).toNat = (z % 18446744073709551616).toNat % 2 ^ 64
  have h3 : ((2 ^ 64 : Nat) : Int) = 18446744073709551616 := by decide
  rw [h3]
  omega
theorem oI_N (n : Nat) : lN n = Int64.ofInt n := by
  rw [oI_n]
  rw [wb_mod n]
  congr 1
theorem jsl_of (z : Int) {k : Nat} (hk : k < 64) : jsl (Int64.ofInt z) (nI k) = Int64.ofInt (z * 2 ^ k) := by
  rw [oI_n, wb_shl _ hk, oI_N]
  have h1 : (0 : Int) ≤ z % 18446744073709551616 := Int.emod_nonneg _ (by decide)
  have e : (((z % 18446744073709551616).toNat * 2 ^ k : Nat) : Int) = (z % 18446744073709551616) * 2 ^ k := by
    rw [Int.natCast_mul, Int.toNat_of_nonneg h1, Int.natCast_pow]; rfl
  rw [e, oI_n, oI_n]
  congr 2
  rw [Int.mul_emod, Int.emod_emod, ← Int.mul_emod]
theorem and_of (z : Int) {k : Nat} (hk : k < 64) : Int64.ofInt z &&& lN (2 ^ k - 1) = lN (z % 2 ^ k).toNat := by
  have h1 : (0 : Int) ≤ z % 18446744073709551616 := Int.emod_nonneg _ (by decide)
  have h2 : z % 18446744073709551616 < 18446744073709551616 := Int.emod_lt_of_pos _ (by decide)
  rw [oI_n, wb_mask (by omega) hk]
  congr 1
  have hp : (0 : Int) < 2 ^ k := Int.pow_pos (by decide)
  have hd : (2 ^ k : Int) ∣ 18446744073709551616 := ⟨2 ^ (64 - k), by rw [← Int.pow_add, Nat.add_sub_cancel' (Nat.le_of_lt hk)]; rfl⟩
  apply Int.ofNat.inj
  show (((z % 18446744073709551616).toNat % 2 ^ k : Nat) : Int) = (((z % 2 ^ k).toNat : Nat) : Int)
  rw [Int.natCast_emod, Int.toNat_of_nonneg h1, Int.toNat_of_nonneg (Int.emod_nonneg _ (Int.ne_of_gt hp)), Int.natCast_pow]
  exact Int.emod_emod_of_dvd _ hd
