/-! The class's bounds by natural numbers. -/
theorem us5 (n : Nat) (h : n < 256) : jus (nI n) 5 = nI (n / 32) := by rw [iN_us (nI n) 5 5 (by decide), iN_tn (by omega)]
theorem us6 (n : Nat) (h : n < 256) : jus (nI n) 6 = nI (n / 64) := by rw [iN_us (nI n) 6 6 (by decide), iN_tn (by omega)]
theorem or_hi : ∀ a, a < 64 → ∀ k, k < 4 → nI a ||| (nI k <<< ((6 : Int32) &&& 31)) = nI (k * 64 + a) := by decide +kernel
theorem m1_7 : ∀ n, n < 8 → (nI n - 1) &&& 7 = nI ((n + 7) % 8) := by decide +kernel
theorem n_ab (m : Int32) : sAb m = nI (bB m.toBitVec.toNat / 64 + (if bS m.toBitVec.toNat < bB m.toBitVec.toNat % 64 then 1 else 0) + bI m.toBitVec.toNat) := by
  unfold sAb
  rw [n_lo, n_hi1, n_in]
  generalize m.toBitVec.toNat = M
  have hB := bB_lt M
  have hS := bS_lt M
  have hI := bI_lt M
  rw [us6 _ hB, show (nI (bB M) &&& 63) = nI (bB M % 64) from pk_andN (by omega) 6 rfl]
  have h1 : (if nI (bS M) < nI (bB M % 64) then (1 : Int32) else 0) = nI (if bS M < bB M % 64 then 1 else 0) := by
    by_cases h : bS M < bB M % 64
    · rw [if_pos (nI_lt h (by omega)), if_pos h]; rfl
    · rw [if_neg (nI_nlt (by omega) (by omega)), if_neg h]; rfl
  have h2 : jb (decide (bI M = 1)) = nI (bI M) := by
    have : bI M = 0 ∨ bI M = 1 := by omega
    rcases this with h | h <;> rw [h] <;> rfl
  rw [h1, h2, nI_add, nI_add]
theorem n_hi (m : Int32) : sHi m = nI (bT m.toBitVec.toNat) := by
  unfold sHi
  rw [n_hi1, n_ab]
  generalize m.toBitVec.toNat = M
  have hB := bB_lt M
  have hS := bS_lt M
  have hI := bI_lt M
  rw [show (3 : Int32) = nI (2 ^ 2 - 1) from rfl]
  have h1 : (bB M / 64 + (if bS M < bB M % 64 then 1 else 0) + bI M) < 4294967296 := by split <;> omega
  rw [pk_andN h1 2 rfl, or_hi _ hS _ (Nat.mod_lt _ (by decide))]
  rfl
theorem n_edge (m : Int32) : sEdge m = nI (bR m.toBitVec.toNat) := by
  unfold sEdge bR
  rw [n_lo, us5 _ (bB_lt _), m1_7 _ (by have := bB_lt m.toBitVec.toNat; omega)]
theorem n_bel (x d : Nat) (hx : x < 256) (hd : d < 8) : sBel (nI x) (nI d) = nI (if x / 32 < d then 1 else 0) := by
  unfold sBel
  rw [us5 x hx]
  by_cases h : x / 32 < d
  · rw [if_pos (nI_lt h (by omega)), if_pos h]; rfl
  · rw [if_neg (nI_nlt (by omega) (by omega)), if_neg h]; rfl
theorem pow_le26 {e : Nat} (h : e ≤ 34) : 0 < 2 ^ e := Nat.pow_pos (by decide)
theorem n_mid (m a : Int32) : sMid m a = nI (a.toBitVec.toNat / 2 ^ bE m.toBitVec.toNat % 256) := by
  unfold sMid
  have hA := iN_lt a
  have hE := bE_le m.toBitVec.toNat
  have hd : a.toBitVec.toNat / 2 ^ bE m.toBitVec.toNat ≤ a.toBitVec.toNat := Nat.div_le_self _ _
  rw [cLow_n, n_ex, wb_shr (by omega) (by omega), lN_i]
  exact pk_andN (by omega) 8 rfl
theorem oI_sub (x y : Int) : Int64.ofInt x - Int64.ofInt y = Int64.ofInt (x - y) := (Int64.ofInt_sub x y).symm
theorem oI_add (x y : Int) : Int64.ofInt x + Int64.ofInt y = Int64.ofInt (x + y) := (Int64.ofInt_add x y).symm
theorem n_reg (m a : Int32) : sReg m a = Int64.ofInt (((a.toBitVec.toNat / 2 ^ (bE m.toBitVec.toNat + 8) : Nat) : Int) - (if a.toBitVec.toNat / 2 ^ bE m.toBitVec.toNat % 256 / 32 < bR m.toBitVec.toNat then 1 else 0)) := by
  unfold sReg
  have hA := iN_lt a
  have hE := bE_le m.toBitVec.toNat
  rw [n_mid, n_edge, cLow_n, n_ex, n_bel _ _ (Nat.mod_lt _ (by decide)) (bR_lt _), show (nI (bE m.toBitVec.toNat) + 8) = nI (bE m.toBitVec.toNat + 8) from nI_add _ 8, wb_shr (by omega) (by omega), oI_N, nI_l (by split <;> decide), oI_N, oI_sub]
  congr 2
  split <;> rfl
theorem n_place (m a : Int32) (x : Nat) (hx : x < 256) : jsl (jsl (sReg m a + (sBel (nI x) (sEdge m)).toInt64) 8 + (nI x).toInt64) (sEx m) = Int64.ofInt (bW m.toBitVec.toNat a.toBitVec.toNat x * 2 ^ bE m.toBitVec.toNat) := by
  have hE := bE_le m.toBitVec.toNat
  rw [n_reg, n_edge, n_ex, n_bel _ _ hx (bR_lt _), nI_l (by split <;> decide), nI_l (by omega), oI_N, oI_N, oI_add, show (8 : Int32) = nI 8 from rfl, jsl_of _ (by decide), oI_add, jsl_of _ (by omega)]
  congr 2
  unfold bW
  have h8 : (2 : Int) ^ 8 = 256 := by decide
  rw [h8]
  congr 2
  congr 1
  split <;> rfl
theorem cbase_n (m a : Int32) : cbase m a = lN (nBase m.toBitVec.toNat a.toBitVec.toNat) := by
  unfold cbase
  rw [n_lo, n_place m a _ (bB_lt _), show (4294967295 : Int64) = lN (2 ^ 32 - 1) from rfl, and_of _ (by decide)]
  rfl
theorem ctop0_n (m a : Int32) : ctop0 m a = lN (nTop0 m.toBitVec.toNat a.toBitVec.toNat) := by
  unfold ctop0
  rw [n_hi, n_place m a _ (bT_lt _), show (8589934591 : Int64) = lN (2 ^ 33 - 1) from rfl, and_of _ (by decide)]
  rfl
theorem nBase_lt (M A : Nat) : nBase M A < 4294967296 := by
  unfold nBase
  have h1 : (0 : Int) ≤ bW M A (bB M) * 2 ^ bE M % 4294967296 := Int.emod_nonneg _ (by decide)
  have h2 : bW M A (bB M) * 2 ^ bE M % 4294967296 < 4294967296 := Int.emod_lt_of_pos _ (by decide)
  omega
theorem nTop0_lt (M A : Nat) : nTop0 M A < 8589934592 := by
  unfold nTop0
  have h1 : (0 : Int) ≤ bW M A (bT M) * 2 ^ bE M % 8589934592 := Int.emod_nonneg _ (by decide)
  have h2 : bW M A (bT M) * 2 ^ bE M % 8589934592 < 8589934592 := Int.emod_lt_of_pos _ (by decide)
  omega
theorem sub3 : ∀ x, x < 4 → ∀ y, y < 2 → (lN x - lN y) &&& 3 = lN ((x + 4 - y) % 4) := by decide +kernel
theorem ctop_n (m a : Int32) : ctop m a = lN (nTop m.toBitVec.toNat a.toBitVec.toNat) := by
  unfold ctop nTop
  have hE := bE_le m.toBitVec.toNat
  have hb := nBase_lt m.toBitVec.toNat a.toBitVec.toNat
  have ht := nTop0_lt m.toBitVec.toNat a.toBitVec.toNat
  rw [n_ex, ctop0_n, cbase_n, show (31 : Int32) = nI 31 from rfl, wb_shr (by omega) (by decide), wb_shr (by omega) (by decide)]
  have e31 : (2 : Nat) ^ 31 = 2147483648 := by decide
  rw [e31, sub3 _ (by omega) _ (by omega)]
  by_cases h : bE m.toBitVec.toNat < 25
  · rw [if_pos (show nI (bE m.toBitVec.toNat) < 25 from nI_lt h (by decide)), if_pos h]
    by_cases h2 : 1 < (nTop0 m.toBitVec.toNat a.toBitVec.toNat / 2147483648 + 4 - nBase m.toBitVec.toNat a.toBitVec.toNat / 2147483648) % 4
    · rw [if_pos (show (1 : Int64) < _ from (lN_lt (a := 1) (by decide) (by omega)).mpr h2), if_pos h2]
      apply wb_inj
      show (lN _).toBitVec ^^^ (lN 4294967296).toBitVec = _
      rw [wb_tb, wb_tb, wb_tb]
      apply BitVec.eq_of_toNat_eq
      rw [BitVec.toNat_xor, BitVec.toNat_ofNat, BitVec.toNat_ofNat, BitVec.toNat_ofNat, Nat.mod_eq_of_lt (by omega), Nat.mod_eq_of_lt (by decide), Nat.mod_eq_of_lt]
      exact Nat.lt_of_lt_of_le (Nat.xor_lt_two_pow (n := 33) (by omega) (by decide)) (by decide)
    · rw [if_neg (show ¬ (1 : Int64) < _ from fun q => h2 ((lN_lt (a := 1) (by decide) (by omega)).mp q)), if_neg h2]
  · rw [if_neg (show ¬ nI (bE m.toBitVec.toNat) < 25 from nI_nlt (a := bE m.toBitVec.toNat) (b := 25) (by omega) (by omega)), if_neg h]
theorem null_base (x : Int32) : cbase 1000194 x = 0 := by
  rw [cbase_n]
  have hA := iN_lt x
  have hM : (1000194 : Int32).toBitVec.toNat = 1000194 := by decide
  rw [hM]
  unfold nBase bW
  have e1 : bE 1000194 = 26 := by decide
  have e2 : bB 1000194 = 0 := by decide
  have e3 : bR 1000194 = 7 := by decide
  rw [e1, e2, e3]
  have h1 : x.toBitVec.toNat / 2 ^ (26 + 8) = 0 := Nat.div_eq_of_lt (by omega)
  have h2 : x.toBitVec.toNat / 2 ^ 26 % 256 / 32 < 7 := by omega
  rw [h1, if_pos h2]
  rfl
theorem null_top (x : Int32) : ctop 1000194 x = 4294967296 := by
  rw [ctop_n]
  have hA := iN_lt x
  have hM : (1000194 : Int32).toBitVec.toNat = 1000194 := by decide
  rw [hM]
  unfold nTop nTop0 bW
  have e1 : bE 1000194 = 26 := by decide
  have e2 : bT 1000194 = 64 := by decide
  have e3 : bR 1000194 = 7 := by decide
  rw [e1, e2, e3]
  have h1 : x.toBitVec.toNat / 2 ^ (26 + 8) = 0 := Nat.div_eq_of_lt (by omega)
  have h2 : x.toBitVec.toNat / 2 ^ 26 % 256 / 32 < 7 := by omega
  rw [h1, if_pos h2]
  rfl
