/-! The reference's words of a capability's bounds, by natural numbers. -/
abbrev mN (m : Int32) : Nat := m.toBitVec.toNat
theorem r_bi (m : Int32) : (m >>> ((14 : Int32) &&& 31)) &&& 1 = nI (bI (mN m)) := iN_sra m _ 1 14 1 (by decide) rfl (by decide)
theorem r_e3 (m : Int32) : (m >>> ((8 : Int32) &&& 31)) &&& 7 = nI (mN m / 256 % 8) := iN_sra m _ 7 8 3 (by decide) rfl (by decide)
theorem r_e0 (m : Int32) : m &&& 7 = nI (mN m % 8) := pk_and m 3 rfl
theorem r_255 (m : Int32) : m &&& 255 = nI (mN m % 256) := pk_and m 8 rfl
theorem r_248 (m : Int32) : m &&& 248 = nI (mN m % 256 / 8 * 8) := by
  rw [show (248 : Int32) = 255 &&& (-8) by decide, ← Int32.and_assoc, r_255, and8 _ (by omega)]
theorem r_63 (m : Int32) : (m >>> ((8 : Int32) &&& 31)) &&& 63 = nI (mN m / 256 % 64) := iN_sra m _ 63 8 6 (by decide) rfl (by decide)
theorem r_56 (m : Int32) : (m >>> ((8 : Int32) &&& 31)) &&& 56 = nI (mN m / 256 % 64 / 8 * 8) := by
  rw [show (56 : Int32) = 63 &&& (-8) by decide, ← Int32.and_assoc, r_63, and8 _ (by omega)]
theorem r_sh6 : ∀ n, n < 256 → nI n >>> ((6 : Int32) &&& 31) = nI (n / 64) := by decide +kernel
theorem r_ty (m : Int32) : (m >>> ((16 : Int32) &&& 31)) &&& 15 = cType m := by
  rw [iN_sra m _ 15 16 4 (by decide) rfl (by decide)]
  unfold cType
  rw [pk_and _ 4 rfl, iN_us m 16 16 (by decide), iN_tn (Nat.lt_of_le_of_lt (Nat.div_le_self _ _) (iN_lt m))]
theorem bI0 {M : Nat} : nI (bI M) = 0 ↔ bI M = 0 := by
  have := bI_lt M
  constructor
  · intro h
    exact nI_inj (a := bI M) (b := 0) (by omega) (by decide) h
  · intro h
    rw [h]
    rfl
def wS (M A : Nat) : Int := (A : Int) - ((A : Int) - 32 * (bR M : Int) * 2 ^ bE M) % (256 * 2 ^ bE M)
theorem wS_in (M A x : Nat) (hx : x < 256) : wS M A + ((x : Int) * 2 ^ bE M - wS M A) % (256 * 2 ^ bE M) = bW M A x * 2 ^ bE M := by
  have hP : 0 < 2 ^ bE M := Nat.pow_pos (by decide)
  have hR := bR_lt M
  have ep : ((2 : Int) ^ bE M) = ((2 ^ bE M : Nat) : Int) := (Int.natCast_pow 2 _).symm
  have e8 : 2 ^ (bE M + 8) = 256 * 2 ^ bE M := by rw [Nat.pow_add, Nat.mul_comm]
  rw [win_id (P := 2 ^ bE M) (A := (A : Int)) (R := (bR M : Int)) (x := (x : Int)) (q := ((A / 2 ^ (bE M + 8) : Nat) : Int)) (r := ((A % 2 ^ (bE M + 8) : Nat) : Int)) (d1 := if A / 2 ^ bE M % 256 / 32 < bR M then 1 else 0) (d2 := if x / 32 < bR M then 1 else 0) (by rw [ep]; omega) (by omega) (by omega) (by omega) (by omega) ?_ (by omega) ?_ ?_ ?_ (wS M A) rfl]
  · rfl
  · have h := Nat.div_add_mod A (2 ^ (bE M + 8))
    rw [ep]
    have e9 : (256 : Int) * ((2 ^ bE M : Nat) : Int) = ((2 ^ (bE M + 8) : Nat) : Int) := by rw [e8, Int.natCast_mul]; rfl
    rw [e9, ← Int.natCast_mul, ← Int.natCast_add]
    congr 1
    rw [Nat.mul_comm]
    exact h.symm
  · rw [ep, e8]
    have : A % (256 * 2 ^ bE M) < 256 * 2 ^ bE M := Nat.mod_lt _ (by omega)
    omega
  · have hk : (A / 2 ^ bE M % 256 / 32 < bR M) ↔ (A % (256 * 2 ^ bE M) < 32 * bR M * 2 ^ bE M) := by
      rw [Nat.mul_comm 256, Nat.mod_mul_right_div_self (A) (2 ^ bE M) 256 |>.symm, Nat.div_div_eq_div_mul, Nat.div_lt_iff_lt_mul (by omega)]
      constructor
      · intro h
        calc _ < _ := h
          _ = _ := by rw [Nat.mul_comm (2 ^ bE M) 32, ← Nat.mul_assoc, Nat.mul_comm (bR M)]
      · intro h
        calc _ < _ := h
          _ = _ := by rw [Nat.mul_comm (2 ^ bE M) 32, ← Nat.mul_assoc, Nat.mul_comm (bR M)]
    have hk2 : (((A % 2 ^ (bE M + 8) : Nat) : Int) < 32 * (bR M : Int) * 2 ^ bE M) ↔ (A % (256 * 2 ^ bE M) < 32 * bR M * 2 ^ bE M) := by
      rw [ep, e8]
      have e : (32 : Int) * (bR M : Int) * ((2 ^ bE M : Nat) : Int) = ((32 * bR M * 2 ^ bE M : Nat) : Int) := by rw [Int.natCast_mul, Int.natCast_mul]; rfl
      rw [e]
      exact Int.ofNat_lt
    by_cases h : A / 2 ^ bE M % 256 / 32 < bR M
    · rw [if_pos h, if_pos (hk2.mpr (hk.mp h))]
    · rw [if_neg h, if_neg (fun q => h (hk.mpr (hk2.mp q)))]
  · by_cases h : x / 32 < bR M
    · rw [if_pos h, if_pos (by omega)]
    · rw [if_neg h, if_neg (by omega)]
theorem wS_b (M A : Nat) (hA : A < 4294967296) : -17179869184 ≤ wS M A ∧ wS M A ≤ 4294967296 := by
  have hP : 0 < 2 ^ bE M := Nat.pow_pos (by decide)
  have hP2 : 2 ^ bE M ≤ 2 ^ 26 := Nat.pow_le_pow_right (by decide) (bE_le M)
  have ep : ((2 : Int) ^ bE M) = ((2 ^ bE M : Nat) : Int) := (Int.natCast_pow 2 _).symm
  unfold wS
  rw [ep]
  have h1 := Int.emod_nonneg ((A : Int) - 32 * (bR M : Int) * ((2 ^ bE M : Nat) : Int)) (show 256 * ((2 ^ bE M : Nat) : Int) ≠ 0 by omega)
  have h2 := Int.emod_lt_of_pos ((A : Int) - 32 * (bR M : Int) * ((2 ^ bE M : Nat) : Int)) (show 0 < 256 * ((2 ^ bE M : Nat) : Int) by omega)
  omega
theorem r_base (m a : Int32) : Int64.ofInt (bW (mN m) (mN a) (bB (mN m)) * 2 ^ bE (mN m)) &&& 4294967295 = cbase m a := by
  unfold cbase
  rw [n_lo, n_place m a _ (bB_lt _)]
theorem r_top0 (m a : Int32) : Int64.ofInt (bW (mN m) (mN a) (bT (mN m)) * 2 ^ bE (mN m)) &&& 8589934591 = ctop0 m a := by
  unfold ctop0
  rw [n_hi, n_place m a _ (bT_lt _)]
theorem sub3i : ∀ x, x < 4 → ∀ y, y < 2 → (nI x - nI y) &&& 3 = nI ((x + 4 - y) % 4) := by decide +kernel
theorem r_topc (m a : Int32) : ((1 : Int64) < (jul (ctop0 m a) 31 - jul (cbase m a) 31) &&& 3) ↔ ¬ (((jsr (ctop0 m a) 31).toInt32 - (jsr (cbase m a) 31).toInt32) &&& 3) ≤ 1 := by
  have hb := nBase_lt m.toBitVec.toNat a.toBitVec.toNat
  have ht := nTop0_lt m.toBitVec.toNat a.toBitVec.toNat
  have e31 : (2 : Nat) ^ 31 = 2147483648 := by decide
  rw [ctop0_n, cbase_n, show (31 : Int32) = nI 31 from rfl, wb_shr (by omega) (by decide), wb_shr (by omega) (by decide), wb_sra (by decide) (by omega), wb_sra (by decide) (by omega), e31, sub3 _ (by omega) _ (by omega), lN_i, lN_i, sub3i _ (by omega) _ (by omega)]
  have h4 : (nTop0 m.toBitVec.toNat a.toBitVec.toNat / 2147483648 + 4 - nBase m.toBitVec.toNat a.toBitVec.toNat / 2147483648) % 4 < 4 := Nat.mod_lt _ (by decide)
  rw [show (1 : Int64) = lN 1 from rfl, show (1 : Int32) = nI 1 from rfl, lN_lt (by decide) (by omega), nI_leI (by omega) (by decide)]
  omega
theorem r_len (b t : Int64) : (if t - b < 4294967296 then (t - b).toInt32 else -1) = cLen b t := by
  unfold cLen lmin
  generalize t - b = v
  by_cases h : v < 4294967296
  · rw [if_pos h]
    have h2 : ¬ (4294967295 : Int64) < v := by
      rw [Int64.lt_iff_toInt_lt] at h ⊢
      have e1 : (4294967296 : Int64).toInt = 4294967296 := by decide
      have e2 : (4294967295 : Int64).toInt = 4294967295 := by decide
      rw [e1] at h
      rw [e2]
      omega
    rw [if_neg h2]
  · rw [if_neg h]
    have h2 : (4294967295 : Int64) < v := by
      rw [Int64.lt_iff_toInt_lt] at h ⊢
      have e1 : (4294967296 : Int64).toInt = 4294967296 := by decide
      have e2 : (4294967295 : Int64).toInt = 4294967295 := by decide
      rw [e1] at h
      rw [e2]
      omega
    rw [if_pos h2]
    decide
