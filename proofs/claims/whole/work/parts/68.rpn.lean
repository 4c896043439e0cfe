/-! What the reference packs, read again. -/
theorem kB_25 {D : Nat} (hD : D < 2 ^ 25) : ∀ k z, z + k = 25 → kB (lN D) (63 - z) z ≤ 25 := by
  intro k
  induction k with
  | zero =>
    intro z h
    have hz : z = 25 := by omega
    subst hz
    rw [kB_stop (by omega) (by decide) (Nat.div_eq_of_lt hD)]
    decide
  | succ k ih =>
    intro z h
    by_cases h1 : D / 2 ^ z = 0
    · rw [kB_stop (by omega) (by omega) h1]
      omega
    · rw [kB_on (by omega) (by omega) h1]
      exact ih (z + 1) (by omega)
theorem kE_26 {B T : Nat} (hB : B ≤ T) (hT : T < 4294967296) (h : kIn (lN B) (lN T) = true) : ∃ e, e ≤ 26 ∧ kE (lN B) (lN T) = nI e := by
  have e0 : kE0 (lN B) (lN T) = nI (kB (lN ((T - B) / 128)) 63 0) := by
    unfold kE0
    rw [lN_sub hB, show (7 : Int32) = nI 7 from rfl, wb_shr (by omega) (by decide), show (2 : Nat) ^ 7 = 128 from rfl]
  have l : kB (lN ((T - B) / 128)) 63 0 ≤ 25 := kB_25 (D := (T - B) / 128) (by omega) 25 0 rfl
  unfold kE
  rw [if_neg (by rw [h]; decide), e0]
  split
  · exact ⟨_, by omega, rfl⟩
  · exact ⟨_, by omega, nI_1 _⟩
theorem pkW_b (B T e : Nat) (he : e < 32) (i : Nat) (hi : i < 32) : bt (pkW B T e) i = (decide (i = 14) || (decide (8 ≤ i) && ((bt ((jsr (lN (nUp T e)) (nI e)).toInt32) (i - 8) && bt 56 (i - 8)) || bt (nI e >>> ((3 : Int32) &&& 31)) (i - 8))) || ((bt ((jsr (lN (nDn B e)) (nI e)).toInt32) i && bt 248 i) || (bt (nI e) i && bt 7 i))) := by
  unfold pkW
  have h1 : ∀ i, i < 32 → bt 16384 i = decide (i = 14) := by decide +kernel
  rw [b_or, b_or, h1 i hi, show (8 : Int32) = nI 8 from rfl, b_shl 8 (by decide) _ hi, b_or, b_and, b_or, b_and, b_and]
theorem e_sm : ∀ e, e < 32 → ∀ i, i < 32 → bt (nI e) i = (decide (i < 5) && e.testBit i) := by
  intro e he i hi
  rw [b_nI]
  by_cases h : i < 5
  · simp [h, hi]
  · have : e.testBit i = false := Nat.testBit_lt_two_pow (by have := Nat.pow_le_pow_right (n := 2) (by decide) (show 5 ≤ i by omega); omega)
    simp [h, this]
theorem pkW_7 (B T e : Nat) (he : e < 32) : pkW B T e &&& 7 = nI (e % 8) := by
  apply b_ext
  intro i hi
  have h7 : ∀ i, i < 32 → bt 7 i = decide (i < 3) := by decide +kernel
  have h248 : ∀ i, i < 3 → bt 248 i = false := by decide +kernel
  rw [b_and, h7 i hi]
  have h2 : nI (e % 8) = nI e &&& 7 := (and7 e (by omega)).symm
  rw [h2, b_and, h7 i hi]
  by_cases h : i < 3
  · rw [pkW_b B T e he i hi, h248 i h, h7 i hi]
    have a1 : ¬ i = 14 := by omega
    have a2 : ¬ 8 ≤ i := by omega
    simp [h, a1, a2]
  · simp [h]
theorem e_sr3 : ∀ e, e < 32 → nI e >>> ((3 : Int32) &&& 31) = nI (e / 8) := by decide +kernel
theorem pkW_3 (B T e : Nat) (he : e < 32) : (pkW B T e >>> ((8 : Int32) &&& 31)) &&& 7 = nI (e / 8) := by
  apply b_ext
  intro i hi
  have h7 : ∀ i, i < 32 → bt 7 i = decide (i < 3) := by decide +kernel
  have h248 : ∀ i, i < 3 → bt 248 (8 + i) = false := by decide +kernel
  have h56 : ∀ i, i < 3 → bt 56 i = false := by decide +kernel
  rw [b_and, h7 i hi]
  by_cases h : i < 3
  · rw [show (8 : Int32) = nI 8 from rfl, b_sra 8 (by decide) _ i hi, if_pos (by omega), pkW_b B T e he (8 + i) (by omega), h248 i h, h7 (8 + i) (by omega), e_sr3 e he, show 8 + i - 8 = i by omega, h56 i h]
    have a1 : ¬ 8 + i = 14 := by omega
    have a2 : ¬ 8 + i < 3 := by omega
    simp [h, a1, a2]
  · rw [e_sm (e / 8) (by omega) i hi]
    have : (e / 8).testBit i = false := Nat.testBit_lt_two_pow (by have := Nat.pow_le_pow_right (n := 2) (by decide) (show 3 ≤ i by omega); omega)
    simp [h, this]
theorem pkW_14 (B T e : Nat) (he : e < 32) (i : Nat) (hi : i = 14) : bt (pkW B T e) i = true := by
  rw [pkW_b B T e he i (by omega)]
  simp [hi]
theorem pkW_1 (B T e : Nat) (he : e < 32) : (pkW B T e >>> ((14 : Int32) &&& 31)) &&& 1 = nI 1 := by
  apply b_ext
  intro i hi
  have h1 : ∀ i, i < 32 → bt 1 i = decide (i = 0) := by decide +kernel
  rw [b_and, show nI 1 = 1 from rfl, h1 i hi]
  by_cases h : i = 0
  · rw [show (14 : Int32) = nI 14 from rfl, b_sra 14 (by decide) _ i hi, if_pos (by omega), pkW_14 B T e he (14 + i) (by omega)]
    simp [h]
  · simp [h]
theorem pkW_bE (B T e : Nat) (he : e ≤ 26) : bE (mN (pkW B T e)) = e := by
  have a := r_bi (pkW B T e)
  rw [pkW_1 B T e (by omega)] at a
  have a1 : bI (mN (pkW B T e)) = 1 := (iN_inj (by decide) (by have := bI_lt (mN (pkW B T e)); omega) a).symm
  have b := r_e3 (pkW B T e)
  rw [pkW_3 B T e (by omega)] at b
  have b1 := (iN_inj (by omega) (by omega) b).symm
  have c := r_e0 (pkW B T e)
  rw [pkW_7 B T e (by omega)] at c
  have c1 := (iN_inj (by omega) (by omega) c).symm
  unfold bE
  rw [a1, if_neg (by decide), b1, c1]
  split <;> omega
theorem sh14 : ∀ T, T < 64 → (((((lN T &&& 63).toInt32 <<< ((8 : Int32) &&& 31)) ||| ((lN 0).toInt32 &&& 255)) >>> ((14 : Int32) &&& 31)) = 0) := by decide +kernel
theorem shE : ∀ e, e < 27 → (-1 : Int32) <<< (nI (e + 3) &&& 31) = (-8 : Int32) <<< (nI e &&& 31) := by decide +kernel
/-- what the reference makes of a length: as the class does -/
theorem rp9 (y : Int32) : (kIn 0 (cLow y) = false → kBits 0 (cLow y) >>> ((14 : Int32) &&& 31) = 0) ∧ (kIn 0 (cLow y) = true → ¬ kBits 0 (cLow y) >>> ((14 : Int32) &&& 31) = 0 ∧ (-1 : Int32) <<< (nI (bE (mN (kBits 0 (cLow y))) + 3) &&& 31) = (-8 : Int32) <<< (kE 0 (cLow y) &&& 31)) := by
  rw [cLow_n, show (0 : Int64) = lN 0 from rfl]
  have hy : y.toBitVec.toNat < 4294967296 := iN_lt y
  generalize y.toBitVec.toNat = T at hy
  constructor
  · intro h
    have h0 : kE0 (lN 0) (lN T) = 0 ∧ T - 0 ≤ 63 := by
      unfold kIn at h
      by_cases h1 : 0 < kE0 (lN 0) (lN T)
      · rw [if_pos h1] at h
        exact absurd h (by decide)
      · rw [if_neg h1] at h
        by_cases h2 : lN T - lN 0 ≤ 63
        · have e0 : kE0 (lN 0) (lN T) = nI (kB (lN ((T - 0) / 128)) 63 0) := by
            unfold kE0
            rw [lN_sub (Nat.zero_le T), show (7 : Int32) = nI 7 from rfl, wb_shr (by omega) (by decide), show (2 : Nat) ^ 7 = 128 from rfl]
          have l : kB (lN ((T - 0) / 128)) 63 0 ≤ 25 := kB_25 (D := (T - 0) / 128) (by omega) 25 0 rfl
          rw [e0] at h1 ⊢
          refine ⟨?_, sm63 (B := 0) (T := T) (Nat.zero_le _) (by omega) (by rw [lN_sub (Nat.zero_le T)] at h2; exact h2)⟩
          by_cases h3 : kB (lN ((T - 0) / 128)) 63 0 = 0
          · rw [h3]; rfl
          · exact absurd (nI_lt (a := 0) (b := kB (lN ((T - 0) / 128)) 63 0) (by omega) (by omega)) h1
        · rw [if_neg h2] at h
          exact absurd h (by decide)
    obtain ⟨_, _, _, i4⟩ := pk_sm (Nat.zero_le T) (by omega) h0.1 h0.2
    rw [i4]
    exact sh14 T (by omega)
  · intro h
    obtain ⟨e, he, hk⟩ := kE_26 (Nat.zero_le T) hy h
    obtain ⟨_, _, e3⟩ := pk_fin (Nat.zero_le T) (by omega) (by omega) h hk
    rw [e3, hk, pkW_bE 0 T e he]
    refine ⟨fun q => ?_, shE e (by omega)⟩
    have a := pkW_1 0 T e (by omega)
    rw [q] at a
    exact absurd a (by decide)
