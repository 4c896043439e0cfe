/-! Lengths that fit. -/
theorem l_pos {n : Int64} (h : ¬ n < 0) : n.toBitVec.toNat < 2 ^ 63 ∧ n.toInt = (n.toBitVec.toNat : Int) := by
  have hn : n.toBitVec.toNat < 2 ^ 63 := by
    rcases Nat.lt_or_ge n.toBitVec.toNat (2 ^ 63) with q | q
    · exact q
    · exfalso
      apply h
      rw [Int64.lt_iff_toInt_lt]
      show n.toBitVec.toInt < 0
      rw [BitVec.toInt_neg_iff]
      omega
  refine ⟨hn, ?_⟩
  show n.toBitVec.toInt = _
  rw [BitVec.toInt_eq_toNat_of_lt (by omega)]
theorem fit_n {b : Int32} {n : Int64} (h : fitS b n = true) : ∃ L, n = lN L ∧ b.toBitVec.toNat + L ≤ 4294967296 := by
  unfold fitS at h
  by_cases h1 : n < 0
  · rw [if_pos h1] at h; exact absurd h (by decide)
  · rw [if_neg h1] at h
    by_cases h2 : 4294967296 - cLow b < n
    · rw [if_pos h2] at h; exact absurd h (by decide)
    · have hb := iN_lt b
      have e : n = lN n.toBitVec.toNat := lL_of n
      obtain ⟨hn, hi⟩ := l_pos h1
      refine ⟨n.toBitVec.toNat, e, ?_⟩
      rw [cLow_n, show (4294967296 : Int64) = lN 4294967296 from rfl, lN_sub (by omega)] at h2
      have h3 : ¬ (4294967296 - b.toBitVec.toNat < n.toBitVec.toNat) := by
        intro q
        apply h2
        rw [Int64.lt_iff_toInt_lt, pf_lI (by omega), hi]
        omega
      omega
theorem fit_t {b : Int32} {n : Int64} (h : fitS b n = true) : ¬ n < 0 ∧ ¬ 4294967296 < cLow b + n ∧ ¬ 4294967296 < n := by
  obtain ⟨L, rfl, hL⟩ := fit_n h
  have hb := iN_lt b
  rw [cLow_n, lN_add, show (4294967296 : Int64) = lN 4294967296 from rfl, show (0 : Int64) = lN 0 from rfl, lN_lt2 (by omega) (by decide), lN_lt2 (by decide) (by omega), lN_lt2 (by decide) (by omega)]
  omega
theorem fit_f {b : Int32} {n : Int64} (h : fitS b n = false) (h1 : ¬ n < 0) (h3 : ¬ 4294967296 < n) : 4294967296 < cLow b + n := by
  unfold fitS at h
  rw [if_neg h1] at h
  have hb := iN_lt b
  obtain ⟨hn, hi⟩ := l_pos h1
  have e : n = lN n.toBitVec.toNat := lL_of n
  have h4 : n.toBitVec.toNat ≤ 4294967296 := by
    rcases Nat.lt_or_ge 4294967296 n.toBitVec.toNat with q | q
    · exfalso
      apply h3
      rw [Int64.lt_iff_toInt_lt, hi, show (4294967296 : Int64).toInt = 4294967296 from rfl]
      omega
    · exact q
  by_cases h2 : 4294967296 - cLow b < n
  · rw [e, cLow_n, show (4294967296 : Int64) = lN 4294967296 from rfl, lN_sub (by omega), lN_lt2 (by omega) (by omega)] at h2
    rw [e, cLow_n, lN_add, show (4294967296 : Int64) = lN 4294967296 from rfl, lN_lt2 (by decide) (by omega)]
    omega
  · rw [if_neg h2] at h
    exact absurd h (by decide)
theorem i_l0 (n : Int32) : n.toInt64 < 0 ↔ n < 0 := by
  rw [Int64.lt_iff_toInt_lt, Int32.lt_iff_toInt_lt, Int32.toInt_toInt64]
  rfl
theorem i_lA (n : Int32) : ¬ 4294967296 < n.toInt64 := by
  rw [Int64.lt_iff_toInt_lt, Int32.toInt_toInt64, show (4294967296 : Int64).toInt = 4294967296 from rfl]
  have := i_b n
  omega
def bN (a : Int32) (L : Nat) : Nat := if a.toBitVec.toNat + L ≤ 4294967296 then a.toBitVec.toNat + L else 4294967296
theorem bN_le (a : Int32) (L : Nat) : bN a L ≤ 4294967296 := by unfold bN; split <;> omega
theorem bN_ge (a : Int32) (L : Nat) : a.toBitVec.toNat ≤ bN a L := by have := iN_lt a; unfold bN; split <;> omega
theorem bTo_hi {c : Cap} {n : Int64} (h : 4294967296 ≤ cLow c.2.1 + n) : bTo c n = 4294967296 := by
  unfold bTo lmin bF
  split
  · rfl
  · rename_i q
    exact Int64.le_antisymm (Int64.not_lt.mp q) h
theorem bTo_lo {c : Cap} {n : Int64} (h : ¬ 4294967296 ≤ cLow c.2.1 + n) : bTo c n = cLow c.2.1 + n := by
  unfold bTo lmin bF
  rw [if_neg (fun q => h (Int64.le_of_lt q))]
theorem bTo_n {c : Cap} {n : Int64} {L : Nat} (hn : n = lN L) (hL : L < 4294967296) : bTo c n = lN (bN c.2.1 L) := by
  subst hn
  have ha := iN_lt c.2.1
  have e : cLow c.2.1 + lN L = lN (c.2.1.toBitVec.toNat + L) := by rw [cLow_n, lN_add]
  unfold bN
  by_cases h : 4294967296 ≤ cLow c.2.1 + lN L
  · rw [bTo_hi h]
    rw [e, show (4294967296 : Int64) = lN 4294967296 from rfl, lN_le2 (by decide) (by omega)] at h
    split
    · rw [show c.2.1.toBitVec.toNat + L = 4294967296 by omega]; rfl
    · rfl
  · rw [bTo_lo h, e]
    rw [e, show (4294967296 : Int64) = lN 4294967296 from rfl, lN_le2 (by decide) (by omega)] at h
    rw [if_pos (by omega)]
theorem us20_l (x : Int32) : (jus x 20).toInt64 = lN (x.toBitVec.toNat / 1048576) := by
  have := iN_lt x
  rw [iN_us x 20 20 (by decide), show (2 : Nat) ^ 20 = 1048576 from rfl, nI_l (by omega)]
theorem fit0 (y : Int32) : fitS 0 (cLow y) = true := by
  unfold fitS
  have h := iN_lt y
  have h1 : ¬ cLow y < 0 := by
    rw [cLow_n y, show (0 : Int64) = lN 0 from rfl, lN_lt2 (by omega) (by decide)]
    omega
  have h2 : ¬ 4294967296 - cLow 0 < cLow y := by
    rw [cLow_n y, show (4294967296 : Int64) - cLow 0 = lN 4294967296 from by decide, lN_lt2 (by decide) (by omega)]
    omega
  rw [if_neg h1, if_neg h2]
