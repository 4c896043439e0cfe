/-! Immediates of the reference. -/
theorem f_us (x : Int32) (n k m l : Nat) (hn : n < 32) (hm : m < 32) (hl : l < 32) (A B : Int32) (hA : ∀ i, i < 32 → bt A i = decide (i < k)) (hB : ∀ i, i < 32 → bt B i = decide (m ≤ i ∧ i < m + k)) (hs : n + k ≤ 32) (e : l + m = n) : ((x >>> (nI n &&& 31)) &&& A) <<< (nI m &&& 31) = jus x (nI l) &&& B := by
  apply b_ext
  intro i hi
  rw [b_shl m hm _ hi, b_and, b_and, b_us l hl, hB i hi]
  by_cases h1 : m ≤ i
  · rw [b_sra n hn _ _ (by omega), hA (i - m) (by omega)]
    by_cases h2 : i < m + k
    · rw [if_pos (by omega), show n + (i - m) = l + i by omega]
      have h3 : i - m < k := by omega
      simp [h1, h2, h3]
    · have h3 : ¬ i - m < k := by omega
      simp [h1, h2, h3]
  · simp [h1]
theorem f_sl (x : Int32) (n k m l : Nat) (hn : n < 32) (hm : m < 32) (hl : l < 32) (A B : Int32) (hA : ∀ i, i < 32 → bt A i = decide (i < k)) (hB : ∀ i, i < 32 → bt B i = decide (m ≤ i ∧ i < m + k)) (hs : n + k ≤ 32) (e : n + l = m) : ((x >>> (nI n &&& 31)) &&& A) <<< (nI m &&& 31) = (x <<< (nI l &&& 31)) &&& B := by
  apply b_ext
  intro i hi
  rw [b_shl m hm _ hi, b_and, b_and, b_shl l hl _ hi, hB i hi]
  by_cases h1 : m ≤ i
  · rw [b_sra n hn _ _ (by omega), hA (i - m) (by omega)]
    by_cases h2 : i < m + k
    · rw [if_pos (by omega), show n + (i - m) = i - l by omega]
      have h3 : i - m < k := by omega
      have h4 : l ≤ i := by omega
      simp [h1, h2, h3, h4]
    · have h3 : ¬ i - m < k := by omega
      simp [h1, h2, h3]
  · simp [h1]
theorem f_21 (x : Int32) : ((x >>> ((20 : Int32) &&& 31)) &&& 1) <<< ((11 : Int32) &&& 31) = jus x 9 &&& 2048 := f_us x 20 1 11 9 (by decide) (by decide) (by decide) 1 2048 (by decide +kernel) (by decide +kernel) (by decide) rfl
theorem f_22 (x : Int32) : ((x >>> ((21 : Int32) &&& 31)) &&& 1023) <<< ((1 : Int32) &&& 31) = jus x 20 &&& 2046 := f_us x 21 10 1 20 (by decide) (by decide) (by decide) 1023 2046 (by decide +kernel) (by decide +kernel) (by decide) rfl
theorem f_11 (x : Int32) : ((x >>> ((7 : Int32) &&& 31)) &&& 1) <<< ((11 : Int32) &&& 31) = (x <<< ((4 : Int32) &&& 31)) &&& 2048 := f_sl x 7 1 11 4 (by decide) (by decide) (by decide) 1 2048 (by decide +kernel) (by decide +kernel) (by decide) rfl
theorem f_12 (x : Int32) : ((x >>> ((25 : Int32) &&& 31)) &&& 63) <<< ((5 : Int32) &&& 31) = jus x 20 &&& 2016 := f_us x 25 6 5 20 (by decide) (by decide) (by decide) 63 2016 (by decide +kernel) (by decide +kernel) (by decide) rfl
theorem f_13 (x : Int32) : ((x >>> ((8 : Int32) &&& 31)) &&& 15) <<< ((1 : Int32) &&& 31) = jus x 7 &&& 30 := f_us x 8 4 1 7 (by decide) (by decide) (by decide) 15 30 (by decide +kernel) (by decide +kernel) (by decide) rfl
theorem f_13' (x : Int32) : ((x >>> ((8 : Int32) &&& 31)) &&& 15) <<< ((1 : Int32) &&& 31) = (jus x 7 &&& 31) &&& 30 := by
  rw [f_13]
  apply b_ext
  intro i hi
  rw [b_and, b_and, b_and]
  have h1 : ∀ i, i < 32 → (bt 31 i && bt 30 i) = bt 30 i := by decide +kernel
  rw [Bool.and_assoc, h1 i hi]
theorem f_20 (x : Int32) : jus x 20 = (x >>> ((20 : Int32) &&& 31)) &&& 4095 := by
  apply b_ext
  intro i hi
  have h1 : ∀ i, i < 32 → bt 4095 i = decide (i < 12) := by decide +kernel
  rw [b_and, h1 i hi, show jus x 20 = jus x (nI 20) from rfl, b_us 20 (by decide), show x >>> ((20 : Int32) &&& 31) = x >>> (nI 20 &&& 31) from rfl, b_sra 20 (by decide) _ _ hi]
  by_cases h : i < 12
  · rw [if_pos (by omega)]
    simp [h]
  · rw [b_big (by omega)]
    simp [h]
theorem d_rd (x : Int32) : (x >>> ((7 : Int32) &&& 31)) &&& 31 = nI (nRd x) := iN_sra x _ 31 7 5 (by decide) rfl (by decide)
theorem d_fn (x : Int32) : (x >>> ((12 : Int32) &&& 31)) &&& 7 = nI (nFn x) := iN_sra x _ 7 12 3 (by decide) rfl (by decide)
theorem d_r1 (x : Int32) : (x >>> ((15 : Int32) &&& 31)) &&& 31 = nI (nR1 x) := iN_sra x _ 31 15 5 (by decide) rfl (by decide)
theorem d_r2 (x : Int32) : (x >>> ((20 : Int32) &&& 31)) &&& 31 = nI (nR2 x) := iN_sra x _ 31 20 5 (by decide) rfl (by decide)
theorem d_nb (x : Int32) : jus x 25 = nI (nNb x) := iN_us x 25 25 (by decide)
theorem d_op (x : Int32) : x &&& 127 = nI (nOp x) := pk_and x 7 rfl
theorem im_23 {x : Int32} (h : nI (nOp x) = 23) : iIm x = x &&& (-4096) := by
  unfold iIm iImm
  rw [if_pos (show iOp x = 23 from h)]
theorem im_55 {x : Int32} (h : nI (nOp x) = 55) : iIm x = x &&& (-4096) := by
  unfold iIm iImm
  rw [show iOp x = 55 from h]
  rfl
theorem im_35 {x : Int32} (h : nI (nOp x) = 35) : iIm x = ((x >>> ((25 : Int32) &&& 31)) <<< ((5 : Int32) &&& 31)) ||| nI (nRd x) := by
  unfold iIm iImm
  rw [show iOp x = 35 from h]
  rfl
theorem im_99 {x : Int32} (h : nI (nOp x) = 99) : iIm x = ((((x >>> ((31 : Int32) &&& 31)) <<< ((12 : Int32) &&& 31)) ||| (((x >>> ((7 : Int32) &&& 31)) &&& 1) <<< ((11 : Int32) &&& 31))) ||| (((x >>> ((25 : Int32) &&& 31)) &&& 63) <<< ((5 : Int32) &&& 31))) ||| (((x >>> ((8 : Int32) &&& 31)) &&& 15) <<< ((1 : Int32) &&& 31)) := by
  unfold iIm iImm
  rw [show iOp x = 99 from h, f_11, f_12, f_13', iRd_e]
  rfl
theorem im_111 {x : Int32} (h : nI (nOp x) = 111) : iIm x = ((((x >>> ((31 : Int32) &&& 31)) <<< ((20 : Int32) &&& 31)) ||| (x &&& 1044480)) ||| (((x >>> ((20 : Int32) &&& 31)) &&& 1) <<< ((11 : Int32) &&& 31))) ||| (((x >>> ((21 : Int32) &&& 31)) &&& 1023) <<< ((1 : Int32) &&& 31)) := by
  unfold iIm iImm
  rw [show iOp x = 111 from h, f_21, f_22]
  rfl
theorem im_i {x : Int32} {c : Int32} (h : nI (nOp x) = c) (h1 : ¬ c = 23) (h2 : ¬ c = 35) (h3 : ¬ c = 55) (h4 : ¬ c = 99) (h5 : ¬ c = 111) : iIm x = x >>> ((20 : Int32) &&& 31) := by
  unfold iIm iImm
  rw [show iOp x = c from h, if_neg h1, if_neg h2, if_neg h3, if_neg h4, if_neg h5]
