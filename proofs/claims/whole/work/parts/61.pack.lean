/-! Packing, by natural numbers. -/
theorem lN_div {a b : Nat} (ha : a < 2 ^ 62) (hb : b < 2 ^ 62) : lN a / lN b = lN (a / b) := by
  have e1 : Int64.minValue.toInt = -9223372036854775808 := by decide
  have e2 : Int64.maxValue.toInt = 9223372036854775807 := by decide
  rw [oI_N, oI_N, oI_N, ← Int64.ofInt_tdiv (by omega) (by omega) (by omega) (by omega)]
  congr 1
theorem lN_inj {a b : Nat} (ha : a < 2 ^ 63) (hb : b < 2 ^ 63) : lN a = lN b ↔ a = b := by
  constructor
  · intro h
    have e := congrArg Int64.toInt h
    rw [pf_lI ha, pf_lI hb] at e
    omega
  · intro h
    rw [h]
def nDn (x e : Nat) : Nat := x / 2 ^ (e + 3) * 2 ^ (e + 3)
def nUp (x e : Nat) : Nat := (x + 2 ^ (e + 3) - 1) / 2 ^ (e + 3) * 2 ^ (e + 3)
theorem and_neg {x k : Nat} (hx : x < 2 ^ 62) (hk : k < 64) : lN x &&& -(lN (2 ^ k)) = lN (x / 2 ^ k * 2 ^ k) := by
  apply wb_inj
  rw [Int64.toBitVec_and, Int64.toBitVec_neg, wb_tb, wb_tb, wb_tb]
  apply BitVec.eq_of_getLsbD_eq
  intro i hi
  have e1 : (-(BitVec.ofNat 64 (2 ^ k))) = ~~~(BitVec.ofNat 64 (2 ^ k - 1)) := by
    have hp : 0 < 2 ^ k := Nat.pow_pos (by decide)
    have e : BitVec.ofNat 64 (2 ^ k - 1) = BitVec.ofNat 64 (2 ^ k) - 1#64 := by
      apply BitVec.eq_of_toNat_eq
      have hp2 : 2 ^ k < 2 ^ 64 := wb_lt2 hk
      rw [BitVec.toNat_sub, BitVec.toNat_ofNat, BitVec.toNat_ofNat, BitVec.toNat_ofNat]
      omega
    rw [e, BitVec.not_sub_one_eq_not_add_one] <;> rw [BitVec.neg_eq_not_add]
  rw [BitVec.getLsbD_and, e1, BitVec.getLsbD_not, BitVec.getLsbD_ofNat, BitVec.getLsbD_ofNat, BitVec.getLsbD_ofNat, Nat.testBit_two_pow_sub_one, ← Nat.shiftRight_eq_div_pow, ← Nat.shiftLeft_eq, Nat.testBit_shiftLeft, Nat.testBit_shiftRight]
  by_cases h : k ≤ i
  · have h2 : ¬ i < k := by omega
    have h3 : k + (i - k) = i := by omega
    simp [hi, h, h2, h3]
  · have h2 : i < k := by omega
    simp [hi, h, h2]
theorem j8 {e : Nat} (he : e ≤ 40) : jsl 8 (nI e) = lN (2 ^ (e + 3)) := by
  rw [show (8 : Int64) = lN 8 from rfl, wb_shl 8 (by omega), Nat.pow_add, Nat.mul_comm]
theorem kDn_n {x e : Nat} (hx : x < 2 ^ 62) (he : e ≤ 40) : kDn (lN x) (nI e) = lN (nDn x e) := by
  unfold kDn
  rw [j8 he, and_neg hx (by omega)]
  rfl
theorem p43 {e : Nat} (he : e ≤ 40) : 0 < 2 ^ (e + 3) ∧ 2 ^ (e + 3) ≤ 2 ^ 43 := ⟨Nat.pow_pos (by decide), Nat.pow_le_pow_right (by decide) (by omega)⟩
theorem kUp_n {x e : Nat} (hx : x < 2 ^ 61) (he : e ≤ 40) : kUp (lN x) (nI e) = lN (nUp x e) := by
  unfold kUp
  have hp := p43 he
  rw [j8 he, lN_add, show (1 : Int64) = lN 1 from rfl, lN_sub (by omega), and_neg (by omega) (by omega)]
  rfl
theorem nUp_le {x e : Nat} : nUp x e ≤ x + 2 ^ (e + 3) - 1 := Nat.div_mul_le_self _ _
theorem nDn_le {x e : Nat} : nDn x e ≤ x := Nat.div_mul_le_self _ _
theorem nUp_ge {x e : Nat} : x ≤ nUp x e := by
  unfold nUp
  have hp : 0 < 2 ^ (e + 3) := Nat.pow_pos (by decide)
  have h := Nat.div_add_mod (x + 2 ^ (e + 3) - 1) (2 ^ (e + 3))
  have h2 := Nat.mod_lt (x + 2 ^ (e + 3) - 1) hp
  rw [Nat.mul_comm] at h
  omega
theorem nDn_div {x e : Nat} : nDn x e / 2 ^ e % 8 = 0 := by
  unfold nDn
  have hp : 0 < 2 ^ e := Nat.pow_pos (by decide)
  rw [Nat.pow_add, Nat.mul_comm (2 ^ e), ← Nat.mul_assoc, Nat.mul_div_cancel _ hp]
  exact Nat.mul_mod_left _ _
theorem nUp_div {x e : Nat} : nUp x e / 2 ^ e % 8 = 0 := nDn_div (x := x + 2 ^ (e + 3) - 1)
theorem an248 {n : Nat} (h : n % 8 = 0) : nI n &&& 255 = nI n &&& 248 := by
  rw [r_255, r_248]
  congr 1
  have e : mN (nI n) = n % 4294967296 := by
    show (BitVec.ofNat 32 n).toNat = _
    rw [BitVec.toNat_ofNat]
  rw [e]
  omega
theorem an56 {n : Nat} (h : n % 8 = 0) : nI n &&& 63 = nI n &&& 56 := by
  have e : mN (nI n) = n % 4294967296 := by
    show (BitVec.ofNat 32 n).toNat = _
    rw [BitVec.toNat_ofNat]
  rw [show (56 : Int32) = 63 &&& (-8) by decide, ← Int32.and_assoc, pk_and (nI n) 6 rfl, show (nI n).toBitVec.toNat = n % 4294967296 from e, and8 _ (by omega)]
  congr 1
  omega
theorem shl_or (x y : Int32) : (x ||| y) <<< ((8 : Int32) &&& 31) = (x <<< ((8 : Int32) &&& 31)) ||| (y <<< ((8 : Int32) &&& 31)) := by
  apply Int32.toBitVec_inj.mp
  show (x.toBitVec ||| y.toBitVec) <<< _ = (x.toBitVec <<< _) ||| (y.toBitVec <<< _)
  have e : ((8 : Int32) &&& 31).toBitVec.smod 32 = 8#32 := by decide
  rw [e]
  exact BitVec.shiftLeft_or_distrib (x := x.toBitVec) (y := y.toBitVec) (n := 8)
theorem us3 : ∀ e, e < 32 → jus (nI e) 3 = nI e >>> ((3 : Int32) &&& 31) := by decide +kernel
/-- the packed bits of a large length -/
def pkW (B T e : Nat) : Int32 := ((16384 : Int32) ||| ((((jsr (lN (nUp T e)) (nI e)).toInt32 &&& 56) ||| (nI e >>> ((3 : Int32) &&& 31))) <<< ((8 : Int32) &&& 31))) ||| (((jsr (lN (nDn B e)) (nI e)).toInt32 &&& 248) ||| (nI e &&& 7))
theorem pk_fin {B T e : Nat} (hB : B ≤ T) (hT : T ≤ 4294967296) (he : e ≤ 27) (hi : kIn (lN B) (lN T) = true) (hk : kE (lN B) (lN T) = nI e) :
    kLo (lN B) (lN T) = lN (nDn B e) ∧ kHi (lN B) (lN T) = lN (nUp T e) ∧ kBits (lN B) (lN T) = pkW B T e := by
  have e1 : kLo (lN B) (lN T) = lN (nDn B e) := by
    unfold kLo
    rw [hi, if_neg (by decide), hk, kDn_n (by omega) (by omega)]
  have e2 : kHi (lN B) (lN T) = lN (nUp T e) := by
    unfold kHi
    rw [hi, if_neg (by decide), hk, kUp_n (by omega) (by omega)]
  refine ⟨e1, e2, ?_⟩
  have hp := p43 (e := e) (by omega)
  have hp2 : 2 ^ (e + 3) ≤ 2 ^ 30 := Nat.pow_le_pow_right (by decide) (by omega)
  have l1 := nUp_le (x := T) (e := e)
  have l2 := nDn_le (x := B) (e := e)
  have d1 : nUp T e / 2 ^ e ≤ nUp T e := Nat.div_le_self _ _
  have d2 : nDn B e / 2 ^ e ≤ nDn B e := Nat.div_le_self _ _
  unfold kBits pkW kB0
  rw [hi, if_neg (by decide), e1, e2, hk, wb_shr (by omega) (by omega), wb_shr (by omega) (by omega), wb_sra (by omega) (by omega), wb_sra (by omega) (by omega), lN_i, lN_i, an248 nDn_div, an56 nUp_div, us3 e (by omega), shl_or]
  ac_rfl
theorem kE0_n {B T : Nat} : kE0 (lN B) (lN T) = nI (kB (jul (lN T - lN B) 7) 63 0) := rfl
theorem pk_sm {B T : Nat} (hB : B ≤ T) (hT : T ≤ 4294967296) (h0 : kE0 (lN B) (lN T) = 0) (h1 : T - B ≤ 63) :
    kIn (lN B) (lN T) = false ∧ kLo (lN B) (lN T) = lN B ∧ kHi (lN B) (lN T) = lN T ∧ kBits (lN B) (lN T) = (((lN T &&& 63).toInt32 <<< ((8 : Int32) &&& 31)) ||| ((lN B).toInt32 &&& 255)) := by
  have hi : kIn (lN B) (lN T) = false := by
    unfold kIn
    rw [h0, if_neg (by decide), lN_sub hB, if_pos (show lN (T - B) ≤ 63 from (lN_le (a := T - B) (b := 63) (by omega) (by decide)).mpr h1)]
  have e1 : kLo (lN B) (lN T) = lN B := by unfold kLo; rw [hi, if_pos rfl]
  have e2 : kHi (lN B) (lN T) = lN T := by unfold kHi; rw [hi, if_pos rfl]
  have e3 : kE (lN B) (lN T) = nI 0 := by unfold kE; rw [hi, if_pos rfl, h0]; rfl
  refine ⟨hi, e1, e2, ?_⟩
  unfold kBits kB0
  rw [hi, if_pos rfl, e1, e2, e3, wb_shr (by omega) (by decide), wb_shr (by omega) (by decide), Nat.pow_zero, Nat.div_one, Nat.div_one]
  congr 2
  rw [show (63 : Int64) = lN (2 ^ 6 - 1) from rfl, wb_mask (by omega) (by decide), lN_i, lN_i, show (63 : Int32) = nI (2 ^ 6 - 1) from rfl, pk_and (nI T) 6 rfl]
  congr 1
  have e : (nI T).toBitVec.toNat = T % 4294967296 := by
    show (BitVec.ofNat 32 T).toNat = _
    rw [BitVec.toNat_ofNat]
  rw [e]
  omega
theorem kB_stop {D z : Nat} (hD : D < 2 ^ 62) (hz : z < 63) (h : D / 2 ^ z = 0) : kB (lN D) (63 - z) z = z := by
  obtain ⟨f, hf⟩ : ∃ f, 63 - z = f + 1 := ⟨62 - z, by omega⟩
  rw [hf]
  show (if jul (lN D) (nI z) = 0 then z else kB (lN D) f (z + 1)) = z
  rw [wb_shr (by omega) (by omega), h, if_pos (show lN 0 = 0 from rfl)]
theorem kB_on {D z : Nat} (hD : D < 2 ^ 62) (hz : z < 63) (h : ¬ D / 2 ^ z = 0) : kB (lN D) (63 - z) z = kB (lN D) (63 - (z + 1)) (z + 1) := by
  obtain ⟨f, hf⟩ : ∃ f, 63 - z = f + 1 := ⟨62 - z, by omega⟩
  have e : 63 - (z + 1) = f := by omega
  rw [hf, e]
  show (if jul (lN D) (nI z) = 0 then z else kB (lN D) f (z + 1)) = _
  have hd : D / 2 ^ z ≤ D := Nat.div_le_self _ _
  rw [wb_shr (by omega) (by omega), if_neg (show ¬ lN (D / 2 ^ z) = 0 from fun q => h ((lN_inj (b := 0) (by omega) (by decide)).mp q))]
