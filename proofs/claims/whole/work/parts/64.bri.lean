/-! The reference's instructions and the class's: numbers. -/
def goB (c : Int32) : Bool := if c = -1 then true else false
def okC (c : Int32) : Prop := c = -1 ∨ c = -2 ∨ ¬ c < 0
def rE (o : XC) (tr : Int32) : KS := if o.1 < 0 then ofX o tr false else kTrap o.1 (ofX o tr false)
theorem rE_t {c v ca va tr : Int32} {R : Nat → Cap} {w g : Nat → Int32} (h : ¬ c < 0) : rE (c, v, R, ca, va, w, g) tr = kTrap c (v, ca, va, R, w, g, tr, false) := if_neg h
theorem rE_n {c v ca va tr : Int32} {R : Nat → Cap} {w g : Nat → Int32} (h : c < 0) : rE (c, v, R, ca, va, w, g) tr = (v, ca, va, R, w, g, tr, false) := if_pos h
def ag (A B : Nat → Cap) : Prop := ∀ k, k < 37 → A k = B k
def RPo (Q Q' : Nat → Cap) (o : XC) (tr : Int32) : Prop := ag Q' (rE o tr).R ∧ Q' 0 = Q 0 ∧ okC o.1
theorem rS0 (Q : Nat → Cap) (r : Nat) (c : Cap) : rSet Q r c 0 = Q 0 := by
  unfold rSet
  split
  · rfl
  · rename_i h
    rw [va_up_ne Q c (fun q => h (by rw [← q]; rfl))]
theorem kTR0 (Q : Nat → Cap) : kTR Q 0 = Q 0 := rfl
/-- a remainder by a power of two -/
theorem i_rem {X Y : Int} (h1 : -2147483648 ≤ X) (h2 : X < 2147483648) (h3 : 0 < Y) (h4 : Y < 2147483648) : Int32.ofInt X - Int32.ofInt X / Int32.ofInt Y * Int32.ofInt Y = Int32.ofInt (X.tmod Y) := by
  have e1 : Int32.minValue.toInt = -2147483648 := by decide
  have e2 : Int32.maxValue.toInt = 2147483647 := by decide
  rw [← Int32.ofInt_tdiv (by omega) (by omega) (by omega) (by omega), ← Int32.ofInt_mul, ← Int32.ofInt_sub, Int.tmod_def, Int.mul_comm Y]
theorem i_oI {X : Int} (h1 : -2147483648 ≤ X) (h2 : X < 2147483648) : (Int32.ofInt X).toInt = X := Int32.toInt_ofInt_of_le (by omega) (by omega)
theorem i_b (a : Int32) : -2147483648 ≤ a.toInt ∧ a.toInt < 2147483648 := by
  have h1 : -2147483648 ≤ a.toInt := Int32.minValue_le_toInt a
  have h2 : a.toInt ≤ 2147483647 := Int32.toInt_le a
  omega
theorem rem_and (a : Int32) (k : Nat) (hk : k ≤ 3) : (a - a / nI (2 ^ k) * nI (2 ^ k) = 0) ↔ (a &&& (nI (2 ^ k) - 1)) = 0 := by
  have hp : 0 < 2 ^ k ∧ 2 ^ k ≤ 8 := ⟨Nat.pow_pos (by decide), Nat.pow_le_pow_right (n := 2) (by decide) hk⟩
  obtain ⟨b1, b2⟩ := i_b a
  have ha : a = Int32.ofInt a.toInt := (Int32.ofInt_toInt a).symm
  have hn : nI (2 ^ k) = Int32.ofInt ((2 ^ k : Nat) : Int) := rfl
  have e1 : a - a / nI (2 ^ k) * nI (2 ^ k) = Int32.ofInt (a.toInt.tmod ((2 ^ k : Nat) : Int)) := by
    rw [← i_rem b1 b2 (by omega) (by omega), ← ha, hn]
  have hm : (nI (2 ^ k) - 1).toBitVec.toNat = 2 ^ k - 1 := by
    have : k = 0 ∨ k = 1 ∨ k = 2 ∨ k = 3 := by omega
    rcases this with rfl | rfl | rfl | rfl <;> decide
  have e2 : a &&& (nI (2 ^ k) - 1) = nI (a.toBitVec.toNat % 2 ^ k) := pk_and a k hm
  have hmod : a.toInt % ((2 ^ k : Nat) : Int) = ((a.toBitVec.toNat % 2 ^ k : Nat) : Int) := by
    have e3 : a.toInt = a.toBitVec.toInt := rfl
    rw [e3, BitVec.toInt_eq_toNat_cond]
    have : k = 0 ∨ k = 1 ∨ k = 2 ∨ k = 3 := by omega
    split
    · rw [Int.natCast_emod]
    · rcases this with rfl | rfl | rfl | rfl <;> omega
  rw [e1, e2]
  have ht := fm_tb (X := a.toInt) (Y := ((2 ^ k : Nat) : Int)) (by omega)
  constructor
  · intro h
    have e := congrArg Int32.toInt h
    rw [i_oI (by omega) (by omega)] at e
    have e4 := fm_zero (X := a.toInt) (Y := ((2 ^ k : Nat) : Int)) e
    rw [hmod] at e4
    have e5 : a.toBitVec.toNat % 2 ^ k = 0 := by omega
    rw [e5]
    rfl
  · intro h
    have e5 : a.toBitVec.toNat % 2 ^ k = 0 := by
      have hl : a.toBitVec.toNat % 2 ^ k < 2 ^ k := Nat.mod_lt _ (by omega)
      exact nI_inj (a := a.toBitVec.toNat % 2 ^ k) (b := 0) (by omega) (by decide) h
    have e6 : ((2 ^ k : Nat) : Int) ∣ a.toInt := Int.dvd_of_emod_eq_zero (by rw [hmod, e5]; rfl)
    rw [Int.tmod_eq_zero_of_dvd e6]
    rfl
theorem plF_c {fv : Int32} {k : Nat} {c : Cap} {x n tm : Int32} (h : rHo c x n = true) : plF fv k c x n tm = if (x &&& (n - 1)) = 0 then (if cLow x < 16384 then (-1, fv) else (tm + 1, x)) else (tm, x) := by
  unfold plF
  rw [show cCov (cbase c.2.2 c.2.1) (ctop c.2.2 c.2.1) x n.toInt64 = true from h, if_neg (by decide)]
  by_cases h3 : (x &&& (n - 1)) = 0
  · rw [if_pos h3, if_pos h3]
    by_cases h4 : cLow x < 16384
    · obtain ⟨h5, h6⟩ := (low16 _).mp h4
      rw [if_pos h4, if_neg h5, if_neg h6]
    · rw [if_neg h4]
      by_cases h5 : x < 0
      · rw [if_pos h5]
      · rw [if_neg h5]
        by_cases h6 : 16384 ≤ x
        · rw [if_pos h6]
        · exact absurd ((low16 _).mpr ⟨h5, h6⟩) h4
  · rw [if_neg h3, if_neg h3]
theorem rRe_p {Q : Nat → Cap} {c : Nat} {y n : Int32} {p b : Nat} (hp : 0 < (16 : Int32) + nI p) (h : rRe Q c y n p b ≤ 0) : authF (Q c) (nI p) (16 + nI p) = 0 ∧ rSt Q c b = 0 ∧ rHo (Q c) y n = true := by
  unfold rRe at h
  by_cases h1 : authF (Q c) (nI p) (16 + nI p) = 0
  · rw [if_pos h1] at h
    by_cases h2 : rSt Q c b = 0
    · rw [if_pos h2] at h
      refine ⟨h1, h2, ?_⟩
      cases h3 : rHo (Q c) y n with
      | true => rfl
      | false => rw [h3, if_pos rfl] at h; exact absurd h (by decide)
    · rw [if_neg h2] at h
      exfalso
      unfold rSt at h h2
      revert h h2
      split
      · intro _ q; exact q rfl
      · split
        · intro _ q; exact q rfl
        · split
          · intro q _; exact absurd q (by decide)
          · split
            · intro _ q; exact q rfl
            · split
              · intro _ q; exact q rfl
              · intro q _; exact absurd q (by decide)
  · rw [if_neg h1] at h
    exfalso
    rcases authF_v (Q c) (nI p) (16 + nI p) with e | e | e | e
    · exact h1 e
    · rw [e] at h; exact absurd h (by decide)
    · rw [e] at h; exact absurd h (by decide)
    · rw [e] at h; exact absurd hp (Int32.not_lt.mpr h)
theorem xLd_w {fv : Int32} {Q : Nat → Cap} {w g : Nat → Int32} {x : Int32} (h5 : nI (nFn x) ≤ 5) (h : ¬ rRe Q (nR1 x) (ldX Q x) (ldN x) 2 0 ≤ 0) : xLd fv Q w g x = (28, 32 * nI (nR1 x) + rRe Q (nR1 x) (ldX Q x) (ldN x) 2 0, Q) := by
  unfold xLd
  rw [if_pos h5]
  have e0 : rSt Q (nR1 x) 0 = 0 := if_pos (by decide)
  have ea : ldA Q x = authF (Q (nR1 x)) (nI 2) (16 + nI 2) := rfl
  unfold rRe at h ⊢
  rw [← ea] at h ⊢
  by_cases h1 : ldA Q x = 0
  · rw [if_pos h1, if_pos e0] at h ⊢
    by_cases h2 : rHo (Q (nR1 x)) (ldX Q x) (ldN x) = false
    · have ep : ldP fv Q x = (28, 32 * nI (nR1 x) + 1) := by
        unfold ldP plF
        rw [show cCov (cbase (Q (nR1 x)).2.2 (Q (nR1 x)).2.1) (ctop (Q (nR1 x)).2.2 (Q (nR1 x)).2.1) (ldX Q x) (ldN x).toInt64 = false from h2, if_pos rfl]
      rw [if_pos h2, ep, h1, if_pos (show aTr 0 = -1 from rfl), if_neg (show ¬ (28 : Int32) = -1 by decide)]
    · rw [if_neg h2] at h
      exact absurd (by decide) h
  · rw [if_neg h1]
    unfold aTr aFv
    rw [if_neg h1, if_neg h1, if_neg (by decide)]
theorem xLd_p {fv : Int32} {Q : Nat → Cap} {w g : Nat → Int32} {x : Int32} (h5 : nI (nFn x) ≤ 5) (h : rRe Q (nR1 x) (ldX Q x) (ldN x) 2 0 ≤ 0) : xLd fv Q w g x =
    if (ldX Q x &&& (ldN x - 1)) = 0 then (if cLow (ldX Q x) < 16384 then (if ldN x = 8 then (-1, fv, lcR Q x w g ((ldX Q x).toNatClampNeg / 4)) else (-1, fv, nR Q (nRd x) (ldV (nI (nFn x)) (ldW w (ldX Q x).toNatClampNeg)))) else (5, ldX Q x, Q)) else (4, ldX Q x, Q) := by
  obtain ⟨h1, _, h3⟩ := rRe_p (by decide) h
  have ea : ldA Q x = 0 := h1
  unfold xLd
  rw [if_pos h5, ea, if_pos (show aTr 0 = -1 from rfl)]
  have ep : ldP fv Q x = _ := plF_c (fv := aFv fv (nR1 x) (ldA Q x)) (k := nR1 x) (tm := 4) h3
  have ef : aFv fv (nR1 x) (ldA Q x) = fv := by unfold aFv; rw [if_pos ea]
  rw [ef] at ep
  rw [ep]
  by_cases h6 : (ldX Q x &&& (ldN x - 1)) = 0
  · rw [if_pos h6, if_pos h6]
    by_cases h7 : cLow (ldX Q x) < 16384
    · rw [if_pos h7, if_pos h7, if_pos rfl]
    · rw [if_neg h7, if_neg h7, if_neg (show ¬ (4 : Int32) + 1 = -1 by decide)]
      rfl
  · rw [if_neg h6, if_neg h6, if_neg (show ¬ (4 : Int32) = -1 by decide)]
theorem b_sra (n : Nat) (hn : n < 32) (x : Int32) (i : Nat) (h : i < 32) : bt (x >>> (nI n &&& 31)) i = if n + i < 32 then bt x (n + i) else bt x 31 := by
  show (BitVec.sshiftRight' x.toBitVec ((nI n &&& 31).toBitVec.smod 32)).getLsbD i = _
  rw [BitVec.sshiftRight', s_l n hn, BitVec.getLsbD_sshiftRight]
  have h3 : ¬ 32 ≤ i := by omega
  by_cases h2 : n + i < 32
  · simp [h2, h3, bt]
  · simp [h2, h3, bt, BitVec.msb_eq_getLsbD_last]
theorem sx8 (v : Int32) : (v <<< (nI 24 &&& 31)) >>> (nI 24 &&& 31) = v.toInt8.toInt32 := by
  apply b_ext
  intro i hi
  rw [b_sra 24 (by decide) _ i hi]
  show _ = ((v.toBitVec.signExtend 8).signExtend 32).getLsbD i
  rw [BitVec.getLsbD_signExtend]
  by_cases h : 24 + i < 32
  · have h8 : i < 8 := by omega
    rw [if_pos h, b_shl 24 (by decide) v h, BitVec.getLsbD_signExtend]
    have h3 : 24 + i - 24 = i := by omega
    simp [h8, hi, h3, bt]
  · have h8 : ¬ i < 8 := by omega
    rw [if_neg h, b_shl 24 (by decide) v (by decide)]
    simp [h8, hi, bt, BitVec.msb_eq_getLsbD_last, BitVec.getLsbD_signExtend]
    rw [BitVec.getElem_signExtend]
    simp
theorem sx16 (v : Int32) : (v <<< (nI 16 &&& 31)) >>> (nI 16 &&& 31) = v.toInt16.toInt32 := by
  apply b_ext
  intro i hi
  rw [b_sra 16 (by decide) _ i hi]
  show _ = ((v.toBitVec.signExtend 16).signExtend 32).getLsbD i
  rw [BitVec.getLsbD_signExtend]
  by_cases h : 16 + i < 32
  · have h8 : i < 16 := by omega
    rw [if_pos h, b_shl 16 (by decide) v h, BitVec.getLsbD_signExtend]
    have h3 : 16 + i - 16 = i := by omega
    simp [h8, hi, h3, bt]
  · have h8 : ¬ i < 16 := by omega
    rw [if_neg h, b_shl 16 (by decide) v (by decide)]
    simp [h8, hi, bt, BitVec.msb_eq_getLsbD_last, BitVec.getLsbD_signExtend]
    rw [BitVec.getElem_signExtend]
    simp
