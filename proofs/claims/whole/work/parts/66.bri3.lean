/-! Compared without signs; jumps. -/
theorem add_min (a : Int32) : (a + (-2147483648)).toInt = (a.toBitVec.toNat : Int) - 2147483648 := by
  rw [Int32.toInt_add]
  have e1 : (-2147483648 : Int32).toInt = -2147483648 := by decide
  have h := iN_lt a
  have e2 : a.toInt = a.toBitVec.toInt := rfl
  rw [e1, e2, BitVec.toInt_eq_toNat_cond, Int.bmod_def]
  split <;> split <;> omega
theorem cmpU_le (a b : Int32) : 0 ≤ cmpU a b ↔ cLow b ≤ cLow a := by
  have ha := iN_lt a
  have hb := iN_lt b
  have h1 : (b + (-2147483648) ≤ a + (-2147483648)) ↔ b.toBitVec.toNat ≤ a.toBitVec.toNat := by
    rw [Int32.le_iff_toInt_le, add_min, add_min]
    omega
  rw [cLow_n, cLow_n, lN_le2 (by omega) (by omega), ← h1]
  unfold cmpU jcmp
  by_cases h : b + (-2147483648) ≤ a + (-2147483648)
  · rw [if_pos h]
    constructor
    · intro _; exact h
    · intro _; split <;> decide
  · rw [if_neg h]
    constructor
    · intro q; exact absurd q (by decide)
    · intro q; exact absurd q h
theorem cmpU_lt (a b : Int32) : cmpU a b < 0 ↔ cLow a < cLow b := by
  rw [← Int32.not_le, cmpU_le, Int64.not_le]
def rOp (f a b : Int32) (o : Bool) : Int32 := if f = 0 then a + b else if f = 1 then a <<< ((b &&& 31) &&& 31) else if f = 2 then (if b ≤ a then 0 else 1) else if f = 3 then (if cLow b ≤ cLow a then 0 else 1) else if f = 4 then a ^^^ b else if f = 5 then (if o = false then jus a (b &&& 31) else a >>> ((b &&& 31) &&& 31)) else if f = 6 then a ||| b else a &&& b
theorem rOp_o {f a b : Int32} {o : Bool} (h : ¬ (f = 0 ∧ o = true)) : rOp f a b o = oFn f o a b := by
  unfold rOp oFn
  by_cases h0 : f = 0
  · have ho : o = false := by cases o; rfl; exact absurd ⟨h0, rfl⟩ h
    rw [if_pos h0, if_pos h0, if_pos ho]
  · rw [if_neg h0, if_neg h0]
    by_cases h3 : f = 3
    · rw [h3]
      have e : (if cLow b ≤ cLow a then (0 : Int32) else 1) = if 0 ≤ cmpU a b then 0 else 1 := by
        by_cases q : cLow b ≤ cLow a
        · rw [if_pos q, if_pos ((cmpU_le a b).mpr q)]
        · rw [if_neg q, if_neg (fun r => q ((cmpU_le a b).mp r))]
      rw [e]
    · rw [if_neg h3, if_neg h3]
theorem ag_jr (Q : Nat → Cap) (x : Int32) : ag (rSet (rSet (rSet (va_up Q 38 (lkC (Q 32))) 37 ((va_up Q 38 (lkC (Q 32)) (nR1 x)).1, (va_up Q 38 (lkC (Q 32)) (nR1 x)).2.1, cSetT (va_up Q 38 (lkC (Q 32)) (nR1 x)).2.2 15)) 32 (cMvC (rSet (va_up Q 38 (lkC (Q 32))) 37 ((va_up Q 38 (lkC (Q 32)) (nR1 x)).1, (va_up Q 38 (lkC (Q 32)) (nR1 x)).2.1, cSetT (va_up Q 38 (lkC (Q 32)) (nR1 x)).2.2 15) 37) (jrX Q x))) (nRd x) (rSet (rSet (va_up Q 38 (lkC (Q 32))) 37 ((va_up Q 38 (lkC (Q 32)) (nR1 x)).1, (va_up Q 38 (lkC (Q 32)) (nR1 x)).2.1, cSetT (va_up Q 38 (lkC (Q 32)) (nR1 x)).2.2 15)) 32 (cMvC (rSet (va_up Q 38 (lkC (Q 32))) 37 ((va_up Q 38 (lkC (Q 32)) (nR1 x)).1, (va_up Q 38 (lkC (Q 32)) (nR1 x)).2.1, cSetT (va_up Q 38 (lkC (Q 32)) (nR1 x)).2.2 15) 37) (jrX Q x)) 38))
    (va_up (jr4 Q x) 32 (jr4 Q x 38)) := by
  have h1 := nR1_lt x
  have hd := nRd_lt x
  intro k hk
  rw [va_up_ne Q _ (show nR1 x ≠ 38 by omega), rS_c (r := 37) (by decide), rS_c (r := 32) (by decide), va_up_self]
  have e38 : va_up (va_up (va_up Q 38 (lkC (Q 32))) 37 ((Q (nR1 x)).1, (Q (nR1 x)).2.1, cSetT (Q (nR1 x)).2.2 15)) 32 (cMvC ((Q (nR1 x)).1, (Q (nR1 x)).2.1, cSetT (Q (nR1 x)).2.2 15) (jrX Q x)) 38 = lkC (Q 32) := rfl
  rw [e38]
  have c1 : jr1 Q x 32 = Q 32 := rfl
  have c2 : jr2 Q x 38 = Q (nR1 x) := by
    unfold jr2 lkR aR
    split
    · rfl
    · rw [va_up_ne _ _ (show 38 ≠ nRd x by omega)]
      rfl
  have c3 : jr3 Q x 38 = cTyC (Q (nR1 x)) 15 := by
    unfold jr3
    rw [va_up_self, c2]
  have c4 : jr4 Q x 38 = cMvC (cTyC (Q (nR1 x)) 15) (jrX Q x) := by
    unfold jr4
    rw [va_up_self, c3]
  rw [c4]
  by_cases k32 : k = 32
  · subst k32
    rw [va_up_self]
    unfold rSet
    split
    · rw [va_up_self]; rfl
    · rw [va_up_ne _ _ (show 32 ≠ nRd x by omega), va_up_self]; rfl
  · rw [va_up_ne _ _ k32]
    have c5 : jr4 Q x k = jr2 Q x k := by
      unfold jr4 jr3
      rw [va_up_ne _ _ (show k ≠ 38 by omega), va_up_ne _ _ (show k ≠ 38 by omega)]
    rw [c5]
    unfold jr2 lkR aR rSet jr1
    split
    · rw [va_up_ne _ _ k32, va_up_ne _ _ (show k ≠ 37 by omega), va_up_ne _ _ (show k ≠ 38 by omega), va_up_ne _ _ (show k ≠ 37 by omega), va_up_ne _ _ (show k ≠ 38 by omega)]
    · by_cases kd : k = nRd x
      · subst kd
        rw [va_up_self, va_up_self, va_up_self]
        rfl
      · rw [va_up_ne _ _ kd, va_up_ne _ _ kd, va_up_ne _ _ k32, va_up_ne _ _ (show k ≠ 37 by omega), va_up_ne _ _ (show k ≠ 38 by omega), va_up_ne _ _ (show k ≠ 37 by omega), va_up_ne _ _ (show k ≠ 38 by omega)]
def xSo (fv ca va : Int32) (Q : Nat → Cap) (w g : Nat → Int32) (x : Int32) : XC := ((xSt fv Q w g x).1, (xSt fv Q w g x).2.1, Q, ca, va, (xSt fv Q w g x).2.2.1, (xSt fv Q w g x).2.2.2)
theorem RMW_g {ti : Nat → ClassId} {mo : Nat} {am : Nat → Nat} {Q : Nat → Cap} {w g g' : Nat → Int32} {rb rt : Nat → Int64} {rp : Nat → Int32} {ro ca va st tr th : Int32} {ha : Bool} {pk : Int32} {xx : Bool} {rd : Int64} {to : Int32} {k : Nat} {b : Bool} (h : (fun j => jb (va_up (fun j => gTag g (2 * j)) k b j)) = (fun j => jb (gTag g' (2 * j)))) : (RMW mo am ti Q w g rb rt rp ro ca va st tr th ha pk xx rd to).set 5 (am 4, .inl (ti 1, 2048, .inl (fun j => jb (va_up (fun j => gTag g (2 * j)) k b j)))) = RMW mo am ti Q w g' rb rt rp ro ca va st tr th ha pk xx rd to := by
  rw [h]
  rfl
theorem stN4 {x : Int32} (h : nI (nFn x) = 2) : stN x = 4 := by
  unfold stN
  rw [h]
  decide
theorem stN4' {x : Int32} (h3 : nI (nFn x) ≤ 3) (h : ¬ nI (nFn x) = 2) : ¬ stN x = 4 := by
  have : ∀ f, f < 8 → nI f ≤ 3 → ¬ nI f = 2 → ¬ (1 : Int32) <<< (nI f &&& 31) = 4 := by decide +kernel
  exact this _ (nFn_lt x) h3 h
