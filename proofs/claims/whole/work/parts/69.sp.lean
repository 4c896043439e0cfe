/-! special, second half. -/
theorem rpM_0 {y : Int32} (h : kBits 0 (cLow y) >>> ((14 : Int32) &&& 31) = 0) : rpM y = -1 := by
  unfold rpM
  cases q : kIn 0 (cLow y) with
  | false => rfl
  | true => exact absurd h ((rp9 y).2 q).1
theorem rpM_1 {y : Int32} (h : ¬ kBits 0 (cLow y) >>> ((14 : Int32) &&& 31) = 0) : rpM y = (-1 : Int32) <<< (nI (bE (mN (kBits 0 (cLow y))) + 3) &&& 31) := by
  unfold rpM
  cases q : kIn 0 (cLow y) with
  | false => exact absurd ((rp9 y).1 q) h
  | true => rw [if_neg (by decide)]; exact ((rp9 y).2 q).2.symm
theorem n_0 : ∀ k, k < 32 → nI k = 0 → k = 0 := by decide +kernel
theorem un_c (c d : Cap) : ((kUn c d, c.2.1, cSetP (cSetT c.2.2 15) (if cMay d.2.2 0 = true then cPerms c.2.2 else cPerms c.2.2 &&& (-2))) : Cap) = uUn c d := by rw [un_m]; rfl
theorem bd_c (c d : Cap) : ((kBd c d, d.2.1, cSetT d.2.2 (if cType d.2.2 = 14 then 14 else 15)) : Cap) = uBd c d := by rw [bd_m]; rfl
theorem sU_v {fv : Int32} {Q : Nat → Cap} {C C' : Cap} {x : Int32} (e : C = C') (h : xU fv Q x = (-1, fv, uR Q C' x)) : sU fv Q (rSet Q 37 C) x := by
  subst e
  exact sU_u h
theorem ag_u (Q : Nat → Cap) (C : Cap) (d : Nat) : ag (rSet (rSet Q 37 C) d ((rSet Q 37 C) 37)) (aR (va_up Q 37 C) d) := by
  rw [rS_c (r := 37) (by decide)]
  exact fun k _ => rfl
theorem xU_1 {fv : Int32} {Q : Nat → Cap} {x : Int32} (h : nI (nFn x) = 1) : xU fv Q x = (-1, fv, uR Q (cMvC (Q (nR1 x)) ((Q (nR1 x)).2.1 + iIm x)) x) := by
  unfold xU
  rw [h]
  rfl
theorem xU_2 {fv : Int32} {Q : Nat → Cap} {x : Int32} (h : nI (nFn x) = 2) (hi : iIm x = x >>> ((20 : Int32) &&& 31)) : xU fv Q x = (-1, fv, uR Q (uBn (Q (nR1 x)) (jus x 20).toInt64 false) x) := by
  unfold xU
  rw [h, hi, ← f_20]
  rfl
theorem xU_t {fv : Int32} {Q : Nat → Cap} {x : Int32} (h0 : ¬ nI (nFn x) = 0) (h1 : ¬ nI (nFn x) = 1) (h2 : ¬ nI (nFn x) = 2) : xU fv Q x = (2, x, Q) := by
  unfold xU
  rw [if_neg h0, if_neg h1, if_neg h2]
theorem isP_t {x : Int32} (h2 : nI (nR2 x) = 0) (h1 : nI (nR1 x) = 0) : isP x = true := by unfold isP; rw [if_pos h2, if_pos h1]
theorem isP_f {x : Int32} (h2 : ¬ nI (nR2 x) = 0) : isP x = false := by unfold isP; rw [if_neg h2]
theorem isP_g {x : Int32} (h1 : ¬ nI (nR1 x) = 0) : isP x = false := by unfold isP; rw [if_neg h1]; split <;> rfl
theorem xU_sp {fv : Int32} {Q : Nat → Cap} {x : Int32} (hf : nI (nFn x) = 0) (hn : nI (nNb x) = 1) : xU fv Q x = xSp fv Q x := by
  unfold xU xNb
  rw [if_pos hf, if_pos hn]
theorem xSp_A {fv : Int32} {Q : Nat → Cap} {x : Int32} (hP : isP x = true) : xSp fv Q x = (-1, fv, aR (spR Q x) (nRd x)) := by
  unfold xSp
  rw [if_pos hP]
theorem xSp_B {fv : Int32} {Q : Nat → Cap} {x : Int32} (hP : isP x = false) (h : 28 ≤ nI (nR2 x)) (hm : cMay (Q 32).2.2 10 = true) : xSp fv Q x = (-1, fv, aR (spR Q x) (nRd x)) := by
  unfold xSp
  rw [if_neg (fne hP), if_pos h, if_pos hm]
theorem xSp_C {fv : Int32} {Q : Nat → Cap} {x : Int32} (hP : isP x = false) (h : ¬ 28 ≤ nI (nR2 x)) : xSp fv Q x = (2, x, Q) := by
  unfold xSp
  rw [if_neg (fne hP), if_neg h]
theorem xSp_D {fv : Int32} {Q : Nat → Cap} {x : Int32} (hP : isP x = false) (h : 28 ≤ nI (nR2 x)) (hm : cMay (Q 32).2.2 10 = false) : xSp fv Q x = (28, 1048, Q) := by
  unfold xSp
  rw [if_neg (fne hP), if_pos h, if_neg (fne hm)]
  rfl
theorem spR_A {Q : Nat → Cap} {x : Int32} (hP : isP x = true) (h1 : nI (nR1 x) = 0) : rSet Q 37 (Q 32) = spR Q x := by
  unfold spR spK
  rw [if_pos h1, if_pos hP, rS_c (r := 37) (by decide)]
theorem spR_B0 {Q : Nat → Cap} {x : Int32} (hP : isP x = false) (h1 : nI (nR1 x) = 0) : rSet Q 37 (Q (nR2 x + 5)) = spR Q x := by
  unfold spR spK
  rw [if_pos h1, if_neg (fne hP), rS_c (r := 37) (by decide)]
theorem spR_B1 {Q : Nat → Cap} {x : Int32} (hP : isP x = false) (h1 : ¬ nI (nR1 x) = 0) : rSet (rSet Q 37 (Q (nR2 x + 5))) (nR2 x + 5) ((rSet Q 37 (Q (nR2 x + 5))) (nR1 x)) = spR Q x := by
  have h2 := nR2_lt x
  have h3 := nR1_lt x
  unfold spR spK
  rw [if_neg h1, if_neg (fne hP), rS_c (r := 37) (by decide), rS_c (r := nR2 x + 5) (nI_ne0 (by omega) (by omega)), va_up_ne Q _ (show nR1 x ≠ 37 by omega)]
theorem sp33 {x : Int32} (h : 28 ≤ nR2 x) : ¬ nI (nR2 x + 5) = 32 := by
  have h2 := nR2_lt x
  intro q
  have := nI_inj (b := 32) (by omega) (by decide) q
  omega
