/-! Tags by eight bytes; stores; loads of numbers. -/
theorem g_bit (x : Int32) (k : Nat) (hk : k < 32) : (x &&& ((1 : Int32) <<< (nI k &&& 31))) = 0 ↔ bt x k = false := by
  have e1 : ∀ i, i < 32 → bt ((1 : Int32) <<< (nI k &&& 31)) i = decide (k = i) := by
    intro i hi
    rw [b_shl k hk 1 hi]
    have e : bt 1 (i - k) = decide (i - k = 0) := by
      rw [show (1 : Int32) = nI (2 ^ 1 - 1) from rfl, b_mask 1 _ (by decide)]
      by_cases h : i - k = 0 <;> simp [h] <;> omega
    rw [e]
    by_cases h : k ≤ i
    · by_cases h2 : k = i
      · subst h2; simp
      · have : ¬ i - k = 0 := by omega
        simp [h2, this]
    · have : ¬ k = i := by omega
      simp [h, this]
  constructor
  · intro h
    have := congrArg (fun y => bt y k) h
    rw [b_and, e1 k hk] at this
    have e0 : bt 0 k = false := by
      show (0#32).getLsbD k = false
      exact BitVec.getLsbD_zero
    rw [e0] at this
    simpa using this
  · intro h
    apply b_ext
    intro i hi
    rw [b_and, e1 i hi]
    have e0 : bt 0 i = false := BitVec.getLsbD_zero
    rw [e0]
    by_cases h2 : k = i
    · subst h2; simp [h]
    · simp [h2]
theorem gTag_b (g : Nat → Int32) (i : Nat) : gTag g i = bt (g (i / 8)) (i % 8 / 2) := by
  unfold gTag tBit
  have h := g_bit (g (i / 8)) (i % 8 / 2) (by omega)
  cases e : bt (g (i / 8)) (i % 8 / 2) with
  | false => rw [if_pos (h.mpr e)]
  | true => rw [if_neg (fun q => by have := h.mp q; rw [e] at this; exact absurd this (by decide))]
theorem tBit_b (i j : Nat) (hj : j < 32) : bt (tBit i) j = decide (i % 8 / 2 = j) := by
  unfold tBit
  rw [b_shl _ (by omega) 1 hj]
  have e : bt 1 (j - i % 8 / 2) = decide (j - i % 8 / 2 = 0) := by
    rw [show (1 : Int32) = nI (2 ^ 1 - 1) from rfl, b_mask 1 _ (by decide)]
    by_cases h : j - i % 8 / 2 = 0 <;> simp [h] <;> omega
  rw [e]
  by_cases h : i % 8 / 2 ≤ j
  · by_cases h2 : i % 8 / 2 = j
    · simp [h2]
    · have : ¬ j - i % 8 / 2 = 0 := by omega
      simp [h2, this]
  · have : ¬ i % 8 / 2 = j := by omega
    simp [h, this]
theorem gTag_off (g : Nat → Int32) (i j : Nat) : gTag (gOff g i) j = if j / 2 = i / 2 then false else gTag g j := by
  rw [gTag_b, gTag_b]
  unfold gOff upd
  have hj : j % 8 / 2 < 32 := by omega
  by_cases h : j / 8 = i / 8
  · rw [if_pos h, b_and, b_xor, tBit_b i _ hj, b_m1 _ hj]
    by_cases h2 : j / 2 = i / 2
    · have : i % 8 / 2 = j % 8 / 2 := by omega
      simp [h2, this]
    · have : ¬ i % 8 / 2 = j % 8 / 2 := by omega
      simp [h2, this, h]
  · have : ¬ j / 2 = i / 2 := by omega
    simp [h, this]
theorem gTag_on (g : Nat → Int32) (i j : Nat) : gTag (gOn g i) j = if j / 2 = i / 2 then true else gTag g j := by
  rw [gTag_b, gTag_b]
  unfold gOn upd
  have hj : j % 8 / 2 < 32 := by omega
  by_cases h : j / 8 = i / 8
  · rw [if_pos h, b_or, tBit_b i _ hj]
    by_cases h2 : j / 2 = i / 2
    · have : i % 8 / 2 = j % 8 / 2 := by omega
      simp [h2, this]
    · have : ¬ i % 8 / 2 = j % 8 / 2 := by omega
      simp [h2, this, h]
  · have : ¬ j / 2 = i / 2 := by omega
    simp [h, this]
theorem tg_off (g : Nat → Int32) (i k : Nat) (h : i / 2 = k) : (fun j => jb (va_up (fun j => gTag g (2 * j)) k false j)) = (fun j => jb (gTag (gOff g i) (2 * j))) := by
  funext j
  rw [gTag_off]
  by_cases h2 : j = k
  · subst h2
    rw [va_up_self, if_pos (by omega)]
  · rw [va_up_ne _ _ h2, if_neg (by omega)]
theorem tg_sc (g : Nat → Int32) (i k : Nat) (c : Cap) (h : i / 2 = k) (h2 : i % 2 = 0) : (fun j => jb (va_up (fun j => gTag g (2 * j)) k c.1 j)) = (fun j => jb (gTag (scG g i c) (2 * j))) := by
  funext j
  unfold scG
  by_cases h3 : j = k
  · subst h3
    rw [va_up_self]
    split
    · rename_i h4
      rw [gTag_off, if_pos (by omega), h4]
    · rename_i h4
      rw [gTag_on, if_pos (by omega)]
      cases h5 : c.1 with
      | true => rfl
      | false => exact absurd h5 h4
  · rw [va_up_ne _ _ h3]
    split
    · rw [gTag_off, if_neg (by omega), gTag_off, if_neg (by omega)]
    · rw [gTag_on, if_neg (by omega), gTag_off, if_neg (by omega), gTag_off, if_neg (by omega)]
theorem stF_r {Q : Nat → Cap} (h0 : (Q 0).1 = false) (x : Int32) : rSt Q (nR1 x) (nR2 x) = stF Q x := by
  unfold rSt stF
  have hr := nR2_lt x
  by_cases h : nI (nR2 x) ≤ 0
  · have e : nR2 x = 0 := by have := (nI_leI (a := nR2 x) (b := 0) (by omega) (by decide)).mp h; omega
    rw [if_pos h, e, if_pos h0]
  · rw [if_neg h]
def stB (x : Int32) : Nat := if nI (nFn x) = 3 then nR2 x else 0
theorem n83' : ∀ f, f < 8 → nI f ≤ 3 → ((1 : Int32) <<< (nI f &&& 31) = 8 ↔ nI f = 3) := by decide +kernel
theorem stN8 {x : Int32} (h : nI (nFn x) ≤ 3) : stN x = 8 ↔ nI (nFn x) = 3 := n83' _ (nFn_lt x) h
theorem xSt_w {fv : Int32} {Q : Nat → Cap} {w g : Nat → Int32} {x : Int32} (h0 : (Q 0).1 = false) (h3 : nI (nFn x) ≤ 3) (h : ¬ rRe Q (nR1 x) (ldX Q x) (stN x) 3 (stB x) ≤ 0) : xSt fv Q w g x = (28, 32 * nI (nR1 x) + rRe Q (nR1 x) (ldX Q x) (stN x) 3 (stB x), w, g) := by
  unfold xSt
  rw [if_pos h3]
  have ea : stA Q x = authF (Q (nR1 x)) (nI 3) (16 + nI 3) := rfl
  unfold rRe at h ⊢
  rw [← ea] at h ⊢
  by_cases h1 : stA Q x = 0
  · rw [if_pos h1] at h ⊢
    rw [h1, if_pos (show aTr 0 = -1 from rfl)]
    have hp : ∀ fv, rHo (Q (nR1 x)) (ldX Q x) (stN x) = false → plF fv (nR1 x) (Q (nR1 x)) (ldX Q x) (stN x) 6 = (28, 32 * nI (nR1 x) + 1) := by
      intro fv hh
      unfold plF
      rw [show cCov (cbase (Q (nR1 x)).2.2 (Q (nR1 x)).2.1) (ctop (Q (nR1 x)).2.2 (Q (nR1 x)).2.1) (ldX Q x) (stN x).toInt64 = false from hh, if_pos rfl]
    by_cases h8 : stN x = 8
    · have hb : stB x = nR2 x := if_pos ((stN8 h3).mp h8)
      rw [hb, stF_r h0] at h ⊢
      rw [if_pos h8]
      by_cases h4 : stF Q x = 0
      · rw [if_pos h4] at h ⊢
        rw [h4, if_pos (show aTr 0 = -1 from rfl)]
        by_cases h2 : rHo (Q (nR1 x)) (ldX Q x) (stN x) = false
        · rw [if_pos h2]
          unfold stP2
          rw [hp _ h2, if_neg (show ¬ (28 : Int32) = -1 by decide)]
        · rw [if_neg h2] at h
          exact absurd (by decide) h
      · rw [if_neg h4]
        unfold aTr aFv
        rw [if_neg h4, if_neg h4, if_neg (by decide)]
    · have hb : stB x = 0 := if_neg (fun q => h8 ((stN8 h3).mpr q))
      have e0 : rSt Q (nR1 x) 0 = 0 := if_pos (by decide)
      rw [hb, if_pos e0] at h ⊢
      rw [if_neg h8]
      by_cases h2 : rHo (Q (nR1 x)) (ldX Q x) (stN x) = false
      · rw [if_pos h2]
        unfold stP1
        rw [hp _ h2, if_neg (show ¬ (28 : Int32) = -1 by decide)]
      · rw [if_neg h2] at h
        exact absurd (by decide) h
  · rw [if_neg h1]
    unfold aTr aFv
    rw [if_neg h1, if_neg h1, if_neg (by decide)]
theorem xSt_p {fv : Int32} {Q : Nat → Cap} {w g : Nat → Int32} {x : Int32} (h0 : (Q 0).1 = false) (h3 : nI (nFn x) ≤ 3) (h : rRe Q (nR1 x) (ldX Q x) (stN x) 3 (stB x) ≤ 0) : xSt fv Q w g x =
    if (ldX Q x &&& (stN x - 1)) = 0 then (if cLow (ldX Q x) < 16384 then (if nI (nFn x) = 3 then (-1, fv, scW w ((ldX Q x).toNatClampNeg / 4) (Q (nR2 x)), scG g ((ldX Q x).toNatClampNeg / 4) (Q (nR2 x))) else (-1, fv, snW w (ldX Q x).toNatClampNeg (stN x) (Q (nR2 x)).2.1, gOff g ((ldX Q x).toNatClampNeg / 4))) else (7, ldX Q x, w, g)) else (6, ldX Q x, w, g) := by
  obtain ⟨h1, h2, hh⟩ := rRe_p (by decide) h
  have ea : stA Q x = 0 := h1
  unfold xSt
  rw [if_pos h3, ea, if_pos (show aTr 0 = -1 from rfl)]
  have hp : ∀ fv, plF fv (nR1 x) (Q (nR1 x)) (ldX Q x) (stN x) 6 = _ := fun fv => plF_c (fv := fv) (k := nR1 x) (tm := 6) hh
  have ef : aFv fv (nR1 x) (stA Q x) = fv := by unfold aFv; rw [if_pos ea]
  have e1 : stP1 fv Q x = _ := hp (aFv fv (nR1 x) (stA Q x))
  have e2 : stP2 fv Q x = _ := hp (aFv (aFv fv (nR1 x) (stA Q x)) (nR1 x) (stF Q x))
  rw [ef] at e1 e2
  by_cases h8 : nI (nFn x) = 3
  · have hb : stB x = nR2 x := if_pos h8
    rw [hb, stF_r h0] at h2
    have ef2 : aFv fv (nR1 x) (stF Q x) = fv := by unfold aFv; rw [if_pos h2]
    rw [ef2] at e2
    rw [if_pos ((stN8 h3).mpr h8), h2, if_pos (show aTr 0 = -1 from rfl), e2, if_pos h8]
    by_cases h6 : (ldX Q x &&& (stN x - 1)) = 0
    · rw [if_pos h6, if_pos h6]
      by_cases h7 : cLow (ldX Q x) < 16384
      · rw [if_pos h7, if_pos h7, if_pos rfl]
      · rw [if_neg h7, if_neg h7, if_neg (show ¬ (6 : Int32) + 1 = -1 by decide)]
        rfl
    · rw [if_neg h6, if_neg h6, if_neg (show ¬ (6 : Int32) = -1 by decide)]
  · rw [if_neg (fun q => h8 ((stN8 h3).mp q)), e1, if_neg h8]
    by_cases h6 : (ldX Q x &&& (stN x - 1)) = 0
    · rw [if_pos h6, if_pos h6]
      by_cases h7 : cLow (ldX Q x) < 16384
      · rw [if_pos h7, if_pos h7, if_pos rfl]
      · rw [if_neg h7, if_neg h7, if_neg (show ¬ (6 : Int32) + 1 = -1 by decide)]
        rfl
    · rw [if_neg h6, if_neg h6, if_neg (show ¬ (6 : Int32) = -1 by decide)]
theorem f8 {P : Nat → Prop} (h0 : P 0) (h1 : P 1) (h2 : P 2) (h3 : P 3) (h4 : P 4) (h5 : P 5) (h6 : P 6) (h7 : P 7) : ∀ f, f < 8 → P f := by
  intro f hf
  have : f = 0 ∨ f = 1 ∨ f = 2 ∨ f = 3 ∨ f = 4 ∨ f = 5 ∨ f = 6 ∨ f = 7 := by omega
  rcases this with rfl | rfl | rfl | rfl | rfl | rfl | rfl | rfl <;> assumption
/-- the number that a load answers -/
def rLd (f : Nat) (v : Int32) : Int32 := if (1 : Int32) <<< ((nI f &&& 3) &&& 31) = 4 then v else if nI f ≤ 3 then ((v <<< ((32 - 8 * ((1 : Int32) <<< ((nI f &&& 3) &&& 31))) &&& 31)) >>> ((32 - 8 * ((1 : Int32) <<< ((nI f &&& 3) &&& 31))) &&& 31)) else v &&& (((1 : Int32) <<< ((8 * ((1 : Int32) <<< ((nI f &&& 3) &&& 31))) &&& 31)) - 1)
theorem rLd_e (v : Int32) : ∀ f, f < 8 → nI f ≤ 5 → ¬ nI f = 3 → rLd f v = ldV (nI f) v := by
  refine f8 ?_ ?_ ?_ ?_ ?_ ?_ ?_ ?_
  · intro _ _; exact sx8 v
  · intro _ _; exact sx16 v
  · intro _ _; rfl
  · intro _ h; exact absurd rfl h
  · intro _ _; rfl
  · intro _ _; rfl
  · intro h _; exact absurd h (by decide)
  · intro h _; exact absurd h (by decide)
theorem ldN_p : ∀ f, f < 8 → ∃ k, k ≤ 3 ∧ (1 : Int32) <<< ((nI f &&& 3) &&& 31) = nI (2 ^ k) := f8 ⟨0, by decide, by decide⟩ ⟨1, by decide, by decide⟩ ⟨2, by decide, by decide⟩ ⟨3, by decide, by decide⟩ ⟨0, by decide, by decide⟩ ⟨1, by decide, by decide⟩ ⟨2, by decide, by decide⟩ ⟨3, by decide, by decide⟩
theorem stN_p : ∀ f, f < 8 → nI f ≤ 3 → ∃ k, k ≤ 3 ∧ (1 : Int32) <<< (nI f &&& 31) = nI (2 ^ k) := f8 (fun _ => ⟨0, by decide, by decide⟩) (fun _ => ⟨1, by decide, by decide⟩) (fun _ => ⟨2, by decide, by decide⟩) (fun _ => ⟨3, by decide, by decide⟩) (fun h => absurd h (by decide)) (fun h => absurd h (by decide)) (fun h => absurd h (by decide)) (fun h => absurd h (by decide))
theorem ldR {x a : Int32} : (a - a / ldN x * ldN x = 0) ↔ (a &&& (ldN x - 1)) = 0 := by
  obtain ⟨k, hk, e⟩ := ldN_p (nFn x) (nFn_lt x)
  have e2 : ldN x = nI (2 ^ k) := e
  rw [e2]
  exact rem_and a k hk
theorem ldN0 (x : Int32) : ¬ ldN x = 0 := by
  obtain ⟨k, hk, e⟩ := ldN_p (nFn x) (nFn_lt x)
  have e2 : ldN x = nI (2 ^ k) := e
  rw [e2]
  have : k = 0 ∨ k = 1 ∨ k = 2 ∨ k = 3 := by omega
  rcases this with rfl | rfl | rfl | rfl <;> decide
theorem stR {x a : Int32} (h : nI (nFn x) ≤ 3) : (a - a / stN x * stN x = 0) ↔ (a &&& (stN x - 1)) = 0 := by
  obtain ⟨k, hk, e⟩ := stN_p (nFn x) (nFn_lt x) h
  have e2 : stN x = nI (2 ^ k) := e
  rw [e2]
  exact rem_and a k hk
theorem stN0 {x : Int32} (h : nI (nFn x) ≤ 3) : ¬ stN x = 0 := by
  obtain ⟨k, hk, e⟩ := stN_p (nFn x) (nFn_lt x) h
  have e2 : stN x = nI (2 ^ k) := e
  rw [e2]
  have : k = 0 ∨ k = 1 ∨ k = 2 ∨ k = 3 := by omega
  rcases this with rfl | rfl | rfl | rfl <;> decide
theorem ldN8 {x : Int32} (h : nI (nFn x) ≤ 5) : ldN x = 8 ↔ nI (nFn x) = 3 := by
  have : ∀ f, f < 8 → nI f ≤ 5 → ((1 : Int32) <<< ((nI f &&& 3) &&& 31) = 8 ↔ nI f = 3) := by decide +kernel
  exact this _ (nFn_lt x) h
theorem lowX {a : Int32} (h : cLow a < 16384) : ∃ X, X < 16384 ∧ a = nI X := by
  obtain ⟨h1, h2⟩ := (low16 a).mp h
  obtain ⟨j, hj, ej⟩ := nI_of h1
  refine ⟨j, ?_, ej⟩
  rw [ej] at h2
  exact lt_nge2 (c := 16384) hj h2
theorem sn4 (w : Nat → Int32) (X : Nat) (v : Int32) (h : X % 4 = 0) : snW w X 4 v = upd w (X / 4) v := by
  unfold snW snM
  rw [if_pos rfl, h]
  congr 1
  have e1 : w (X / 4) &&& ((-1 : Int32) ^^^ (-1)) = 0 := by rw [Int32.xor_self, Int32.and_zero]
  have e2 : (v <<< (nI (8 * 0) &&& 31)) &&& (-1 : Int32) = v := by
    rw [show (nI (8 * 0) &&& 31) = (0 : Int32) by decide]
    apply b_ext
    intro i hi
    rw [b_and, b_m1 i hi, Bool.and_true]
    congr 1
    exact Int32.shiftLeft_zero
  rw [e1, e2, Int32.zero_or]
theorem sn12 (w : Nat → Int32) (X : Nat) (n v : Int32) (h : ¬ n = 4) : snW w X n v = upd w (X / 4) ((w (X / 4) &&& (((((1 : Int32) <<< (((8 : Int32) * n) &&& 31)) - 1) <<< (nI (8 * (X % 4)) &&& 31)) ^^^ (-1))) ||| ((v <<< (nI (8 * (X % 4)) &&& 31)) &&& ((((1 : Int32) <<< (((8 : Int32) * n) &&& 31)) - 1) <<< (nI (8 * (X % 4)) &&& 31)))) := by
  unfold snW snM
  rw [if_neg h]
theorem alN {X : Nat} (hX : X < 16384) {n : Int32} {k : Nat} (e : n = nI (2 ^ k)) (hk : k ≤ 3) (h : nI X &&& (n - 1) = 0) : X % 2 ^ k = 0 := by
  have hm : (nI (2 ^ k) - 1).toBitVec.toNat = 2 ^ k - 1 := by
    have : k = 0 ∨ k = 1 ∨ k = 2 ∨ k = 3 := by omega
    rcases this with rfl | rfl | rfl | rfl <;> decide
  rw [e, pk_andN (by omega) k hm] at h
  have hp : 2 ^ k ≤ 8 := Nat.pow_le_pow_right (n := 2) (by decide) hk
  have hl : X % 2 ^ k < 2 ^ k := Nat.mod_lt _ (Nat.pow_pos (by decide))
  exact nI_inj (a := X % 2 ^ k) (b := 0) (by omega) (by decide) h
