/-! system, invoke, asked, special: the reference's words and the class's. -/
def xBk (x : Int32) : Bool := if x = 807403635 then true else false
def xSy (fv ca va : Int32) (Q : Nat → Cap) (w g : Nat → Int32) (x : Int32) : XC := ((xSys fv ca va Q x).1, (xSys fv ca va Q x).2.1, (xSys fv ca va Q x).2.2.1, (xSys fv ca va Q x).2.2.2.1, (xSys fv ca va Q x).2.2.2.2, w, g)
theorem tne {b : Bool} (h : b = true) : ¬ b = false := by rw [h]; decide
theorem fne {b : Bool} (h : b = false) : ¬ b = true := by rw [h]; decide
theorem cs_f : ∀ f, f < 8 → ((nI f &&& 3) = 0 ↔ (nI f = 0 ∨ nI f = 4)) := by decide +kernel
theorem cs_le : ∀ f, f < 8 → ¬ (nI f &&& 3) = 0 → (nI f ≤ 4 ↔ nI f < 4) := by decide +kernel
theorem cs_3 : ∀ f, f < 8 → ¬ (nI f &&& 3) = 0 → ¬ (nI f &&& 3) = 1 → ¬ (nI f &&& 3) = 2 → (nI f &&& 3) = 3 := by decide +kernel
theorem cs_in {x : Int32} (h1 : ¬ nI (nFn x) = 0) (h2 : ¬ nI (nFn x) = 4) (h3 : jus x 20 = 834 ∨ jus x 20 = 835) : isCsr x = true := by
  unfold isCsr
  rw [if_neg (fun q => by rcases (cs_f _ (nFn_lt x)).mp q with e | e; exact h1 e; exact h2 e)]
  rcases h3 with e | e
  · rw [if_pos e]
  · rw [if_pos e]
    split <;> rfl
theorem cs_o0 {x : Int32} (h : nI (nFn x) = 0) : isCsr x = false := by
  unfold isCsr
  rw [if_pos ((cs_f _ (nFn_lt x)).mpr (Or.inl h))]
theorem cs_o4 {x : Int32} (h : nI (nFn x) = 4) : isCsr x = false := by
  unfold isCsr
  rw [if_pos ((cs_f _ (nFn_lt x)).mpr (Or.inr h))]
theorem cs_o {x : Int32} (h1 : ¬ jus x 20 = 834) (h2 : ¬ jus x 20 = 835) : isCsr x = false := by
  unfold isCsr
  rw [if_neg h1, if_neg h2]
  split <;> rfl
theorem cs_b {x : Int32} (h : x = 807403635) : isCsr x = false := by
  subst h
  decide
theorem cs_fn {x : Int32} (h : isCsr x = true) : ¬ (nI (nFn x) &&& 3) = 0 := by
  intro q
  unfold isCsr at h
  rw [if_pos q] at h
  exact absurd h (by decide)
def hCs (x : Int32) : Prop := (x = 807403635 ∧ isCsr x = false) ∨ (¬ x = 807403635 ∧ isCsr x = true)
theorem hCs_o {x : Int32} (h : hCs x) : x = 807403635 ∨ isCsr x = true := by
  rcases h with ⟨e, _⟩ | ⟨_, e⟩
  · exact Or.inl e
  · exact Or.inr e
theorem xBk_t {x : Int32} : xBk x = true ↔ x = 807403635 := by
  unfold xBk
  split
  · rename_i h; exact ⟨fun _ => h, fun _ => rfl⟩
  · rename_i h; exact ⟨fun q => absurd q (by decide), fun q => absurd q h⟩
theorem xBk_f {x : Int32} : xBk x = false ↔ ¬ x = 807403635 := by
  rw [← xBk_t]
  cases xBk x <;> simp
theorem hCs_b {x : Int32} (h : hCs x) (hb : xBk x = true) : isCsr x = false := by
  rcases h with ⟨_, e⟩ | ⟨e, _⟩
  · exact e
  · exact absurd (xBk_t.mp hb) e
theorem hCs_c {x : Int32} (h : hCs x) (hb : xBk x = false) : isCsr x = true := by
  rcases h with ⟨e, _⟩ | ⟨_, e⟩
  · exact absurd e (xBk_f.mp hb)
  · exact e
theorem csOp_e {Q : Nat → Cap} {x : Int32} (h : isCsr x = true) : csOp Q x = if nI (nFn x) ≤ 4 then (Q (nR1 x)).2.1 else nI (nR1 x) := by
  unfold csOp
  have := cs_le _ (nFn_lt x) (cs_fn h)
  by_cases q : nI (nFn x) ≤ 4
  · rw [if_pos q, if_pos (this.mp q)]
  · rw [if_neg q, if_neg (fun z => q (this.mpr z))]
theorem csNx_e {x a b : Int32} (h : isCsr x = true) : csNx (nI (nFn x)) a b = if (nI (nFn x) &&& 3) = 1 then b else if (nI (nFn x) &&& 3) = 2 then a ||| b else a &&& (b ^^^ (-1)) := by
  unfold csNx
  by_cases h1 : (nI (nFn x) &&& 3) = 1
  · rw [if_pos h1, h1]
    rfl
  · rw [if_neg h1]
    by_cases h2 : (nI (nFn x) &&& 3) = 2
    · rw [if_pos h2, if_pos h2]
    · rw [if_neg h2, if_neg h2, if_pos (cs_3 _ (nFn_lt x) (cs_fn h) h1 h2)]
theorem xSy_1 {fv ca va x : Int32} {Q : Nat → Cap} {w g : Nat → Int32} (h : x = 115) : xSy fv ca va Q w g x = (11, 0, Q, ca, va, w, g) := by
  unfold xSy xSys
  simp only [if_pos h]
theorem xSy_2 {fv ca va x : Int32} {Q : Nat → Cap} {w g : Nat → Int32} (h : ¬ x = 115) (h2 : x = 1048691) : xSy fv ca va Q w g x = (3, 0, Q, ca, va, w, g) := by
  unfold xSy xSys
  simp only [if_neg h, if_pos h2]
theorem xSy_3 {fv ca va x : Int32} {Q : Nat → Cap} {w g : Nat → Int32} (h : ¬ x = 115) (h2 : ¬ x = 1048691) (h3 : xBk x = false) (h4 : isCsr x = false) : xSy fv ca va Q w g x = (2, x, Q, ca, va, w, g) := by
  unfold xSy xSys
  have h5 : ¬ (x = 807403635 ∨ isCsr x = true) := fun q => by
    rcases q with e | e
    · exact xBk_f.mp h3 e
    · exact absurd e (fne h4)
  simp only [if_neg h, if_neg h2, if_neg h5]
theorem xSy_4 {fv ca va x : Int32} {Q : Nat → Cap} {w g : Nat → Int32} (h : ¬ x = 115) (h2 : ¬ x = 1048691) (h3 : hCs x) (h4 : cMay (Q 32).2.2 10 = false) : xSy fv ca va Q w g x = (28, 1048, Q, ca, va, w, g) := by
  unfold xSy xSys
  simp only [if_neg h, if_neg h2, if_pos (hCs_o h3), if_pos h4]
  rfl
theorem xSy_5 {fv ca va x : Int32} {Q : Nat → Cap} {w g : Nat → Int32} (h : ¬ x = 115) (h2 : ¬ x = 1048691) (h3 : hCs x) (h4 : cMay (Q 32).2.2 10 = true) (h5 : xBk x = true) : xSy fv ca va Q w g x = (-2, fv, rtR Q, ca, va, w, g) := by
  unfold xSy xSys
  simp only [if_neg h, if_neg h2, if_pos (hCs_o h3), if_neg (tne h4), if_pos (hCs_b h3 h5)]
theorem xSy_6 {fv ca va x : Int32} {Q : Nat → Cap} {w g : Nat → Int32} (h : ¬ x = 115) (h2 : ¬ x = 1048691) (h3 : hCs x) (h4 : cMay (Q 32).2.2 10 = true) (h5 : xBk x = false) (h6 : jus x 20 = 834) : xSy fv ca va Q w g x = (-1, fv, nR Q (nRd x) ca, csNx (nI (nFn x)) ca (csOp Q x), va, w, g) := by
  unfold xSy xSys
  simp only [if_neg h, if_neg h2, if_pos (hCs_o h3), if_neg (tne h4), if_neg (tne (hCs_c h3 h5)), if_pos h6]
theorem xSy_7 {fv ca va x : Int32} {Q : Nat → Cap} {w g : Nat → Int32} (h : ¬ x = 115) (h2 : ¬ x = 1048691) (h3 : hCs x) (h4 : cMay (Q 32).2.2 10 = true) (h5 : xBk x = false) (h6 : ¬ jus x 20 = 834) : xSy fv ca va Q w g x = (-1, fv, nR Q (nRd x) va, ca, csNx (nI (nFn x)) va (csOp Q x), w, g) := by
  unfold xSy xSys
  simp only [if_neg h, if_neg h2, if_pos (hCs_o h3), if_neg (tne h4), if_neg (tne (hCs_c h3 h5)), if_neg h6]
theorem xIv_w {fv x : Int32} {Q : Nat → Cap} {k : Bool} {y : Int32} (h : ivW (Q (nR1 x)) (Q (nR2 x)) = (k, y)) (hy : ¬ y = 0) : xIv fv Q x = (28, 32 * nI (if k = true then nR2 x else nR1 x) + y, Q) := by
  unfold xIv ivF ivK
  rw [h]
  simp only [if_neg hy]
  rw [if_neg (by decide)]
theorem xIv_p {fv x : Int32} {Q : Nat → Cap} (h : ivW (Q (nR1 x)) (Q (nR2 x)) = (false, 0)) : xIv fv Q x = if rHo (Q (nR1 x)) (ivX Q x) 4 = true then (if (ivX Q x &&& 3) = 0 then (-2, fv, ivR Q x) else (0, ivX Q x, Q)) else (28, 32 * nI (nR1 x) + 1, Q) := by
  unfold xIv ivF
  rw [h]
  rfl
def rt_a (Q : Nat → Cap) : Nat → Cap := rSet Q 32 (Q 36)
theorem ag_rt1 {Q : Nat → Cap} (h : cType (Q 36).2.2 = 14) : ag (va_up (rSet Q 32 (Q 36)) 32 (((rSet Q 32 (Q 36)) 32).1, ((rSet Q 32 (Q 36)) 32).2.1, cSetT (Q 36).2.2 15)) (rtR Q) := by
  intro k _
  unfold rtR
  rw [if_pos h, rS_c (r := 32) (by decide), va_up_self]
  rfl
theorem ag_rt2 {Q : Nat → Cap} (h : ¬ cType (Q 36).2.2 = 14) : ag (rSet Q 32 (Q 36)) (rtR Q) := by
  intro k _
  unfold rtR
  rw [if_neg h, rS_c (r := 32) (by decide)]
/-- invoke: what stands before the last two sets -/
def iA (Q Q2 : Nat → Cap) (x : Int32) : Prop := (∀ k, k < 37 → Q2 k = Q k) ∧ Q2 37 = cTyC (Q (nR1 x)) 15 ∧ Q2 38 = cTyC (Q (nR2 x)) 15
theorem iA_of {Q : Nat → Cap} {x : Int32} (h : (Q (nR1 x)).1 = true) : iA Q (rSet (rSet Q 38 ((Q (nR2 x)).1, (Q (nR2 x)).2.1, cSetT (Q (nR2 x)).2.2 15)) 37 (true, ((rSet Q 38 ((Q (nR2 x)).1, (Q (nR2 x)).2.1, cSetT (Q (nR2 x)).2.2 15)) (nR1 x)).2.1, cSetT ((rSet Q 38 ((Q (nR2 x)).1, (Q (nR2 x)).2.1, cSetT (Q (nR2 x)).2.2 15)) (nR1 x)).2.2 15)) x := by
  have h1 := nR1_lt x
  rw [rS_c (r := 38) (by decide), rS_c (r := 37) (by decide), va_up_ne Q _ (show nR1 x ≠ 38 by omega)]
  refine ⟨fun k hk => ?_, ?_, rfl⟩
  · rw [va_up_ne _ _ (show k ≠ 37 by omega), va_up_ne _ _ (show k ≠ 38 by omega)]
  · rw [va_up_self, ← h]
    rfl
theorem ag_iv {Q Q2 : Nat → Cap} {x : Int32} (h : iA Q Q2 x) : ag (rSet (rSet Q2 32 (cMvC (Q2 37) (ivX Q x))) 31 ((rSet Q2 32 (cMvC (Q2 37) (ivX Q x))) 38)) (ivR Q x) := by
  obtain ⟨a1, a2, a3⟩ := h
  intro k hk
  unfold ivR aR
  rw [rS_c (r := 32) (by decide), rS_c (r := 31) (by decide), if_neg (by decide), va_up_self, a2]
  rw [va_up_ne Q2 _ (show (38 : Nat) ≠ 32 by decide), a3]
  by_cases k31 : k = 31
  · subst k31
    rw [va_up_self, va_up_self]
  · rw [va_up_ne _ _ k31, va_up_ne _ _ k31, va_up_ne _ _ (show k ≠ 37 by omega)]
    by_cases k32 : k = 32
    · subst k32
      rw [va_up_self, va_up_self]
    · rw [va_up_ne _ _ k32, va_up_ne _ _ k32, a1 k hk]
theorem iv0 {Q Q2 : Nat → Cap} {x : Int32} (h : iA Q Q2 x) {c d : Cap} : rSet (rSet Q2 32 c) 31 d 0 = Q 0 := (rS0 _ _ _).trans ((rS0 _ _ _).trans (h.1 0 (by decide)))
/-! asked -/
def asB (n : Int32) : Bool := if isV n = true then true else if n = 10 then true else if n = 11 then true else if n = 17 then true else false
def asC (c : Cap) (n : Int32) : Cap := if isV n = true then (false, insV c n, 1000194) else if n = 10 then c else if n = 11 then (false, c.2.1, c.2.2) else uEn c
def asQ (Q : Nat → Cap) (c : Cap) (n : Int32) : Nat → Cap := if asB n = true then rSet Q 37 (asC c n) else Q
theorem asQ_t {Q : Nat → Cap} {c C : Cap} {n : Int32} (h : asB n = true) (h2 : asC c n = C) : asQ Q c n = rSet Q 37 C := by
  unfold asQ
  rw [if_pos h, h2]
theorem asQ_f {Q : Nat → Cap} {c : Cap} {n : Int32} (h : asB n = false) : asQ Q c n = Q := by
  unfold asQ
  rw [if_neg (fne h)]
theorem rS2 (Q : Nat → Cap) (a b : Cap) : rSet (rSet Q 37 a) 37 b = rSet Q 37 b := by
  rw [rS_c (r := 37) (by decide), rS_c (r := 37) (by decide), rS_c (r := 37) (by decide), up_up]
theorem iv1 (m : Int32) : (if cType m < 14 then cType m else cType m - 16) = if cType m = 15 then -1 else if cType m = 14 then -2 else cType m := by
  obtain ⟨t, ht, e⟩ : ∃ t, t < 16 ∧ cType m = nI t := ⟨m.toBitVec.toNat / 2 ^ 16 % 2 ^ 4, Nat.mod_lt _ (by decide), usm m 16 15 16 4 (by decide) rfl⟩
  rw [e]
  have : ∀ t, t < 16 → (if nI t < 14 then nI t else nI t - 16) = if nI t = 15 then -1 else if nI t = 14 then -2 else nI t := by decide +kernel
  exact this t ht
/-! special -/
def sU (fv : Int32) (Q Q2 : Nat → Cap) (x : Int32) : Prop := Q2 0 = Q 0 ∧ ∃ R', xU fv Q x = (-1, fv, R') ∧ ag (rSet Q2 (nRd x) (Q2 37)) R'
theorem sU_u {fv : Int32} {Q : Nat → Cap} {C : Cap} {x : Int32} (h : xU fv Q x = (-1, fv, uR Q C x)) : sU fv Q (rSet Q 37 C) x := by
  refine ⟨rS0 _ _ _, _, h, fun k _ => ?_⟩
  unfold uR
  rw [rS_c (r := 37) (by decide)]
  rfl
theorem sU_n {fv : Int32} {Q : Nat → Cap} {v : Int32} {x : Int32} (h : xU fv Q x = (-1, fv, nR Q (nRd x) v)) : sU fv Q (rSet Q 37 (false, v, 1000194)) x := by
  refine ⟨rS0 _ _ _, _, h, fun k hk => ?_⟩
  unfold rSet nR
  have e : (37 : Nat) = 37 := rfl
  rw [if_neg (show ¬ nI 37 = 0 by decide), va_up_self]
  split
  · rw [va_up_ne _ _ (show k ≠ 37 by omega)]
  · by_cases q : k = nRd x
    · subst q
      rw [va_up_self, va_up_self]
    · rw [va_up_ne _ _ q, va_up_ne _ _ q, va_up_ne _ _ (show k ≠ 37 by omega)]
theorem sU_s {fv : Int32} {Q Q2 : Nat → Cap} {x : Int32} (h : xU fv Q x = (-1, fv, aR (spR Q x) (nRd x))) (e : Q2 = spR Q x) (h0 : Q2 0 = Q 0) : sU fv Q Q2 x := by
  subst e
  exact ⟨h0, _, h, fun k _ => rfl⟩
theorem sU_a {fv : Int32} {Q : Nat → Cap} {x : Int32} (hf : nI (nFn x) = 0) (hn : nI (nNb x) = 127) (hb : asB (nI (nR2 x)) = true) : sU fv Q (asQ Q (Q (nR1 x)) (nI (nR2 x))) x := by
  have h1 : xU fv Q x = xIn fv Q (Q (nR1 x)) x := by
    unfold xU xNb
    rw [if_pos hf, hn]
    rfl
  unfold asQ
  rw [if_pos hb]
  unfold asC
  unfold xIn at h1
  by_cases a : isV (nI (nR2 x)) = true
  · rw [if_pos a] at h1 ⊢
    exact sU_n h1
  · rw [if_neg a] at h1 ⊢
    by_cases b : nI (nR2 x) = 10
    · rw [if_pos b] at h1 ⊢
      exact sU_u h1
    · rw [if_neg b] at h1 ⊢
      by_cases c : nI (nR2 x) = 11
      · rw [if_pos c] at h1 ⊢
        exact sU_u h1
      · rw [if_neg c] at h1 ⊢
        by_cases d : nI (nR2 x) = 17
        · rw [if_pos d] at h1
          exact sU_u h1
        · exfalso
          unfold asB at hb
          rw [if_neg a, if_neg b, if_neg c, if_neg d] at hb
          exact absurd hb (by decide)
theorem xU_a {fv : Int32} {Q : Nat → Cap} {x : Int32} (hf : nI (nFn x) = 0) (hn : nI (nNb x) = 127) (hb : asB (nI (nR2 x)) = false) : xU fv Q x = (2, x, Q) := by
  unfold asB at hb
  have h1 : xU fv Q x = xIn fv Q (Q (nR1 x)) x := by
    unfold xU xNb
    rw [if_pos hf, hn]
    rfl
  rw [h1]
  unfold xIn
  by_cases a : isV (nI (nR2 x)) = true
  · rw [if_pos a] at hb
    exact absurd hb (by decide)
  · rw [if_neg a] at hb ⊢
    by_cases b : nI (nR2 x) = 10
    · rw [if_pos b] at hb
      exact absurd hb (by decide)
    · rw [if_neg b] at hb ⊢
      by_cases c : nI (nR2 x) = 11
      · rw [if_pos c] at hb
        exact absurd hb (by decide)
      · rw [if_neg c] at hb ⊢
        by_cases d : nI (nR2 x) = 17
        · rw [if_pos d] at hb
          exact absurd hb (by decide)
        · rw [if_neg d]
theorem low12 (a : Int32) : cLow a < 12 ↔ (¬ a < 0 ∧ ¬ 12 ≤ a) := by
  rw [cLow_n, show (12 : Int64) = lN 12 from rfl, lN_lt2 (by have := iN_lt a; omega) (by decide)]
  have e : a = nI a.toBitVec.toNat := iN_of a
  by_cases h : a.toBitVec.toNat < 2 ^ 31
  · rw [e, iN_tn (iN_lt a)]
    constructor
    · intro q
      exact ⟨nI_pos (by omega), nI_ge (b := 12) q (by decide)⟩
    · intro q
      exact lt_nge2 (c := 12) (by omega) q.2
  · constructor
    · intro q
      omega
    · intro q
      exfalso
      apply q.1
      rw [Int32.lt_iff_toInt_lt]
      show a.toBitVec.toInt < 0
      rw [BitVec.toInt_neg_iff]
      omega
theorem isT_e (d : Cap) : isT d = if cCov (cbase d.2.2 d.2.1) (ctop d.2.2 d.2.1) d.2.1 (1 : Int32).toInt64 = false then false else if 12 ≤ cLow d.2.1 then false else true := by
  unfold isT
  have h := low12 d.2.1
  rw [show (1 : Int32).toInt64 = 1 from rfl]
  by_cases h1 : d.2.1 < 0
  · rw [if_pos h1, if_pos (show 12 ≤ cLow d.2.1 from Int64.not_lt.mp (fun q => (h.mp q).1 h1))]
    split <;> rfl
  · rw [if_neg h1]
    by_cases h2 : 12 ≤ d.2.1
    · rw [if_pos h2, if_pos (show 12 ≤ cLow d.2.1 from Int64.not_lt.mp (fun q => (h.mp q).2 h2))]
      split <;> rfl
    · rw [if_neg h2, if_neg (show ¬ 12 ≤ cLow d.2.1 from Int64.not_le.mpr (h.mpr ⟨h1, h2⟩))]
      cases cCov (cbase d.2.2 d.2.1) (ctop d.2.2 d.2.1) d.2.1 1 <;> rfl
theorem kSl_e (c d : Cap) : kSl c d = if c.1 = false then false else if d.1 = false then false else if cOpen c.2.2 = false then false else if cOpen d.2.2 = false then false else if cMay d.2.2 7 = false then false else if cCov (cbase d.2.2 d.2.1) (ctop d.2.2 d.2.1) d.2.1 (1 : Int32).toInt64 = false then false else if 12 ≤ cLow d.2.1 then false else true := by
  unfold kSl mUT
  rw [isT_e]
  cases c.1 <;> cases d.1 <;> cases cOpen c.2.2 <;> cases cOpen d.2.2 <;> rfl
theorem cType_n (m : Int32) : ∃ t, t < 16 ∧ cType m = nI t := ⟨m.toBitVec.toNat / 2 ^ 16 % 2 ^ 4, Nat.mod_lt _ (by decide), usm m 16 15 16 4 (by decide) rfl⟩
theorem kUn_e (c d : Cap) : kUn c d = if c.1 = false then false else if d.1 = false then false else if 12 ≤ cType c.2.2 then false else if cType c.2.2 = d.2.1 then (if cOpen d.2.2 = false then false else if cMay d.2.2 9 = false then false else if cCov (cbase d.2.2 d.2.1) (ctop d.2.2 d.2.1) d.2.1 (1 : Int32).toInt64 = false then false else true) else false := by
  unfold kUn mUT isT
  rw [show (1 : Int32).toInt64 = 1 from rfl]
  by_cases h : cType c.2.2 = d.2.1
  · obtain ⟨t, ht, e⟩ := cType_n c.2.2
    have h1 : ¬ d.2.1 < 0 := by rw [← h, e]; exact nI_pos (by omega)
    simp only [if_pos h, if_neg h1, h]
    by_cases h2 : 12 ≤ d.2.1
    · simp only [if_pos h2]
      cases c.1 <;> cases d.1 <;> cases cOpen d.2.2 <;> cases cMay d.2.2 9 <;> rfl
    · simp only [if_neg h2]
      cases c.1 <;> cases d.1 <;> cases cOpen d.2.2 <;> cases cMay d.2.2 9 <;> cases cCov (cbase d.2.2 d.2.1) (ctop d.2.2 d.2.1) d.2.1 1 <;> rfl
  · simp only [if_neg h]
    by_cases h2 : 12 ≤ cType c.2.2
    · simp only [if_pos h2]
      cases c.1 <;> cases d.1 <;> rfl
    · simp only [if_neg h2]
      cases c.1 <;> cases d.1 <;> rfl
theorem setP_id (m : Int32) : cSetP m (cPerms m) = m := by
  unfold cSetP cPerms
  apply b_ext
  intro i hi
  have h1 : ∀ i, i < 32 → bt 1048575 i = decide (i < 20) := by decide +kernel
  rw [b_or, b_and, h1 i hi, show (20 : Int32) = nI 20 from rfl, b_shl 20 (by decide) _ hi, b_us 20 (by decide)]
  by_cases h : i < 20
  · have : ¬ 20 ≤ i := by omega
    simp [h, this]
  · have h2 : 20 ≤ i := by omega
    rw [show 20 + (i - 20) = i by omega]
    simp [h, h2]
theorem perms_T (m t : Int32) (ht : ∀ i, i < 32 → bt t i = true → i < 4) : cPerms (cSetT m t) = cPerms m := by
  unfold cSetT cPerms
  apply b_ext
  intro i hi
  rw [show (20 : Int32) = nI 20 from rfl, b_us 20 (by decide), b_us 20 (by decide)]
  by_cases h : 20 + i < 32
  · have h1 : ∀ i, i < 12 → bt (-983041) (20 + i) = true := by decide +kernel
    rw [b_or, b_and, h1 i (by omega), show (16 : Int32) = nI 16 from rfl, b_shl 16 (by decide) _ h]
    cases q : bt t (20 + i - 16)
    · simp
    · exact absurd (ht _ (by omega) q) (by omega)
  · rw [b_big (by omega), b_big (by omega)]
theorem un_m (c d : Cap) : cSetP (cSetT c.2.2 15) (if cMay d.2.2 0 = true then cPerms c.2.2 else cPerms c.2.2 &&& (-2)) = (uUn c d).2.2 := by
  unfold uUn
  by_cases h : cMay d.2.2 0 = true
  · simp only [if_pos h]
    rw [← perms_T c.2.2 15 (by decide +kernel), setP_id]
  · simp only [if_neg h]
theorem setT_id (m : Int32) (h : cType m = 14) : cSetT m 14 = m := by
  unfold cType at h
  unfold cSetT
  apply b_ext
  intro i hi
  have h1 : ∀ i, i < 32 → bt (-983041) i = decide (¬ (16 ≤ i ∧ i < 20)) := by decide +kernel
  have h2 : ∀ i, i < 32 → bt 14 i = decide (1 ≤ i ∧ i < 4) := by decide +kernel
  have h3 : ∀ i, i < 32 → bt 15 i = decide (i < 4) := by decide +kernel
  rw [b_or, b_and, h1 i hi, show ((16 : Int32) &&& 31) = (nI 16 &&& 31) from rfl, b_shl 16 (by decide) _ hi]
  by_cases hq : 16 ≤ i ∧ i < 20
  · have e : bt (jus m 16 &&& 15) (i - 16) = bt 14 (i - 16) := by rw [h]
    rw [b_and, h3 (i - 16) (by omega), show (16 : Int32) = nI 16 from rfl, b_us 16 (by decide), show 16 + (i - 16) = i by omega] at e
    have h5 : i - 16 < 4 := by omega
    simp [h5] at e
    rw [← e]
    simp [hq]
  · simp only [hq, not_false_eq_true, decide_true, Bool.and_true]
    by_cases h4 : 16 ≤ i
    · rw [h2 (i - 16) (by omega)]
      have : ¬ (1 ≤ i - 16 ∧ i - 16 < 4) := by omega
      simp [this]
    · simp [h4]
theorem bd_m (d : Cap) : cSetT d.2.2 (if cType d.2.2 = 14 then 14 else 15) = if cType d.2.2 = 14 then d.2.2 else cSetT d.2.2 15 := by
  by_cases h : cType d.2.2 = 14
  · rw [if_pos h, if_pos h, setT_id _ h]
  · rw [if_neg h, if_neg h]
