/-! The reference's instruction: the words of the class. -/
theorem kX_91 {fv ca va x : Int32} {Q : Nat → Cap} {w g : Nat → Int32} (h : nI (nOp x) = 91) : kX fv ca va Q w g x = xoc (xU fv Q x) ca va w g := by
  unfold kX
  rw [if_pos h]
theorem kX_n {fv ca va x : Int32} {Q : Nat → Cap} {w g : Nat → Int32} {c : Int32} (h : nI (nOp x) = c) (hc : ¬ c = 91) : kX fv ca va Q w g x = xB fv ca va Q w g x := by
  unfold kX
  rw [if_neg (by rw [h]; exact hc)]
theorem kX_3 {fv ca va x : Int32} {Q : Nat → Cap} {w g : Nat → Int32} (h : nI (nOp x) = 3) : kX fv ca va Q w g x = xoc (xLd fv Q w g x) ca va w g := by
  rw [kX_n h (by decide)]; unfold xB; rw [h]; rfl
theorem kX_15 {fv ca va x : Int32} {Q : Nat → Cap} {w g : Nat → Int32} (h : nI (nOp x) = 15) : kX fv ca va Q w g x = if nI (nFn x) = 0 then (-1, fv, Q, ca, va, w, g) else (2, x, Q, ca, va, w, g) := by
  rw [kX_n h (by decide)]; unfold xB; rw [h]; rfl
theorem kX_19 {fv ca va x : Int32} {Q : Nat → Cap} {w g : Nat → Int32} (h : nI (nOp x) = 19) : kX fv ca va Q w g x = xoc (xOi fv Q x) ca va w g := by
  rw [kX_n h (by decide)]; unfold xB; rw [h]; rfl
theorem kX_23 {fv ca va x : Int32} {Q : Nat → Cap} {w g : Nat → Int32} (h : nI (nOp x) = 23) : kX fv ca va Q w g x = (-1, fv, aR (va_up Q 37 (cMvC (Q 32) ((Q 32).2.1 + (x &&& (-4096))))) (nRd x), ca, va, w, g) := by
  rw [kX_n h (by decide)]; unfold xB; rw [h]; unfold xAdd; rw [im_23 h]; rfl
theorem kX_35 {fv ca va x : Int32} {Q : Nat → Cap} {w g : Nat → Int32} (h : nI (nOp x) = 35) : kX fv ca va Q w g x = xSo fv ca va Q w g x := by
  rw [kX_n h (by decide)]; unfold xB; rw [h]; rfl
theorem kX_51 {fv ca va x : Int32} {Q : Nat → Cap} {w g : Nat → Int32} (h : nI (nOp x) = 51) : kX fv ca va Q w g x = xoc (xOp fv Q x) ca va w g := by
  rw [kX_n h (by decide)]; unfold xB; rw [h]; rfl
theorem kX_55 {fv ca va x : Int32} {Q : Nat → Cap} {w g : Nat → Int32} (h : nI (nOp x) = 55) : kX fv ca va Q w g x = (-1, fv, nR Q (nRd x) (x &&& (-4096)), ca, va, w, g) := by
  rw [kX_n h (by decide), ← im_55 h]; unfold xB; rw [h]; rfl
theorem kX_99 {fv ca va x : Int32} {Q : Nat → Cap} {w g : Nat → Int32} (h : nI (nOp x) = 99) : kX fv ca va Q w g x = xoc (xBr fv Q x) ca va w g := by
  rw [kX_n h (by decide)]; unfold xB; rw [h]; rfl
theorem kX_103 {fv ca va x : Int32} {Q : Nat → Cap} {w g : Nat → Int32} (h : nI (nOp x) = 103) : kX fv ca va Q w g x = xoc (xJr fv Q x) ca va w g := by
  rw [kX_n h (by decide)]; unfold xB; rw [h]; rfl
theorem kX_111 {fv ca va x : Int32} {Q : Nat → Cap} {w g : Nat → Int32} (h : nI (nOp x) = 111) : kX fv ca va Q w g x = xoc (xJal fv Q x) ca va w g := by
  rw [kX_n h (by decide)]; unfold xB; rw [h]; rfl
theorem kX_115 {fv ca va x : Int32} {Q : Nat → Cap} {w g : Nat → Int32} (h : nI (nOp x) = 115) : kX fv ca va Q w g x = xSy fv ca va Q w g x := by
  rw [kX_n h (by decide)]; unfold xB; rw [h]; rfl
theorem xLd_t {fv x : Int32} {Q : Nat → Cap} {w g : Nat → Int32} (h : ¬ nI (nFn x) ≤ 5) : xLd fv Q w g x = (2, x, Q) := by
  unfold xLd
  rw [if_neg h]
theorem xSo_t {fv ca va x : Int32} {Q : Nat → Cap} {w g : Nat → Int32} (h : ¬ nI (nFn x) ≤ 3) : xSo fv ca va Q w g x = (2, x, Q, ca, va, w, g) := by
  unfold xSo xSt
  rw [if_neg h]
theorem xJr_t {fv x : Int32} {Q : Nat → Cap} (h : ¬ nI (nFn x) = 0) : xJr fv Q x = (2, x, Q) := by
  unfold xJr
  rw [if_neg h]
theorem jF_a {fv y : Int32} {c : Cap} (h : rHo c y 4 = false) : jF fv c y = (28, 1025) := by
  unfold jF
  rw [if_pos (show cCov (cbase c.2.2 c.2.1) (ctop c.2.2 c.2.1) y 4 = false from h)]
  rfl
theorem jF_b {fv y : Int32} {c : Cap} (h : rHo c y 4 = true) (h2 : ¬ (y &&& 3) = 0) : jF fv c y = (0, y) := by
  unfold jF
  rw [if_neg (show ¬ cCov (cbase c.2.2 c.2.1) (ctop c.2.2 c.2.1) y 4 = false from tne h), if_neg h2]
theorem jF_c {fv y : Int32} {c : Cap} (h : rHo c y 4 = true) (h2 : (y &&& 3) = 0) : jF fv c y = (-1, fv) := by
  unfold jF
  rw [if_neg (show ¬ cCov (cbase c.2.2 c.2.1) (ctop c.2.2 c.2.1) y 4 = false from tne h), if_pos h2]
abbrev jY (Q : Nat → Cap) (x : Int32) : Int32 := (Q 32).2.1 + iIm x
theorem xJal_a {fv x : Int32} {Q : Nat → Cap} (h : rHo (Q 32) (jY Q x) 4 = false) : xJal fv Q x = (28, 1025, Q) := by
  unfold xJal
  rw [jF_a h]
  rfl
theorem xJal_b {fv x : Int32} {Q : Nat → Cap} (h : rHo (Q 32) (jY Q x) 4 = true) (h2 : ¬ (jY Q x &&& 3) = 0) : xJal fv Q x = (0, jY Q x, Q) := by
  unfold xJal
  rw [jF_b h h2]
  rfl
theorem xJal_c {fv x : Int32} {Q : Nat → Cap} (h : rHo (Q 32) (jY Q x) 4 = true) (h2 : (jY Q x &&& 3) = 0) : xJal fv Q x = (-2, fv, va_up (lkR Q (nRd x)) 32 (cMvC (lkR Q (nRd x) 32) (jY Q x))) := by
  unfold xJal
  rw [jF_c h h2]
  rfl
theorem ag_jal (Q : Nat → Cap) (x : Int32) : ag (rSet (va_up (va_up Q 38 (lkC (Q 32))) 32 (cMvC ((va_up Q 38 (lkC (Q 32))) 32) (jY Q x))) (nRd x) ((va_up (va_up Q 38 (lkC (Q 32))) 32 (cMvC ((va_up Q 38 (lkC (Q 32))) 32) (jY Q x))) 38)) (va_up (lkR Q (nRd x)) 32 (cMvC (lkR Q (nRd x) 32) (jY Q x))) := by
  have hd := nRd_lt x
  intro k hk
  have e1 : (va_up (va_up Q 38 (lkC (Q 32))) 32 (cMvC ((va_up Q 38 (lkC (Q 32))) 32) (jY Q x))) 38 = lkC (Q 32) := rfl
  have e2 : (va_up Q 38 (lkC (Q 32))) 32 = Q 32 := rfl
  have e3 : lkR Q (nRd x) 32 = Q 32 := by
    unfold lkR aR
    split
    · rfl
    · rw [va_up_ne _ _ (show 32 ≠ nRd x by omega)]
      rfl
  rw [e1, e2, e3]
  unfold rSet lkR aR
  by_cases h : nI (nRd x) = 0
  · rw [if_pos h, if_pos h]
    by_cases q : k = 32
    · subst q
      rw [va_up_self, va_up_self]
    · rw [va_up_ne _ _ q, va_up_ne _ _ q, va_up_ne _ _ (show k ≠ 38 by omega), va_up_ne _ _ (show k ≠ 37 by omega)]
  · rw [if_neg h, if_neg h, va_up_self]
    by_cases q : k = 32
    · subst q
      rw [va_up_ne _ _ (show 32 ≠ nRd x by omega), va_up_self, va_up_self]
    · by_cases q2 : k = nRd x
      · subst q2
        rw [va_up_self, va_up_ne _ _ q, va_up_self]
      · rw [va_up_ne _ _ q2, va_up_ne _ _ q, va_up_ne _ _ q, va_up_ne _ _ q2, va_up_ne _ _ (show k ≠ 38 by omega), va_up_ne _ _ (show k ≠ 37 by omega)]
theorem jal0 {Q : Nat → Cap} {x : Int32} : rSet (va_up (va_up Q 38 (lkC (Q 32))) 32 (cMvC ((va_up Q 38 (lkC (Q 32))) 32) (jY Q x))) (nRd x) ((va_up (va_up Q 38 (lkC (Q 32))) 32 (cMvC ((va_up Q 38 (lkC (Q 32))) 32) (jY Q x))) 38) 0 = Q 0 := (rS0 _ _ _).trans rfl
theorem ag_38 (Q : Nat → Cap) (c : Cap) : ag (va_up Q 38 c) Q := fun k hk => va_up_ne _ _ (show k ≠ 38 by omega)
def rTk (f a b : Int32) : Bool := if f = 0 then (if a = b then true else false) else if f = 1 then (if a = b then false else true) else if f = 4 then (if b ≤ a then false else true) else if f = 5 then (if a < b then false else true) else if f = 6 then (if cLow b ≤ cLow a then false else true) else (if cLow a < cLow b then false else true)
theorem tkB_e (f a b : Int32) : tkB f a b = rTk f a b := by
  unfold tkB rTk
  have h1 := cmpU_le a b
  have h2 := cmpU_lt a b
  by_cases q : 0 ≤ cmpU a b
  · have q1 := h1.mp q
    simp only [if_pos q, if_pos q1]
    by_cases r : cmpU a b < 0
    · simp only [if_pos r, if_pos (h2.mp r)]
    · simp only [if_neg r, if_neg (fun z => r (h2.mpr z))]
  · have q1 := fun z => q (h1.mpr z)
    simp only [if_neg q, if_neg q1]
    by_cases r : cmpU a b < 0
    · simp only [if_pos r, if_pos (h2.mp r)]
    · simp only [if_neg r, if_neg (fun z => r (h2.mpr z))]
abbrev tkX (Q : Nat → Cap) (x : Int32) : Bool := tkB (nI (nFn x)) (Q (nR1 x)).2.1 (Q (nR2 x)).2.1
theorem xBr_2 {fv x : Int32} {Q : Nat → Cap} (h : nI (nFn x) = 2 ∨ nI (nFn x) = 3) : xBr fv Q x = (2, x, Q) := by
  unfold xBr
  rcases h with h | h
  · rw [if_pos h]
  · rw [if_pos h]
    split <;> rfl
theorem xBr_n {fv x : Int32} {Q : Nat → Cap} (h2 : ¬ nI (nFn x) = 2) (h3 : ¬ nI (nFn x) = 3) (h : tkX Q x = false) : xBr fv Q x = (-1, fv, Q) := by
  unfold xBr
  rw [if_neg h2, if_neg h3, if_pos h]
theorem xBr_a {fv x : Int32} {Q : Nat → Cap} (h2 : ¬ nI (nFn x) = 2) (h3 : ¬ nI (nFn x) = 3) (h : tkX Q x = true) (k : rHo (Q 32) (jY Q x) 4 = false) : xBr fv Q x = (28, 1025, Q) := by
  unfold xBr
  rw [if_neg h2, if_neg h3, if_neg (tne h), jF_a k]
  rfl
theorem xBr_b {fv x : Int32} {Q : Nat → Cap} (h2 : ¬ nI (nFn x) = 2) (h3 : ¬ nI (nFn x) = 3) (h : tkX Q x = true) (k : rHo (Q 32) (jY Q x) 4 = true) (k2 : ¬ (jY Q x &&& 3) = 0) : xBr fv Q x = (0, jY Q x, Q) := by
  unfold xBr
  rw [if_neg h2, if_neg h3, if_neg (tne h), jF_b k k2]
  rfl
theorem xBr_c {fv x : Int32} {Q : Nat → Cap} (h2 : ¬ nI (nFn x) = 2) (h3 : ¬ nI (nFn x) = 3) (h : tkX Q x = true) (k : rHo (Q 32) (jY Q x) 4 = true) (k2 : (jY Q x &&& 3) = 0) : xBr fv Q x = (-2, fv, va_up Q 32 (cMvC (Q 32) (jY Q x))) := by
  unfold xBr
  rw [if_neg h2, if_neg h3, if_neg (tne h), jF_c k k2]
  rfl
/-! OP-IMM, OP -/
def oiB (x : Int32) : Int32 := if iSh x = true then nI (nR2 x) else iIm x
def oiG (x : Int32) : Prop := iSh x = false ∨ nI (nNb x) = 0 ∨ iOth x = true
theorem xOi_g {fv x : Int32} {Q : Nat → Cap} (h : oiG x) : xOi fv Q x = xOiG fv Q x := by
  unfold xOi
  rcases h with h | h | h
  · rw [if_pos h]
  · rw [if_pos h]
    split <;> rfl
  · rw [if_pos h]
    split
    · rfl
    · split <;> rfl
theorem xOi_t {fv x : Int32} {Q : Nat → Cap} (h : ¬ oiG x) : xOi fv Q x = (2, x, Q) := by
  unfold xOi
  rw [if_neg (fun q => h (Or.inl q)), if_neg (fun q => h (Or.inr (Or.inl q))), if_neg (fun q => h (Or.inr (Or.inr q)))]
theorem iSh_1 {x : Int32} (h : nI (nFn x) = 1) : iSh x = true := by unfold iSh; rw [if_pos h]
theorem iSh_5 {x : Int32} (h : nI (nFn x) = 5) : iSh x = true := by unfold iSh; rw [if_pos h]; split <;> rfl
theorem iSh_n {x : Int32} (h1 : ¬ nI (nFn x) = 1) (h5 : ¬ nI (nFn x) = 5) : iSh x = false := by unfold iSh; rw [if_neg h1, if_neg h5]
theorem iOth_t {x : Int32} (h : nI (nNb x) = 32) (h5 : nI (nFn x) = 5) : iOth x = true := by unfold iOth; rw [if_pos h, if_pos h5]
theorem iOth_n {x : Int32} (h : ¬ nI (nNb x) = 32) : iOth x = false := by unfold iOth; rw [if_neg h]
theorem iOth_f {x : Int32} (h : ¬ nI (nFn x) = 5) : iOth x = false := by unfold iOth; rw [if_neg h]; split <;> rfl
theorem oi_1 {x : Int32} (h1 : nI (nFn x) = 1) (hn : ¬ nI (nNb x) = 0) : ¬ oiG x := by
  intro q
  rcases q with q | q | q
  · exact absurd (iSh_1 h1) (fne q)
  · exact hn q
  · exact absurd q (fne (iOth_f (by rw [h1]; decide)))
theorem oi_5 {x : Int32} (h1 : nI (nFn x) = 5) (hn : ¬ nI (nNb x) = 0) (hm : ¬ nI (nNb x) = 32) : ¬ oiG x := by
  intro q
  rcases q with q | q | q
  · exact absurd (iSh_5 h1) (fne q)
  · exact hn q
  · exact absurd q (fne (iOth_n hm))
theorem r2_31 {x : Int32} (h : iIm x = x >>> ((20 : Int32) &&& 31)) : nI (nR2 x) &&& 31 = iIm x &&& 31 := by
  rw [h, d_r2, show (31 : Int32) = nI (2 ^ 5 - 1) from rfl, pk_andN (show nR2 x < 4294967296 by have := nR2_lt x; omega) 5 rfl, Nat.mod_eq_of_lt (nR2_lt x)]
theorem oi_e {x a : Int32} (h : iIm x = x >>> ((20 : Int32) &&& 31)) : rOp (nI (nFn x)) a (oiB x) (iOth x) = oFn (nI (nFn x)) (iOth x) a (iIm x) := by
  have hne : ¬ (nI (nFn x) = 0 ∧ iOth x = true) := by
    intro q
    rw [iOth_f (by rw [q.1]; decide)] at q
    exact absurd q.2 (by decide)
  rw [rOp_o hne]
  unfold oiB
  by_cases h1 : nI (nFn x) = 1
  · rw [if_pos (iSh_1 h1), h1]
    show a <<< ((nI (nR2 x) &&& 31) &&& 31) = a <<< ((iIm x &&& 31) &&& 31)
    rw [r2_31 h]
  · by_cases h5 : nI (nFn x) = 5
    · rw [if_pos (iSh_5 h5), h5]
      show (if iOth x = false then jus a (nI (nR2 x) &&& 31) else a >>> ((nI (nR2 x) &&& 31) &&& 31)) = (if iOth x = false then jus a (iIm x &&& 31) else a >>> ((iIm x &&& 31) &&& 31))
      rw [r2_31 h]
    · rw [if_neg (fne (iSh_n h1 h5))]
def opG (x : Int32) : Prop := nI (nNb x) = 0 ∨ oOth x = true
theorem xOp_g {fv x : Int32} {Q : Nat → Cap} (h : opG x) : xOp fv Q x = xOpG fv Q x := by
  unfold xOp
  rcases h with h | h
  · rw [if_pos h]
  · rw [if_pos h]
    split <;> rfl
theorem xOp_t {fv x : Int32} {Q : Nat → Cap} (h : ¬ opG x) : xOp fv Q x = (2, x, Q) := by
  unfold xOp
  rw [if_neg (fun q => h (Or.inl q)), if_neg (fun q => h (Or.inr q))]
theorem oOth_t {x : Int32} (h : nI (nNb x) = 32) (h5 : nI (nFn x) = 0 ∨ nI (nFn x) = 5) : oOth x = true := by
  unfold oOth
  rw [if_pos h]
  rcases h5 with q | q
  · rw [if_pos q]
  · rw [if_pos q]; split <;> rfl
theorem oOth_n {x : Int32} (h : ¬ nI (nNb x) = 32) : oOth x = false := by unfold oOth; rw [if_neg h]
theorem oOth_f {x : Int32} (h0 : ¬ nI (nFn x) = 0) (h5 : ¬ nI (nFn x) = 5) : oOth x = false := by unfold oOth; rw [if_neg h0, if_neg h5]; split <;> rfl
theorem op_t1 {x : Int32} (hn : ¬ nI (nNb x) = 0) (hm : ¬ nI (nNb x) = 32) : ¬ opG x := by
  intro q
  rcases q with q | q
  · exact hn q
  · exact absurd q (fne (oOth_n hm))
theorem op_t2 {x : Int32} (hn : ¬ nI (nNb x) = 0) (h0 : ¬ nI (nFn x) = 0) (h5 : ¬ nI (nFn x) = 5) : ¬ opG x := by
  intro q
  rcases q with q | q
  · exact hn q
  · exact absurd q (fne (oOth_f h0 h5))
def is32 (x : Int32) : Bool := if nI (nNb x) = 32 then true else false
theorem op_sb {x a b : Int32} (h : opG x) (h0 : nI (nFn x) = 0) (hm : nI (nNb x) = 32) : a - b = oFn (nI (nFn x)) (oOth x) a b := by
  rw [oOth_t hm (Or.inl h0), h0]
  rfl
theorem op_e {x a b : Int32} (h : opG x) (h0 : nI (nFn x) = 0 → ¬ nI (nNb x) = 32) : rOp (nI (nFn x)) a b (is32 x) = oFn (nI (nFn x)) (oOth x) a b := by
  by_cases hm : nI (nNb x) = 32
  · have e : is32 x = true := by unfold is32; rw [if_pos hm]
    have e2 : oOth x = true := by
      rcases h with q | q
      · rw [hm] at q
        exact absurd q (by decide)
      · exact q
    rw [e, e2, rOp_o (fun q => h0 q.1 hm)]
  · have e : is32 x = false := by unfold is32; rw [if_neg hm]
    rw [e, oOth_n hm, rOp_o (fun q => absurd q.2 (by decide))]
/-! step -/
theorem pc_low {fv : Int32} {c : Cap} (h : (pcF fv c).1 = -1) : cLow c.2.1 < 16384 ∧ (pcF fv c).2 = fv := by
  by_cases h1 : rSp c ≤ 0
  · rw [pcF_p h1] at h ⊢
    by_cases h2 : (c.2.1 &&& 3) = 0
    · rw [if_pos h2] at h ⊢
      by_cases h3 : cLow c.2.1 < 16384
      · rw [if_pos h3]
        exact ⟨h3, rfl⟩
      · rw [if_neg h3] at h
        exact absurd h (show ¬ (1 : Int32) = -1 by decide)
    · rw [if_neg h2] at h
      exact absurd h (show ¬ (0 : Int32) = -1 by decide)
  · rw [pcF_w h1] at h
    exact absurd h (show ¬ (28 : Int32) = -1 by decide)
theorem kX'_e {fv ca va tr : Int32} {Q : Nat → Cap} {w g : Nat → Int32} {X : Nat} (h : (pcF fv (Q 32)).1 = -1) (hX : X < 16384) (e : (Q 32).2.1 = nI X) : kX' (fv, ca, va, Q, w, g, tr, false) = kX fv ca va Q w g (w (X / 4)) := by
  show kX (pcF fv (Q 32)).2 ca va Q w g (w ((Q 32).2.1.toNatClampNeg / 4)) = _
  rw [(pc_low h).2, e, nI_clamp (by omega)]
theorem st_1 {fv ca va tr : Int32} {Q : Nat → Cap} {w g : Nat → Int32} {X : Nat} (h : (pcF fv (Q 32)).1 = -1) (hX : X < 16384) (e : (Q 32).2.1 = nI X) (hg : goB (kX fv ca va Q w g (w (X / 4))).1 = false) (ok : okC (kX fv ca va Q w g (w (X / 4))).1) : kStep (fv, ca, va, Q, w, g, tr, false) = rE (kX fv ca va Q w g (w (X / 4))) tr := by
  unfold kStep
  rw [if_pos (show (pcF (KS.fv (fv, ca, va, Q, w, g, tr, false)) (KS.R (fv, ca, va, Q, w, g, tr, false) 32)).1 = -1 from h), kX'_e h hX e]
  unfold kFin rE
  rcases ok with q | q | q
  · rw [q] at hg
    exact absurd hg (by decide)
  · rw [q]; rfl
  · rw [if_neg q, if_neg q]
theorem st_2 {fv ca va tr : Int32} {Q : Nat → Cap} {w g : Nat → Int32} {X : Nat} (h : (pcF fv (Q 32)).1 = -1) (hX : X < 16384) (e : (Q 32).2.1 = nI X) (hg : goB (kX fv ca va Q w g (w (X / 4))).1 = true) : kStep (fv, ca, va, Q, w, g, tr, false) = kNext (rE (kX fv ca va Q w g (w (X / 4))) tr) := by
  unfold kStep
  rw [if_pos (show (pcF (KS.fv (fv, ca, va, Q, w, g, tr, false)) (KS.R (fv, ca, va, Q, w, g, tr, false) 32)).1 = -1 from h), kX'_e h hX e]
  have q : (kX fv ca va Q w g (w (X / 4))).1 = -1 := by
    unfold goB at hg
    by_cases q : (kX fv ca va Q w g (w (X / 4))).1 = -1
    · exact q
    · rw [if_neg q] at hg
      exact absurd hg (by decide)
  unfold kFin rE
  rw [q]
  rfl
theorem st_3 {fv ca va tr : Int32} {Q : Nat → Cap} {w g : Nat → Int32} (h : ¬ (pcF 0 (Q 32)).1 < 0) : kStep (fv, ca, va, Q, w, g, tr, false) = kTrap (pcF 0 (Q 32)).1 (rTo (Q 32), ca, va, Q, w, g, tr, false) := by
  have h1 : ¬ (pcF fv (Q 32)).1 = -1 := fun q => h (by rw [pcF_1 0 fv, q]; decide)
  unfold kStep
  rw [if_neg (show ¬ (pcF (KS.fv (fv, ca, va, Q, w, g, tr, false)) (KS.R (fv, ca, va, Q, w, g, tr, false) 32)).1 = -1 from h1)]
  show kFin (pcF fv (Q 32)).1 ((pcF fv (Q 32)).2, ca, va, Q, w, g, tr, false) = _
  unfold kFin
  rw [pcF_1 fv 0, if_neg h, rTo_n h1]
