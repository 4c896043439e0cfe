/-! What is beyond register 36 does not matter. -/
def eO (o o' : OC) : Prop := o.1 = o'.1 ∧ o.2.1 = o'.2.1 ∧ ag o.2.2 o'.2.2
def eX (o o' : XC) : Prop := o.1 = o'.1 ∧ o.2.1 = o'.2.1 ∧ ag o.2.2.1 o'.2.2.1 ∧ o.2.2.2 = o'.2.2.2
theorem a_up {A B : Nat → Cap} (h : ag A B) (k : Nat) (c : Cap) : ag (va_up A k c) (va_up B k c) := by
  intro j hj
  by_cases q : j = k
  · subst q
    rw [va_up_self, va_up_self]
  · rw [va_up_ne _ _ q, va_up_ne _ _ q, h j hj]
theorem a_aR {A B : Nat → Cap} (h : ag A B) (c : Cap) (d : Nat) : ag (aR (va_up A 37 c) d) (aR (va_up B 37 c) d) := by
  unfold aR
  split
  · exact a_up h 37 c
  · rw [va_up_self, va_up_self]
    exact a_up (a_up h 37 c) d c
theorem a_nR {A B : Nat → Cap} (h : ag A B) (d : Nat) (v : Int32) : ag (nR A d v) (nR B d v) := by
  unfold nR
  split
  · exact h
  · exact a_up h d _
theorem a_uR {A B : Nat → Cap} (h : ag A B) (c : Cap) (x : Int32) : ag (uR A c x) (uR B c x) := a_aR h c _
theorem eO_i {a b : Int32} {A B : Nat → Cap} (h : ag A B) : eO (a, b, A) (a, b, B) := ⟨rfl, rfl, h⟩
theorem xAdd_ag {A B : Nat → Cap} (h : ag A B) (fv x : Int32) : eO (xAdd fv A x) (xAdd fv B x) := by
  unfold xAdd
  rw [h 32 (by decide)]
  exact eO_i (a_aR h _ _)
theorem xOpG_ag {A B : Nat → Cap} (h : ag A B) (fv x : Int32) : eO (xOpG fv A x) (xOpG fv B x) := by
  unfold xOpG
  rw [h (nR1 x) (by have := nR1_lt x; omega), h (nR2 x) (by have := nR2_lt x; omega)]
  exact eO_i (a_nR h _ _)
theorem xOp_ag {A B : Nat → Cap} (h : ag A B) (fv x : Int32) : eO (xOp fv A x) (xOp fv B x) := by
  unfold xOp
  split
  · exact xOpG_ag h fv x
  · split
    · exact xOpG_ag h fv x
    · exact eO_i h
theorem xOiG_ag {A B : Nat → Cap} (h : ag A B) (fv x : Int32) : eO (xOiG fv A x) (xOiG fv B x) := by
  unfold xOiG
  rw [h (nR1 x) (by have := nR1_lt x; omega)]
  exact eO_i (a_nR h _ _)
theorem xOi_ag {A B : Nat → Cap} (h : ag A B) (fv x : Int32) : eO (xOi fv A x) (xOi fv B x) := by
  unfold xOi
  split
  · exact xOiG_ag h fv x
  · split
    · exact xOiG_ag h fv x
    · split
      · exact xOiG_ag h fv x
      · exact eO_i h
theorem xBr_ag {A B : Nat → Cap} (h : ag A B) (fv x : Int32) : eO (xBr fv A x) (xBr fv B x) := by
  unfold xBr
  rw [h (nR1 x) (by have := nR1_lt x; omega), h (nR2 x) (by have := nR2_lt x; omega), h 32 (by decide)]
  split
  · exact eO_i h
  · split
    · exact eO_i h
    · split
      · exact eO_i h
      · split
        · exact eO_i (a_up h _ _)
        · exact eO_i h
theorem a_lk {A B : Nat → Cap} (h : ag A B) (d : Nat) : ag (lkR A d) (lkR B d) := by
  unfold lkR
  rw [h 32 (by decide)]
  exact a_aR h _ _
theorem xJal_ag {A B : Nat → Cap} (h : ag A B) (fv x : Int32) : eO (xJal fv A x) (xJal fv B x) := by
  unfold xJal
  rw [h 32 (by decide), a_lk h (nRd x) 32 (by decide)]
  split
  · exact eO_i (a_up (a_lk h _) _ _)
  · exact eO_i h
theorem aR_38 (R : Nat → Cap) (c : Cap) {d : Nat} (hd : d < 32) : aR (va_up R 37 c) d 38 = R 38 := by
  unfold aR
  split
  · rfl
  · rw [va_up_ne _ _ (show (38 : Nat) ≠ d by omega)]
    rfl
theorem a_jr {A B : Nat → Cap} (h : ag A B) (x : Int32) : ag (va_up (jr4 A x) 32 (jr4 A x 38)) (va_up (jr4 B x) 32 (jr4 B x 38)) := by
  have h1 : A (nR1 x) = B (nR1 x) := h _ (by have := nR1_lt x; omega)
  have a1 : ag (jr1 A x) (jr1 B x) := by
    unfold jr1
    rw [h1]
    exact a_up h _ _
  have a2 : ag (jr2 A x) (jr2 B x) := a_lk a1 _
  have c2 : jr2 A x 38 = jr2 B x 38 := by
    unfold jr2 lkR
    rw [aR_38 _ _ (nRd_lt x), aR_38 _ _ (nRd_lt x)]
    unfold jr1
    rw [va_up_self, va_up_self, h1]
  have a3 : ag (jr3 A x) (jr3 B x) := by
    unfold jr3
    rw [c2]
    exact a_up a2 _ _
  have c3 : jr3 A x 38 = jr3 B x 38 := by
    unfold jr3
    rw [va_up_self, va_up_self, c2]
  have e : jrX A x = jrX B x := by unfold jrX; rw [h1]
  have a4 : ag (jr4 A x) (jr4 B x) := by
    unfold jr4
    rw [c3, e]
    exact a_up a3 _ _
  have c4 : jr4 A x 38 = jr4 B x 38 := by
    unfold jr4
    rw [va_up_self, va_up_self, c3, e]
  rw [c4]
  exact a_up a4 _ _
theorem xJr_ag {A B : Nat → Cap} (h : ag A B) (fv x : Int32) : eO (xJr fv A x) (xJr fv B x) := by
  have h1 : A (nR1 x) = B (nR1 x) := h _ (by have := nR1_lt x; omega)
  have e : jrX A x = jrX B x := by unfold jrX; rw [h1]
  unfold xJr
  rw [h1, e]
  split
  · split
    · split
      · exact eO_i (a_jr h x)
      · exact eO_i h
    · exact eO_i h
  · exact eO_i h
theorem xLd_ag {A B : Nat → Cap} (h : ag A B) (fv : Int32) (w g : Nat → Int32) (x : Int32) : eO (xLd fv A w g x) (xLd fv B w g x) := by
  have h1 : A (nR1 x) = B (nR1 x) := h _ (by have := nR1_lt x; omega)
  have e1 : ldX A x = ldX B x := by unfold ldX; rw [h1]
  have e2 : ldA A x = ldA B x := by unfold ldA; rw [h1]
  have e3 : ldP fv A x = ldP fv B x := by unfold ldP; rw [e1, e2, h1]
  unfold xLd
  rw [e1, e2, e3]
  have e4 : ∀ i, ag (lcR A x w g i) (lcR B x w g i) := by
    intro i
    unfold lcR lcT
    rw [h1]
    exact a_aR h _ _
  repeat' split
  all_goals first | exact eO_i h | exact eO_i (a_nR h _ _) | exact eO_i (e4 _)
theorem xSt_ag {A B : Nat → Cap} (h : ag A B) (fv : Int32) (w g : Nat → Int32) (x : Int32) : xSt fv A w g x = xSt fv B w g x := by
  have h1 : A (nR1 x) = B (nR1 x) := h _ (by have := nR1_lt x; omega)
  have h2 : A (nR2 x) = B (nR2 x) := h _ (by have := nR2_lt x; omega)
  have e1 : ldX A x = ldX B x := by unfold ldX; rw [h1]
  have e2 : stA A x = stA B x := by unfold stA; rw [h1]
  have e3 : stF A x = stF B x := by unfold stF; rw [h1, h2]
  have e4 : stP1 fv A x = stP1 fv B x := by unfold stP1; rw [e1, e2, h1]
  have e5 : stP2 fv A x = stP2 fv B x := by unfold stP2; rw [e1, e2, e3, h1]
  unfold xSt
  rw [e1, e2, e3, e4, e5, h2]
theorem a_rt {A B : Nat → Cap} (h : ag A B) : ag (rtR A) (rtR B) := by
  unfold rtR
  rw [h 36 (by decide)]
  split
  · exact a_up (a_up h _ _) _ _
  · exact a_up h _ _
theorem xSy_ag {A B : Nat → Cap} (h : ag A B) (fv ca va : Int32) (w g : Nat → Int32) (x : Int32) : eX (xSy fv ca va A w g x) (xSy fv ca va B w g x) := by
  have h1 : A (nR1 x) = B (nR1 x) := h _ (by have := nR1_lt x; omega)
  have e1 : csOp A x = csOp B x := by unfold csOp; rw [h1]
  unfold xSy xSys
  rw [e1, h 32 (by decide)]
  repeat' split
  all_goals first | exact ⟨rfl, rfl, h, rfl⟩ | exact ⟨rfl, rfl, a_rt h, rfl⟩ | exact ⟨rfl, rfl, a_nR h _ _, rfl⟩
theorem eX_o {o o' : OC} (h : eO o o') (ca va : Int32) (w g : Nat → Int32) : eX (xoc o ca va w g) (xoc o' ca va w g) := ⟨h.1, h.2.1, h.2.2, rfl⟩
theorem spK_lt (x : Int32) : spK x < 37 := by
  unfold spK
  have := nR2_lt x
  split <;> omega
theorem a_sp {A B : Nat → Cap} (h : ag A B) (x : Int32) (d : Nat) : ag (aR (spR A x) d) (aR (spR B x) d) := by
  have h1 : A (nR1 x) = B (nR1 x) := h _ (by have := nR1_lt x; omega)
  have hk := spK_lt x
  have e : ag (spR A x) (spR B x) ∧ spR A x 37 = spR B x 37 := by
    unfold spR
    rw [h1, h _ hk]
    split
    · exact ⟨a_up h _ _, by rw [va_up_self, va_up_self]⟩
    · refine ⟨a_up (a_up h _ _) _ _, ?_⟩
      rw [va_up_ne _ _ (show 37 ≠ spK x by omega), va_up_ne _ _ (show 37 ≠ spK x by omega), va_up_self, va_up_self]
  unfold aR
  split
  · exact e.1
  · rw [e.2]
    exact a_up e.1 _ _
theorem xSp_ag {A B : Nat → Cap} (h : ag A B) (fv x : Int32) : eO (xSp fv A x) (xSp fv B x) := by
  unfold xSp
  rw [h 32 (by decide)]
  repeat' split
  all_goals first | exact eO_i h | exact eO_i (a_sp h _ _)
theorem xIv_ag {A B : Nat → Cap} (h : ag A B) (fv x : Int32) : eO (xIv fv A x) (xIv fv B x) := by
  have h1 : A (nR1 x) = B (nR1 x) := h _ (by have := nR1_lt x; omega)
  have h2 : A (nR2 x) = B (nR2 x) := h _ (by have := nR2_lt x; omega)
  have e1 : ivF fv A x = ivF fv B x := by unfold ivF; rw [h1, h2]
  have e2 : ivX A x = ivX B x := by unfold ivX; rw [h1]
  have e3 : ag (ivR A x) (ivR B x) := by
    unfold ivR
    rw [h1, h2, e2]
    exact a_aR (a_up h _ _) _ _
  unfold xIv
  rw [e1, e2, h1]
  repeat' split
  all_goals first | exact eO_i h | exact eO_i e3
theorem xIn_ag {A B : Nat → Cap} (h : ag A B) (fv : Int32) (c : Cap) (x : Int32) : eO (xIn fv A c x) (xIn fv B c x) := by
  unfold xIn
  repeat' split
  all_goals first | exact eO_i h | exact eO_i (a_nR h _ _) | exact eO_i (a_uR h _ _)
theorem eO_ite {p : Prop} [Decidable p] {a b c d : OC} (h1 : eO a b) (h2 : eO c d) : eO (if p then a else c) (if p then b else d) := by
  split
  · exact h1
  · exact h2
theorem eX_ite {p : Prop} [Decidable p] {a b c d : XC} (h1 : eX a b) (h2 : eX c d) : eX (if p then a else c) (if p then b else d) := by
  split
  · exact h1
  · exact h2
theorem xNb_ag {A B : Nat → Cap} (h : ag A B) (fv : Int32) (c d : Cap) (x : Int32) : eO (xNb fv A c d x) (xNb fv B c d x) := by
  unfold xNb
  exact (eO_ite (xSp_ag h _ _) (eO_ite (eO_i (a_uR h _ _)) (eO_ite (eO_i (a_uR h _ _)) (eO_ite (eO_i (a_uR h _ _)) (eO_ite (eO_i (a_uR h _ _)) (eO_ite (eO_i (a_uR h _ _)) (eO_ite (eO_i (a_uR h _ _)) (eO_ite (eO_i (a_uR h _ _)) (eO_ite (eO_i (a_uR h _ _)) (eO_ite (eO_i (a_nR h _ _)) (eO_ite (eO_i (a_uR h _ _)) (eO_ite (eO_i (a_uR h _ _)) (eO_ite (eO_i (a_nR h _ _)) (eO_ite (eO_ite (xIv_ag h _ _) (eO_i h)) (eO_ite (xIn_ag h _ _ _) (eO_i h))))))))))))))))
theorem xU_ag {A B : Nat → Cap} (h : ag A B) (fv x : Int32) : eO (xU fv A x) (xU fv B x) := by
  unfold xU
  rw [h (nR1 x) (by have := nR1_lt x; omega), h (nR2 x) (by have := nR2_lt x; omega)]
  repeat' split
  all_goals first | exact eO_i h | exact xNb_ag h _ _ _ _ | exact eO_i (a_uR h _ _)
theorem kX_ag {A B : Nat → Cap} (h : ag A B) (fv ca va : Int32) (w g : Nat → Int32) (x : Int32) : eX (kX fv ca va A w g x) (kX fv ca va B w g x) := by
  unfold kX
  split
  · exact eX_o (xU_ag h _ _) _ _ _ _
  · unfold xB
    rw [xSt_ag h]
    exact (eX_ite (eX_o (xLd_ag h _ _ _ _) _ _ _ _) (eX_ite (eX_ite ⟨rfl, rfl, h, rfl⟩ ⟨rfl, rfl, h, rfl⟩) (eX_ite (eX_o (xOi_ag h _ _) _ _ _ _) (eX_ite (eX_o (xAdd_ag h _ _) _ _ _ _) (eX_ite (⟨rfl, rfl, h, rfl⟩) (eX_ite (eX_o (xOp_ag h _ _) _ _ _ _) (eX_ite (⟨rfl, rfl, a_nR h _ _, rfl⟩) (eX_ite (eX_o (xBr_ag h _ _) _ _ _ _) (eX_ite (eX_o (xJr_ag h _ _) _ _ _ _) (eX_ite (eX_o (xJal_ag h _ _) _ _ _ _) (eX_ite (xSy_ag h _ _ _ _ _ _) ⟨rfl, rfl, h, rfl⟩)))))))))))
/-- two states that agree -/
def eK (s t : KS) : Prop := s.fv = t.fv ∧ s.ca = t.ca ∧ s.va = t.va ∧ ag s.R t.R ∧ s.w = t.w ∧ s.g = t.g ∧ s.tr = t.tr ∧ s.ha = t.ha
theorem a_kTR {A B : Nat → Cap} (h : ag A B) : ag (kTR A) (kTR B) := by
  unfold kTR
  rw [h 32 (by decide), a_up h 36 (B 32) 33 (by decide)]
  exact a_up (a_up h _ _) _ _
theorem kTrap_ag {s t : KS} (h : eK s t) (c : Int32) : eK (kTrap c s) (kTrap c t) := by
  obtain ⟨f, ca, va, R, w, g, tr, ha⟩ := s
  obtain ⟨f', ca', va', R', w', g', tr', ha'⟩ := t
  obtain ⟨h1, h2, h3, h4, h5, h6, h7, h8⟩ := h
  subst h1; subst h2; subst h3; subst h5; subst h6; subst h7; subst h8
  have e := a_kTR h4
  unfold kTrap kHa
  refine ⟨?_, rfl, rfl, e, rfl, rfl, rfl, ?_⟩
  · show (pcF f (kTR R 32)).2 = (pcF f (kTR R' 32)).2
    rw [e 32 (by decide)]
  · show (if (pcF f (kTR R 32)).1 = -1 then false else true) = (if (pcF f (kTR R' 32)).1 = -1 then false else true)
    rw [e 32 (by decide)]
theorem kFin_ag {s t : KS} (h : eK s t) (c : Int32) : eK (kFin c s) (kFin c t) := by
  unfold kFin
  split
  · split
    · exact h
    · obtain ⟨h1, h2, h3, h4, h5, h6, h7, h8⟩ := h
      refine ⟨h1, h2, h3, ?_, h5, h6, h7, h8⟩
      show ag (va_up s.R 32 (cMvC (s.R 32) ((s.R 32).2.1 + 4))) (va_up t.R 32 (cMvC (t.R 32) ((t.R 32).2.1 + 4)))
      rw [h4 32 (by decide)]
      exact a_up h4 _ _
  · exact kTrap_ag h c
theorem eK_x {o o' : XC} (h : eX o o') (tr : Int32) (ha : Bool) : eK (ofX o tr ha) (ofX o' tr ha) := by
  obtain ⟨a, b, R, ca, va, w, g⟩ := o
  obtain ⟨a', b', R', ca', va', w', g'⟩ := o'
  obtain ⟨h1, h2, h3, h4⟩ := h
  have h4 : (ca, va, w, g) = (ca', va', w', g') := h4
  obtain ⟨e1, e2⟩ := Prod.mk.inj h4
  obtain ⟨e2, e3⟩ := Prod.mk.inj e2
  obtain ⟨e3, e4⟩ := Prod.mk.inj e3
  exact ⟨h2, e1, e2, h3, e3, e4, rfl, rfl⟩
theorem kStep_ag {s t : KS} (h : eK s t) : eK (kStep s) (kStep t) := by
  obtain ⟨f, ca, va, R, w, g, tr, ha⟩ := s
  obtain ⟨f', ca', va', R', w', g', tr', ha'⟩ := t
  obtain ⟨h1, h2, h3, h4, h5, h6, h7, h8⟩ := h
  change ag R R' at h4
  change f = f' at h1
  change ca = ca' at h2
  change va = va' at h3
  change w = w' at h5
  change g = g' at h6
  change tr = tr' at h7
  change ha = ha' at h8
  subst h1; subst h2; subst h3; subst h5; subst h6; subst h7; subst h8
  have e := h4 32 (by decide)
  unfold kStep
  show eK (if (pcF f (R 32)).1 = -1 then kFin (kX' (f, ca, va, R, w, g, tr, ha)).1 (ofX (kX' (f, ca, va, R, w, g, tr, ha)) tr ha) else kFin (pcF f (R 32)).1 ((pcF f (R 32)).2, ca, va, R, w, g, tr, ha)) (if (pcF f (R' 32)).1 = -1 then kFin (kX' (f, ca, va, R', w, g, tr, ha)).1 (ofX (kX' (f, ca, va, R', w, g, tr, ha)) tr ha) else kFin (pcF f (R' 32)).1 ((pcF f (R' 32)).2, ca, va, R', w, g, tr, ha))
  rw [e]
  split
  · have x : eX (kX' (f, ca, va, R, w, g, tr, ha)) (kX' (f, ca, va, R', w, g, tr, ha)) := by
      unfold kX'
      show eX (kX (pcF f (R 32)).2 ca va R w g (w ((R 32).2.1.toNatClampNeg / 4))) (kX (pcF f (R' 32)).2 ca va R' w g (w ((R' 32).2.1.toNatClampNeg / 4)))
      rw [e]
      exact kX_ag h4 _ _ _ _ _ _
    rw [x.1]
    exact kFin_ag (eK_x x tr ha) _
  · exact kFin_ag (s := (_, ca, va, R, w, g, tr, ha)) (t := (_, ca, va, R', w, g, tr, ha)) ⟨rfl, rfl, rfl, h4, rfl, rfl, rfl, rfl⟩ _
theorem kIt_ag : ∀ n {s t : KS}, eK s t → (kIt n s).1 = (kIt n t).1 ∧ eK (kIt n s).2 (kIt n t).2 := by
  intro n
  induction n with
  | zero => intro s t h; exact ⟨rfl, h⟩
  | succ n ih =>
    intro s t h
    unfold kIt
    rw [h.2.2.2.2.2.2.2]
    split
    · exact ⟨rfl, h⟩
    · obtain ⟨a, b⟩ := ih (kStep_ag h)
      exact ⟨by rw [a], b⟩
