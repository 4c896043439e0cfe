/-! The roots stay. -/
def kp (A B : Nat → Cap) : Prop := ∀ k, 40 ≤ k → A k = B k
theorem kp_r (A : Nat → Cap) : kp A A := fun _ _ => rfl
theorem kp_up {A B : Nat → Cap} (h : kp A B) {k : Nat} (hk : k < 40) (c : Cap) : kp (va_up A k c) B := by
  intro j hj
  rw [va_up_ne _ _ (show j ≠ k by omega)]
  exact h j hj
theorem kp_aR {A B : Nat → Cap} (h : kp A B) {d : Nat} (hd : d < 40) : kp (aR A d) B := by
  unfold aR
  split
  · exact h
  · exact kp_up h hd _
theorem kp_nR {A B : Nat → Cap} (h : kp A B) {d : Nat} (hd : d < 40) (v : Int32) : kp (nR A d v) B := by
  unfold nR
  split
  · exact h
  · exact kp_up h hd _
theorem kp_uR (A : Nat → Cap) (c : Cap) (x : Int32) : kp (uR A c x) A := kp_aR (kp_up (kp_r A) (by decide) _) (by have := nRd_lt x; omega)
theorem kp_n (A : Nat → Cap) (x v : Int32) : kp (nR A (nRd x) v) A := kp_nR (kp_r A) (by have := nRd_lt x; omega) v
abbrev kO (o : OC) (A : Nat → Cap) : Prop := kp o.2.2 A
theorem kO_ite {p : Prop} [Decidable p] {a b : OC} {A : Nat → Cap} (h1 : kO a A) (h2 : kO b A) : kO (if p then a else b) A := by
  split
  · exact h1
  · exact h2
theorem kO_i {a b : Int32} {A B : Nat → Cap} (h : kp A B) : kO (a, b, A) B := h
theorem kp_lk {A B : Nat → Cap} (h : kp A B) {d : Nat} (hd : d < 40) : kp (lkR A d) B := kp_aR (kp_up h (by decide) _) hd
theorem kp_jr (A : Nat → Cap) (x : Int32) : kp (va_up (jr4 A x) 32 (jr4 A x 38)) A := by
  have hd : nRd x < 40 := by have := nRd_lt x; omega
  have a1 : kp (jr1 A x) A := kp_up (kp_r A) (by decide) _
  have a2 : kp (jr2 A x) A := kp_lk a1 hd
  have a3 : kp (jr3 A x) A := kp_up a2 (by decide) _
  have a4 : kp (jr4 A x) A := kp_up a3 (by decide) _
  exact kp_up a4 (by decide) _
theorem kp_sp (A : Nat → Cap) (x : Int32) : kp (aR (spR A x) (nRd x)) A := by
  have hk := spK_lt x
  have e : kp (spR A x) A := by
    unfold spR
    split
    · exact kp_up (kp_r A) (by decide) _
    · exact kp_up (kp_up (kp_r A) (by decide) _) (by omega) _
  exact kp_aR e (by have := nRd_lt x; omega)
theorem kO_Sp (fv x : Int32) (A : Nat → Cap) : kO (xSp fv A x) A := by
  unfold xSp
  exact kO_ite (kO_i (kp_sp A x)) (kO_ite (kO_ite (kO_i (kp_sp A x)) (kO_i (kp_r A))) (kO_i (kp_r A)))
theorem kO_Iv (fv x : Int32) (A : Nat → Cap) : kO (xIv fv A x) A := by
  unfold xIv
  have h : kp (ivR A x) A := kp_aR (kp_up (kp_up (kp_r A) (by decide) _) (by decide) _) (by decide)
  exact kO_ite (kO_ite (kO_ite (kO_i h) (kO_i (kp_r A))) (kO_i (kp_r A))) (kO_i (kp_r A))
theorem kO_In (fv x : Int32) (A : Nat → Cap) (c : Cap) : kO (xIn fv A c x) A := by
  unfold xIn
  exact kO_ite (kO_i (kp_n A x _)) (kO_ite (kO_i (kp_uR A _ x)) (kO_ite (kO_i (kp_uR A _ x)) (kO_ite (kO_i (kp_uR A _ x)) (kO_i (kp_r A)))))
theorem kO_Nb (fv x : Int32) (A : Nat → Cap) (c d : Cap) : kO (xNb fv A c d x) A := by
  unfold xNb
  exact (kO_ite (kO_Sp _ _ _) (kO_ite (kp_uR A _ x) (kO_ite (kp_uR A _ x) (kO_ite (kp_uR A _ x) (kO_ite (kp_uR A _ x) (kO_ite (kp_uR A _ x) (kO_ite (kp_uR A _ x) (kO_ite (kp_uR A _ x) (kO_ite (kp_uR A _ x) (kO_ite (kp_n A x _) (kO_ite (kp_uR A _ x) (kO_ite (kp_uR A _ x) (kO_ite (kp_n A x _) (kO_ite (kO_ite (kO_Iv _ _ _) (kp_r A)) (kO_ite (kO_In _ _ _ _) (kp_r A))))))))))))))))
theorem kO_U (fv x : Int32) (A : Nat → Cap) : kO (xU fv A x) A := by
  unfold xU
  exact kO_ite (kO_Nb _ _ _ _ _) (kO_ite (kO_i (kp_uR A _ x)) (kO_ite (kO_i (kp_uR A _ x)) (kO_i (kp_r A))))
abbrev kC (o : XC) (A : Nat → Cap) : Prop := kp o.2.2.1 A
theorem kC_ite {p : Prop} [Decidable p] {a b : XC} {A : Nat → Cap} (h1 : kC a A) (h2 : kC b A) : kC (if p then a else b) A := by
  split
  · exact h1
  · exact h2
theorem kO_Ld (fv x : Int32) (A : Nat → Cap) (w g : Nat → Int32) : kO (xLd fv A w g x) A := by
  unfold xLd
  repeat' split
  all_goals first | exact kp_r A | exact kp_n A x _ | exact kp_aR (kp_up (kp_r A) (by decide) _) (by have := nRd_lt x; omega)
theorem kO_Oi (fv x : Int32) (A : Nat → Cap) : kO (xOi fv A x) A := by
  unfold xOi xOiG
  exact kO_ite (kp_n A x _) (kO_ite (kp_n A x _) (kO_ite (kp_n A x _) (kp_r A)))
theorem kO_Op (fv x : Int32) (A : Nat → Cap) : kO (xOp fv A x) A := by
  unfold xOp xOpG
  exact kO_ite (kp_n A x _) (kO_ite (kp_n A x _) (kp_r A))
theorem kO_Br (fv x : Int32) (A : Nat → Cap) : kO (xBr fv A x) A := by
  unfold xBr
  exact kO_ite (kp_r A) (kO_ite (kp_r A) (kO_ite (kp_r A) (kO_ite (kp_up (kp_r A) (by decide) _) (kp_r A))))
theorem kO_Jr (fv x : Int32) (A : Nat → Cap) : kO (xJr fv A x) A := by
  unfold xJr
  exact kO_ite (kO_ite (kO_ite (kp_jr A x) (kp_r A)) (kp_r A)) (kp_r A)
theorem kO_Jal (fv x : Int32) (A : Nat → Cap) : kO (xJal fv A x) A := by
  unfold xJal
  exact kO_ite (kp_up (kp_lk (kp_r A) (by have := nRd_lt x; omega)) (by decide) _) (kp_r A)
theorem kC_Sy (fv ca va x : Int32) (A : Nat → Cap) (w g : Nat → Int32) : kC (xSy fv ca va A w g x) A := by
  unfold xSy xSys
  repeat' split
  all_goals first | exact kp_r A | exact kp_n A x _ | skip
  show kp (rtR A) A
  unfold rtR
  split
  · exact kp_up (kp_up (kp_r A) (by decide) _) (by decide) _
  · exact kp_up (kp_r A) (by decide) _
theorem kC_X (fv ca va x : Int32) (A : Nat → Cap) (w g : Nat → Int32) : kC (kX fv ca va A w g x) A := by
  unfold kX
  split
  · exact kO_U _ _ _
  · unfold xB
    exact (kC_ite (kO_Ld _ _ _ _ _) (kC_ite (kC_ite (kp_r A) (kp_r A)) (kC_ite (kO_Oi _ _ _) (kC_ite (kp_aR (kp_up (kp_r A) (by decide) _) (by have := nRd_lt x; omega)) (kC_ite (kp_r A) (kC_ite (kO_Op _ _ _) (kC_ite (kp_n A x _) (kC_ite (kO_Br _ _ _) (kC_ite (kO_Jr _ _ _) (kC_ite (kO_Jal _ _ _) (kC_ite (kC_Sy _ _ _ _ _ _ _) (kp_r A))))))))))))
theorem kStep_kp (s : KS) : kp (kStep s).R s.R := by
  have t : ∀ (c : Int32) (s : KS), kp (kFin c s).R s.R := by
    intro c s
    unfold kFin
    split
    · split
      · exact kp_r _
      · exact kp_up (kp_r _) (by decide) _
    · exact kp_up (kp_up (kp_r _) (by decide) _) (by decide) _
  unfold kStep
  split
  · intro k hk
    rw [t _ _ k hk]
    exact kC_X _ _ _ _ _ _ _ k hk
  · exact t _ _
theorem kIt_kp : ∀ n (s : KS), kp (kIt n s).2.R s.R := by
  intro n
  induction n with
  | zero => intro s; exact kp_r _
  | succ n ih =>
    intro s
    unfold kIt
    split
    · exact kp_r _
    · intro k hk
      show (kIt n (kStep s)).2.R k = s.R k
      rw [ih _ k hk]
      exact kStep_kp s k hk
