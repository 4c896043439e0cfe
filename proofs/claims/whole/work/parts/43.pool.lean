/-! The pool of capabilities: 37 registers, then result, target, scratch and eight roots, by their numbers. -/
abbrev Cap : Type := Bool × Int32 × Int32
abbrev capE (c : Cap) : va_E := capC c.1 c.2.1 c.2.2 (cbase c.2.2 c.2.1) (ctop c.2.2 c.2.1)
def cpool (reg : Nat → Nat) (R : Nat → Cap) : va_W := (List.range 48).map (fun k => (reg k, capE (R k)))
theorem cpool_at {X : va_W} {reg : Nat → Nat} {R : Nat → Cap} {n k : Nat} (hn : X.length = n) (hk : k < 48) : (X ++ cpool reg R)[n + k]? = some (reg k, capE (R k)) := by
  subst hn
  rw [List.getElem?_append_right (by omega), Nat.add_sub_cancel_left]
  unfold cpool
  rw [List.getElem?_map, List.getElem?_range hk]
  rfl
theorem cpool_set {X : va_W} {reg : Nat → Nat} {R : Nat → Cap} {n k : Nat} (hn : X.length = n) (hk : k < 48) (c : Cap) : (X ++ cpool reg R).set (n + k) (reg k, capE c) = X ++ cpool reg (va_up R k c) := by
  subst hn
  apply List.ext_getElem?
  intro j
  rw [List.getElem?_set]
  by_cases h1 : X.length + k = j
  · subst h1
    have h2 : X.length + k < (X ++ cpool reg R).length := by simp [cpool]; omega
    rw [if_pos rfl, if_pos h2, cpool_at rfl hk, va_up_self]
  · rw [if_neg h1]
    by_cases h2 : j < X.length
    · rw [List.getElem?_append_left h2, List.getElem?_append_left h2]
    · rw [List.getElem?_append_right (by omega), List.getElem?_append_right (by omega)]
      unfold cpool
      rw [List.getElem?_map, List.getElem?_map]
      by_cases h3 : j - X.length < 48
      · rw [List.getElem?_range h3]
        show some (reg (j - X.length), capE (R (j - X.length))) = some (reg (j - X.length), capE (va_up R k c (j - X.length)))
        rw [va_up_ne R c (show j - X.length ≠ k by omega)]
      · rw [List.getElem?_eq_none (by simp; omega)]
        rfl
theorem cpool_D {A : Nat → Prop} {X : va_W} {reg : Nat → Nat} {R R' : Nat → Cap} (h : va_D A (X ++ cpool reg R)) : va_D A (X ++ cpool reg R') :=
  qD_same h (by rw [List.map_append, List.map_append]; congr 1)
/-- bounds rest on the low fifteen bits -/
theorem low15 {m m' : Int32} (h : ∀ i, i < 15 → bt m i = bt m' i) (a : Int32) : cbase m a = cbase m' a ∧ ctop m a = ctop m' a := by
  have h1 : sLo0 m = sLo0 m' := by
    apply b_ext
    intro i hi
    unfold sLo0
    rw [show (255 : Int32) = nI (2 ^ 8 - 1) by decide, b_and, b_and, b_mask 8 i (by decide)]
    by_cases h8 : i < 8
    · rw [h i (by omega)]
    · simp [h8]
  have h2 : sHi0 m = sHi0 m' := by
    apply b_ext
    intro i hi
    unfold sHi0
    rw [show (63 : Int32) = nI (2 ^ 6 - 1) by decide, show (8 : Int32) = nI 8 by decide, b_and, b_and, b_mask 6 i (by decide), b_us 8 (by decide), b_us 8 (by decide)]
    by_cases h8 : i < 6
    · rw [h (8 + i) (by omega)]
    · simp [h8]
  have h3 : sIn m = sIn m' := by
    have e : (m &&& 16384) = (m' &&& 16384) := by
      apply b_ext
      intro i hi
      rw [b_and, b_and]
      by_cases h14 : i = 14
      · rw [h i (by omega)]
      · have : bt 16384 i = false := by
          rw [show (16384 : Int32) = nI (2 ^ 14) by decide, b_nI, Nat.testBit_two_pow]
          simp [Ne.symm h14]
        rw [this, Bool.and_false, Bool.and_false]
    unfold sIn
    rw [e]
  have e1 : sEx m = sEx m' := by unfold sEx; rw [h1, h2, h3]
  have e2 : sLo m = sLo m' := by unfold sLo; rw [h1, h3]
  have e3 : sHi1 m = sHi1 m' := by unfold sHi1; rw [h2, h3]
  have e4 : sHi m = sHi m' := by unfold sHi sAb; rw [e2, e3, h3]
  have e5 : sEdge m = sEdge m' := by unfold sEdge; rw [e2]
  have e6 : sReg m a = sReg m' a := by unfold sReg sMid; rw [e1, e5]
  have e7 : cbase m a = cbase m' a := by unfold cbase; rw [e1, e2, e5, e6]
  have e8 : ctop0 m a = ctop0 m' a := by unfold ctop0; rw [e1, e4, e5, e6]
  exact ⟨e7, by unfold ctop; rw [e1, e7, e8]⟩
theorem low_setT (m t : Int32) : ∀ i, i < 15 → bt (cSetT m t) i = bt m i := by
  intro i hi
  unfold cSetT
  have h1 : ∀ i, i < 15 → bt (-983041) i = true := by decide +kernel
  rw [show (16 : Int32) = nI 16 by decide, b_or, b_and, h1 i hi, b_shl 16 (by decide) _ (by omega)]
  have h2 : ¬ 16 ≤ i := by omega
  simp [h2]
theorem low_setP (m t : Int32) : ∀ i, i < 15 → bt (cSetP m t) i = bt m i := by
  intro i hi
  unfold cSetP
  have h1 : ∀ i, i < 15 → bt 1048575 i = true := by decide +kernel
  rw [show (20 : Int32) = nI 20 by decide, b_or, b_and, h1 i hi, b_shl 20 (by decide) _ (by omega)]
  have h2 : ¬ 20 ≤ i := by omega
  simp [h2]
theorem cSetT_b (m t a : Int32) : cbase (cSetT m t) a = cbase m a := (low15 (low_setT m t) a).1
theorem cSetT_t (m t a : Int32) : ctop (cSetT m t) a = ctop m a := (low15 (low_setT m t) a).2
theorem cSetP_b (m t a : Int32) : cbase (cSetP m t) a = cbase m a := (low15 (low_setP m t) a).1
theorem cSetP_t (m t a : Int32) : ctop (cSetP m t) a = ctop m a := (low15 (low_setP m t) a).2
theorem g_perms (l : Launch) (D : va_G) (tys : List (ClassId × FieldType)) (X : va_W) (n : Nat) (hX : X.length = n) (reg : Nat → Nat) (R : Nat → Cap) (k : Nat) (hk : k < 48) : Cr l y_Cap_perms (wl y_Cap_perms b_Cap_perms 1 (some .int)) (rmL 0) D clz tys [.ref (reg k)] (X ++ cpool reg R) (some (.int (cPerms (R k).2.2))) := Cr.one (c_Cap_perms l D tys (reg k) (R k).1 (R k).2.1 (R k).2.2 (cbase (R k).2.2 (R k).2.1) (ctop (R k).2.2 (R k).2.1)) (n + k) (cpool_at hX hk)
theorem g_type (l : Launch) (D : va_G) (tys : List (ClassId × FieldType)) (X : va_W) (n : Nat) (hX : X.length = n) (reg : Nat → Nat) (R : Nat → Cap) (k : Nat) (hk : k < 48) : Cr l y_Cap_type (wl y_Cap_type b_Cap_type 1 (some .int)) (rmL 0) D clz tys [.ref (reg k)] (X ++ cpool reg R) (some (.int (cType (R k).2.2))) := Cr.one (c_Cap_type l D tys (reg k) (R k).1 (R k).2.1 (R k).2.2 (cbase (R k).2.2 (R k).2.1) (ctop (R k).2.2 (R k).2.1)) (n + k) (cpool_at hX hk)
theorem g_may (l : Launch) (D : va_G) (tys : List (ClassId × FieldType)) (X : va_W) (n : Nat) (hX : X.length = n) (reg : Nat → Nat) (R : Nat → Cap) (k : Nat) (hk : k < 48) (p : Int32) : Cr l y_Cap_may (wl y_Cap_may b_Cap_may 2 (some .boolean)) (rmL 1) D clz tys [.ref (reg k), .int p] (X ++ cpool reg R) (some (.int (jb (cMay (R k).2.2 p)))) := Cr.one (c_Cap_may l D tys (reg k) (R k).1 (R k).2.1 (R k).2.2 (cbase (R k).2.2 (R k).2.1) (ctop (R k).2.2 (R k).2.1) p) (n + k) (cpool_at hX hk)
theorem g_isOpen (l : Launch) (D : va_G) (tys : List (ClassId × FieldType)) (X : va_W) (n : Nat) (hX : X.length = n) (reg : Nat → Nat) (R : Nat → Cap) (k : Nat) (hk : k < 48) : Cr l y_Cap_isOpen (wl y_Cap_isOpen b_Cap_isOpen 1 (some .boolean)) (rmL 1) D clz tys [.ref (reg k)] (X ++ cpool reg R) (some (.int (jb (cOpen (R k).2.2)))) := Cr.one (c_Cap_isOpen l D tys (reg k) (R k).1 (R k).2.1 (R k).2.2 (cbase (R k).2.2 (R k).2.1) (ctop (R k).2.2 (R k).2.1)) (n + k) (cpool_at hX hk)
theorem g_toldMeta (l : Launch) (D : va_G) (tys : List (ClassId × FieldType)) (X : va_W) (n : Nat) (hX : X.length = n) (reg : Nat → Nat) (R : Nat → Cap) (k : Nat) (hk : k < 48) : Cr l y_Cap_toldMeta (wl y_Cap_toldMeta b_Cap_toldMeta 1 (some .int)) (rmL 0) D clz tys [.ref (reg k)] (X ++ cpool reg R) (some (.int (cTold (R k).2.2))) := Cr.one (c_Cap_toldMeta l D tys (reg k) (R k).1 (R k).2.1 (R k).2.2 (cbase (R k).2.2 (R k).2.1) (ctop (R k).2.2 (R k).2.1)) (n + k) (cpool_at hX hk)
theorem g_length (l : Launch) (D : va_G) (tys : List (ClassId × FieldType)) (X : va_W) (n : Nat) (hX : X.length = n) (reg : Nat → Nat) (R : Nat → Cap) (k : Nat) (hk : k < 48) : Cr l y_Cap_length (wl y_Cap_length b_Cap_length 1 (some .int)) (rmL 1) D clz tys [.ref (reg k)] (X ++ cpool reg R) (some (.int (cLen (cbase (R k).2.2 (R k).2.1) (ctop (R k).2.2 (R k).2.1)))) := Cr.one (c_Cap_length l D tys (reg k) (R k).1 (R k).2.1 (R k).2.2 (cbase (R k).2.2 (R k).2.1) (ctop (R k).2.2 (R k).2.1)) (n + k) (cpool_at hX hk)
theorem g_covers (l : Launch) (D : va_G) (tys : List (ClassId × FieldType)) (X : va_W) (n : Nat) (hX : X.length = n) (reg : Nat → Nat) (R : Nat → Cap) (k : Nat) (hk : k < 48) (x : Int32) (y : Int64) : Cr l y_Cap_covers (wl y_Cap_covers b_Cap_covers 6 (some .boolean)) (rmL 0) D clz tys [.ref (reg k), .int x, .long y] (X ++ cpool reg R) (some (.int (jb (cCov (cbase (R k).2.2 (R k).2.1) (ctop (R k).2.2 (R k).2.1) x y)))) := Cr.one (c_Cap_covers l D tys (reg k) (R k).1 (R k).2.1 (R k).2.2 (cbase (R k).2.2 (R k).2.1) (ctop (R k).2.2 (R k).2.1) x y) (n + k) (cpool_at hX hk)
theorem g_isWithin (l : Launch) (D : va_G) (tys : List (ClassId × FieldType)) (X : va_W) (n : Nat) (hX : X.length = n) (reg : Nat → Nat) (R : Nat → Cap) (k : Nat) (hk : k < 48) (j : Nat) (hj : j < 48) (hkj : k ≠ j) : Cr l y_Cap_isWithin (wl y_Cap_isWithin b_Cap_isWithin 2 (some .boolean)) (rmL 1) D clz tys [.ref (reg k), .ref (reg j)] (X ++ cpool reg R) (some (.int (jb (cWith (R k).2.2 (cbase (R k).2.2 (R k).2.1) (ctop (R k).2.2 (R k).2.1) (R j).2.2 (cbase (R j).2.2 (R j).2.1) (ctop (R j).2.2 (R j).2.1))))) := Cr.two (c_Cap_isWithin l D tys (reg k) (R k).1 (R k).2.1 (R k).2.2 (cbase (R k).2.2 (R k).2.1) (ctop (R k).2.2 (R k).2.1) (reg j) (R j).1 (R j).2.1 (R j).2.2 (cbase (R j).2.2 (R j).2.1) (ctop (R j).2.2 (R j).2.1)) (n + k) (n + j) (by omega) (cpool_at hX hk) (cpool_at hX hj)
theorem g_becomeNumber (l : Launch) (D : va_G) (tys : List (ClassId × FieldType)) (X : va_W) (n : Nat) (hX : X.length = n) (reg : Nat → Nat) (R : Nat → Cap) (k : Nat) (hk : k < 48) (x : Int32) : Cg l y_Cap_becomeNumber (wl y_Cap_becomeNumber b_Cap_becomeNumber 2 none) (rmL 0) D clz tys [.ref (reg k), .int x] (X ++ cpool reg R) (fun _ : Unit => none) (fun _ => X ++ cpool reg (va_up R k ((false, x, 1000194) : Cap))) (fun _ => True) := by
  have h := Cg.one (c_Cap_becomeNumber l D tys (reg k) (R k).1 (R k).2.1 (R k).2.2 (cbase (R k).2.2 (R k).2.1) (ctop (R k).2.2 (R k).2.1) x) (B := X ++ cpool reg R) (n + k) (cpool_at hX hk)
  rw [← null_base x, ← null_top x] at h
  simp only [cpool_set hX hk ((false, x, 1000194) : Cap)] at h
  exact h
theorem g_define (l : Launch) (D : va_G) (tys : List (ClassId × FieldType)) (X : va_W) (n : Nat) (hX : X.length = n) (reg : Nat → Nat) (R : Nat → Cap) (k : Nat) (hk : k < 48) (nt : Bool) (na nm : Int32) : Cg l y_Cap_define (wl y_Cap_define b_Cap_define 4 none) (rmL 2) D clz tys [.ref (reg k), .int (jb nt), .int na, .int nm] (X ++ cpool reg R) (fun _ : Unit => none) (fun _ => X ++ cpool reg (va_up R k ((nt, na, nm) : Cap))) (fun _ => True) := by
  have h := Cg.one (c_Cap_define l D tys (reg k) (R k).1 (R k).2.1 (R k).2.2 (cbase (R k).2.2 (R k).2.1) (ctop (R k).2.2 (R k).2.1) nt na nm) (B := X ++ cpool reg R) (n + k) (cpool_at hX hk)
  skip
  simp only [cpool_set hX hk ((nt, na, nm) : Cap)] at h
  exact h
theorem g_moveTo (l : Launch) (D : va_G) (tys : List (ClassId × FieldType)) (X : va_W) (n : Nat) (hX : X.length = n) (reg : Nat → Nat) (R : Nat → Cap) (k : Nat) (hk : k < 48) (x : Int32) : Cg l y_Cap_moveTo (wl y_Cap_moveTo b_Cap_moveTo 6 none) (rmL 2) D clz tys [.ref (reg k), .int x] (X ++ cpool reg R) (fun _ : Unit => none) (fun _ => X ++ cpool reg (va_up R k ((cMv (R k).1 (R k).2.2 (cbase (R k).2.2 (R k).2.1) (ctop (R k).2.2 (R k).2.1) x, x, (R k).2.2) : Cap))) (fun _ => True) := by
  have h := Cg.one (c_Cap_moveTo l D tys (reg k) (R k).1 (R k).2.1 (R k).2.2 (cbase (R k).2.2 (R k).2.1) (ctop (R k).2.2 (R k).2.1) x) (B := X ++ cpool reg R) (n + k) (cpool_at hX hk)
  skip
  simp only [cpool_set hX hk ((cMv (R k).1 (R k).2.2 (cbase (R k).2.2 (R k).2.1) (ctop (R k).2.2 (R k).2.1) x, x, (R k).2.2) : Cap)] at h
  exact h
theorem g_setType (l : Launch) (D : va_G) (tys : List (ClassId × FieldType)) (X : va_W) (n : Nat) (hX : X.length = n) (reg : Nat → Nat) (R : Nat → Cap) (k : Nat) (hk : k < 48) (x : Int32) : Cg l y_Cap_setType (wl y_Cap_setType b_Cap_setType 2 none) (rmL 0) D clz tys [.ref (reg k), .int x] (X ++ cpool reg R) (fun _ : Unit => none) (fun _ => X ++ cpool reg (va_up R k (((R k).1, (R k).2.1, cSetT (R k).2.2 x) : Cap))) (fun _ => True) := by
  have h := Cg.one (c_Cap_setType l D tys (reg k) (R k).1 (R k).2.1 (R k).2.2 (cbase (R k).2.2 (R k).2.1) (ctop (R k).2.2 (R k).2.1) x) (B := X ++ cpool reg R) (n + k) (cpool_at hX hk)
  rw [← cSetT_b (R k).2.2 x, ← cSetT_t (R k).2.2 x] at h
  simp only [cpool_set hX hk (((R k).1, (R k).2.1, cSetT (R k).2.2 x) : Cap)] at h
  exact h
theorem g_setPerms (l : Launch) (D : va_G) (tys : List (ClassId × FieldType)) (X : va_W) (n : Nat) (hX : X.length = n) (reg : Nat → Nat) (R : Nat → Cap) (k : Nat) (hk : k < 48) (x : Int32) : Cg l y_Cap_setPerms (wl y_Cap_setPerms b_Cap_setPerms 2 none) (rmL 0) D clz tys [.ref (reg k), .int x] (X ++ cpool reg R) (fun _ : Unit => none) (fun _ => X ++ cpool reg (va_up R k (((R k).1, (R k).2.1, cSetP (R k).2.2 x) : Cap))) (fun _ => True) := by
  have h := Cg.one (c_Cap_setPerms l D tys (reg k) (R k).1 (R k).2.1 (R k).2.2 (cbase (R k).2.2 (R k).2.1) (ctop (R k).2.2 (R k).2.1) x) (B := X ++ cpool reg R) (n + k) (cpool_at hX hk)
  rw [← cSetP_b (R k).2.2 x, ← cSetP_t (R k).2.2 x] at h
  simp only [cpool_set hX hk (((R k).1, (R k).2.1, cSetP (R k).2.2 x) : Cap)] at h
  exact h
theorem g_setBounds (l : Launch) (D : va_G) (tys : List (ClassId × FieldType)) (X : va_W) (n : Nat) (hX : X.length = n) (reg : Nat → Nat) (R : Nat → Cap) (k : Nat) (hk : k < 48) (x : Int32) : Cg l y_Cap_setBounds (wl y_Cap_setBounds b_Cap_setBounds 2 none) (rmL 2) D clz tys [.ref (reg k), .int x] (X ++ cpool reg R) (fun _ : Unit => none) (fun _ => X ++ cpool reg (va_up R k (((R k).1, (R k).2.1, cSetB (R k).2.2 x) : Cap))) (fun _ => True) := by
  have h := Cg.one (c_Cap_setBounds l D tys (reg k) (R k).1 (R k).2.1 (R k).2.2 (cbase (R k).2.2 (R k).2.1) (ctop (R k).2.2 (R k).2.1) x) (B := X ++ cpool reg R) (n + k) (cpool_at hX hk)
  skip
  simp only [cpool_set hX hk (((R k).1, (R k).2.1, cSetB (R k).2.2 x) : Cap)] at h
  exact h
theorem g_become (l : Launch) (D : va_G) (tys : List (ClassId × FieldType)) (X : va_W) (n : Nat) (hX : X.length = n) (reg : Nat → Nat) (R : Nat → Cap) (k : Nat) (hk : k < 48) (j : Nat) (hj : j < 48) (hkj : k ≠ j) : Cg l y_Cap_become (wl y_Cap_become b_Cap_become 2 none) (rmL 0) D clz tys [.ref (reg k), .ref (reg j)] (X ++ cpool reg R) (fun _ : Unit => none) (fun _ => X ++ cpool reg (va_up R k (R j))) (fun _ => True) := by
  have h := Cg.two (c_Cap_become l D tys (reg k) (R k).1 (R k).2.1 (R k).2.2 (cbase (R k).2.2 (R k).2.1) (ctop (R k).2.2 (R k).2.1) (reg j) (R j).1 (R j).2.1 (R j).2.2 (cbase (R j).2.2 (R j).2.1) (ctop (R j).2.2 (R j).2.1)) (B := X ++ cpool reg R) (n + k) (n + j) (by omega) (cpool_at hX hk) (cpool_at hX hj)
  simp only [cpool_set hX hk (R j)] at h
  exact h
