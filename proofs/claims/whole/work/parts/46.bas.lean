/-! BaseUnit: the words of the class for its instructions. OC: code, fault value, registers. -/
abbrev OC : Type := Int32 × Int32 × (Nat → Cap)
def jcmp (a b : Int32) : Int32 := if b ≤ a then (if a = b then 0 else 1) else -1
def cmpU (a b : Int32) : Int32 := jcmp (a + (-2147483648)) (b + (-2147483648))
def oFn (f : Int32) (o : Bool) (a b : Int32) : Int32 := if f = 0 then (if o = false then a + b else a - b) else if f = 1 then a <<< ((b &&& 31) &&& 31) else if f = 2 then (if b ≤ a then 0 else 1) else if f = 3 then (if 0 ≤ cmpU a b then 0 else 1) else if f = 4 then a ^^^ b else if f = 5 then (if o = false then jus a (b &&& 31) else a >>> ((b &&& 31) &&& 31)) else if f = 6 then a ||| b else a &&& b
def tkB (f a b : Int32) : Bool := if f = 0 then (if a = b then true else false) else if f = 1 then (if a = b then false else true) else if f = 4 then (if b ≤ a then false else true) else if f = 5 then (if a < b then false else true) else if f = 6 then (if 0 ≤ cmpU a b then false else true) else (if cmpU a b < 0 then false else true)
def oOth (x : Int32) : Bool := if nI (nNb x) = 32 then (if nI (nFn x) = 0 then true else if nI (nFn x) = 5 then true else false) else false
def iOth (x : Int32) : Bool := if nI (nNb x) = 32 then (if nI (nFn x) = 5 then true else false) else false
def iSh (x : Int32) : Bool := if nI (nFn x) = 1 then true else if nI (nFn x) = 5 then true else false
def xAdd (fv : Int32) (R : Nat → Cap) (x : Int32) : OC := (-1, fv, aR (va_up R 37 (cMvC (R 32) ((R 32).2.1 + iIm x))) (nRd x))
def xOpG (fv : Int32) (R : Nat → Cap) (x : Int32) : OC := (-1, fv, nR R (nRd x) (oFn (nI (nFn x)) (oOth x) (R (nR1 x)).2.1 (R (nR2 x)).2.1))
def xOp (fv : Int32) (R : Nat → Cap) (x : Int32) : OC := if nI (nNb x) = 0 then xOpG fv R x else if oOth x = true then xOpG fv R x else (2, x, R)
def xOiG (fv : Int32) (R : Nat → Cap) (x : Int32) : OC := (-1, fv, nR R (nRd x) (oFn (nI (nFn x)) (iOth x) (R (nR1 x)).2.1 (iIm x)))
def xOi (fv : Int32) (R : Nat → Cap) (x : Int32) : OC := if iSh x = false then xOiG fv R x else if nI (nNb x) = 0 then xOiG fv R x else if iOth x = true then xOiG fv R x else (2, x, R)
def jF (fv : Int32) (c : Cap) (x : Int32) : Int32 × Int32 := if cCov (cbase c.2.2 c.2.1) (ctop c.2.2 c.2.1) x 4 = false then (28, 32 * nI 32 + 1) else if (x &&& 3) = 0 then (-1, fv) else (0, x)
def xBr (fv : Int32) (R : Nat → Cap) (x : Int32) : OC := if nI (nFn x) = 2 then (2, x, R) else if nI (nFn x) = 3 then (2, x, R) else if tkB (nI (nFn x)) (R (nR1 x)).2.1 (R (nR2 x)).2.1 = false then (-1, fv, R) else if (jF fv (R 32) ((R 32).2.1 + iIm x)).1 = -1 then (-2, (jF fv (R 32) ((R 32).2.1 + iIm x)).2, va_up R 32 (cMvC (R 32) ((R 32).2.1 + iIm x))) else ((jF fv (R 32) ((R 32).2.1 + iIm x)).1, (jF fv (R 32) ((R 32).2.1 + iIm x)).2, R)
def lkR (R : Nat → Cap) (d : Nat) : Nat → Cap := aR (va_up R 37 (lkC (R 32))) d
def xJal (fv : Int32) (R : Nat → Cap) (x : Int32) : OC := if (jF fv (R 32) ((R 32).2.1 + iIm x)).1 = -1 then (-2, (jF fv (R 32) ((R 32).2.1 + iIm x)).2, va_up (lkR R (nRd x)) 32 (cMvC (lkR R (nRd x) 32) ((R 32).2.1 + iIm x))) else ((jF fv (R 32) ((R 32).2.1 + iIm x)).1, (jF fv (R 32) ((R 32).2.1 + iIm x)).2, R)
def wJ (c : Cap) (im x : Int32) : Int32 := if c.1 = false then 2 else if cType c.2.2 < 14 then 3 else if cType c.2.2 = 14 then (if im = 0 then (if cMay c.2.2 1 = false then 17 else if cCov (cbase c.2.2 c.2.1) (ctop c.2.2 c.2.1) x 4 = false then 1 else 0) else 3) else if cMay c.2.2 1 = false then 17 else if cCov (cbase c.2.2 c.2.1) (ctop c.2.2 c.2.1) x 4 = false then 1 else 0
def jrX (R : Nat → Cap) (x : Int32) : Int32 := ((R (nR1 x)).2.1 + iIm x) &&& (-2)
def jr1 (R : Nat → Cap) (x : Int32) : Nat → Cap := va_up R 38 (R (nR1 x))
def jr2 (R : Nat → Cap) (x : Int32) : Nat → Cap := lkR (jr1 R x) (nRd x)
def jr3 (R : Nat → Cap) (x : Int32) : Nat → Cap := va_up (jr2 R x) 38 (cTyC (jr2 R x 38) 15)
def jr4 (R : Nat → Cap) (x : Int32) : Nat → Cap := va_up (jr3 R x) 38 (cMvC (jr3 R x 38) (jrX R x))
def xJr (fv : Int32) (R : Nat → Cap) (x : Int32) : OC := if nI (nFn x) = 0 then (if wJ (R (nR1 x)) (iIm x) (jrX R x) = 0 then (if (jrX R x &&& 3) = 0 then (-2, fv, va_up (jr4 R x) 32 (jr4 R x 38)) else (0, jrX R x, R)) else (28, 32 * nI (nR1 x) + wJ (R (nR1 x)) (iIm x) (jrX R x), R)) else (2, x, R)
def isCsr (x : Int32) : Bool := if (nI (nFn x) &&& 3) = 0 then false else if jus x 20 = 834 then true else if jus x 20 = 835 then true else false
def rtR (R : Nat → Cap) : Nat → Cap := if cType (R 36).2.2 = 14 then va_up (va_up R 32 (R 36)) 32 (cTyC (R 36) 15) else va_up R 32 (R 36)
def csOp (R : Nat → Cap) (x : Int32) : Int32 := if nI (nFn x) < 4 then (R (nR1 x)).2.1 else nI (nR1 x)
def csNx (f old op : Int32) : Int32 := if (f &&& 3) = 2 then old ||| op else if (f &&& 3) = 3 then old &&& (op ^^^ (-1)) else op
/-- code, fault value, registers, cause, value -/
def xSys (fv ca va : Int32) (R : Nat → Cap) (x : Int32) : Int32 × Int32 × (Nat → Cap) × Int32 × Int32 :=
  if x = 115 then (11, 0, R, ca, va) else if x = 1048691 then (3, 0, R, ca, va) else
  if x = 807403635 ∨ isCsr x = true then (if cMay (R 32).2.2 10 = false then (28, 32 * nI 32 + 24, R, ca, va) else if isCsr x = false then (-2, fv, rtR R, ca, va)
    else if jus x 20 = 834 then (-1, fv, nR R (nRd x) ca, csNx (nI (nFn x)) ca (csOp R x), va) else (-1, fv, nR R (nRd x) va, ca, csNx (nI (nFn x)) va (csOp R x))) else (2, x, R, ca, va)
def stF (R : Nat → Cap) (x : Int32) : Int32 := if (R (nR2 x)).1 = false then 0 else if cMay (R (nR1 x)).2.2 5 = false then 21 else if cMay (R (nR2 x)).2.2 0 = true then 0 else if cMay (R (nR1 x)).2.2 6 = true then 0 else 22
theorem up37_32 (R : Nat → Cap) (c : Cap) : (va_up R 37 c 32) = R 32 := rfl
set_option maxHeartbeats 4000000 in
set_option maxRecDepth 100000 in
theorem c_Int_compare (l : Launch) (D : va_G) (tys : List (ClassId × FieldType)) (x y : Int32) : Cr l y_Int_compare (wl y_Int_compare b_Int_compare 2 (some .int)) (rmL 0) D clz tys [.int x, .int y] [] (some (.int (jcmp x y))) := by
  refine Cr.ofF (plainFor_of_name (by decide)) (Nat.le_of_ble_eq_true rfl) ?_
  intro p9 e9 s9 m9 b9 me9 c9 ls S hr hlk hl hw
  obtain ⟨hx, hb, hml, hown, hts⟩ := id S
  have hl : lv_has ls 2 [(0, .int x), (1, .int y)] := hl
  refine lv_iload_n hx hb d_Int_compare_0 rfl (lv_at hl 0 rfl) ?_
  refine lv_iload_n hx hb d_Int_compare_1 rfl (lv_at hl 1 rfl) ?_
  refine lv_icmp_ge hx hb d_Int_compare_2 rfl (fun h2 => ?_) (fun h2 => ?_)
  · refine lv_iload_n hx hb d_Int_compare_9 rfl (lv_at hl 0 rfl) ?_
    refine lv_iload_n hx hb d_Int_compare_10 rfl (lv_at hl 1 rfl) ?_
    refine lv_icmp_ne hx hb d_Int_compare_11 rfl (fun h11 => ?_) (fun h11 => ?_)
    · refine lv_iconst (v := 1) hx hb d_Int_compare_18 (by decide) ?_
      exact rd_i S hr hlk rfl d_Int_compare_19 (by simp [jcmp, h2, h11])
    · refine lv_iconst (v := 0) hx hb d_Int_compare_14 (by decide) ?_
      refine lv_goto hx hb d_Int_compare_15 rfl ?_
      exact rd_i S hr hlk rfl d_Int_compare_19 (by simp [jcmp, h2, h11])
  · refine lv_iconst (v := -1) hx hb d_Int_compare_5 (by decide) ?_
    refine lv_goto hx hb d_Int_compare_6 rfl ?_
    exact rd_i S hr hlk rfl d_Int_compare_19 (by simp [jcmp, h2])
set_option maxHeartbeats 4000000 in
set_option maxRecDepth 100000 in
theorem c_Int_compareUnsigned (l : Launch) (D : va_G) (tys : List (ClassId × FieldType)) (x y : Int32) : Cr l y_Int_compareUnsigned (wl y_Int_compareUnsigned b_Int_compareUnsigned 2 (some .int)) (rmL 1) D clz tys [.int x, .int y] [] (some (.int (cmpU x y))) := by
  refine Cr.ofF (plainFor_of_name (by decide)) (Nat.le_of_ble_eq_true rfl) ?_
  intro p9 e9 s9 m9 b9 me9 c9 ls S hr hlk hl hw
  obtain ⟨hx, hb, hml, hown, hts⟩ := id S
  have hl : lv_has ls 2 [(0, .int x), (1, .int y)] := hl
  refine lv_iload_n hx hb d_Int_compareUnsigned_0 rfl (lv_at hl 0 rfl) ?_
  refine lv_ldc (v := -2147483648) hx hb hown (hts _ tb_4_138) d_Int_compareUnsigned_1 ?_
  refine lv_iadd hx hb d_Int_compareUnsigned_3 ?_
  refine lv_iload_n hx hb d_Int_compareUnsigned_4 rfl (lv_at hl 1 rfl) ?_
  refine lv_ldc (v := -2147483648) hx hb hown (hts _ tb_4_138) d_Int_compareUnsigned_5 ?_
  refine lv_iadd hx hb d_Int_compareUnsigned_7 ?_
  refine q_cr (q_runS (As := [.int (x + (-2147483648 : Int32)), .int (y + (-2147483648 : Int32))]) (rest := []) S ((c_Int_compare l D tys (x + (-2147483648 : Int32)) (y + (-2147483648 : Int32))).nil _) (cw_s hts tb_4_139 k_Int_compare rfl rfl ⟨by decide, by decide⟩) hw rfl hl.1 rfl (Nat.le_of_ble_eq_true rfl) d_Int_compareUnsigned_8 ⟨Nat.zero_le _, Nat.zero_le _⟩) ?_
  refine W.eq (g2 := F0 m9 11 ls [.int (jcmp (x + (-2147483648 : Int32)) (y + (-2147483648 : Int32)))]) rfl ?_
  exact rd_i S hr hlk rfl d_Int_compareUnsigned_11 (rfl)
set_option maxHeartbeats 4000000 in
set_option maxRecDepth 100000 in
theorem c_Bas_computed (l : Launch) (D : va_G) (tys : List (ClassId × FieldType)) (f : Int32) (o : Bool) (a b : Int32) : Cr l y_Bas_computed (wl y_Bas_computed b_Bas_computed 4 (some .int)) (rmL 2) D clz tys [.int f, .int (jb o), .int a, .int b] [] (some (.int (oFn f o a b))) := by
  refine Cr.ofF (plainFor_of_name (by decide)) (Nat.le_of_ble_eq_true rfl) ?_
  intro p9 e9 s9 m9 b9 me9 c9 ls S hr hlk hl hw
  obtain ⟨hx, hb, hml, hown, hts⟩ := id S
  have hl : lv_has ls 4 [(0, .int f), (1, .int (jb o)), (2, .int a), (3, .int b)] := hl
  refine lv_iload_n hx hb d_Bas_computed_0 rfl (lv_at hl 0 rfl) ?_
  by_cases hc1_0 : f = (0 : Int32)
  · refine lv_tableIn hx hb d_Bas_computed_1 (by rw [hc1_0]; decide) (by rw [hc1_0]; decide) (by rw [hc1_0]; rfl) rfl ?_
    refine lv_iload_n hx hb d_Bas_computed_44 rfl (lv_at hl 1 rfl) ?_
    refine q_ifz_eq S d_Bas_computed_45 rfl (fun h45 => ?_) (fun h45 => ?_)
    · refine lv_iload_n hx hb d_Bas_computed_54 rfl (lv_at hl 2 rfl) ?_
      refine lv_iload_n hx hb d_Bas_computed_55 rfl (lv_at hl 3 rfl) ?_
      refine lv_iadd hx hb d_Bas_computed_56 ?_
      exact rd_i S hr hlk rfl d_Bas_computed_57 (by simp [oFn, hc1_0, h45])
    · refine lv_iload_n hx hb d_Bas_computed_48 rfl (lv_at hl 2 rfl) ?_
      refine lv_iload_n hx hb d_Bas_computed_49 rfl (lv_at hl 3 rfl) ?_
      refine lv_isub hx hb d_Bas_computed_50 ?_
      refine lv_goto hx hb d_Bas_computed_51 rfl ?_
      exact rd_i S hr hlk rfl d_Bas_computed_57 (by simp [oFn, hc1_0, h45])
  by_cases hc1_1 : f = (1 : Int32)
  · refine lv_tableIn hx hb d_Bas_computed_1 (by rw [hc1_1]; decide) (by rw [hc1_1]; decide) (by rw [hc1_1]; rfl) rfl ?_
    refine lv_iload_n hx hb d_Bas_computed_58 rfl (lv_at hl 2 rfl) ?_
    refine lv_iload_n hx hb d_Bas_computed_59 rfl (lv_at hl 3 rfl) ?_
    refine lv_bipush (v := 31) hx hb d_Bas_computed_60 (by decide) ?_
    refine lv_iand hx hb d_Bas_computed_62 ?_
    refine lv_ishl hx hb d_Bas_computed_63 ?_
    exact rd_i S hr hlk rfl d_Bas_computed_64 (by simp [oFn, hc1_0, hc1_1])
  by_cases hc1_2 : f = (2 : Int32)
  · refine lv_tableIn hx hb d_Bas_computed_1 (by rw [hc1_2]; decide) (by rw [hc1_2]; decide) (by rw [hc1_2]; rfl) rfl ?_
    refine lv_iload_n hx hb d_Bas_computed_65 rfl (lv_at hl 2 rfl) ?_
    refine lv_iload_n hx hb d_Bas_computed_66 rfl (lv_at hl 3 rfl) ?_
    refine lv_icmp_ge hx hb d_Bas_computed_67 rfl (fun h67 => ?_) (fun h67 => ?_)
    · refine lv_iconst (v := 0) hx hb d_Bas_computed_74 (by decide) ?_
      exact rd_i S hr hlk rfl d_Bas_computed_75 (by simp [oFn, hc1_0, hc1_1, hc1_2, h67])
    · refine lv_iconst (v := 1) hx hb d_Bas_computed_70 (by decide) ?_
      refine lv_goto hx hb d_Bas_computed_71 rfl ?_
      exact rd_i S hr hlk rfl d_Bas_computed_75 (by simp [oFn, hc1_0, hc1_1, hc1_2, h67])
  by_cases hc1_3 : f = (3 : Int32)
  · refine lv_tableIn hx hb d_Bas_computed_1 (by rw [hc1_3]; decide) (by rw [hc1_3]; decide) (by rw [hc1_3]; rfl) rfl ?_
    refine lv_iload_n hx hb d_Bas_computed_76 rfl (lv_at hl 2 rfl) ?_
    refine lv_iload_n hx hb d_Bas_computed_77 rfl (lv_at hl 3 rfl) ?_
    refine q_cr (q_runS (As := [.int a, .int b]) (rest := []) S ((c_Int_compareUnsigned l D tys a b).nil _) (cw_s hts tb_4_135 k_Int_compareUnsigned rfl rfl ⟨by decide, by decide⟩) hw rfl hl.1 rfl (Nat.le_of_ble_eq_true rfl) d_Bas_computed_78 ⟨Nat.zero_le _, Nat.zero_le _⟩) ?_
    refine W.eq (g2 := F0 m9 81 ls [.int (cmpU a b)]) rfl ?_
    refine lv_if_ge hx hb d_Bas_computed_81 rfl (fun h81 => ?_) (fun h81 => ?_)
    · refine lv_iconst (v := 0) hx hb d_Bas_computed_88 (by decide) ?_
      exact rd_i S hr hlk rfl d_Bas_computed_89 (by simp [oFn, hc1_0, hc1_1, hc1_2, hc1_3, h81])
    · refine lv_iconst (v := 1) hx hb d_Bas_computed_84 (by decide) ?_
      refine lv_goto hx hb d_Bas_computed_85 rfl ?_
      exact rd_i S hr hlk rfl d_Bas_computed_89 (by simp [oFn, hc1_0, hc1_1, hc1_2, hc1_3, h81])
  by_cases hc1_4 : f = (4 : Int32)
  · refine lv_tableIn hx hb d_Bas_computed_1 (by rw [hc1_4]; decide) (by rw [hc1_4]; decide) (by rw [hc1_4]; rfl) rfl ?_
    refine lv_iload_n hx hb d_Bas_computed_90 rfl (lv_at hl 2 rfl) ?_
    refine lv_iload_n hx hb d_Bas_computed_91 rfl (lv_at hl 3 rfl) ?_
    refine lv_ixor hx hb d_Bas_computed_92 ?_
    exact rd_i S hr hlk rfl d_Bas_computed_93 (by simp [oFn, hc1_0, hc1_1, hc1_2, hc1_3, hc1_4])
  by_cases hc1_5 : f = (5 : Int32)
  · refine lv_tableIn hx hb d_Bas_computed_1 (by rw [hc1_5]; decide) (by rw [hc1_5]; decide) (by rw [hc1_5]; rfl) rfl ?_
    refine lv_iload_n hx hb d_Bas_computed_94 rfl (lv_at hl 1 rfl) ?_
    refine q_ifz_eq S d_Bas_computed_95 rfl (fun h95 => ?_) (fun h95 => ?_)
    · refine lv_iload_n hx hb d_Bas_computed_107 rfl (lv_at hl 2 rfl) ?_
      refine lv_iload_n hx hb d_Bas_computed_108 rfl (lv_at hl 3 rfl) ?_
      refine lv_bipush (v := 31) hx hb d_Bas_computed_109 (by decide) ?_
      refine lv_iand hx hb d_Bas_computed_111 ?_
      refine lv_iushr (v := (jus a (b &&& (31 : Int32)))) hx hb d_Bas_computed_112 rfl ?_
      exact rd_i S hr hlk rfl d_Bas_computed_113 (by simp [oFn, hc1_0, hc1_1, hc1_2, hc1_3, hc1_4, hc1_5, h95])
    · refine lv_iload_n hx hb d_Bas_computed_98 rfl (lv_at hl 2 rfl) ?_
      refine lv_iload_n hx hb d_Bas_computed_99 rfl (lv_at hl 3 rfl) ?_
      refine lv_bipush (v := 31) hx hb d_Bas_computed_100 (by decide) ?_
      refine lv_iand hx hb d_Bas_computed_102 ?_
      refine lv_ishr hx hb d_Bas_computed_103 ?_
      refine lv_goto hx hb d_Bas_computed_104 rfl ?_
      exact rd_i S hr hlk rfl d_Bas_computed_113 (by simp [oFn, hc1_0, hc1_1, hc1_2, hc1_3, hc1_4, hc1_5, h95])
  by_cases hc1_6 : f = (6 : Int32)
  · refine lv_tableIn hx hb d_Bas_computed_1 (by rw [hc1_6]; decide) (by rw [hc1_6]; decide) (by rw [hc1_6]; rfl) rfl ?_
    refine lv_iload_n hx hb d_Bas_computed_114 rfl (lv_at hl 2 rfl) ?_
    refine lv_iload_n hx hb d_Bas_computed_115 rfl (lv_at hl 3 rfl) ?_
    refine lv_ior hx hb d_Bas_computed_116 ?_
    exact rd_i S hr hlk rfl d_Bas_computed_117 (by simp [oFn, hc1_0, hc1_1, hc1_2, hc1_3, hc1_4, hc1_5, hc1_6])
  refine lv_tableOut hx hb d_Bas_computed_1 (by have := lv_neT hc1_0 (a := 0) rfl; have := lv_neT hc1_1 (a := 1) rfl; have := lv_neT hc1_2 (a := 2) rfl; have := lv_neT hc1_3 (a := 3) rfl; have := lv_neT hc1_4 (a := 4) rfl; have := lv_neT hc1_5 (a := 5) rfl; have := lv_neT hc1_6 (a := 6) rfl; omega) rfl ?_
  refine lv_iload_n hx hb d_Bas_computed_118 rfl (lv_at hl 2 rfl) ?_
  refine lv_iload_n hx hb d_Bas_computed_119 rfl (lv_at hl 3 rfl) ?_
  refine lv_iand hx hb d_Bas_computed_120 ?_
  exact rd_i S hr hlk rfl d_Bas_computed_121 (by simp [oFn, hc1_0, hc1_1, hc1_2, hc1_3, hc1_4, hc1_5, hc1_6])
set_option maxHeartbeats 4000000 in
set_option maxRecDepth 100000 in
theorem c_Bas_isTaken (l : Launch) (D : va_G) (tys : List (ClassId × FieldType)) (f a b : Int32) : Cr l y_Bas_isTaken (wl y_Bas_isTaken b_Bas_isTaken 3 (some .boolean)) (rmL 2) D clz tys [.int f, .int a, .int b] [] (some (.int (jb (tkB f a b)))) := by
  refine Cr.ofF (plainFor_of_name (by decide)) (Nat.le_of_ble_eq_true rfl) ?_
  intro p9 e9 s9 m9 b9 me9 c9 ls S hr hlk hl hw
  obtain ⟨hx, hb, hml, hown, hts⟩ := id S
  have hl : lv_has ls 3 [(0, .int f), (1, .int a), (2, .int b)] := hl
  refine lv_iload_n hx hb d_Bas_isTaken_0 rfl (lv_at hl 0 rfl) ?_
  by_cases hc1_0 : f = (0 : Int32)
  · refine lv_tableIn hx hb d_Bas_isTaken_1 (by rw [hc1_0]; decide) (by rw [hc1_0]; decide) (by rw [hc1_0]; rfl) rfl ?_
    refine lv_iload_n hx hb d_Bas_isTaken_44 rfl (lv_at hl 1 rfl) ?_
    refine lv_iload_n hx hb d_Bas_isTaken_45 rfl (lv_at hl 2 rfl) ?_
    refine lv_icmp_ne hx hb d_Bas_isTaken_46 rfl (fun h46 => ?_) (fun h46 => ?_)
    · refine lv_iconst (v := 0) hx hb d_Bas_isTaken_53 (by decide) ?_
      exact rd_i S hr hlk rfl d_Bas_isTaken_54 (by simp [tkB, jb, hc1_0, h46])
    · refine lv_iconst (v := 1) hx hb d_Bas_isTaken_49 (by decide) ?_
      refine lv_goto hx hb d_Bas_isTaken_50 rfl ?_
      exact rd_i S hr hlk rfl d_Bas_isTaken_54 (by simp [tkB, jb, hc1_0, h46])
  by_cases hc1_1 : f = (1 : Int32)
  · refine lv_tableIn hx hb d_Bas_isTaken_1 (by rw [hc1_1]; decide) (by rw [hc1_1]; decide) (by rw [hc1_1]; rfl) rfl ?_
    refine lv_iload_n hx hb d_Bas_isTaken_55 rfl (lv_at hl 1 rfl) ?_
    refine lv_iload_n hx hb d_Bas_isTaken_56 rfl (lv_at hl 2 rfl) ?_
    refine lv_icmp_eq hx hb d_Bas_isTaken_57 rfl (fun h57 => ?_) (fun h57 => ?_)
    · refine lv_iconst (v := 0) hx hb d_Bas_isTaken_64 (by decide) ?_
      exact rd_i S hr hlk rfl d_Bas_isTaken_65 (by simp [tkB, jb, hc1_0, hc1_1, h57])
    · refine lv_iconst (v := 1) hx hb d_Bas_isTaken_60 (by decide) ?_
      refine lv_goto hx hb d_Bas_isTaken_61 rfl ?_
      exact rd_i S hr hlk rfl d_Bas_isTaken_65 (by simp [tkB, jb, hc1_0, hc1_1, h57])
  by_cases hc1_4 : f = (4 : Int32)
  · refine lv_tableIn hx hb d_Bas_isTaken_1 (by rw [hc1_4]; decide) (by rw [hc1_4]; decide) (by rw [hc1_4]; rfl) rfl ?_
    refine lv_iload_n hx hb d_Bas_isTaken_66 rfl (lv_at hl 1 rfl) ?_
    refine lv_iload_n hx hb d_Bas_isTaken_67 rfl (lv_at hl 2 rfl) ?_
    refine lv_icmp_ge hx hb d_Bas_isTaken_68 rfl (fun h68 => ?_) (fun h68 => ?_)
    · refine lv_iconst (v := 0) hx hb d_Bas_isTaken_75 (by decide) ?_
      exact rd_i S hr hlk rfl d_Bas_isTaken_76 (by simp [tkB, jb, hc1_0, hc1_1, hc1_4, h68])
    · refine lv_iconst (v := 1) hx hb d_Bas_isTaken_71 (by decide) ?_
      refine lv_goto hx hb d_Bas_isTaken_72 rfl ?_
      exact rd_i S hr hlk rfl d_Bas_isTaken_76 (by simp [tkB, jb, hc1_0, hc1_1, hc1_4, h68])
  by_cases hc1_5 : f = (5 : Int32)
  · refine lv_tableIn hx hb d_Bas_isTaken_1 (by rw [hc1_5]; decide) (by rw [hc1_5]; decide) (by rw [hc1_5]; rfl) rfl ?_
    refine lv_iload_n hx hb d_Bas_isTaken_77 rfl (lv_at hl 1 rfl) ?_
    refine lv_iload_n hx hb d_Bas_isTaken_78 rfl (lv_at hl 2 rfl) ?_
    refine lv_icmp_lt hx hb d_Bas_isTaken_79 rfl (fun h79 => ?_) (fun h79 => ?_)
    · refine lv_iconst (v := 0) hx hb d_Bas_isTaken_86 (by decide) ?_
      exact rd_i S hr hlk rfl d_Bas_isTaken_87 (by simp [tkB, jb, hc1_0, hc1_1, hc1_4, hc1_5, h79])
    · refine lv_iconst (v := 1) hx hb d_Bas_isTaken_82 (by decide) ?_
      refine lv_goto hx hb d_Bas_isTaken_83 rfl ?_
      exact rd_i S hr hlk rfl d_Bas_isTaken_87 (by simp [tkB, jb, hc1_0, hc1_1, hc1_4, hc1_5, h79])
  by_cases hc1_6 : f = (6 : Int32)
  · refine lv_tableIn hx hb d_Bas_isTaken_1 (by rw [hc1_6]; decide) (by rw [hc1_6]; decide) (by rw [hc1_6]; rfl) rfl ?_
    refine lv_iload_n hx hb d_Bas_isTaken_88 rfl (lv_at hl 1 rfl) ?_
    refine lv_iload_n hx hb d_Bas_isTaken_89 rfl (lv_at hl 2 rfl) ?_
    refine q_cr (q_runS (As := [.int a, .int b]) (rest := []) S ((c_Int_compareUnsigned l D tys a b).nil _) (cw_s hts tb_4_135 k_Int_compareUnsigned rfl rfl ⟨by decide, by decide⟩) hw rfl hl.1 rfl (Nat.le_of_ble_eq_true rfl) d_Bas_isTaken_90 ⟨Nat.zero_le _, Nat.zero_le _⟩) ?_
    refine W.eq (g2 := F0 m9 93 ls [.int (cmpU a b)]) rfl ?_
    refine lv_if_ge hx hb d_Bas_isTaken_93 rfl (fun h93 => ?_) (fun h93 => ?_)
    · refine lv_iconst (v := 0) hx hb d_Bas_isTaken_100 (by decide) ?_
      exact rd_i S hr hlk rfl d_Bas_isTaken_101 (by simp [tkB, jb, hc1_0, hc1_1, hc1_4, hc1_5, hc1_6, h93])
    · refine lv_iconst (v := 1) hx hb d_Bas_isTaken_96 (by decide) ?_
      refine lv_goto hx hb d_Bas_isTaken_97 rfl ?_
      exact rd_i S hr hlk rfl d_Bas_isTaken_101 (by simp [tkB, jb, hc1_0, hc1_1, hc1_4, hc1_5, hc1_6, h93])
  by_cases hc1_2 : f = (2 : Int32)
  · refine lv_tableIn hx hb d_Bas_isTaken_1 (by rw [hc1_2]; decide) (by rw [hc1_2]; decide) (by rw [hc1_2]; rfl) rfl ?_
    refine lv_iload_n hx hb d_Bas_isTaken_102 rfl (lv_at hl 1 rfl) ?_
    refine lv_iload_n hx hb d_Bas_isTaken_103 rfl (lv_at hl 2 rfl) ?_
    refine q_cr (q_runS (As := [.int a, .int b]) (rest := []) S ((c_Int_compareUnsigned l D tys a b).nil _) (cw_s hts tb_4_135 k_Int_compareUnsigned rfl rfl ⟨by decide, by decide⟩) hw rfl hl.1 rfl (Nat.le_of_ble_eq_true rfl) d_Bas_isTaken_104 ⟨Nat.zero_le _, Nat.zero_le _⟩) ?_
    refine W.eq (g2 := F0 m9 107 ls [.int (cmpU a b)]) rfl ?_
    refine lv_if_lt hx hb d_Bas_isTaken_107 rfl (fun h107 => ?_) (fun h107 => ?_)
    · refine lv_iconst (v := 0) hx hb d_Bas_isTaken_114 (by decide) ?_
      exact rd_i S hr hlk rfl d_Bas_isTaken_115 (by simp [tkB, jb, hc1_0, hc1_1, hc1_4, hc1_5, hc1_6, hc1_2, h107])
    · refine lv_iconst (v := 1) hx hb d_Bas_isTaken_110 (by decide) ?_
      refine lv_goto hx hb d_Bas_isTaken_111 rfl ?_
      exact rd_i S hr hlk rfl d_Bas_isTaken_115 (by simp [tkB, jb, hc1_0, hc1_1, hc1_4, hc1_5, hc1_6, hc1_2, h107])
  by_cases hc1_3 : f = (3 : Int32)
  · refine lv_tableIn hx hb d_Bas_isTaken_1 (by rw [hc1_3]; decide) (by rw [hc1_3]; decide) (by rw [hc1_3]; rfl) rfl ?_
    refine lv_iload_n hx hb d_Bas_isTaken_102 rfl (lv_at hl 1 rfl) ?_
    refine lv_iload_n hx hb d_Bas_isTaken_103 rfl (lv_at hl 2 rfl) ?_
    refine q_cr (q_runS (As := [.int a, .int b]) (rest := []) S ((c_Int_compareUnsigned l D tys a b).nil _) (cw_s hts tb_4_135 k_Int_compareUnsigned rfl rfl ⟨by decide, by decide⟩) hw rfl hl.1 rfl (Nat.le_of_ble_eq_true rfl) d_Bas_isTaken_104 ⟨Nat.zero_le _, Nat.zero_le _⟩) ?_
    refine W.eq (g2 := F0 m9 107 ls [.int (cmpU a b)]) rfl ?_
    refine lv_if_lt hx hb d_Bas_isTaken_107 rfl (fun h107 => ?_) (fun h107 => ?_)
    · refine lv_iconst (v := 0) hx hb d_Bas_isTaken_114 (by decide) ?_
      exact rd_i S hr hlk rfl d_Bas_isTaken_115 (by simp [tkB, jb, hc1_0, hc1_1, hc1_4, hc1_5, hc1_6, hc1_2, hc1_3, h107])
    · refine lv_iconst (v := 1) hx hb d_Bas_isTaken_110 (by decide) ?_
      refine lv_goto hx hb d_Bas_isTaken_111 rfl ?_
      exact rd_i S hr hlk rfl d_Bas_isTaken_115 (by simp [tkB, jb, hc1_0, hc1_1, hc1_4, hc1_5, hc1_6, hc1_2, hc1_3, h107])
  refine lv_tableOut hx hb d_Bas_isTaken_1 (by have := lv_neT hc1_0 (a := 0) rfl; have := lv_neT hc1_1 (a := 1) rfl; have := lv_neT hc1_4 (a := 4) rfl; have := lv_neT hc1_5 (a := 5) rfl; have := lv_neT hc1_6 (a := 6) rfl; have := lv_neT hc1_2 (a := 2) rfl; have := lv_neT hc1_3 (a := 3) rfl; omega) rfl ?_
  refine lv_iload_n hx hb d_Bas_isTaken_102 rfl (lv_at hl 1 rfl) ?_
  refine lv_iload_n hx hb d_Bas_isTaken_103 rfl (lv_at hl 2 rfl) ?_
  refine q_cr (q_runS (As := [.int a, .int b]) (rest := []) S ((c_Int_compareUnsigned l D tys a b).nil _) (cw_s hts tb_4_135 k_Int_compareUnsigned rfl rfl ⟨by decide, by decide⟩) hw rfl hl.1 rfl (Nat.le_of_ble_eq_true rfl) d_Bas_isTaken_104 ⟨Nat.zero_le _, Nat.zero_le _⟩) ?_
  refine W.eq (g2 := F0 m9 107 ls [.int (cmpU a b)]) rfl ?_
  refine lv_if_lt hx hb d_Bas_isTaken_107 rfl (fun h107 => ?_) (fun h107 => ?_)
  · refine lv_iconst (v := 0) hx hb d_Bas_isTaken_114 (by decide) ?_
    exact rd_i S hr hlk rfl d_Bas_isTaken_115 (by simp [tkB, jb, hc1_0, hc1_1, hc1_4, hc1_5, hc1_6, hc1_2, hc1_3, h107])
  · refine lv_iconst (v := 1) hx hb d_Bas_isTaken_110 (by decide) ?_
    refine lv_goto hx hb d_Bas_isTaken_111 rfl ?_
    exact rd_i S hr hlk rfl d_Bas_isTaken_115 (by simp [tkB, jb, hc1_0, hc1_1, hc1_4, hc1_5, hc1_6, hc1_2, hc1_3, h107])
set_option maxHeartbeats 4000000 in
set_option maxRecDepth 100000 in
theorem c_Bas_addToPcc (l : Launch) (D : va_G) (ti : Nat → ClassId) (ad : Nat → Nat) (u : MT) (pi ex de : Nat) (xi xb di db fi fb : Int32) (ob reg : Nat → Nat) (kq : Int32 × Bool × Bool × Int32 × Int64) (ca va fv : Int32) (R : Nat → Cap) : Cg l y_Bas_addToPcc (wl y_Bas_addToPcc b_Bas_addToPcc 2 (some .int)) (rmL 3) D clz (ty4 ti) [.ref (ob 2), .ref ex] (CW ad ti u pi ex de xi xb di db fi fb ob reg kq ca va fv R) (fun _ : Unit => some (.int (xAdd fv R xb).1)) (fun _ => (CW ad ti u pi ex de xi xb di db fi fb ob reg kq ca va ((xAdd fv R xb).2.1) ((xAdd fv R xb).2.2))) (fun _ => True) := by
  refine Cg.ofF (plainFor_of_name (by decide)) (Nat.le_of_ble_eq_true rfl) ?_
  intro p9 e9 s9 m9 b9 me9 c9 ls S hr hlk hl hw
  obtain ⟨hx, hb, hml, hown, hts⟩ := id S
  have hl : lv_has ls 2 [(0, .ref (ob 2)), (1, .ref ex)] := hl
  have hr1 := nR1_lt xb
  have hr2 := nR2_lt xb
  have hrd := nRd_lt xb
  refine lv_aload_n hx hb d_Bas_addToPcc_0 rfl (lv_at hl 0 rfl) ?_
  refine q_get S hw ly_Bas 18 rfl rfl 0 (by decide) tb_2_14 rfl rfl d_Bas_addToPcc_1 ?_
  refine q_get S hw ly_Sta 16 rfl rfl 2 (by decide) tb_1_215 rfl rfl d_Bas_addToPcc_4 ?_
  refine lv_aload_n hx hb d_Bas_addToPcc_7 rfl (lv_at hl 0 rfl) ?_
  refine q_get S hw ly_Bas 18 rfl rfl 0 (by decide) tb_2_14 rfl rfl d_Bas_addToPcc_8 ?_
  refine q_get S hw ly_Sta 16 rfl rfl 1 (by decide) tb_1_211 rfl rfl d_Bas_addToPcc_11 ?_
  refine q_cg (q_runV (As := [.ref (reg 32)]) (rest := []) S (w_become l D ti ad u pi ex de xi xb di db fi fb ob reg kq ca va fv R (37) (by first | decide | omega) (32) (by first | decide | omega) (by first | decide | omega)) (cw_v hts tb_4_146 k_Cap_become rfl rfl ⟨by decide, by decide⟩) hw (21 + (37)) (CW_at (by first | decide | omega)) rfl rfl hl.1 rfl (Nat.le_of_ble_eq_true rfl) d_Bas_addToPcc_14 ⟨Nat.zero_le _, Nat.zero_le _⟩) hw (fun z hD => CW_D hD) (fun z9 H locs hp9 hw => ?_)
  refine W.eq (g2 := F0 m9 17 ls []) rfl ?_
  have hw : Lv _ _ _ _ _ (CW ad ti u pi ex de xi xb di db fi fb ob reg kq ca va fv (va_up R (37) (R 32))) _ _ _ := hw
  refine lv_aload_n hx hb d_Bas_addToPcc_17 rfl (lv_at hl 0 rfl) ?_
  refine q_get S hw ly_Bas 18 rfl rfl 0 (by decide) tb_2_14 rfl rfl d_Bas_addToPcc_18 ?_
  refine q_get S hw ly_Sta 16 rfl rfl 2 (by decide) tb_1_215 rfl rfl d_Bas_addToPcc_21 ?_
  refine lv_aload_n hx hb d_Bas_addToPcc_24 rfl (lv_at hl 0 rfl) ?_
  refine q_get S hw ly_Bas 18 rfl rfl 0 (by decide) tb_2_14 rfl rfl d_Bas_addToPcc_25 ?_
  refine q_get S hw ly_Sta 16 rfl rfl 1 (by decide) tb_1_211 rfl rfl d_Bas_addToPcc_28 ?_
  refine q_get S hw ly_Cap (21 + (32)) (CW_at (by first | decide | omega)) rfl 1 (by decide) tb_1_52 rfl rfl d_Bas_addToPcc_31 ?_
  refine lv_aload_n hx hb d_Bas_addToPcc_34 rfl (lv_at hl 1 rfl) ?_
  refine q_get S hw ly_Ins 14 rfl rfl 8 (by decide) tb_1_170 rfl rfl d_Bas_addToPcc_35 ?_
  refine lv_iadd hx hb d_Bas_addToPcc_38 ?_
  refine q_cg (q_runV (As := [.int ((((va_up R (37) (R 32)) 32).2.1) + (iIm xb))]) (rest := []) S (w_moveTo l D ti ad u pi ex de xi xb di db fi fb ob reg kq ca va fv (va_up R (37) (R 32)) (37) (by first | decide | omega) ((((va_up R (37) (R 32)) 32).2.1) + (iIm xb))) (cw_v hts tb_4_147 k_Cap_moveTo rfl rfl ⟨by decide, by decide⟩) hw (21 + (37)) (CW_at (by first | decide | omega)) rfl rfl hl.1 rfl (Nat.le_of_ble_eq_true rfl) d_Bas_addToPcc_39 ⟨Nat.zero_le _, Nat.zero_le _⟩) hw (fun z hD => CW_D hD) (fun z9 H locs hp9 hw => ?_)
  refine W.eq (g2 := F0 m9 42 ls []) rfl ?_
  have hw : Lv _ _ _ _ _ (CW ad ti u pi ex de xi xb di db fi fb ob reg kq ca va fv (va_up (va_up R (37) (R 32)) (37) (cMvC ((va_up R (37) (R 32)) 37) ((((va_up R (37) (R 32)) 32).2.1) + (iIm xb))))) _ _ _ := hw
  refine lv_aload_n hx hb d_Bas_addToPcc_42 rfl (lv_at hl 0 rfl) ?_
  refine q_get S hw ly_Bas 18 rfl rfl 0 (by decide) tb_2_14 rfl rfl d_Bas_addToPcc_43 ?_
  refine lv_aload_n hx hb d_Bas_addToPcc_46 rfl (lv_at hl 1 rfl) ?_
  refine q_get S hw ly_Ins 14 rfl rfl 3 (by decide) tb_1_154 rfl rfl d_Bas_addToPcc_47 ?_
  refine q_cg (q_runV (As := [.int (nI (nRd xb))]) (rest := []) S (c_Sta_answer l D ti ad u pi ex de xi xb di db fi fb ob reg kq ca va fv (va_up (va_up R (37) (R 32)) (37) (cMvC ((va_up R (37) (R 32)) 37) ((((va_up R (37) (R 32)) 32).2.1) + (iIm xb)))) (nRd xb) (by first | decide | omega)) (cw_v hts tb_4_121 k_Sta_answer rfl rfl ⟨by decide, by decide⟩) hw 16 rfl rfl rfl hl.1 rfl (Nat.le_of_ble_eq_true rfl) d_Bas_addToPcc_50 ⟨Nat.zero_le _, Nat.zero_le _⟩) hw (fun z hD => CW_D (qD_same hD rfl)) (fun z9 H locs hp9 hw => ?_)
  refine W.eq (g2 := F0 m9 53 ls [.int (-1 : Int32)]) rfl ?_
  have hw : Lv _ _ _ _ _ (CW ad ti u pi ex de xi xb di db fi fb ob reg kq ca va fv (aR (va_up (va_up R (37) (R 32)) (37) (cMvC ((va_up R (37) (R 32)) 37) ((((va_up R (37) (R 32)) 32).2.1) + (iIm xb)))) (nRd xb))) _ _ _ := hw
  exact hw.riz S hr hlk (rfl) d_Bas_addToPcc_53 () (rfl) (trivial) (by simp only [xAdd, up_up, va_up_self, va_up_37, up37_32])
set_option maxHeartbeats 4000000 in
set_option maxRecDepth 100000 in
theorem c_Bas_operate (l : Launch) (D : va_G) (ti : Nat → ClassId) (ad : Nat → Nat) (u : MT) (pi ex de : Nat) (xi xb di db fi fb : Int32) (ob reg : Nat → Nat) (kq : Int32 × Bool × Bool × Int32 × Int64) (ca va fv : Int32) (R : Nat → Cap) : Cg l y_Bas_operate (wl y_Bas_operate b_Bas_operate 4 (some .int)) (rmL 3) D clz (ty4 ti) [.ref (ob 2), .ref ex] (CW ad ti u pi ex de xi xb di db fi fb ob reg kq ca va fv R) (fun _ : Unit => some (.int (xOp fv R xb).1)) (fun _ => (CW ad ti u pi ex de xi xb di db fi fb ob reg kq ca va ((xOp fv R xb).2.1) ((xOp fv R xb).2.2))) (fun _ => True) := by
  refine Cg.ofF (plainFor_of_name (by decide)) (Nat.le_of_ble_eq_true rfl) ?_
  intro p9 e9 s9 m9 b9 me9 c9 ls S hr hlk hl hw
  obtain ⟨hx, hb, hml, hown, hts⟩ := id S
  have hl : lv_has ls 4 [(0, .ref (ob 2)), (1, .ref ex)] := hl
  have hr1 := nR1_lt xb
  have hr2 := nR2_lt xb
  have hrd := nRd_lt xb
  refine q_join (pcJ := 29) (st := [.int (jb (oOth xb))]) (lv' := [(0, .ref (ob 2)), (1, .ref ex)]) (nL := 4) (fun ls hl => ?_) (fun J29 => ?_)
  · refine lv_istore_n (lv' := [(2, .int (jb (oOth xb))), (0, .ref (ob 2)), (1, .ref ex)]) hx hb d_Bas_operate_29 rfl hl (by decide) rfl (fun ls hl => ?_)
    refine lv_aload_n hx hb d_Bas_operate_30 rfl (lv_at hl 2 rfl) ?_
    refine q_get S hw ly_Ins 14 rfl rfl 7 (by decide) tb_1_167 rfl rfl d_Bas_operate_31 ?_
    refine lv_if_eq hx hb d_Bas_operate_34 rfl (fun h34 => ?_) (fun h34 => ?_)
    · refine lv_aload_n hx hb d_Bas_operate_50 rfl (lv_at hl 1 rfl) ?_
      refine q_get S hw ly_Bas 18 rfl rfl 0 (by decide) tb_2_14 rfl rfl d_Bas_operate_51 ?_
      refine q_get S hw ly_Sta 16 rfl rfl 0 (by decide) tb_1_209 rfl rfl d_Bas_operate_54 ?_
      refine lv_aload_n hx hb d_Bas_operate_57 rfl (lv_at hl 2 rfl) ?_
      refine q_get S hw ly_Ins 14 rfl rfl 6 (by decide) tb_1_164 rfl rfl d_Bas_operate_58 ?_
      refine q_aaldN (k := (nR2 xb)) S hw 17 3 rfl rfl (by first | assumption | omega) (by decide) d_Bas_operate_61 ?_
      refine q_get S hw ly_Cap (21 + (nR2 xb)) (CW_at (by first | decide | omega)) rfl 1 (by decide) tb_1_52 rfl rfl d_Bas_operate_62 ?_
      refine lv_istore_n (lv' := [(3, .int ((R (nR2 xb)).2.1)), (2, .int (jb (oOth xb))), (0, .ref (ob 2)), (1, .ref ex)]) hx hb d_Bas_operate_65 rfl hl (by decide) rfl (fun ls hl => ?_)
      refine lv_aload_n hx hb d_Bas_operate_66 rfl (lv_at hl 2 rfl) ?_
      refine q_get S hw ly_Bas 18 rfl rfl 0 (by decide) tb_2_14 rfl rfl d_Bas_operate_67 ?_
      refine lv_aload_n hx hb d_Bas_operate_70 rfl (lv_at hl 3 rfl) ?_
      refine q_get S hw ly_Ins 14 rfl rfl 3 (by decide) tb_1_154 rfl rfl d_Bas_operate_71 ?_
      refine lv_aload_n hx hb d_Bas_operate_74 rfl (lv_at hl 3 rfl) ?_
      refine q_get S hw ly_Ins 14 rfl rfl 4 (by decide) tb_1_158 rfl rfl d_Bas_operate_75 ?_
      refine lv_iload_n hx hb d_Bas_operate_78 rfl (lv_at hl 1 rfl) ?_
      refine lv_aload_n hx hb d_Bas_operate_79 rfl (lv_at hl 2 rfl) ?_
      refine q_get S hw ly_Bas 18 rfl rfl 0 (by decide) tb_2_14 rfl rfl d_Bas_operate_80 ?_
      refine q_get S hw ly_Sta 16 rfl rfl 0 (by decide) tb_1_209 rfl rfl d_Bas_operate_83 ?_
      refine lv_aload_n hx hb d_Bas_operate_86 rfl (lv_at hl 3 rfl) ?_
      refine q_get S hw ly_Ins 14 rfl rfl 5 (by decide) tb_1_161 rfl rfl d_Bas_operate_87 ?_
      refine q_aaldN (k := (nR1 xb)) S hw 17 3 rfl rfl (by first | assumption | omega) (by decide) d_Bas_operate_90 ?_
      refine q_get S hw ly_Cap (21 + (nR1 xb)) (CW_at (by first | decide | omega)) rfl 1 (by decide) tb_1_52 rfl rfl d_Bas_operate_91 ?_
      refine lv_iload_n hx hb d_Bas_operate_94 rfl (lv_at hl 0 rfl) ?_
      refine q_cr (q_runS (As := [.int (nI (nFn xb)), .int (jb (oOth xb)), .int ((R (nR1 xb)).2.1), .int ((R (nR2 xb)).2.1)]) (rest := [.int (nI (nRd xb)), .ref (ob 0)]) S ((c_Bas_computed l D (ty4 ti) (nI (nFn xb)) (oOth xb) ((R (nR1 xb)).2.1) ((R (nR2 xb)).2.1)).nil _) (cw_s hts tb_4_132 k_Bas_computed rfl rfl ⟨by decide, by decide⟩) hw rfl hl.1 rfl (Nat.le_of_ble_eq_true rfl) d_Bas_operate_95 ⟨Nat.zero_le _, Nat.zero_le _⟩) ?_
      refine W.eq (g2 := F0 m9 98 ls [.int (oFn (nI (nFn xb)) (oOth xb) ((R (nR1 xb)).2.1) ((R (nR2 xb)).2.1)), .int (nI (nRd xb)), .ref (ob 0)]) rfl ?_
      refine q_cg (q_runV (As := [.int (nI (nRd xb)), .int (oFn (nI (nFn xb)) (oOth xb) ((R (nR1 xb)).2.1) ((R (nR2 xb)).2.1))]) (rest := []) S (c_Sta_answerNumber l D ti ad u pi ex de xi xb di db fi fb ob reg kq ca va fv R (nRd xb) (by first | decide | omega) (oFn (nI (nFn xb)) (oOth xb) ((R (nR1 xb)).2.1) ((R (nR2 xb)).2.1))) (cw_v hts tb_4_127 k_Sta_answerNumber rfl rfl ⟨by decide, by decide⟩) hw 16 rfl rfl rfl hl.1 rfl (Nat.le_of_ble_eq_true rfl) d_Bas_operate_98 ⟨Nat.zero_le _, Nat.zero_le _⟩) hw (fun z hD => CW_D (qD_same hD rfl)) (fun z9 H locs hp9 hw => ?_)
      refine W.eq (g2 := F0 m9 101 ls [.int (-1 : Int32)]) rfl ?_
      have hw : Lv _ _ _ _ _ (CW ad ti u pi ex de xi xb di db fi fb ob reg kq ca va fv (nR R (nRd xb) (oFn (nI (nFn xb)) (oOth xb) ((R (nR1 xb)).2.1) ((R (nR2 xb)).2.1)))) _ _ _ := hw
      exact hw.riz S hr hlk (rfl) d_Bas_operate_101 () (by simp [xOp, xOpG, h34]) (trivial) (by simp [xOp, xOpG, h34])
    · refine lv_iload_n hx hb d_Bas_operate_37 rfl (lv_at hl 0 rfl) ?_
      refine q_ifz_ne S d_Bas_operate_38 rfl (fun h38 => ?_) (fun h38 => ?_)
      · refine lv_aload_n hx hb d_Bas_operate_50 rfl (lv_at hl 1 rfl) ?_
        refine q_get S hw ly_Bas 18 rfl rfl 0 (by decide) tb_2_14 rfl rfl d_Bas_operate_51 ?_
        refine q_get S hw ly_Sta 16 rfl rfl 0 (by decide) tb_1_209 rfl rfl d_Bas_operate_54 ?_
        refine lv_aload_n hx hb d_Bas_operate_57 rfl (lv_at hl 2 rfl) ?_
        refine q_get S hw ly_Ins 14 rfl rfl 6 (by decide) tb_1_164 rfl rfl d_Bas_operate_58 ?_
        refine q_aaldN (k := (nR2 xb)) S hw 17 3 rfl rfl (by first | assumption | omega) (by decide) d_Bas_operate_61 ?_
        refine q_get S hw ly_Cap (21 + (nR2 xb)) (CW_at (by first | decide | omega)) rfl 1 (by decide) tb_1_52 rfl rfl d_Bas_operate_62 ?_
        refine lv_istore_n (lv' := [(3, .int ((R (nR2 xb)).2.1)), (2, .int (jb (oOth xb))), (0, .ref (ob 2)), (1, .ref ex)]) hx hb d_Bas_operate_65 rfl hl (by decide) rfl (fun ls hl => ?_)
        refine lv_aload_n hx hb d_Bas_operate_66 rfl (lv_at hl 2 rfl) ?_
        refine q_get S hw ly_Bas 18 rfl rfl 0 (by decide) tb_2_14 rfl rfl d_Bas_operate_67 ?_
        refine lv_aload_n hx hb d_Bas_operate_70 rfl (lv_at hl 3 rfl) ?_
        refine q_get S hw ly_Ins 14 rfl rfl 3 (by decide) tb_1_154 rfl rfl d_Bas_operate_71 ?_
        refine lv_aload_n hx hb d_Bas_operate_74 rfl (lv_at hl 3 rfl) ?_
        refine q_get S hw ly_Ins 14 rfl rfl 4 (by decide) tb_1_158 rfl rfl d_Bas_operate_75 ?_
        refine lv_iload_n hx hb d_Bas_operate_78 rfl (lv_at hl 1 rfl) ?_
        refine lv_aload_n hx hb d_Bas_operate_79 rfl (lv_at hl 2 rfl) ?_
        refine q_get S hw ly_Bas 18 rfl rfl 0 (by decide) tb_2_14 rfl rfl d_Bas_operate_80 ?_
        refine q_get S hw ly_Sta 16 rfl rfl 0 (by decide) tb_1_209 rfl rfl d_Bas_operate_83 ?_
        refine lv_aload_n hx hb d_Bas_operate_86 rfl (lv_at hl 3 rfl) ?_
        refine q_get S hw ly_Ins 14 rfl rfl 5 (by decide) tb_1_161 rfl rfl d_Bas_operate_87 ?_
        refine q_aaldN (k := (nR1 xb)) S hw 17 3 rfl rfl (by first | assumption | omega) (by decide) d_Bas_operate_90 ?_
        refine q_get S hw ly_Cap (21 + (nR1 xb)) (CW_at (by first | decide | omega)) rfl 1 (by decide) tb_1_52 rfl rfl d_Bas_operate_91 ?_
        refine lv_iload_n hx hb d_Bas_operate_94 rfl (lv_at hl 0 rfl) ?_
        refine q_cr (q_runS (As := [.int (nI (nFn xb)), .int (jb (oOth xb)), .int ((R (nR1 xb)).2.1), .int ((R (nR2 xb)).2.1)]) (rest := [.int (nI (nRd xb)), .ref (ob 0)]) S ((c_Bas_computed l D (ty4 ti) (nI (nFn xb)) (oOth xb) ((R (nR1 xb)).2.1) ((R (nR2 xb)).2.1)).nil _) (cw_s hts tb_4_132 k_Bas_computed rfl rfl ⟨by decide, by decide⟩) hw rfl hl.1 rfl (Nat.le_of_ble_eq_true rfl) d_Bas_operate_95 ⟨Nat.zero_le _, Nat.zero_le _⟩) ?_
        refine W.eq (g2 := F0 m9 98 ls [.int (oFn (nI (nFn xb)) (oOth xb) ((R (nR1 xb)).2.1) ((R (nR2 xb)).2.1)), .int (nI (nRd xb)), .ref (ob 0)]) rfl ?_
        refine q_cg (q_runV (As := [.int (nI (nRd xb)), .int (oFn (nI (nFn xb)) (oOth xb) ((R (nR1 xb)).2.1) ((R (nR2 xb)).2.1))]) (rest := []) S (c_Sta_answerNumber l D ti ad u pi ex de xi xb di db fi fb ob reg kq ca va fv R (nRd xb) (by first | decide | omega) (oFn (nI (nFn xb)) (oOth xb) ((R (nR1 xb)).2.1) ((R (nR2 xb)).2.1))) (cw_v hts tb_4_127 k_Sta_answerNumber rfl rfl ⟨by decide, by decide⟩) hw 16 rfl rfl rfl hl.1 rfl (Nat.le_of_ble_eq_true rfl) d_Bas_operate_98 ⟨Nat.zero_le _, Nat.zero_le _⟩) hw (fun z hD => CW_D (qD_same hD rfl)) (fun z9 H locs hp9 hw => ?_)
        refine W.eq (g2 := F0 m9 101 ls [.int (-1 : Int32)]) rfl ?_
        have hw : Lv _ _ _ _ _ (CW ad ti u pi ex de xi xb di db fi fb ob reg kq ca va fv (nR R (nRd xb) (oFn (nI (nFn xb)) (oOth xb) ((R (nR1 xb)).2.1) ((R (nR2 xb)).2.1)))) _ _ _ := hw
        exact hw.riz S hr hlk (rfl) d_Bas_operate_101 () (by simp [xOp, xOpG, h34, h38]) (trivial) (by simp [xOp, xOpG, h34, h38])
      · refine lv_aload_n hx hb d_Bas_operate_41 rfl (lv_at hl 1 rfl) ?_
        refine q_get S hw ly_Bas 18 rfl rfl 0 (by decide) tb_2_14 rfl rfl d_Bas_operate_42 ?_
        refine lv_aload_n hx hb d_Bas_operate_45 rfl (lv_at hl 2 rfl) ?_
        refine q_cg (q_runV (As := [.ref ex]) (rest := []) S (c_Sta_illegal l D ti ad u pi ex de xi xb di db fi fb ob reg kq ca va fv R) (cw_v hts tb_4_106 k_Sta_illegal rfl rfl ⟨by decide, by decide⟩) hw 16 rfl rfl rfl hl.1 rfl (Nat.le_of_ble_eq_true rfl) d_Bas_operate_46 ⟨Nat.zero_le _, Nat.zero_le _⟩) hw (fun z hD => qD_same hD rfl) (fun z9 H locs hp9 hw => ?_)
        refine W.eq (g2 := F0 m9 49 ls [.int (2 : Int32)]) rfl ?_
        have hw : Lv _ _ _ _ _ (CW ad ti u pi ex de xi xb di db fi fb ob reg kq ca va xb R) _ _ _ := hw
        exact hw.riz S hr hlk (rfl) d_Bas_operate_49 () (by simp [xOp, xOpG, h34, h38]) (trivial) (by simp [xOp, xOpG, h34, h38])
  · refine lv_aload_n hx hb d_Bas_operate_0 rfl (lv_at hl 1 rfl) ?_
    refine q_get S hw ly_Ins 14 rfl rfl 7 (by decide) tb_1_167 rfl rfl d_Bas_operate_1 ?_
    refine lv_bipush (v := 32) hx hb d_Bas_operate_4 (by decide) ?_
    refine lv_icmp_ne hx hb d_Bas_operate_6 rfl (fun h6 => ?_) (fun h6 => ?_)
    · refine lv_iconst (v := 0) hx hb d_Bas_operate_28 (by decide) ?_
      refine q_topi (z := (jb (oOth xb))) (by simp [oOth, jb, h6]) ?_
      exact J29 _ (lv_sub (l' := [(0, .ref (ob 2)), (1, .ref ex)]) hl [0, 1] rfl)
    · refine lv_aload_n hx hb d_Bas_operate_9 rfl (lv_at hl 1 rfl) ?_
      refine q_get S hw ly_Ins 14 rfl rfl 4 (by decide) tb_1_158 rfl rfl d_Bas_operate_10 ?_
      refine lv_if_eq hx hb d_Bas_operate_13 rfl (fun h13 => ?_) (fun h13 => ?_)
      · refine lv_iconst (v := 1) hx hb d_Bas_operate_24 (by decide) ?_
        refine lv_goto hx hb d_Bas_operate_25 rfl ?_
        refine q_topi (z := (jb (oOth xb))) (by simp [oOth, jb, h6, h13]) ?_
        exact J29 _ (lv_sub (l' := [(0, .ref (ob 2)), (1, .ref ex)]) hl [0, 1] rfl)
      · refine lv_aload_n hx hb d_Bas_operate_16 rfl (lv_at hl 1 rfl) ?_
        refine q_get S hw ly_Ins 14 rfl rfl 4 (by decide) tb_1_158 rfl rfl d_Bas_operate_17 ?_
        refine lv_iconst (v := 5) hx hb d_Bas_operate_20 (by decide) ?_
        refine lv_icmp_ne hx hb d_Bas_operate_21 rfl (fun h21 => ?_) (fun h21 => ?_)
        · refine lv_iconst (v := 0) hx hb d_Bas_operate_28 (by decide) ?_
          refine q_topi (z := (jb (oOth xb))) (by simp [oOth, jb, h6, h13, h21]) ?_
          exact J29 _ (lv_sub (l' := [(0, .ref (ob 2)), (1, .ref ex)]) hl [0, 1] rfl)
        · refine lv_iconst (v := 1) hx hb d_Bas_operate_24 (by decide) ?_
          refine lv_goto hx hb d_Bas_operate_25 rfl ?_
          refine q_topi (z := (jb (oOth xb))) (by simp [oOth, jb, h6, h13, h21]) ?_
          exact J29 _ (lv_sub (l' := [(0, .ref (ob 2)), (1, .ref ex)]) hl [0, 1] rfl)
set_option maxHeartbeats 4000000 in
set_option maxRecDepth 100000 in
theorem c_Bas_operateImmediate (l : Launch) (D : va_G) (ti : Nat → ClassId) (ad : Nat → Nat) (u : MT) (pi ex de : Nat) (xi xb di db fi fb : Int32) (ob reg : Nat → Nat) (kq : Int32 × Bool × Bool × Int32 × Int64) (ca va fv : Int32) (R : Nat → Cap) : Cg l y_Bas_operateImmediate (wl y_Bas_operateImmediate b_Bas_operateImmediate 5 (some .int)) (rmL 3) D clz (ty4 ti) [.ref (ob 2), .ref ex] (CW ad ti u pi ex de xi xb di db fi fb ob reg kq ca va fv R) (fun _ : Unit => some (.int (xOi fv R xb).1)) (fun _ => (CW ad ti u pi ex de xi xb di db fi fb ob reg kq ca va ((xOi fv R xb).2.1) ((xOi fv R xb).2.2))) (fun _ => True) := by
  refine Cg.ofF (plainFor_of_name (by decide)) (Nat.le_of_ble_eq_true rfl) ?_
  intro p9 e9 s9 m9 b9 me9 c9 ls S hr hlk hl hw
  obtain ⟨hx, hb, hml, hown, hts⟩ := id S
  have hl : lv_has ls 5 [(0, .ref (ob 2)), (1, .ref ex)] := hl
  have hr1 := nR1_lt xb
  have hr2 := nR2_lt xb
  have hrd := nRd_lt xb
  refine q_join (pcJ := 21) (st := [.int (jb (iSh xb))]) (lv' := [(0, .ref (ob 2)), (1, .ref ex)]) (nL := 5) (fun ls hl => ?_) (fun J21 => ?_)
  · refine lv_istore_n (lv' := [(2, .int (jb (iSh xb))), (0, .ref (ob 2)), (1, .ref ex)]) hx hb d_Bas_operateImmediate_21 rfl hl (by decide) rfl (fun ls hl => ?_)
    refine q_join (pcJ := 44) (st := [.int (jb (iOth xb))]) (lv' := [(2, .int (jb (iSh xb))), (0, .ref (ob 2)), (1, .ref ex)]) (nL := 5) (fun ls hl => ?_) (fun J44 => ?_)
    · refine lv_istore_n (lv' := [(3, .int (jb (iOth xb))), (2, .int (jb (iSh xb))), (0, .ref (ob 2)), (1, .ref ex)]) hx hb d_Bas_operateImmediate_44 rfl hl (by decide) rfl (fun ls hl => ?_)
      refine lv_iload_n hx hb d_Bas_operateImmediate_45 rfl (lv_at hl 1 rfl) ?_
      refine q_ifz_eq S d_Bas_operateImmediate_46 rfl (fun h46 => ?_) (fun h46 => ?_)
      · refine lv_aload_n hx hb d_Bas_operateImmediate_69 rfl (lv_at hl 3 rfl) ?_
        refine q_get S hw ly_Ins 14 rfl rfl 8 (by decide) tb_1_170 rfl rfl d_Bas_operateImmediate_70 ?_
        refine lv_istore (lv' := [(4, .int (iIm xb)), (3, .int (jb (iOth xb))), (2, .int (jb (iSh xb))), (0, .ref (ob 2)), (1, .ref ex)]) hx hb d_Bas_operateImmediate_73 hl (by decide) rfl (fun ls hl => ?_)
        refine lv_aload_n hx hb d_Bas_operateImmediate_75 rfl (lv_at hl 3 rfl) ?_
        refine q_get S hw ly_Bas 18 rfl rfl 0 (by decide) tb_2_14 rfl rfl d_Bas_operateImmediate_76 ?_
        refine lv_aload_n hx hb d_Bas_operateImmediate_79 rfl (lv_at hl 4 rfl) ?_
        refine q_get S hw ly_Ins 14 rfl rfl 3 (by decide) tb_1_154 rfl rfl d_Bas_operateImmediate_80 ?_
        refine lv_aload_n hx hb d_Bas_operateImmediate_83 rfl (lv_at hl 4 rfl) ?_
        refine q_get S hw ly_Ins 14 rfl rfl 4 (by decide) tb_1_158 rfl rfl d_Bas_operateImmediate_84 ?_
        refine lv_iload_n hx hb d_Bas_operateImmediate_87 rfl (lv_at hl 1 rfl) ?_
        refine lv_aload_n hx hb d_Bas_operateImmediate_88 rfl (lv_at hl 3 rfl) ?_
        refine q_get S hw ly_Bas 18 rfl rfl 0 (by decide) tb_2_14 rfl rfl d_Bas_operateImmediate_89 ?_
        refine q_get S hw ly_Sta 16 rfl rfl 0 (by decide) tb_1_209 rfl rfl d_Bas_operateImmediate_92 ?_
        refine lv_aload_n hx hb d_Bas_operateImmediate_95 rfl (lv_at hl 4 rfl) ?_
        refine q_get S hw ly_Ins 14 rfl rfl 5 (by decide) tb_1_161 rfl rfl d_Bas_operateImmediate_96 ?_
        refine q_aaldN (k := (nR1 xb)) S hw 17 3 rfl rfl (by first | assumption | omega) (by decide) d_Bas_operateImmediate_99 ?_
        refine q_get S hw ly_Cap (21 + (nR1 xb)) (CW_at (by first | decide | omega)) rfl 1 (by decide) tb_1_52 rfl rfl d_Bas_operateImmediate_100 ?_
        refine lv_iload hx hb d_Bas_operateImmediate_103 (lv_at hl 0 rfl) ?_
        refine q_cr (q_runS (As := [.int (nI (nFn xb)), .int (jb (iOth xb)), .int ((R (nR1 xb)).2.1), .int (iIm xb)]) (rest := [.int (nI (nRd xb)), .ref (ob 0)]) S ((c_Bas_computed l D (ty4 ti) (nI (nFn xb)) (iOth xb) ((R (nR1 xb)).2.1) (iIm xb)).nil _) (cw_s hts tb_4_132 k_Bas_computed rfl rfl ⟨by decide, by decide⟩) hw rfl hl.1 rfl (Nat.le_of_ble_eq_true rfl) d_Bas_operateImmediate_105 ⟨Nat.zero_le _, Nat.zero_le _⟩) ?_
        refine W.eq (g2 := F0 m9 108 ls [.int (oFn (nI (nFn xb)) (iOth xb) ((R (nR1 xb)).2.1) (iIm xb)), .int (nI (nRd xb)), .ref (ob 0)]) rfl ?_
        refine q_cg (q_runV (As := [.int (nI (nRd xb)), .int (oFn (nI (nFn xb)) (iOth xb) ((R (nR1 xb)).2.1) (iIm xb))]) (rest := []) S (c_Sta_answerNumber l D ti ad u pi ex de xi xb di db fi fb ob reg kq ca va fv R (nRd xb) (by first | decide | omega) (oFn (nI (nFn xb)) (iOth xb) ((R (nR1 xb)).2.1) (iIm xb))) (cw_v hts tb_4_127 k_Sta_answerNumber rfl rfl ⟨by decide, by decide⟩) hw 16 rfl rfl rfl hl.1 rfl (Nat.le_of_ble_eq_true rfl) d_Bas_operateImmediate_108 ⟨Nat.zero_le _, Nat.zero_le _⟩) hw (fun z hD => CW_D (qD_same hD rfl)) (fun z9 H locs hp9 hw => ?_)
        refine W.eq (g2 := F0 m9 111 ls [.int (-1 : Int32)]) rfl ?_
        have hw : Lv _ _ _ _ _ (CW ad ti u pi ex de xi xb di db fi fb ob reg kq ca va fv (nR R (nRd xb) (oFn (nI (nFn xb)) (iOth xb) ((R (nR1 xb)).2.1) (iIm xb)))) _ _ _ := hw
        exact hw.riz S hr hlk (rfl) d_Bas_operateImmediate_111 () (by simp [xOi, xOiG, h46]) (trivial) (by simp [xOi, xOiG, h46])
      · refine lv_aload_n hx hb d_Bas_operateImmediate_49 rfl (lv_at hl 3 rfl) ?_
        refine q_get S hw ly_Ins 14 rfl rfl 7 (by decide) tb_1_167 rfl rfl d_Bas_operateImmediate_50 ?_
        refine lv_if_eq hx hb d_Bas_operateImmediate_53 rfl (fun h53 => ?_) (fun h53 => ?_)
        · refine lv_aload_n hx hb d_Bas_operateImmediate_69 rfl (lv_at hl 3 rfl) ?_
          refine q_get S hw ly_Ins 14 rfl rfl 8 (by decide) tb_1_170 rfl rfl d_Bas_operateImmediate_70 ?_
          refine lv_istore (lv' := [(4, .int (iIm xb)), (3, .int (jb (iOth xb))), (2, .int (jb (iSh xb))), (0, .ref (ob 2)), (1, .ref ex)]) hx hb d_Bas_operateImmediate_73 hl (by decide) rfl (fun ls hl => ?_)
          refine lv_aload_n hx hb d_Bas_operateImmediate_75 rfl (lv_at hl 3 rfl) ?_
          refine q_get S hw ly_Bas 18 rfl rfl 0 (by decide) tb_2_14 rfl rfl d_Bas_operateImmediate_76 ?_
          refine lv_aload_n hx hb d_Bas_operateImmediate_79 rfl (lv_at hl 4 rfl) ?_
          refine q_get S hw ly_Ins 14 rfl rfl 3 (by decide) tb_1_154 rfl rfl d_Bas_operateImmediate_80 ?_
          refine lv_aload_n hx hb d_Bas_operateImmediate_83 rfl (lv_at hl 4 rfl) ?_
          refine q_get S hw ly_Ins 14 rfl rfl 4 (by decide) tb_1_158 rfl rfl d_Bas_operateImmediate_84 ?_
          refine lv_iload_n hx hb d_Bas_operateImmediate_87 rfl (lv_at hl 1 rfl) ?_
          refine lv_aload_n hx hb d_Bas_operateImmediate_88 rfl (lv_at hl 3 rfl) ?_
          refine q_get S hw ly_Bas 18 rfl rfl 0 (by decide) tb_2_14 rfl rfl d_Bas_operateImmediate_89 ?_
          refine q_get S hw ly_Sta 16 rfl rfl 0 (by decide) tb_1_209 rfl rfl d_Bas_operateImmediate_92 ?_
          refine lv_aload_n hx hb d_Bas_operateImmediate_95 rfl (lv_at hl 4 rfl) ?_
          refine q_get S hw ly_Ins 14 rfl rfl 5 (by decide) tb_1_161 rfl rfl d_Bas_operateImmediate_96 ?_
          refine q_aaldN (k := (nR1 xb)) S hw 17 3 rfl rfl (by first | assumption | omega) (by decide) d_Bas_operateImmediate_99 ?_
          refine q_get S hw ly_Cap (21 + (nR1 xb)) (CW_at (by first | decide | omega)) rfl 1 (by decide) tb_1_52 rfl rfl d_Bas_operateImmediate_100 ?_
          refine lv_iload hx hb d_Bas_operateImmediate_103 (lv_at hl 0 rfl) ?_
          refine q_cr (q_runS (As := [.int (nI (nFn xb)), .int (jb (iOth xb)), .int ((R (nR1 xb)).2.1), .int (iIm xb)]) (rest := [.int (nI (nRd xb)), .ref (ob 0)]) S ((c_Bas_computed l D (ty4 ti) (nI (nFn xb)) (iOth xb) ((R (nR1 xb)).2.1) (iIm xb)).nil _) (cw_s hts tb_4_132 k_Bas_computed rfl rfl ⟨by decide, by decide⟩) hw rfl hl.1 rfl (Nat.le_of_ble_eq_true rfl) d_Bas_operateImmediate_105 ⟨Nat.zero_le _, Nat.zero_le _⟩) ?_
          refine W.eq (g2 := F0 m9 108 ls [.int (oFn (nI (nFn xb)) (iOth xb) ((R (nR1 xb)).2.1) (iIm xb)), .int (nI (nRd xb)), .ref (ob 0)]) rfl ?_
          refine q_cg (q_runV (As := [.int (nI (nRd xb)), .int (oFn (nI (nFn xb)) (iOth xb) ((R (nR1 xb)).2.1) (iIm xb))]) (rest := []) S (c_Sta_answerNumber l D ti ad u pi ex de xi xb di db fi fb ob reg kq ca va fv R (nRd xb) (by first | decide | omega) (oFn (nI (nFn xb)) (iOth xb) ((R (nR1 xb)).2.1) (iIm xb))) (cw_v hts tb_4_127 k_Sta_answerNumber rfl rfl ⟨by decide, by decide⟩) hw 16 rfl rfl rfl hl.1 rfl (Nat.le_of_ble_eq_true rfl) d_Bas_operateImmediate_108 ⟨Nat.zero_le _, Nat.zero_le _⟩) hw (fun z hD => CW_D (qD_same hD rfl)) (fun z9 H locs hp9 hw => ?_)
          refine W.eq (g2 := F0 m9 111 ls [.int (-1 : Int32)]) rfl ?_
          have hw : Lv _ _ _ _ _ (CW ad ti u pi ex de xi xb di db fi fb ob reg kq ca va fv (nR R (nRd xb) (oFn (nI (nFn xb)) (iOth xb) ((R (nR1 xb)).2.1) (iIm xb)))) _ _ _ := hw
          exact hw.riz S hr hlk (rfl) d_Bas_operateImmediate_111 () (by simp [xOi, xOiG, h46, h53]) (trivial) (by simp [xOi, xOiG, h46, h53])
        · refine lv_iload_n hx hb d_Bas_operateImmediate_56 rfl (lv_at hl 0 rfl) ?_
          refine q_ifz_ne S d_Bas_operateImmediate_57 rfl (fun h57 => ?_) (fun h57 => ?_)
          · refine lv_aload_n hx hb d_Bas_operateImmediate_69 rfl (lv_at hl 3 rfl) ?_
            refine q_get S hw ly_Ins 14 rfl rfl 8 (by decide) tb_1_170 rfl rfl d_Bas_operateImmediate_70 ?_
            refine lv_istore (lv' := [(4, .int (iIm xb)), (3, .int (jb (iOth xb))), (2, .int (jb (iSh xb))), (0, .ref (ob 2)), (1, .ref ex)]) hx hb d_Bas_operateImmediate_73 hl (by decide) rfl (fun ls hl => ?_)
            refine lv_aload_n hx hb d_Bas_operateImmediate_75 rfl (lv_at hl 3 rfl) ?_
            refine q_get S hw ly_Bas 18 rfl rfl 0 (by decide) tb_2_14 rfl rfl d_Bas_operateImmediate_76 ?_
            refine lv_aload_n hx hb d_Bas_operateImmediate_79 rfl (lv_at hl 4 rfl) ?_
            refine q_get S hw ly_Ins 14 rfl rfl 3 (by decide) tb_1_154 rfl rfl d_Bas_operateImmediate_80 ?_
            refine lv_aload_n hx hb d_Bas_operateImmediate_83 rfl (lv_at hl 4 rfl) ?_
            refine q_get S hw ly_Ins 14 rfl rfl 4 (by decide) tb_1_158 rfl rfl d_Bas_operateImmediate_84 ?_
            refine lv_iload_n hx hb d_Bas_operateImmediate_87 rfl (lv_at hl 1 rfl) ?_
            refine lv_aload_n hx hb d_Bas_operateImmediate_88 rfl (lv_at hl 3 rfl) ?_
            refine q_get S hw ly_Bas 18 rfl rfl 0 (by decide) tb_2_14 rfl rfl d_Bas_operateImmediate_89 ?_
            refine q_get S hw ly_Sta 16 rfl rfl 0 (by decide) tb_1_209 rfl rfl d_Bas_operateImmediate_92 ?_
            refine lv_aload_n hx hb d_Bas_operateImmediate_95 rfl (lv_at hl 4 rfl) ?_
            refine q_get S hw ly_Ins 14 rfl rfl 5 (by decide) tb_1_161 rfl rfl d_Bas_operateImmediate_96 ?_
            refine q_aaldN (k := (nR1 xb)) S hw 17 3 rfl rfl (by first | assumption | omega) (by decide) d_Bas_operateImmediate_99 ?_
            refine q_get S hw ly_Cap (21 + (nR1 xb)) (CW_at (by first | decide | omega)) rfl 1 (by decide) tb_1_52 rfl rfl d_Bas_operateImmediate_100 ?_
            refine lv_iload hx hb d_Bas_operateImmediate_103 (lv_at hl 0 rfl) ?_
            refine q_cr (q_runS (As := [.int (nI (nFn xb)), .int (jb (iOth xb)), .int ((R (nR1 xb)).2.1), .int (iIm xb)]) (rest := [.int (nI (nRd xb)), .ref (ob 0)]) S ((c_Bas_computed l D (ty4 ti) (nI (nFn xb)) (iOth xb) ((R (nR1 xb)).2.1) (iIm xb)).nil _) (cw_s hts tb_4_132 k_Bas_computed rfl rfl ⟨by decide, by decide⟩) hw rfl hl.1 rfl (Nat.le_of_ble_eq_true rfl) d_Bas_operateImmediate_105 ⟨Nat.zero_le _, Nat.zero_le _⟩) ?_
            refine W.eq (g2 := F0 m9 108 ls [.int (oFn (nI (nFn xb)) (iOth xb) ((R (nR1 xb)).2.1) (iIm xb)), .int (nI (nRd xb)), .ref (ob 0)]) rfl ?_
            refine q_cg (q_runV (As := [.int (nI (nRd xb)), .int (oFn (nI (nFn xb)) (iOth xb) ((R (nR1 xb)).2.1) (iIm xb))]) (rest := []) S (c_Sta_answerNumber l D ti ad u pi ex de xi xb di db fi fb ob reg kq ca va fv R (nRd xb) (by first | decide | omega) (oFn (nI (nFn xb)) (iOth xb) ((R (nR1 xb)).2.1) (iIm xb))) (cw_v hts tb_4_127 k_Sta_answerNumber rfl rfl ⟨by decide, by decide⟩) hw 16 rfl rfl rfl hl.1 rfl (Nat.le_of_ble_eq_true rfl) d_Bas_operateImmediate_108 ⟨Nat.zero_le _, Nat.zero_le _⟩) hw (fun z hD => CW_D (qD_same hD rfl)) (fun z9 H locs hp9 hw => ?_)
            refine W.eq (g2 := F0 m9 111 ls [.int (-1 : Int32)]) rfl ?_
            have hw : Lv _ _ _ _ _ (CW ad ti u pi ex de xi xb di db fi fb ob reg kq ca va fv (nR R (nRd xb) (oFn (nI (nFn xb)) (iOth xb) ((R (nR1 xb)).2.1) (iIm xb)))) _ _ _ := hw
            exact hw.riz S hr hlk (rfl) d_Bas_operateImmediate_111 () (by simp [xOi, xOiG, h46, h53, h57]) (trivial) (by simp [xOi, xOiG, h46, h53, h57])
          · refine lv_aload_n hx hb d_Bas_operateImmediate_60 rfl (lv_at hl 2 rfl) ?_
            refine q_get S hw ly_Bas 18 rfl rfl 0 (by decide) tb_2_14 rfl rfl d_Bas_operateImmediate_61 ?_
            refine lv_aload_n hx hb d_Bas_operateImmediate_64 rfl (lv_at hl 3 rfl) ?_
            refine q_cg (q_runV (As := [.ref ex]) (rest := []) S (c_Sta_illegal l D ti ad u pi ex de xi xb di db fi fb ob reg kq ca va fv R) (cw_v hts tb_4_106 k_Sta_illegal rfl rfl ⟨by decide, by decide⟩) hw 16 rfl rfl rfl hl.1 rfl (Nat.le_of_ble_eq_true rfl) d_Bas_operateImmediate_65 ⟨Nat.zero_le _, Nat.zero_le _⟩) hw (fun z hD => qD_same hD rfl) (fun z9 H locs hp9 hw => ?_)
            refine W.eq (g2 := F0 m9 68 ls [.int (2 : Int32)]) rfl ?_
            have hw : Lv _ _ _ _ _ (CW ad ti u pi ex de xi xb di db fi fb ob reg kq ca va xb R) _ _ _ := hw
            exact hw.riz S hr hlk (rfl) d_Bas_operateImmediate_68 () (by simp [xOi, xOiG, h46, h53, h57]) (trivial) (by simp [xOi, xOiG, h46, h53, h57])
    · refine lv_aload_n hx hb d_Bas_operateImmediate_22 rfl (lv_at hl 2 rfl) ?_
      refine q_get S hw ly_Ins 14 rfl rfl 7 (by decide) tb_1_167 rfl rfl d_Bas_operateImmediate_23 ?_
      refine lv_bipush (v := 32) hx hb d_Bas_operateImmediate_26 (by decide) ?_
      refine lv_icmp_ne hx hb d_Bas_operateImmediate_28 rfl (fun h28 => ?_) (fun h28 => ?_)
      · refine lv_iconst (v := 0) hx hb d_Bas_operateImmediate_43 (by decide) ?_
        refine q_topi (z := (jb (iOth xb))) (by simp [iOth, jb, h28]) ?_
        exact J44 _ (lv_sub (l' := [(2, .int (jb (iSh xb))), (0, .ref (ob 2)), (1, .ref ex)]) hl [0, 1, 2] rfl)
      · refine lv_aload_n hx hb d_Bas_operateImmediate_31 rfl (lv_at hl 2 rfl) ?_
        refine q_get S hw ly_Ins 14 rfl rfl 4 (by decide) tb_1_158 rfl rfl d_Bas_operateImmediate_32 ?_
        refine lv_iconst (v := 5) hx hb d_Bas_operateImmediate_35 (by decide) ?_
        refine lv_icmp_ne hx hb d_Bas_operateImmediate_36 rfl (fun h36 => ?_) (fun h36 => ?_)
        · refine lv_iconst (v := 0) hx hb d_Bas_operateImmediate_43 (by decide) ?_
          refine q_topi (z := (jb (iOth xb))) (by simp [iOth, jb, h28, h36]) ?_
          exact J44 _ (lv_sub (l' := [(2, .int (jb (iSh xb))), (0, .ref (ob 2)), (1, .ref ex)]) hl [0, 1, 2] rfl)
        · refine lv_iconst (v := 1) hx hb d_Bas_operateImmediate_39 (by decide) ?_
          refine lv_goto hx hb d_Bas_operateImmediate_40 rfl ?_
          refine q_topi (z := (jb (iOth xb))) (by simp [iOth, jb, h28, h36]) ?_
          exact J44 _ (lv_sub (l' := [(2, .int (jb (iSh xb))), (0, .ref (ob 2)), (1, .ref ex)]) hl [0, 1, 2] rfl)
  · refine lv_aload_n hx hb d_Bas_operateImmediate_0 rfl (lv_at hl 1 rfl) ?_
    refine q_get S hw ly_Ins 14 rfl rfl 4 (by decide) tb_1_158 rfl rfl d_Bas_operateImmediate_1 ?_
    refine lv_iconst (v := 1) hx hb d_Bas_operateImmediate_4 (by decide) ?_
    refine lv_icmp_eq hx hb d_Bas_operateImmediate_5 rfl (fun h5 => ?_) (fun h5 => ?_)
    · refine lv_iconst (v := 1) hx hb d_Bas_operateImmediate_16 (by decide) ?_
      refine lv_goto hx hb d_Bas_operateImmediate_17 rfl ?_
      refine q_topi (z := (jb (iSh xb))) (by simp [iSh, jb, h5]) ?_
      exact J21 _ (lv_sub (l' := [(0, .ref (ob 2)), (1, .ref ex)]) hl [0, 1] rfl)
    · refine lv_aload_n hx hb d_Bas_operateImmediate_8 rfl (lv_at hl 1 rfl) ?_
      refine q_get S hw ly_Ins 14 rfl rfl 4 (by decide) tb_1_158 rfl rfl d_Bas_operateImmediate_9 ?_
      refine lv_iconst (v := 5) hx hb d_Bas_operateImmediate_12 (by decide) ?_
      refine lv_icmp_ne hx hb d_Bas_operateImmediate_13 rfl (fun h13 => ?_) (fun h13 => ?_)
      · refine lv_iconst (v := 0) hx hb d_Bas_operateImmediate_20 (by decide) ?_
        refine q_topi (z := (jb (iSh xb))) (by simp [iSh, jb, h5, h13]) ?_
        exact J21 _ (lv_sub (l' := [(0, .ref (ob 2)), (1, .ref ex)]) hl [0, 1] rfl)
      · refine lv_iconst (v := 1) hx hb d_Bas_operateImmediate_16 (by decide) ?_
        refine lv_goto hx hb d_Bas_operateImmediate_17 rfl ?_
        refine q_topi (z := (jb (iSh xb))) (by simp [iSh, jb, h5, h13]) ?_
        exact J21 _ (lv_sub (l' := [(0, .ref (ob 2)), (1, .ref ex)]) hl [0, 1] rfl)
set_option maxHeartbeats 4000000 in
set_option maxRecDepth 100000 in
theorem c_Bas_jumpFault (l : Launch) (D : va_G) (ti : Nat → ClassId) (ad : Nat → Nat) (u : MT) (pi ex de : Nat) (xi xb di db fi fb : Int32) (ob reg : Nat → Nat) (kq : Int32 × Bool × Bool × Int32 × Int64) (ca va fv : Int32) (R : Nat → Cap) (x : Int32) : Cg l y_Bas_jumpFault (wl y_Bas_jumpFault b_Bas_jumpFault 2 (some .int)) (rmL 2) D clz (ty4 ti) [.ref (ob 2), .int x] (CW ad ti u pi ex de xi xb di db fi fb ob reg kq ca va fv R) (fun _ : Unit => some (.int (jF fv (R 32) x).1)) (fun _ => (CW ad ti u pi ex de xi xb di db fi fb ob reg kq ca va ((jF fv (R 32) x).2) R)) (fun _ => True) := by
  refine Cg.ofF (plainFor_of_name (by decide)) (Nat.le_of_ble_eq_true rfl) ?_
  intro p9 e9 s9 m9 b9 me9 c9 ls S hr hlk hl hw
  obtain ⟨hx, hb, hml, hown, hts⟩ := id S
  have hl : lv_has ls 2 [(0, .ref (ob 2)), (1, .int x)] := hl
  have hr1 := nR1_lt xb
  have hr2 := nR2_lt xb
  have hrd := nRd_lt xb
  refine lv_aload_n hx hb d_Bas_jumpFault_0 rfl (lv_at hl 0 rfl) ?_
  refine q_get S hw ly_Bas 18 rfl rfl 0 (by decide) tb_2_14 rfl rfl d_Bas_jumpFault_1 ?_
  refine q_get S hw ly_Sta 16 rfl rfl 1 (by decide) tb_1_211 rfl rfl d_Bas_jumpFault_4 ?_
  refine lv_iload_n hx hb d_Bas_jumpFault_7 rfl (lv_at hl 1 rfl) ?_
  refine lv_ldc2 (v := 4) hx hb hown (hts _ tb_4_187) d_Bas_jumpFault_8 ?_
  refine q_cr (q_runV (As := [.int x, .long (4 : Int64)]) (rest := []) S (w_covers l D ti ad u pi ex de xi xb di db fi fb ob reg kq ca va fv R (32) (by first | decide | omega) x (4 : Int64)) (cw_v hts tb_4_188 k_Cap_covers rfl rfl ⟨by decide, by decide⟩) hw (21 + (32)) (CW_at (by first | decide | omega)) rfl rfl hl.1 rfl (Nat.le_of_ble_eq_true rfl) d_Bas_jumpFault_11 ⟨Nat.zero_le _, Nat.zero_le _⟩) ?_
  refine W.eq (g2 := F0 m9 14 ls [.int (jb (cCov (cbase (R 32).2.2 (R 32).2.1) (ctop (R 32).2.2 (R 32).2.1) x (4 : Int64)))]) rfl ?_
  refine q_ifz_ne S d_Bas_jumpFault_14 rfl (fun h14 => ?_) (fun h14 => ?_)
  · refine lv_iload_n hx hb d_Bas_jumpFault_28 rfl (lv_at hl 1 rfl) ?_
    refine lv_iconst (v := 3) hx hb d_Bas_jumpFault_29 (by decide) ?_
    refine lv_iand hx hb d_Bas_jumpFault_30 ?_
    refine lv_if_ne hx hb d_Bas_jumpFault_31 rfl (fun h31 => ?_) (fun h31 => ?_)
    · refine lv_aload_n hx hb d_Bas_jumpFault_38 rfl (lv_at hl 0 rfl) ?_
      refine q_get S hw ly_Bas 18 rfl rfl 0 (by decide) tb_2_14 rfl rfl d_Bas_jumpFault_39 ?_
      refine lv_iconst (v := 0) hx hb d_Bas_jumpFault_42 (by decide) ?_
      refine lv_iload_n hx hb d_Bas_jumpFault_43 rfl (lv_at hl 1 rfl) ?_
      refine q_cg (q_runV (As := [.int (0 : Int32), .int x]) (rest := []) S (c_Sta_fault l D ti ad u pi ex de xi xb di db fi fb ob reg kq ca va fv R (0 : Int32) x) (cw_v hts tb_4_189 k_Sta_fault rfl rfl ⟨by decide, by decide⟩) hw 16 rfl rfl rfl hl.1 rfl (Nat.le_of_ble_eq_true rfl) d_Bas_jumpFault_44 ⟨Nat.zero_le _, Nat.zero_le _⟩) hw (fun z hD => qD_same hD rfl) (fun z9 H locs hp9 hw => ?_)
      refine W.eq (g2 := F0 m9 47 ls [.int (0 : Int32)]) rfl ?_
      have hw : Lv _ _ _ _ _ (CW ad ti u pi ex de xi xb di db fi fb ob reg kq ca va x R) _ _ _ := hw
      exact hw.riz S hr hlk (rfl) d_Bas_jumpFault_47 () (by simp [jF, h14, h31]) (trivial) (by simp [jF, h14, h31])
    · refine lv_iconst (v := -1) hx hb d_Bas_jumpFault_34 (by decide) ?_
      refine lv_goto hx hb d_Bas_jumpFault_35 rfl ?_
      exact hw.riz S hr hlk (rfl) d_Bas_jumpFault_47 () (by simp [jF, h14, h31]) (trivial) (by simp [jF, h14, h31])
  · refine lv_aload_n hx hb d_Bas_jumpFault_17 rfl (lv_at hl 0 rfl) ?_
    refine q_get S hw ly_Bas 18 rfl rfl 0 (by decide) tb_2_14 rfl rfl d_Bas_jumpFault_18 ?_
    refine lv_bipush (v := 32) hx hb d_Bas_jumpFault_21 (by decide) ?_
    refine lv_iconst (v := 1) hx hb d_Bas_jumpFault_23 (by decide) ?_
    refine q_cg (q_runV (As := [.int (32 : Int32), .int (1 : Int32)]) (rest := []) S (c_Sta_capabilityFault l D ti ad u pi ex de xi xb di db fi fb ob reg kq ca va fv R 32 (1 : Int32)) (cw_v hts tb_4_156 k_Sta_capabilityFault rfl rfl ⟨by decide, by decide⟩) hw 16 rfl rfl rfl hl.1 rfl (Nat.le_of_ble_eq_true rfl) d_Bas_jumpFault_24 ⟨Nat.zero_le _, Nat.zero_le _⟩) hw (fun z hD => qD_same hD rfl) (fun z9 H locs hp9 hw => ?_)
    refine W.eq (g2 := F0 m9 27 ls [.int (28 : Int32)]) rfl ?_
    have hw : Lv _ _ _ _ _ (CW ad ti u pi ex de xi xb di db fi fb ob reg kq ca va (32 * nI 32 + (1 : Int32)) R) _ _ _ := hw
    exact hw.riz S hr hlk (rfl) d_Bas_jumpFault_27 () (by simp [jF, h14]) (trivial) (by simp [jF, h14])
set_option maxHeartbeats 4000000 in
set_option maxRecDepth 100000 in
theorem c_Bas_branch (l : Launch) (D : va_G) (ti : Nat → ClassId) (ad : Nat → Nat) (u : MT) (pi ex de : Nat) (xi xb di db fi fb : Int32) (ob reg : Nat → Nat) (kq : Int32 × Bool × Bool × Int32 × Int64) (ca va fv : Int32) (R : Nat → Cap) : Cg l y_Bas_branch (wl y_Bas_branch b_Bas_branch 6 (some .int)) (rmL 3) D clz (ty4 ti) [.ref (ob 2), .ref ex] (CW ad ti u pi ex de xi xb di db fi fb ob reg kq ca va fv R) (fun _ : Unit => some (.int (xBr fv R xb).1)) (fun _ => (CW ad ti u pi ex de xi xb di db fi fb ob reg kq ca va ((xBr fv R xb).2.1) ((xBr fv R xb).2.2))) (fun _ => True) := by
  refine Cg.ofF (plainFor_of_name (by decide)) (Nat.le_of_ble_eq_true rfl) ?_
  intro p9 e9 s9 m9 b9 me9 c9 ls S hr hlk hl hw
  obtain ⟨hx, hb, hml, hown, hts⟩ := id S
  have hl : lv_has ls 6 [(0, .ref (ob 2)), (1, .ref ex)] := hl
  have hr1 := nR1_lt xb
  have hr2 := nR2_lt xb
  have hrd := nRd_lt xb
  refine lv_aload_n hx hb d_Bas_branch_0 rfl (lv_at hl 1 rfl) ?_
  refine q_get S hw ly_Ins 14 rfl rfl 4 (by decide) tb_1_158 rfl rfl d_Bas_branch_1 ?_
  refine lv_iconst (v := 2) hx hb d_Bas_branch_4 (by decide) ?_
  refine lv_icmp_eq hx hb d_Bas_branch_5 rfl (fun h5 => ?_) (fun h5 => ?_)
  · refine lv_aload_n hx hb d_Bas_branch_16 rfl (lv_at hl 0 rfl) ?_
    refine q_get S hw ly_Bas 18 rfl rfl 0 (by decide) tb_2_14 rfl rfl d_Bas_branch_17 ?_
    refine lv_aload_n hx hb d_Bas_branch_20 rfl (lv_at hl 1 rfl) ?_
    refine q_cg (q_runV (As := [.ref ex]) (rest := []) S (c_Sta_illegal l D ti ad u pi ex de xi xb di db fi fb ob reg kq ca va fv R) (cw_v hts tb_4_106 k_Sta_illegal rfl rfl ⟨by decide, by decide⟩) hw 16 rfl rfl rfl hl.1 rfl (Nat.le_of_ble_eq_true rfl) d_Bas_branch_21 ⟨Nat.zero_le _, Nat.zero_le _⟩) hw (fun z hD => qD_same hD rfl) (fun z9 H locs hp9 hw => ?_)
    refine W.eq (g2 := F0 m9 24 ls [.int (2 : Int32)]) rfl ?_
    have hw : Lv _ _ _ _ _ (CW ad ti u pi ex de xi xb di db fi fb ob reg kq ca va xb R) _ _ _ := hw
    exact hw.riz S hr hlk (rfl) d_Bas_branch_24 () (by simp [xBr, h5]) (trivial) (by simp [xBr, h5])
  · refine lv_aload_n hx hb d_Bas_branch_8 rfl (lv_at hl 1 rfl) ?_
    refine q_get S hw ly_Ins 14 rfl rfl 4 (by decide) tb_1_158 rfl rfl d_Bas_branch_9 ?_
    refine lv_iconst (v := 3) hx hb d_Bas_branch_12 (by decide) ?_
    refine lv_icmp_ne hx hb d_Bas_branch_13 rfl (fun h13 => ?_) (fun h13 => ?_)
    · refine lv_aload_n hx hb d_Bas_branch_25 rfl (lv_at hl 0 rfl) ?_
      refine q_get S hw ly_Bas 18 rfl rfl 0 (by decide) tb_2_14 rfl rfl d_Bas_branch_26 ?_
      refine q_get S hw ly_Sta 16 rfl rfl 0 (by decide) tb_1_209 rfl rfl d_Bas_branch_29 ?_
      refine lv_aload_n hx hb d_Bas_branch_32 rfl (lv_at hl 1 rfl) ?_
      refine q_get S hw ly_Ins 14 rfl rfl 5 (by decide) tb_1_161 rfl rfl d_Bas_branch_33 ?_
      refine q_aaldN (k := (nR1 xb)) S hw 17 3 rfl rfl (by first | assumption | omega) (by decide) d_Bas_branch_36 ?_
      refine q_get S hw ly_Cap (21 + (nR1 xb)) (CW_at (by first | decide | omega)) rfl 1 (by decide) tb_1_52 rfl rfl d_Bas_branch_37 ?_
      refine lv_istore_n (lv' := [(2, .int ((R (nR1 xb)).2.1)), (0, .ref (ob 2)), (1, .ref ex)]) hx hb d_Bas_branch_40 rfl hl (by decide) rfl (fun ls hl => ?_)
      refine lv_aload_n hx hb d_Bas_branch_41 rfl (lv_at hl 1 rfl) ?_
      refine q_get S hw ly_Bas 18 rfl rfl 0 (by decide) tb_2_14 rfl rfl d_Bas_branch_42 ?_
      refine q_get S hw ly_Sta 16 rfl rfl 0 (by decide) tb_1_209 rfl rfl d_Bas_branch_45 ?_
      refine lv_aload_n hx hb d_Bas_branch_48 rfl (lv_at hl 2 rfl) ?_
      refine q_get S hw ly_Ins 14 rfl rfl 6 (by decide) tb_1_164 rfl rfl d_Bas_branch_49 ?_
      refine q_aaldN (k := (nR2 xb)) S hw 17 3 rfl rfl (by first | assumption | omega) (by decide) d_Bas_branch_52 ?_
      refine q_get S hw ly_Cap (21 + (nR2 xb)) (CW_at (by first | decide | omega)) rfl 1 (by decide) tb_1_52 rfl rfl d_Bas_branch_53 ?_
      refine lv_istore_n (lv' := [(3, .int ((R (nR2 xb)).2.1)), (2, .int ((R (nR1 xb)).2.1)), (0, .ref (ob 2)), (1, .ref ex)]) hx hb d_Bas_branch_56 rfl hl (by decide) rfl (fun ls hl => ?_)
      refine lv_aload_n hx hb d_Bas_branch_57 rfl (lv_at hl 3 rfl) ?_
      refine q_get S hw ly_Ins 14 rfl rfl 4 (by decide) tb_1_158 rfl rfl d_Bas_branch_58 ?_
      refine lv_iload_n hx hb d_Bas_branch_61 rfl (lv_at hl 1 rfl) ?_
      refine lv_iload_n hx hb d_Bas_branch_62 rfl (lv_at hl 0 rfl) ?_
      refine q_cr (q_runS (As := [.int (nI (nFn xb)), .int ((R (nR1 xb)).2.1), .int ((R (nR2 xb)).2.1)]) (rest := []) S ((c_Bas_isTaken l D (ty4 ti) (nI (nFn xb)) ((R (nR1 xb)).2.1) ((R (nR2 xb)).2.1)).nil _) (cw_s hts tb_4_180 k_Bas_isTaken rfl rfl ⟨by decide, by decide⟩) hw rfl hl.1 rfl (Nat.le_of_ble_eq_true rfl) d_Bas_branch_63 ⟨Nat.zero_le _, Nat.zero_le _⟩) ?_
      refine W.eq (g2 := F0 m9 66 ls [.int (jb (tkB (nI (nFn xb)) ((R (nR1 xb)).2.1) ((R (nR2 xb)).2.1)))]) rfl ?_
      refine q_ifz_ne S d_Bas_branch_66 rfl (fun h66 => ?_) (fun h66 => ?_)
      · refine lv_aload_n hx hb d_Bas_branch_71 rfl (lv_at hl 2 rfl) ?_
        refine q_get S hw ly_Bas 18 rfl rfl 0 (by decide) tb_2_14 rfl rfl d_Bas_branch_72 ?_
        refine q_get S hw ly_Sta 16 rfl rfl 1 (by decide) tb_1_211 rfl rfl d_Bas_branch_75 ?_
        refine q_get S hw ly_Cap (21 + (32)) (CW_at (by first | decide | omega)) rfl 1 (by decide) tb_1_52 rfl rfl d_Bas_branch_78 ?_
        refine lv_aload_n hx hb d_Bas_branch_81 rfl (lv_at hl 3 rfl) ?_
        refine q_get S hw ly_Ins 14 rfl rfl 8 (by decide) tb_1_170 rfl rfl d_Bas_branch_82 ?_
        refine lv_iadd hx hb d_Bas_branch_85 ?_
        refine lv_istore (lv' := [(4, .int (((R 32).2.1) + (iIm xb))), (3, .int ((R (nR2 xb)).2.1)), (2, .int ((R (nR1 xb)).2.1)), (0, .ref (ob 2)), (1, .ref ex)]) hx hb d_Bas_branch_86 hl (by decide) rfl (fun ls hl => ?_)
        refine lv_aload_n hx hb d_Bas_branch_88 rfl (lv_at hl 3 rfl) ?_
        refine lv_iload hx hb d_Bas_branch_89 (lv_at hl 0 rfl) ?_
        refine q_cg (q_runV (As := [.int (((R 32).2.1) + (iIm xb))]) (rest := []) S (c_Bas_jumpFault l D ti ad u pi ex de xi xb di db fi fb ob reg kq ca va fv R (((R 32).2.1) + (iIm xb))) (cw_v hts tb_4_183 k_Bas_jumpFault rfl rfl ⟨by decide, by decide⟩) hw 18 rfl rfl rfl hl.1 rfl (Nat.le_of_ble_eq_true rfl) d_Bas_branch_91 ⟨Nat.zero_le _, Nat.zero_le _⟩) hw (fun z hD => qD_same hD rfl) (fun z9 H locs hp9 hw => ?_)
        refine W.eq (g2 := F0 m9 94 ls [.int ((jF fv (R 32) (((R 32).2.1) + (iIm xb))).1)]) rfl ?_
        have hw : Lv _ _ _ _ _ (CW ad ti u pi ex de xi xb di db fi fb ob reg kq ca va ((jF fv (R 32) (((R 32).2.1) + (iIm xb))).2) R) _ _ _ := hw
        refine lv_istore (lv' := [(5, .int ((jF fv (R 32) (((R 32).2.1) + (iIm xb))).1)), (4, .int (((R 32).2.1) + (iIm xb))), (3, .int ((R (nR2 xb)).2.1)), (2, .int ((R (nR1 xb)).2.1)), (0, .ref (ob 2)), (1, .ref ex)]) hx hb d_Bas_branch_94 hl (by decide) rfl (fun ls hl => ?_)
        refine lv_iload hx hb d_Bas_branch_96 (lv_at hl 0 rfl) ?_
        refine lv_iconst (v := -1) hx hb d_Bas_branch_98 (by decide) ?_
        refine lv_icmp_ne hx hb d_Bas_branch_99 rfl (fun h99 => ?_) (fun h99 => ?_)
        · refine lv_iload hx hb d_Bas_branch_117 (lv_at hl 0 rfl) ?_
          exact hw.riz S hr hlk (rfl) d_Bas_branch_119 () (by simp [xBr, h5, h13, h66, h99]) (trivial) (by simp [xBr, h5, h13, h66, h99])
        · refine lv_aload_n hx hb d_Bas_branch_102 rfl (lv_at hl 4 rfl) ?_
          refine q_get S hw ly_Bas 18 rfl rfl 0 (by decide) tb_2_14 rfl rfl d_Bas_branch_103 ?_
          refine q_get S hw ly_Sta 16 rfl rfl 1 (by decide) tb_1_211 rfl rfl d_Bas_branch_106 ?_
          refine lv_iload hx hb d_Bas_branch_109 (lv_at hl 1 rfl) ?_
          refine q_cg (q_runV (As := [.int (((R 32).2.1) + (iIm xb))]) (rest := []) S (w_moveTo l D ti ad u pi ex de xi xb di db fi fb ob reg kq ca va ((jF fv (R 32) (((R 32).2.1) + (iIm xb))).2) R (32) (by first | decide | omega) (((R 32).2.1) + (iIm xb))) (cw_v hts tb_4_147 k_Cap_moveTo rfl rfl ⟨by decide, by decide⟩) hw (21 + (32)) (CW_at (by first | decide | omega)) rfl rfl hl.1 rfl (Nat.le_of_ble_eq_true rfl) d_Bas_branch_111 ⟨Nat.zero_le _, Nat.zero_le _⟩) hw (fun z hD => CW_D hD) (fun z9 H locs hp9 hw => ?_)
          refine W.eq (g2 := F0 m9 114 ls []) rfl ?_
          have hw : Lv _ _ _ _ _ (CW ad ti u pi ex de xi xb di db fi fb ob reg kq ca va ((jF fv (R 32) (((R 32).2.1) + (iIm xb))).2) (va_up R (32) (cMvC (R 32) (((R 32).2.1) + (iIm xb))))) _ _ _ := hw
          refine lv_bipush (v := -2) hx hb d_Bas_branch_114 (by decide) ?_
          exact hw.riz S hr hlk (rfl) d_Bas_branch_116 () (by simp [xBr, h5, h13, h66, h99]) (trivial) (by simp [xBr, h5, h13, h66, h99])
      · refine lv_iconst (v := -1) hx hb d_Bas_branch_69 (by decide) ?_
        exact hw.riz S hr hlk (rfl) d_Bas_branch_70 () (by simp [xBr, h5, h13, h66]) (trivial) (by simp [xBr, h5, h13, h66])
    · refine lv_aload_n hx hb d_Bas_branch_16 rfl (lv_at hl 0 rfl) ?_
      refine q_get S hw ly_Bas 18 rfl rfl 0 (by decide) tb_2_14 rfl rfl d_Bas_branch_17 ?_
      refine lv_aload_n hx hb d_Bas_branch_20 rfl (lv_at hl 1 rfl) ?_
      refine q_cg (q_runV (As := [.ref ex]) (rest := []) S (c_Sta_illegal l D ti ad u pi ex de xi xb di db fi fb ob reg kq ca va fv R) (cw_v hts tb_4_106 k_Sta_illegal rfl rfl ⟨by decide, by decide⟩) hw 16 rfl rfl rfl hl.1 rfl (Nat.le_of_ble_eq_true rfl) d_Bas_branch_21 ⟨Nat.zero_le _, Nat.zero_le _⟩) hw (fun z hD => qD_same hD rfl) (fun z9 H locs hp9 hw => ?_)
      refine W.eq (g2 := F0 m9 24 ls [.int (2 : Int32)]) rfl ?_
      have hw : Lv _ _ _ _ _ (CW ad ti u pi ex de xi xb di db fi fb ob reg kq ca va xb R) _ _ _ := hw
      exact hw.riz S hr hlk (rfl) d_Bas_branch_24 () (by simp [xBr, h5, h13]) (trivial) (by simp [xBr, h5, h13])
set_option maxHeartbeats 4000000 in
set_option maxRecDepth 100000 in
theorem c_Bas_jump (l : Launch) (D : va_G) (ti : Nat → ClassId) (ad : Nat → Nat) (u : MT) (pi ex de : Nat) (xi xb di db fi fb : Int32) (ob reg : Nat → Nat) (kq : Int32 × Bool × Bool × Int32 × Int64) (ca va fv : Int32) (R : Nat → Cap) : Cg l y_Bas_jump (wl y_Bas_jump b_Bas_jump 4 (some .int)) (rmL 4) D clz (ty4 ti) [.ref (ob 2), .ref ex] (CW ad ti u pi ex de xi xb di db fi fb ob reg kq ca va fv R) (fun _ : Unit => some (.int (xJal fv R xb).1)) (fun _ => (CW ad ti u pi ex de xi xb di db fi fb ob reg kq ca va ((xJal fv R xb).2.1) ((xJal fv R xb).2.2))) (fun _ => True) := by
  refine Cg.ofF (plainFor_of_name (by decide)) (Nat.le_of_ble_eq_true rfl) ?_
  intro p9 e9 s9 m9 b9 me9 c9 ls S hr hlk hl hw
  obtain ⟨hx, hb, hml, hown, hts⟩ := id S
  have hl : lv_has ls 4 [(0, .ref (ob 2)), (1, .ref ex)] := hl
  have hr1 := nR1_lt xb
  have hr2 := nR2_lt xb
  have hrd := nRd_lt xb
  refine lv_aload_n hx hb d_Bas_jump_0 rfl (lv_at hl 0 rfl) ?_
  refine q_get S hw ly_Bas 18 rfl rfl 0 (by decide) tb_2_14 rfl rfl d_Bas_jump_1 ?_
  refine q_get S hw ly_Sta 16 rfl rfl 1 (by decide) tb_1_211 rfl rfl d_Bas_jump_4 ?_
  refine q_get S hw ly_Cap (21 + (32)) (CW_at (by first | decide | omega)) rfl 1 (by decide) tb_1_52 rfl rfl d_Bas_jump_7 ?_
  refine lv_aload_n hx hb d_Bas_jump_10 rfl (lv_at hl 1 rfl) ?_
  refine q_get S hw ly_Ins 14 rfl rfl 8 (by decide) tb_1_170 rfl rfl d_Bas_jump_11 ?_
  refine lv_iadd hx hb d_Bas_jump_14 ?_
  refine lv_istore_n (lv' := [(2, .int (((R 32).2.1) + (iIm xb))), (0, .ref (ob 2)), (1, .ref ex)]) hx hb d_Bas_jump_15 rfl hl (by decide) rfl (fun ls hl => ?_)
  refine lv_aload_n hx hb d_Bas_jump_16 rfl (lv_at hl 1 rfl) ?_
  refine lv_iload_n hx hb d_Bas_jump_17 rfl (lv_at hl 0 rfl) ?_
  refine q_cg (q_runV (As := [.int (((R 32).2.1) + (iIm xb))]) (rest := []) S (c_Bas_jumpFault l D ti ad u pi ex de xi xb di db fi fb ob reg kq ca va fv R (((R 32).2.1) + (iIm xb))) (cw_v hts tb_4_183 k_Bas_jumpFault rfl rfl ⟨by decide, by decide⟩) hw 18 rfl rfl rfl hl.1 rfl (Nat.le_of_ble_eq_true rfl) d_Bas_jump_18 ⟨Nat.zero_le _, Nat.zero_le _⟩) hw (fun z hD => qD_same hD rfl) (fun z9 H locs hp9 hw => ?_)
  refine W.eq (g2 := F0 m9 21 ls [.int ((jF fv (R 32) (((R 32).2.1) + (iIm xb))).1)]) rfl ?_
  have hw : Lv _ _ _ _ _ (CW ad ti u pi ex de xi xb di db fi fb ob reg kq ca va ((jF fv (R 32) (((R 32).2.1) + (iIm xb))).2) R) _ _ _ := hw
  refine lv_istore_n (lv' := [(3, .int ((jF fv (R 32) (((R 32).2.1) + (iIm xb))).1)), (2, .int (((R 32).2.1) + (iIm xb))), (0, .ref (ob 2)), (1, .ref ex)]) hx hb d_Bas_jump_21 rfl hl (by decide) rfl (fun ls hl => ?_)
  refine lv_iload_n hx hb d_Bas_jump_22 rfl (lv_at hl 0 rfl) ?_
  refine lv_iconst (v := -1) hx hb d_Bas_jump_23 (by decide) ?_
  refine lv_icmp_ne hx hb d_Bas_jump_24 rfl (fun h24 => ?_) (fun h24 => ?_)
  · refine lv_iload_n hx hb d_Bas_jump_52 rfl (lv_at hl 0 rfl) ?_
    exact hw.riz S hr hlk (rfl) d_Bas_jump_53 () (by simp only [xJal, if_neg h24]) (trivial) (by simp only [xJal, lkR, if_neg h24])
  · refine lv_aload_n hx hb d_Bas_jump_27 rfl (lv_at hl 2 rfl) ?_
    refine q_get S hw ly_Bas 18 rfl rfl 0 (by decide) tb_2_14 rfl rfl d_Bas_jump_28 ?_
    refine lv_aload_n hx hb d_Bas_jump_31 rfl (lv_at hl 3 rfl) ?_
    refine q_get S hw ly_Ins 14 rfl rfl 3 (by decide) tb_1_154 rfl rfl d_Bas_jump_32 ?_
    refine q_cg (q_runV (As := [.int (nI (nRd xb))]) (rest := []) S (c_Sta_link l D ti ad u pi ex de xi xb di db fi fb ob reg kq ca va ((jF fv (R 32) (((R 32).2.1) + (iIm xb))).2) R (nRd xb) (by first | decide | omega)) (cw_v hts tb_4_198 k_Sta_link rfl rfl ⟨by decide, by decide⟩) hw 16 rfl rfl rfl hl.1 rfl (Nat.le_of_ble_eq_true rfl) d_Bas_jump_35 ⟨Nat.zero_le _, Nat.zero_le _⟩) hw (fun z hD => CW_D (qD_same hD rfl)) (fun z9 H locs hp9 hw => ?_)
    refine W.eq (g2 := F0 m9 38 ls []) rfl ?_
    have hw : Lv _ _ _ _ _ (CW ad ti u pi ex de xi xb di db fi fb ob reg kq ca va ((jF fv (R 32) (((R 32).2.1) + (iIm xb))).2) (aR (va_up R 37 (lkC (R 32))) (nRd xb))) _ _ _ := hw
    refine lv_aload_n hx hb d_Bas_jump_38 rfl (lv_at hl 2 rfl) ?_
    refine q_get S hw ly_Bas 18 rfl rfl 0 (by decide) tb_2_14 rfl rfl d_Bas_jump_39 ?_
    refine q_get S hw ly_Sta 16 rfl rfl 1 (by decide) tb_1_211 rfl rfl d_Bas_jump_42 ?_
    refine lv_iload_n hx hb d_Bas_jump_45 rfl (lv_at hl 1 rfl) ?_
    refine q_cg (q_runV (As := [.int (((R 32).2.1) + (iIm xb))]) (rest := []) S (w_moveTo l D ti ad u pi ex de xi xb di db fi fb ob reg kq ca va ((jF fv (R 32) (((R 32).2.1) + (iIm xb))).2) (aR (va_up R 37 (lkC (R 32))) (nRd xb)) (32) (by first | decide | omega) (((R 32).2.1) + (iIm xb))) (cw_v hts tb_4_147 k_Cap_moveTo rfl rfl ⟨by decide, by decide⟩) hw (21 + (32)) (CW_at (by first | decide | omega)) rfl rfl hl.1 rfl (Nat.le_of_ble_eq_true rfl) d_Bas_jump_46 ⟨Nat.zero_le _, Nat.zero_le _⟩) hw (fun z hD => CW_D hD) (fun z9 H locs hp9 hw => ?_)
    refine W.eq (g2 := F0 m9 49 ls []) rfl ?_
    have hw : Lv _ _ _ _ _ (CW ad ti u pi ex de xi xb di db fi fb ob reg kq ca va ((jF fv (R 32) (((R 32).2.1) + (iIm xb))).2) (va_up (aR (va_up R 37 (lkC (R 32))) (nRd xb)) (32) (cMvC ((aR (va_up R 37 (lkC (R 32))) (nRd xb)) 32) (((R 32).2.1) + (iIm xb))))) _ _ _ := hw
    refine lv_bipush (v := -2) hx hb d_Bas_jump_49 (by decide) ?_
    exact hw.riz S hr hlk (rfl) d_Bas_jump_51 () (by simp only [xJal, if_pos h24]) (trivial) (by simp only [xJal, lkR, if_pos h24])
set_option maxHeartbeats 4000000 in
set_option maxRecDepth 100000 in
theorem c_Bas_wrongOfJump (l : Launch) (D : va_G) (ti : Nat → ClassId) (ad : Nat → Nat) (u : MT) (pi ex de : Nat) (xi xb di db fi fb : Int32) (ob reg : Nat → Nat) (kq : Int32 × Bool × Bool × Int32 × Int64) (ca va fv : Int32) (R : Nat → Cap) (k : Nat) (hk : k < 37) (im x : Int32) : Cr l y_Bas_wrongOfJump (wl y_Bas_wrongOfJump b_Bas_wrongOfJump 3 (some .int)) (rmL 2) D clz (ty4 ti) [.ref (reg k), .int im, .int x] (CW ad ti u pi ex de xi xb di db fi fb ob reg kq ca va fv R) (some (.int (wJ (R k) im x))) := by
  refine Cr.ofF (plainFor_of_name (by decide)) (Nat.le_of_ble_eq_true rfl) ?_
  intro p9 e9 s9 m9 b9 me9 c9 ls S hr hlk hl hw
  obtain ⟨hx, hb, hml, hown, hts⟩ := id S
  have hl : lv_has ls 3 [(0, .ref (reg k)), (1, .int im), (2, .int x)] := hl
  refine lv_aload_n hx hb d_Bas_wrongOfJump_0 rfl (lv_at hl 0 rfl) ?_
  refine q_get S hw ly_Cap (21 + (k)) (CW_at (by first | decide | omega)) rfl 0 (by decide) tb_1_49 rfl rfl d_Bas_wrongOfJump_1 ?_
  refine q_ifz_ne S d_Bas_wrongOfJump_4 rfl (fun h4 => ?_) (fun h4 => ?_)
  · refine lv_aload_n hx hb d_Bas_wrongOfJump_9 rfl (lv_at hl 0 rfl) ?_
    refine q_cr (q_runV (As := []) (rest := []) S (w_type l D ti ad u pi ex de xi xb di db fi fb ob reg kq ca va fv R (k) (by first | decide | omega)) (cw_v hts tb_4_197 k_Cap_type rfl rfl ⟨by decide, by decide⟩) hw (21 + (k)) (CW_at (by first | decide | omega)) rfl rfl hl.1 rfl (Nat.le_of_ble_eq_true rfl) d_Bas_wrongOfJump_10 ⟨Nat.zero_le _, Nat.zero_le _⟩) ?_
    refine W.eq (g2 := F0 m9 13 ls [.int (cType (R k).2.2)]) rfl ?_
    refine lv_bipush (v := 14) hx hb d_Bas_wrongOfJump_13 (by decide) ?_
    refine lv_icmp_lt hx hb d_Bas_wrongOfJump_15 rfl (fun h15 => ?_) (fun h15 => ?_)
    · refine lv_iconst (v := 3) hx hb d_Bas_wrongOfJump_31 (by decide) ?_
      exact rd_i S hr hlk rfl d_Bas_wrongOfJump_32 (by simp [wJ, h4, h15])
    · refine lv_aload_n hx hb d_Bas_wrongOfJump_18 rfl (lv_at hl 0 rfl) ?_
      refine q_cr (q_runV (As := []) (rest := []) S (w_type l D ti ad u pi ex de xi xb di db fi fb ob reg kq ca va fv R (k) (by first | decide | omega)) (cw_v hts tb_4_197 k_Cap_type rfl rfl ⟨by decide, by decide⟩) hw (21 + (k)) (CW_at (by first | decide | omega)) rfl rfl hl.1 rfl (Nat.le_of_ble_eq_true rfl) d_Bas_wrongOfJump_19 ⟨Nat.zero_le _, Nat.zero_le _⟩) ?_
      refine W.eq (g2 := F0 m9 22 ls [.int (cType (R k).2.2)]) rfl ?_
      refine lv_bipush (v := 14) hx hb d_Bas_wrongOfJump_22 (by decide) ?_
      refine lv_icmp_ne hx hb d_Bas_wrongOfJump_24 rfl (fun h24 => ?_) (fun h24 => ?_)
      · refine lv_aload_n hx hb d_Bas_wrongOfJump_33 rfl (lv_at hl 0 rfl) ?_
        refine lv_iconst (v := 1) hx hb d_Bas_wrongOfJump_34 (by decide) ?_
        refine q_cr (q_runV (As := [.int (1 : Int32)]) (rest := []) S (w_may l D ti ad u pi ex de xi xb di db fi fb ob reg kq ca va fv R (k) (by first | decide | omega) (1 : Int32)) (cw_v hts tb_4_113 k_Cap_may rfl rfl ⟨by decide, by decide⟩) hw (21 + (k)) (CW_at (by first | decide | omega)) rfl rfl hl.1 rfl (Nat.le_of_ble_eq_true rfl) d_Bas_wrongOfJump_35 ⟨Nat.zero_le _, Nat.zero_le _⟩) ?_
        refine W.eq (g2 := F0 m9 38 ls [.int (jb (cMay (R k).2.2 (1 : Int32)))]) rfl ?_
        refine q_ifz_ne S d_Bas_wrongOfJump_38 rfl (fun h38 => ?_) (fun h38 => ?_)
        · refine lv_aload_n hx hb d_Bas_wrongOfJump_44 rfl (lv_at hl 0 rfl) ?_
          refine lv_iload_n hx hb d_Bas_wrongOfJump_45 rfl (lv_at hl 2 rfl) ?_
          refine lv_ldc2 (v := 4) hx hb hown (hts _ tb_4_187) d_Bas_wrongOfJump_46 ?_
          refine q_cr (q_runV (As := [.int x, .long (4 : Int64)]) (rest := []) S (w_covers l D ti ad u pi ex de xi xb di db fi fb ob reg kq ca va fv R (k) (by first | decide | omega) x (4 : Int64)) (cw_v hts tb_4_188 k_Cap_covers rfl rfl ⟨by decide, by decide⟩) hw (21 + (k)) (CW_at (by first | decide | omega)) rfl rfl hl.1 rfl (Nat.le_of_ble_eq_true rfl) d_Bas_wrongOfJump_49 ⟨Nat.zero_le _, Nat.zero_le _⟩) ?_
          refine W.eq (g2 := F0 m9 52 ls [.int (jb (cCov (cbase (R k).2.2 (R k).2.1) (ctop (R k).2.2 (R k).2.1) x (4 : Int64)))]) rfl ?_
          refine q_ifz_eq S d_Bas_wrongOfJump_52 rfl (fun h52 => ?_) (fun h52 => ?_)
          · refine lv_iconst (v := 1) hx hb d_Bas_wrongOfJump_59 (by decide) ?_
            exact rd_i S hr hlk rfl d_Bas_wrongOfJump_60 (by simp [wJ, h4, h15, h24, h38, h52])
          · refine lv_iconst (v := 0) hx hb d_Bas_wrongOfJump_55 (by decide) ?_
            refine lv_goto hx hb d_Bas_wrongOfJump_56 rfl ?_
            exact rd_i S hr hlk rfl d_Bas_wrongOfJump_60 (by simp [wJ, h4, h15, h24, h38, h52])
        · refine lv_bipush (v := 17) hx hb d_Bas_wrongOfJump_41 (by decide) ?_
          exact rd_i S hr hlk rfl d_Bas_wrongOfJump_43 (by simp [wJ, h4, h15, h24, h38])
      · refine lv_iload_n hx hb d_Bas_wrongOfJump_27 rfl (lv_at hl 1 rfl) ?_
        refine lv_if_eq hx hb d_Bas_wrongOfJump_28 rfl (fun h28 => ?_) (fun h28 => ?_)
        · refine lv_aload_n hx hb d_Bas_wrongOfJump_33 rfl (lv_at hl 0 rfl) ?_
          refine lv_iconst (v := 1) hx hb d_Bas_wrongOfJump_34 (by decide) ?_
          refine q_cr (q_runV (As := [.int (1 : Int32)]) (rest := []) S (w_may l D ti ad u pi ex de xi xb di db fi fb ob reg kq ca va fv R (k) (by first | decide | omega) (1 : Int32)) (cw_v hts tb_4_113 k_Cap_may rfl rfl ⟨by decide, by decide⟩) hw (21 + (k)) (CW_at (by first | decide | omega)) rfl rfl hl.1 rfl (Nat.le_of_ble_eq_true rfl) d_Bas_wrongOfJump_35 ⟨Nat.zero_le _, Nat.zero_le _⟩) ?_
          refine W.eq (g2 := F0 m9 38 ls [.int (jb (cMay (R k).2.2 (1 : Int32)))]) rfl ?_
          refine q_ifz_ne S d_Bas_wrongOfJump_38 rfl (fun h38 => ?_) (fun h38 => ?_)
          · refine lv_aload_n hx hb d_Bas_wrongOfJump_44 rfl (lv_at hl 0 rfl) ?_
            refine lv_iload_n hx hb d_Bas_wrongOfJump_45 rfl (lv_at hl 2 rfl) ?_
            refine lv_ldc2 (v := 4) hx hb hown (hts _ tb_4_187) d_Bas_wrongOfJump_46 ?_
            refine q_cr (q_runV (As := [.int x, .long (4 : Int64)]) (rest := []) S (w_covers l D ti ad u pi ex de xi xb di db fi fb ob reg kq ca va fv R (k) (by first | decide | omega) x (4 : Int64)) (cw_v hts tb_4_188 k_Cap_covers rfl rfl ⟨by decide, by decide⟩) hw (21 + (k)) (CW_at (by first | decide | omega)) rfl rfl hl.1 rfl (Nat.le_of_ble_eq_true rfl) d_Bas_wrongOfJump_49 ⟨Nat.zero_le _, Nat.zero_le _⟩) ?_
            refine W.eq (g2 := F0 m9 52 ls [.int (jb (cCov (cbase (R k).2.2 (R k).2.1) (ctop (R k).2.2 (R k).2.1) x (4 : Int64)))]) rfl ?_
            refine q_ifz_eq S d_Bas_wrongOfJump_52 rfl (fun h52 => ?_) (fun h52 => ?_)
            · refine lv_iconst (v := 1) hx hb d_Bas_wrongOfJump_59 (by decide) ?_
              exact rd_i S hr hlk rfl d_Bas_wrongOfJump_60 (by simp [wJ, h4, h15, h24, h28, h38, h52])
            · refine lv_iconst (v := 0) hx hb d_Bas_wrongOfJump_55 (by decide) ?_
              refine lv_goto hx hb d_Bas_wrongOfJump_56 rfl ?_
              exact rd_i S hr hlk rfl d_Bas_wrongOfJump_60 (by simp [wJ, h4, h15, h24, h28, h38, h52])
          · refine lv_bipush (v := 17) hx hb d_Bas_wrongOfJump_41 (by decide) ?_
            exact rd_i S hr hlk rfl d_Bas_wrongOfJump_43 (by simp [wJ, h4, h15, h24, h28, h38])
        · refine lv_iconst (v := 3) hx hb d_Bas_wrongOfJump_31 (by decide) ?_
          exact rd_i S hr hlk rfl d_Bas_wrongOfJump_32 (by simp [wJ, h4, h15, h24, h28])
  · refine lv_iconst (v := 2) hx hb d_Bas_wrongOfJump_7 (by decide) ?_
    exact rd_i S hr hlk rfl d_Bas_wrongOfJump_8 (by simp [wJ, h4])
set_option maxHeartbeats 4000000 in
set_option maxRecDepth 100000 in
theorem c_Bas_jumpByRegister (l : Launch) (D : va_G) (ti : Nat → ClassId) (ad : Nat → Nat) (u : MT) (pi ex de : Nat) (xi xb di db fi fb : Int32) (ob reg : Nat → Nat) (kq : Int32 × Bool × Bool × Int32 × Int64) (ca va fv : Int32) (R : Nat → Cap) : Cg l y_Bas_jumpByRegister (wl y_Bas_jumpByRegister b_Bas_jumpByRegister 5 (some .int)) (rmL 4) D clz (ty4 ti) [.ref (ob 2), .ref ex] (CW ad ti u pi ex de xi xb di db fi fb ob reg kq ca va fv R) (fun _ : Unit => some (.int (xJr fv R xb).1)) (fun _ => (CW ad ti u pi ex de xi xb di db fi fb ob reg kq ca va ((xJr fv R xb).2.1) ((xJr fv R xb).2.2))) (fun _ => True) := by
  refine Cg.ofF (plainFor_of_name (by decide)) (Nat.le_of_ble_eq_true rfl) ?_
  intro p9 e9 s9 m9 b9 me9 c9 ls S hr hlk hl hw
  obtain ⟨hx, hb, hml, hown, hts⟩ := id S
  have hl : lv_has ls 5 [(0, .ref (ob 2)), (1, .ref ex)] := hl
  have hr1 := nR1_lt xb
  have hr2 := nR2_lt xb
  have hrd := nRd_lt xb
  refine lv_aload_n hx hb d_Bas_jumpByRegister_0 rfl (lv_at hl 1 rfl) ?_
  refine q_get S hw ly_Ins 14 rfl rfl 4 (by decide) tb_1_158 rfl rfl d_Bas_jumpByRegister_1 ?_
  refine lv_if_eq hx hb d_Bas_jumpByRegister_4 rfl (fun h4 => ?_) (fun h4 => ?_)
  · refine lv_aload_n hx hb d_Bas_jumpByRegister_16 rfl (lv_at hl 0 rfl) ?_
    refine q_get S hw ly_Bas 18 rfl rfl 0 (by decide) tb_2_14 rfl rfl d_Bas_jumpByRegister_17 ?_
    refine q_get S hw ly_Sta 16 rfl rfl 0 (by decide) tb_1_209 rfl rfl d_Bas_jumpByRegister_20 ?_
    refine lv_aload_n hx hb d_Bas_jumpByRegister_23 rfl (lv_at hl 1 rfl) ?_
    refine q_get S hw ly_Ins 14 rfl rfl 5 (by decide) tb_1_161 rfl rfl d_Bas_jumpByRegister_24 ?_
    refine q_aaldN (k := (nR1 xb)) S hw 17 3 rfl rfl (by first | assumption | omega) (by decide) d_Bas_jumpByRegister_27 ?_
    refine lv_astore_n (lv' := [(2, .ref (reg (nR1 xb))), (0, .ref (ob 2)), (1, .ref ex)]) hx hb d_Bas_jumpByRegister_28 rfl hl (by decide) rfl (fun ls hl => ?_)
    refine lv_aload_n hx hb d_Bas_jumpByRegister_29 rfl (lv_at hl 0 rfl) ?_
    refine q_get S hw ly_Cap (21 + (nR1 xb)) (CW_at (by first | decide | omega)) rfl 1 (by decide) tb_1_52 rfl rfl d_Bas_jumpByRegister_30 ?_
    refine lv_aload_n hx hb d_Bas_jumpByRegister_33 rfl (lv_at hl 2 rfl) ?_
    refine q_get S hw ly_Ins 14 rfl rfl 8 (by decide) tb_1_170 rfl rfl d_Bas_jumpByRegister_34 ?_
    refine lv_iadd hx hb d_Bas_jumpByRegister_37 ?_
    refine lv_bipush (v := -2) hx hb d_Bas_jumpByRegister_38 (by decide) ?_
    refine lv_iand hx hb d_Bas_jumpByRegister_40 ?_
    refine lv_istore_n (lv' := [(3, .int ((((R (nR1 xb)).2.1) + (iIm xb)) &&& (-2 : Int32))), (2, .ref (reg (nR1 xb))), (0, .ref (ob 2)), (1, .ref ex)]) hx hb d_Bas_jumpByRegister_41 rfl hl (by decide) rfl (fun ls hl => ?_)
    refine lv_aload_n hx hb d_Bas_jumpByRegister_42 rfl (lv_at hl 1 rfl) ?_
    refine lv_aload_n hx hb d_Bas_jumpByRegister_43 rfl (lv_at hl 3 rfl) ?_
    refine q_get S hw ly_Ins 14 rfl rfl 8 (by decide) tb_1_170 rfl rfl d_Bas_jumpByRegister_44 ?_
    refine lv_iload_n hx hb d_Bas_jumpByRegister_47 rfl (lv_at hl 0 rfl) ?_
    refine q_cr (q_runS (As := [.ref (reg (nR1 xb)), .int (iIm xb), .int ((((R (nR1 xb)).2.1) + (iIm xb)) &&& (-2 : Int32))]) (rest := []) S (c_Bas_wrongOfJump l D ti ad u pi ex de xi xb di db fi fb ob reg kq ca va fv R (nR1 xb) (by first | decide | omega) (iIm xb) ((((R (nR1 xb)).2.1) + (iIm xb)) &&& (-2 : Int32))) (cw_s hts tb_4_194 k_Bas_wrongOfJump rfl rfl ⟨by decide, by decide⟩) hw rfl hl.1 rfl (Nat.le_of_ble_eq_true rfl) d_Bas_jumpByRegister_48 ⟨Nat.zero_le _, Nat.zero_le _⟩) ?_
    refine W.eq (g2 := F0 m9 51 ls [.int (wJ (R (nR1 xb)) (iIm xb) ((((R (nR1 xb)).2.1) + (iIm xb)) &&& (-2 : Int32)))]) rfl ?_
    refine lv_istore (lv' := [(4, .int (wJ (R (nR1 xb)) (iIm xb) ((((R (nR1 xb)).2.1) + (iIm xb)) &&& (-2 : Int32)))), (3, .int ((((R (nR1 xb)).2.1) + (iIm xb)) &&& (-2 : Int32))), (2, .ref (reg (nR1 xb))), (0, .ref (ob 2)), (1, .ref ex)]) hx hb d_Bas_jumpByRegister_51 hl (by decide) rfl (fun ls hl => ?_)
    refine lv_iload hx hb d_Bas_jumpByRegister_53 (lv_at hl 0 rfl) ?_
    refine lv_if_eq hx hb d_Bas_jumpByRegister_55 rfl (fun h55 => ?_) (fun h55 => ?_)
    · refine lv_iload_n hx hb d_Bas_jumpByRegister_72 rfl (lv_at hl 1 rfl) ?_
      refine lv_iconst (v := 3) hx hb d_Bas_jumpByRegister_73 (by decide) ?_
      refine lv_iand hx hb d_Bas_jumpByRegister_74 ?_
      refine lv_if_eq hx hb d_Bas_jumpByRegister_75 rfl (fun h75 => ?_) (fun h75 => ?_)
      · refine lv_aload_n hx hb d_Bas_jumpByRegister_88 rfl (lv_at hl 3 rfl) ?_
        refine q_get S hw ly_Bas 18 rfl rfl 1 (by decide) tb_2_15 rfl rfl d_Bas_jumpByRegister_89 ?_
        refine lv_aload_n hx hb d_Bas_jumpByRegister_92 rfl (lv_at hl 2 rfl) ?_
        refine q_cg (q_runV (As := [.ref (reg (nR1 xb))]) (rest := []) S (w_become l D ti ad u pi ex de xi xb di db fi fb ob reg kq ca va fv R (38) (by first | decide | omega) (nR1 xb) (by first | decide | omega) (by first | decide | omega)) (cw_v hts tb_4_146 k_Cap_become rfl rfl ⟨by decide, by decide⟩) hw (21 + (38)) (CW_at (by first | decide | omega)) rfl rfl hl.1 rfl (Nat.le_of_ble_eq_true rfl) d_Bas_jumpByRegister_93 ⟨Nat.zero_le _, Nat.zero_le _⟩) hw (fun z hD => CW_D hD) (fun z9 H locs hp9 hw => ?_)
        refine W.eq (g2 := F0 m9 96 ls []) rfl ?_
        have hw : Lv _ _ _ _ _ (CW ad ti u pi ex de xi xb di db fi fb ob reg kq ca va fv (va_up R (38) (R (nR1 xb)))) _ _ _ := hw
        refine lv_aload_n hx hb d_Bas_jumpByRegister_96 rfl (lv_at hl 3 rfl) ?_
        refine q_get S hw ly_Bas 18 rfl rfl 0 (by decide) tb_2_14 rfl rfl d_Bas_jumpByRegister_97 ?_
        refine lv_aload_n hx hb d_Bas_jumpByRegister_100 rfl (lv_at hl 4 rfl) ?_
        refine q_get S hw ly_Ins 14 rfl rfl 3 (by decide) tb_1_154 rfl rfl d_Bas_jumpByRegister_101 ?_
        refine q_cg (q_runV (As := [.int (nI (nRd xb))]) (rest := []) S (c_Sta_link l D ti ad u pi ex de xi xb di db fi fb ob reg kq ca va fv (va_up R (38) (R (nR1 xb))) (nRd xb) (by first | decide | omega)) (cw_v hts tb_4_198 k_Sta_link rfl rfl ⟨by decide, by decide⟩) hw 16 rfl rfl rfl hl.1 rfl (Nat.le_of_ble_eq_true rfl) d_Bas_jumpByRegister_104 ⟨Nat.zero_le _, Nat.zero_le _⟩) hw (fun z hD => CW_D (qD_same hD rfl)) (fun z9 H locs hp9 hw => ?_)
        refine W.eq (g2 := F0 m9 107 ls []) rfl ?_
        have hw : Lv _ _ _ _ _ (CW ad ti u pi ex de xi xb di db fi fb ob reg kq ca va fv (aR (va_up (va_up R (38) (R (nR1 xb))) 37 (lkC ((va_up R (38) (R (nR1 xb))) 32))) (nRd xb))) _ _ _ := hw
        refine lv_aload_n hx hb d_Bas_jumpByRegister_107 rfl (lv_at hl 3 rfl) ?_
        refine q_get S hw ly_Bas 18 rfl rfl 1 (by decide) tb_2_15 rfl rfl d_Bas_jumpByRegister_108 ?_
        refine lv_bipush (v := 15) hx hb d_Bas_jumpByRegister_111 (by decide) ?_
        refine q_cg (q_runV (As := [.int (15 : Int32)]) (rest := []) S (w_setType l D ti ad u pi ex de xi xb di db fi fb ob reg kq ca va fv (aR (va_up (va_up R (38) (R (nR1 xb))) 37 (lkC ((va_up R (38) (R (nR1 xb))) 32))) (nRd xb)) (38) (by first | decide | omega) (15 : Int32)) (cw_v hts tb_4_205 k_Cap_setType rfl rfl ⟨by decide, by decide⟩) hw (21 + (38)) (CW_at (by first | decide | omega)) rfl rfl hl.1 rfl (Nat.le_of_ble_eq_true rfl) d_Bas_jumpByRegister_113 ⟨Nat.zero_le _, Nat.zero_le _⟩) hw (fun z hD => CW_D hD) (fun z9 H locs hp9 hw => ?_)
        refine W.eq (g2 := F0 m9 116 ls []) rfl ?_
        have hw : Lv _ _ _ _ _ (CW ad ti u pi ex de xi xb di db fi fb ob reg kq ca va fv (va_up (aR (va_up (va_up R (38) (R (nR1 xb))) 37 (lkC ((va_up R (38) (R (nR1 xb))) 32))) (nRd xb)) (38) (cTyC ((aR (va_up (va_up R (38) (R (nR1 xb))) 37 (lkC ((va_up R (38) (R (nR1 xb))) 32))) (nRd xb)) 38) (15 : Int32)))) _ _ _ := hw
        refine lv_aload_n hx hb d_Bas_jumpByRegister_116 rfl (lv_at hl 3 rfl) ?_
        refine q_get S hw ly_Bas 18 rfl rfl 1 (by decide) tb_2_15 rfl rfl d_Bas_jumpByRegister_117 ?_
        refine lv_iload_n hx hb d_Bas_jumpByRegister_120 rfl (lv_at hl 1 rfl) ?_
        refine q_cg (q_runV (As := [.int ((((R (nR1 xb)).2.1) + (iIm xb)) &&& (-2 : Int32))]) (rest := []) S (w_moveTo l D ti ad u pi ex de xi xb di db fi fb ob reg kq ca va fv (va_up (aR (va_up (va_up R (38) (R (nR1 xb))) 37 (lkC ((va_up R (38) (R (nR1 xb))) 32))) (nRd xb)) (38) (cTyC ((aR (va_up (va_up R (38) (R (nR1 xb))) 37 (lkC ((va_up R (38) (R (nR1 xb))) 32))) (nRd xb)) 38) (15 : Int32))) (38) (by first | decide | omega) ((((R (nR1 xb)).2.1) + (iIm xb)) &&& (-2 : Int32))) (cw_v hts tb_4_147 k_Cap_moveTo rfl rfl ⟨by decide, by decide⟩) hw (21 + (38)) (CW_at (by first | decide | omega)) rfl rfl hl.1 rfl (Nat.le_of_ble_eq_true rfl) d_Bas_jumpByRegister_121 ⟨Nat.zero_le _, Nat.zero_le _⟩) hw (fun z hD => CW_D hD) (fun z9 H locs hp9 hw => ?_)
        refine W.eq (g2 := F0 m9 124 ls []) rfl ?_
        have hw : Lv _ _ _ _ _ (CW ad ti u pi ex de xi xb di db fi fb ob reg kq ca va fv (va_up (va_up (aR (va_up (va_up R (38) (R (nR1 xb))) 37 (lkC ((va_up R (38) (R (nR1 xb))) 32))) (nRd xb)) (38) (cTyC ((aR (va_up (va_up R (38) (R (nR1 xb))) 37 (lkC ((va_up R (38) (R (nR1 xb))) 32))) (nRd xb)) 38) (15 : Int32))) (38) (cMvC ((va_up (aR (va_up (va_up R (38) (R (nR1 xb))) 37 (lkC ((va_up R (38) (R (nR1 xb))) 32))) (nRd xb)) (38) (cTyC ((aR (va_up (va_up R (38) (R (nR1 xb))) 37 (lkC ((va_up R (38) (R (nR1 xb))) 32))) (nRd xb)) 38) (15 : Int32))) 38) ((((R (nR1 xb)).2.1) + (iIm xb)) &&& (-2 : Int32))))) _ _ _ := hw
        refine lv_aload_n hx hb d_Bas_jumpByRegister_124 rfl (lv_at hl 3 rfl) ?_
        refine q_get S hw ly_Bas 18 rfl rfl 0 (by decide) tb_2_14 rfl rfl d_Bas_jumpByRegister_125 ?_
        refine q_get S hw ly_Sta 16 rfl rfl 1 (by decide) tb_1_211 rfl rfl d_Bas_jumpByRegister_128 ?_
        refine lv_aload_n hx hb d_Bas_jumpByRegister_131 rfl (lv_at hl 3 rfl) ?_
        refine q_get S hw ly_Bas 18 rfl rfl 1 (by decide) tb_2_15 rfl rfl d_Bas_jumpByRegister_132 ?_
        refine q_cg (q_runV (As := [.ref (reg 38)]) (rest := []) S (w_become l D ti ad u pi ex de xi xb di db fi fb ob reg kq ca va fv (va_up (va_up (aR (va_up (va_up R (38) (R (nR1 xb))) 37 (lkC ((va_up R (38) (R (nR1 xb))) 32))) (nRd xb)) (38) (cTyC ((aR (va_up (va_up R (38) (R (nR1 xb))) 37 (lkC ((va_up R (38) (R (nR1 xb))) 32))) (nRd xb)) 38) (15 : Int32))) (38) (cMvC ((va_up (aR (va_up (va_up R (38) (R (nR1 xb))) 37 (lkC ((va_up R (38) (R (nR1 xb))) 32))) (nRd xb)) (38) (cTyC ((aR (va_up (va_up R (38) (R (nR1 xb))) 37 (lkC ((va_up R (38) (R (nR1 xb))) 32))) (nRd xb)) 38) (15 : Int32))) 38) ((((R (nR1 xb)).2.1) + (iIm xb)) &&& (-2 : Int32)))) (32) (by first | decide | omega) (38) (by first | decide | omega) (by first | decide | omega)) (cw_v hts tb_4_146 k_Cap_become rfl rfl ⟨by decide, by decide⟩) hw (21 + (32)) (CW_at (by first | decide | omega)) rfl rfl hl.1 rfl (Nat.le_of_ble_eq_true rfl) d_Bas_jumpByRegister_135 ⟨Nat.zero_le _, Nat.zero_le _⟩) hw (fun z hD => CW_D hD) (fun z9 H locs hp9 hw => ?_)
        refine W.eq (g2 := F0 m9 138 ls []) rfl ?_
        have hw : Lv _ _ _ _ _ (CW ad ti u pi ex de xi xb di db fi fb ob reg kq ca va fv (va_up (va_up (va_up (aR (va_up (va_up R (38) (R (nR1 xb))) 37 (lkC ((va_up R (38) (R (nR1 xb))) 32))) (nRd xb)) (38) (cTyC ((aR (va_up (va_up R (38) (R (nR1 xb))) 37 (lkC ((va_up R (38) (R (nR1 xb))) 32))) (nRd xb)) 38) (15 : Int32))) (38) (cMvC ((va_up (aR (va_up (va_up R (38) (R (nR1 xb))) 37 (lkC ((va_up R (38) (R (nR1 xb))) 32))) (nRd xb)) (38) (cTyC ((aR (va_up (va_up R (38) (R (nR1 xb))) 37 (lkC ((va_up R (38) (R (nR1 xb))) 32))) (nRd xb)) 38) (15 : Int32))) 38) ((((R (nR1 xb)).2.1) + (iIm xb)) &&& (-2 : Int32)))) (32) ((va_up (va_up (aR (va_up (va_up R (38) (R (nR1 xb))) 37 (lkC ((va_up R (38) (R (nR1 xb))) 32))) (nRd xb)) (38) (cTyC ((aR (va_up (va_up R (38) (R (nR1 xb))) 37 (lkC ((va_up R (38) (R (nR1 xb))) 32))) (nRd xb)) 38) (15 : Int32))) (38) (cMvC ((va_up (aR (va_up (va_up R (38) (R (nR1 xb))) 37 (lkC ((va_up R (38) (R (nR1 xb))) 32))) (nRd xb)) (38) (cTyC ((aR (va_up (va_up R (38) (R (nR1 xb))) 37 (lkC ((va_up R (38) (R (nR1 xb))) 32))) (nRd xb)) 38) (15 : Int32))) 38) ((((R (nR1 xb)).2.1) + (iIm xb)) &&& (-2 : Int32)))) 38))) _ _ _ := hw
        refine lv_bipush (v := -2) hx hb d_Bas_jumpByRegister_138 (by decide) ?_
        exact hw.riz S hr hlk (rfl) d_Bas_jumpByRegister_140 () (by simp [xJr, jrX, h4, h55, h75]) (trivial) (by simp [xJr, jrX, jr1, jr2, jr3, jr4, lkR, h4, h55, h75])
      · refine lv_aload_n hx hb d_Bas_jumpByRegister_78 rfl (lv_at hl 3 rfl) ?_
        refine q_get S hw ly_Bas 18 rfl rfl 0 (by decide) tb_2_14 rfl rfl d_Bas_jumpByRegister_79 ?_
        refine lv_iconst (v := 0) hx hb d_Bas_jumpByRegister_82 (by decide) ?_
        refine lv_iload_n hx hb d_Bas_jumpByRegister_83 rfl (lv_at hl 1 rfl) ?_
        refine q_cg (q_runV (As := [.int (0 : Int32), .int ((((R (nR1 xb)).2.1) + (iIm xb)) &&& (-2 : Int32))]) (rest := []) S (c_Sta_fault l D ti ad u pi ex de xi xb di db fi fb ob reg kq ca va fv R (0 : Int32) ((((R (nR1 xb)).2.1) + (iIm xb)) &&& (-2 : Int32))) (cw_v hts tb_4_189 k_Sta_fault rfl rfl ⟨by decide, by decide⟩) hw 16 rfl rfl rfl hl.1 rfl (Nat.le_of_ble_eq_true rfl) d_Bas_jumpByRegister_84 ⟨Nat.zero_le _, Nat.zero_le _⟩) hw (fun z hD => qD_same hD rfl) (fun z9 H locs hp9 hw => ?_)
        refine W.eq (g2 := F0 m9 87 ls [.int (0 : Int32)]) rfl ?_
        have hw : Lv _ _ _ _ _ (CW ad ti u pi ex de xi xb di db fi fb ob reg kq ca va ((((R (nR1 xb)).2.1) + (iIm xb)) &&& (-2 : Int32)) R) _ _ _ := hw
        exact hw.riz S hr hlk (rfl) d_Bas_jumpByRegister_87 () (by simp [xJr, jrX, h4, h55, h75]) (trivial) (by simp [xJr, jrX, jr1, jr2, jr3, jr4, lkR, h4, h55, h75])
    · refine lv_aload_n hx hb d_Bas_jumpByRegister_58 rfl (lv_at hl 3 rfl) ?_
      refine q_get S hw ly_Bas 18 rfl rfl 0 (by decide) tb_2_14 rfl rfl d_Bas_jumpByRegister_59 ?_
      refine lv_aload_n hx hb d_Bas_jumpByRegister_62 rfl (lv_at hl 4 rfl) ?_
      refine q_get S hw ly_Ins 14 rfl rfl 5 (by decide) tb_1_161 rfl rfl d_Bas_jumpByRegister_63 ?_
      refine lv_iload hx hb d_Bas_jumpByRegister_66 (lv_at hl 0 rfl) ?_
      refine q_cg (q_runV (As := [.int (nI (nR1 xb)), .int (wJ (R (nR1 xb)) (iIm xb) ((((R (nR1 xb)).2.1) + (iIm xb)) &&& (-2 : Int32)))]) (rest := []) S (c_Sta_capabilityFault l D ti ad u pi ex de xi xb di db fi fb ob reg kq ca va fv R (nR1 xb) (wJ (R (nR1 xb)) (iIm xb) ((((R (nR1 xb)).2.1) + (iIm xb)) &&& (-2 : Int32)))) (cw_v hts tb_4_156 k_Sta_capabilityFault rfl rfl ⟨by decide, by decide⟩) hw 16 rfl rfl rfl hl.1 rfl (Nat.le_of_ble_eq_true rfl) d_Bas_jumpByRegister_68 ⟨Nat.zero_le _, Nat.zero_le _⟩) hw (fun z hD => qD_same hD rfl) (fun z9 H locs hp9 hw => ?_)
      refine W.eq (g2 := F0 m9 71 ls [.int (28 : Int32)]) rfl ?_
      have hw : Lv _ _ _ _ _ (CW ad ti u pi ex de xi xb di db fi fb ob reg kq ca va (32 * nI (nR1 xb) + (wJ (R (nR1 xb)) (iIm xb) ((((R (nR1 xb)).2.1) + (iIm xb)) &&& (-2 : Int32)))) R) _ _ _ := hw
      exact hw.riz S hr hlk (rfl) d_Bas_jumpByRegister_71 () (by simp [xJr, jrX, h4, h55]) (trivial) (by simp [xJr, jrX, jr1, jr2, jr3, jr4, lkR, h4, h55])
  · refine lv_aload_n hx hb d_Bas_jumpByRegister_7 rfl (lv_at hl 0 rfl) ?_
    refine q_get S hw ly_Bas 18 rfl rfl 0 (by decide) tb_2_14 rfl rfl d_Bas_jumpByRegister_8 ?_
    refine lv_aload_n hx hb d_Bas_jumpByRegister_11 rfl (lv_at hl 1 rfl) ?_
    refine q_cg (q_runV (As := [.ref ex]) (rest := []) S (c_Sta_illegal l D ti ad u pi ex de xi xb di db fi fb ob reg kq ca va fv R) (cw_v hts tb_4_106 k_Sta_illegal rfl rfl ⟨by decide, by decide⟩) hw 16 rfl rfl rfl hl.1 rfl (Nat.le_of_ble_eq_true rfl) d_Bas_jumpByRegister_12 ⟨Nat.zero_le _, Nat.zero_le _⟩) hw (fun z hD => qD_same hD rfl) (fun z9 H locs hp9 hw => ?_)
    refine W.eq (g2 := F0 m9 15 ls [.int (2 : Int32)]) rfl ?_
    have hw : Lv _ _ _ _ _ (CW ad ti u pi ex de xi xb di db fi fb ob reg kq ca va xb R) _ _ _ := hw
    exact hw.riz S hr hlk (rfl) d_Bas_jumpByRegister_15 () (by simp [xJr, jrX, h4]) (trivial) (by simp [xJr, jrX, jr1, jr2, jr3, jr4, lkR, h4])
set_option maxHeartbeats 4000000 in
set_option maxRecDepth 100000 in
theorem c_Bas_returnFromTrap (l : Launch) (D : va_G) (ti : Nat → ClassId) (ad : Nat → Nat) (u : MT) (pi ex de : Nat) (xi xb di db fi fb : Int32) (ob reg : Nat → Nat) (kq : Int32 × Bool × Bool × Int32 × Int64) (ca va fv : Int32) (R : Nat → Cap) : Cg l y_Bas_returnFromTrap (wl y_Bas_returnFromTrap b_Bas_returnFromTrap 1 (some .int)) (rmL 1) D clz (ty4 ti) [.ref (ob 2)] (CW ad ti u pi ex de xi xb di db fi fb ob reg kq ca va fv R) (fun _ : Unit => some (.int (-2))) (fun _ => (CW ad ti u pi ex de xi xb di db fi fb ob reg kq ca va fv (rtR R))) (fun _ => True) := by
  refine Cg.ofF (plainFor_of_name (by decide)) (Nat.le_of_ble_eq_true rfl) ?_
  intro p9 e9 s9 m9 b9 me9 c9 ls S hr hlk hl hw
  obtain ⟨hx, hb, hml, hown, hts⟩ := id S
  have hl : lv_has ls 1 [(0, .ref (ob 2))] := hl
  have hr1 := nR1_lt xb
  have hr2 := nR2_lt xb
  have hrd := nRd_lt xb
  refine lv_aload_n hx hb d_Bas_returnFromTrap_0 rfl (lv_at hl 0 rfl) ?_
  refine q_get S hw ly_Bas 18 rfl rfl 0 (by decide) tb_2_14 rfl rfl d_Bas_returnFromTrap_1 ?_
  refine q_get S hw ly_Sta 16 rfl rfl 1 (by decide) tb_1_211 rfl rfl d_Bas_returnFromTrap_4 ?_
  refine lv_aload_n hx hb d_Bas_returnFromTrap_7 rfl (lv_at hl 0 rfl) ?_
  refine q_get S hw ly_Bas 18 rfl rfl 0 (by decide) tb_2_14 rfl rfl d_Bas_returnFromTrap_8 ?_
  refine q_get S hw ly_Sta 16 rfl rfl 0 (by decide) tb_1_209 rfl rfl d_Bas_returnFromTrap_11 ?_
  refine lv_bipush (v := 36) hx hb d_Bas_returnFromTrap_14 (by decide) ?_
  refine q_aaldN (k := 36) S hw 17 3 rfl rfl (by first | assumption | omega) (by decide) d_Bas_returnFromTrap_16 ?_
  refine q_cg (q_runV (As := [.ref (reg 36)]) (rest := []) S (w_become l D ti ad u pi ex de xi xb di db fi fb ob reg kq ca va fv R (32) (by first | decide | omega) (36) (by first | decide | omega) (by first | decide | omega)) (cw_v hts tb_4_146 k_Cap_become rfl rfl ⟨by decide, by decide⟩) hw (21 + (32)) (CW_at (by first | decide | omega)) rfl rfl hl.1 rfl (Nat.le_of_ble_eq_true rfl) d_Bas_returnFromTrap_17 ⟨Nat.zero_le _, Nat.zero_le _⟩) hw (fun z hD => CW_D hD) (fun z9 H locs hp9 hw => ?_)
  refine W.eq (g2 := F0 m9 20 ls []) rfl ?_
  have hw : Lv _ _ _ _ _ (CW ad ti u pi ex de xi xb di db fi fb ob reg kq ca va fv (va_up R (32) (R 36))) _ _ _ := hw
  refine lv_aload_n hx hb d_Bas_returnFromTrap_20 rfl (lv_at hl 0 rfl) ?_
  refine q_get S hw ly_Bas 18 rfl rfl 0 (by decide) tb_2_14 rfl rfl d_Bas_returnFromTrap_21 ?_
  refine q_get S hw ly_Sta 16 rfl rfl 1 (by decide) tb_1_211 rfl rfl d_Bas_returnFromTrap_24 ?_
  refine q_cr (q_runV (As := []) (rest := []) S (w_type l D ti ad u pi ex de xi xb di db fi fb ob reg kq ca va fv (va_up R (32) (R 36)) (32) (by first | decide | omega)) (cw_v hts tb_4_197 k_Cap_type rfl rfl ⟨by decide, by decide⟩) hw (21 + (32)) (CW_at (by first | decide | omega)) rfl rfl hl.1 rfl (Nat.le_of_ble_eq_true rfl) d_Bas_returnFromTrap_27 ⟨Nat.zero_le _, Nat.zero_le _⟩) ?_
  refine W.eq (g2 := F0 m9 30 ls [.int (cType ((va_up R (32) (R 36)) 32).2.2)]) rfl ?_
  refine lv_bipush (v := 14) hx hb d_Bas_returnFromTrap_30 (by decide) ?_
  refine lv_icmp_ne hx hb d_Bas_returnFromTrap_32 rfl (fun h32 => ?_) (fun h32 => ?_)
  · refine lv_bipush (v := -2) hx hb d_Bas_returnFromTrap_47 (by decide) ?_
    exact hw.riz S hr hlk (rfl) d_Bas_returnFromTrap_49 () (rfl) (trivial) (by rw [va_up_self] at h32; simp only [rtR, va_up_self, if_neg h32])
  · refine lv_aload_n hx hb d_Bas_returnFromTrap_35 rfl (lv_at hl 0 rfl) ?_
    refine q_get S hw ly_Bas 18 rfl rfl 0 (by decide) tb_2_14 rfl rfl d_Bas_returnFromTrap_36 ?_
    refine q_get S hw ly_Sta 16 rfl rfl 1 (by decide) tb_1_211 rfl rfl d_Bas_returnFromTrap_39 ?_
    refine lv_bipush (v := 15) hx hb d_Bas_returnFromTrap_42 (by decide) ?_
    refine q_cg (q_runV (As := [.int (15 : Int32)]) (rest := []) S (w_setType l D ti ad u pi ex de xi xb di db fi fb ob reg kq ca va fv (va_up R (32) (R 36)) (32) (by first | decide | omega) (15 : Int32)) (cw_v hts tb_4_205 k_Cap_setType rfl rfl ⟨by decide, by decide⟩) hw (21 + (32)) (CW_at (by first | decide | omega)) rfl rfl hl.1 rfl (Nat.le_of_ble_eq_true rfl) d_Bas_returnFromTrap_44 ⟨Nat.zero_le _, Nat.zero_le _⟩) hw (fun z hD => CW_D hD) (fun z9 H locs hp9 hw => ?_)
    refine W.eq (g2 := F0 m9 47 ls []) rfl ?_
    have hw : Lv _ _ _ _ _ (CW ad ti u pi ex de xi xb di db fi fb ob reg kq ca va fv (va_up (va_up R (32) (R 36)) (32) (cTyC ((va_up R (32) (R 36)) 32) (15 : Int32)))) _ _ _ := hw
    refine lv_bipush (v := -2) hx hb d_Bas_returnFromTrap_47 (by decide) ?_
    exact hw.riz S hr hlk (rfl) d_Bas_returnFromTrap_49 () (rfl) (trivial) (by rw [va_up_self] at h32; simp only [rtR, va_up_self, if_pos h32])
