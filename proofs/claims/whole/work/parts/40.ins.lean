/-! Instruction and Pipeline. -/
abbrev insC (ix bits op rd fn r1 r2 nb im : Int32) : va_E := .inr (5, [.int ix, .int bits, .int op, .int rd, .int fn, .int r1, .int r2, .int nb, .int im])
def nOp (x : Int32) : Nat := x.toBitVec.toNat % 128
def nRd (x : Int32) : Nat := x.toBitVec.toNat / 128 % 32
def nFn (x : Int32) : Nat := x.toBitVec.toNat / 4096 % 8
def nR1 (x : Int32) : Nat := x.toBitVec.toNat / 32768 % 32
def nR2 (x : Int32) : Nat := x.toBitVec.toNat / 1048576 % 32
def nNb (x : Int32) : Nat := x.toBitVec.toNat / 33554432
theorem nRd_lt (x : Int32) : nRd x < 32 := Nat.mod_lt _ (by decide)
theorem nFn_lt (x : Int32) : nFn x < 8 := Nat.mod_lt _ (by decide)
theorem nR1_lt (x : Int32) : nR1 x < 32 := Nat.mod_lt _ (by decide)
theorem nR2_lt (x : Int32) : nR2 x < 32 := Nat.mod_lt _ (by decide)
theorem nOp_lt (x : Int32) : nOp x < 128 := Nat.mod_lt _ (by decide)
theorem nNb_lt (x : Int32) : nNb x < 128 := by have := iN_lt x; unfold nNb; omega
abbrev iOp (x : Int32) : Int32 := nI (nOp x)
abbrev iRd (x : Int32) : Int32 := nI (nRd x)
abbrev iFn (x : Int32) : Int32 := nI (nFn x)
abbrev iR1 (x : Int32) : Int32 := nI (nR1 x)
abbrev iR2 (x : Int32) : Int32 := nI (nR2 x)
abbrev iNb (x : Int32) : Int32 := nI (nNb x)
theorem usm (x s mask : Int32) (k j : Nat) (hs : ((s.toUInt32 &&& Int32.toUInt32 31).toBitVec % 32).toNat = k) (hm : mask.toBitVec.toNat = 2 ^ j - 1) : jus x s &&& mask = nI (x.toBitVec.toNat / 2 ^ k % 2 ^ j) := by
  rw [pk_and _ j hm, iN_us x s k hs, iN_tn (Nat.lt_of_le_of_lt (Nat.div_le_self _ _) (iN_lt x))]
theorem iOp_e (x : Int32) : x &&& 127 = iOp x := pk_and x 7 rfl
theorem iRd_e (x : Int32) : jus x 7 &&& 31 = iRd x := usm x 7 31 7 5 (by decide) rfl
theorem iFn_e (x : Int32) : jus x 12 &&& 7 = iFn x := usm x 12 7 12 3 (by decide) rfl
theorem iR1_e (x : Int32) : jus x 15 &&& 31 = iR1 x := usm x 15 31 15 5 (by decide) rfl
theorem iR2_e (x : Int32) : jus x 20 &&& 31 = iR2 x := usm x 20 31 20 5 (by decide) rfl
theorem iNb_e (x : Int32) : jus x 25 = iNb x := iN_us x 25 25 (by decide)
def iImm (op x rd : Int32) : Int32 :=
  if op = 23 then x &&& (-4096) else if op = 35 then ((x >>> ((25 : Int32) &&& 31)) <<< ((5 : Int32) &&& 31)) ||| rd else if op = 55 then x &&& (-4096)
  else if op = 99 then ((((x >>> ((31 : Int32) &&& 31)) <<< ((12 : Int32) &&& 31)) ||| ((x <<< ((4 : Int32) &&& 31)) &&& 2048)) ||| (jus x 20 &&& 2016)) ||| (rd &&& 30)
  else if op = 111 then ((((x >>> ((31 : Int32) &&& 31)) <<< ((20 : Int32) &&& 31)) ||| (x &&& 1044480)) ||| (jus x 9 &&& 2048)) ||| (jus x 20 &&& 2046)
  else x >>> ((20 : Int32) &&& 31)
def iIm (x : Int32) : Int32 := iImm (iOp x) x (iRd x)
abbrev insD (ix x : Int32) : va_E := insC ix x (iOp x) (iRd x) (iFn x) (iR1 x) (iR2 x) (iNb x) (iIm x)
set_option maxHeartbeats 4000000 in
set_option maxRecDepth 100000 in
theorem c_Ins_immediateOf (l : Launch) (D : va_G) (tys : List (ClassId × FieldType)) (o : Nat) (ix bits op rd fn r1 r2 nb im : Int32) : Cr l y_Ins_immediateOf (wl y_Ins_immediateOf b_Ins_immediateOf 1 (some .int)) (rmL 0) D clz tys [.ref o] [(o, insC ix bits op rd fn r1 r2 nb im)] (some (.int (iImm op bits rd))) := by
  refine Cr.ofF (plainFor_of_name (by decide)) (Nat.le_of_ble_eq_true rfl) ?_
  intro p9 e9 s9 m9 b9 me9 c9 ls S hr hlk hl hw
  obtain ⟨hx, hb, hml, hown, hts⟩ := id S
  have hl : lv_has ls 1 [(0, .ref o)] := hl
  refine lv_aload_n hx hb d_Ins_immediateOf_0 rfl (lv_at hl 0 rfl) ?_
  refine q_get S hw ly_Ins 0 rfl rfl 2 (by decide) tb_1_151 rfl rfl d_Ins_immediateOf_1 ?_
  by_cases hc4_23 : op = (23 : Int32)
  · refine lv_lookup (off := 52) (tgt := 56) hx hb d_Ins_immediateOf_4 (by decide) (by rw [hc4_23] <;> rfl) rfl ?_
    refine lv_aload_n hx hb d_Ins_immediateOf_56 rfl (lv_at hl 0 rfl) ?_
    refine q_get S hw ly_Ins 0 rfl rfl 1 (by decide) tb_1_147 rfl rfl d_Ins_immediateOf_57 ?_
    refine lv_sipush (v := -4096) hx hb d_Ins_immediateOf_60 (by decide) ?_
    refine lv_iand hx hb d_Ins_immediateOf_63 ?_
    exact rd_i S hr hlk rfl d_Ins_immediateOf_64 (by simp [iImm, hc4_23])
  by_cases hc4_35 : op = (35 : Int32)
  · refine lv_lookup (off := 146) (tgt := 150) hx hb d_Ins_immediateOf_4 (by decide) (by rw [hc4_35] <;> rfl) rfl ?_
    refine lv_aload_n hx hb d_Ins_immediateOf_150 rfl (lv_at hl 0 rfl) ?_
    refine q_get S hw ly_Ins 0 rfl rfl 1 (by decide) tb_1_147 rfl rfl d_Ins_immediateOf_151 ?_
    refine lv_bipush (v := 25) hx hb d_Ins_immediateOf_154 (by decide) ?_
    refine lv_ishr hx hb d_Ins_immediateOf_156 ?_
    refine lv_iconst (v := 5) hx hb d_Ins_immediateOf_157 (by decide) ?_
    refine lv_ishl hx hb d_Ins_immediateOf_158 ?_
    refine lv_aload_n hx hb d_Ins_immediateOf_159 rfl (lv_at hl 0 rfl) ?_
    refine q_get S hw ly_Ins 0 rfl rfl 3 (by decide) tb_1_153 rfl rfl d_Ins_immediateOf_160 ?_
    refine lv_ior hx hb d_Ins_immediateOf_163 ?_
    exact rd_i S hr hlk rfl d_Ins_immediateOf_164 (by simp [iImm, hc4_23, hc4_35])
  by_cases hc4_55 : op = (55 : Int32)
  · refine lv_lookup (off := 52) (tgt := 56) hx hb d_Ins_immediateOf_4 (by decide) (by rw [hc4_55] <;> rfl) rfl ?_
    refine lv_aload_n hx hb d_Ins_immediateOf_56 rfl (lv_at hl 0 rfl) ?_
    refine q_get S hw ly_Ins 0 rfl rfl 1 (by decide) tb_1_147 rfl rfl d_Ins_immediateOf_57 ?_
    refine lv_sipush (v := -4096) hx hb d_Ins_immediateOf_60 (by decide) ?_
    refine lv_iand hx hb d_Ins_immediateOf_63 ?_
    exact rd_i S hr hlk rfl d_Ins_immediateOf_64 (by simp [iImm, hc4_23, hc4_35, hc4_55])
  by_cases hc4_99 : op = (99 : Int32)
  · refine lv_lookup (off := 104) (tgt := 108) hx hb d_Ins_immediateOf_4 (by decide) (by rw [hc4_99] <;> rfl) rfl ?_
    refine lv_aload_n hx hb d_Ins_immediateOf_108 rfl (lv_at hl 0 rfl) ?_
    refine q_get S hw ly_Ins 0 rfl rfl 1 (by decide) tb_1_147 rfl rfl d_Ins_immediateOf_109 ?_
    refine lv_bipush (v := 31) hx hb d_Ins_immediateOf_112 (by decide) ?_
    refine lv_ishr hx hb d_Ins_immediateOf_114 ?_
    refine lv_bipush (v := 12) hx hb d_Ins_immediateOf_115 (by decide) ?_
    refine lv_ishl hx hb d_Ins_immediateOf_117 ?_
    refine lv_aload_n hx hb d_Ins_immediateOf_118 rfl (lv_at hl 0 rfl) ?_
    refine q_get S hw ly_Ins 0 rfl rfl 1 (by decide) tb_1_147 rfl rfl d_Ins_immediateOf_119 ?_
    refine lv_iconst (v := 4) hx hb d_Ins_immediateOf_122 (by decide) ?_
    refine lv_ishl hx hb d_Ins_immediateOf_123 ?_
    refine lv_sipush (v := 2048) hx hb d_Ins_immediateOf_124 (by decide) ?_
    refine lv_iand hx hb d_Ins_immediateOf_127 ?_
    refine lv_ior hx hb d_Ins_immediateOf_128 ?_
    refine lv_aload_n hx hb d_Ins_immediateOf_129 rfl (lv_at hl 0 rfl) ?_
    refine q_get S hw ly_Ins 0 rfl rfl 1 (by decide) tb_1_147 rfl rfl d_Ins_immediateOf_130 ?_
    refine lv_bipush (v := 20) hx hb d_Ins_immediateOf_133 (by decide) ?_
    refine lv_iushr (v := (jus bits (20 : Int32))) hx hb d_Ins_immediateOf_135 rfl ?_
    refine lv_sipush (v := 2016) hx hb d_Ins_immediateOf_136 (by decide) ?_
    refine lv_iand hx hb d_Ins_immediateOf_139 ?_
    refine lv_ior hx hb d_Ins_immediateOf_140 ?_
    refine lv_aload_n hx hb d_Ins_immediateOf_141 rfl (lv_at hl 0 rfl) ?_
    refine q_get S hw ly_Ins 0 rfl rfl 3 (by decide) tb_1_153 rfl rfl d_Ins_immediateOf_142 ?_
    refine lv_bipush (v := 30) hx hb d_Ins_immediateOf_145 (by decide) ?_
    refine lv_iand hx hb d_Ins_immediateOf_147 ?_
    refine lv_ior hx hb d_Ins_immediateOf_148 ?_
    exact rd_i S hr hlk rfl d_Ins_immediateOf_149 (by simp [iImm, hc4_23, hc4_35, hc4_55, hc4_99])
  by_cases hc4_111 : op = (111 : Int32)
  · refine lv_lookup (off := 61) (tgt := 65) hx hb d_Ins_immediateOf_4 (by decide) (by rw [hc4_111] <;> rfl) rfl ?_
    refine lv_aload_n hx hb d_Ins_immediateOf_65 rfl (lv_at hl 0 rfl) ?_
    refine q_get S hw ly_Ins 0 rfl rfl 1 (by decide) tb_1_147 rfl rfl d_Ins_immediateOf_66 ?_
    refine lv_bipush (v := 31) hx hb d_Ins_immediateOf_69 (by decide) ?_
    refine lv_ishr hx hb d_Ins_immediateOf_71 ?_
    refine lv_bipush (v := 20) hx hb d_Ins_immediateOf_72 (by decide) ?_
    refine lv_ishl hx hb d_Ins_immediateOf_74 ?_
    refine lv_aload_n hx hb d_Ins_immediateOf_75 rfl (lv_at hl 0 rfl) ?_
    refine q_get S hw ly_Ins 0 rfl rfl 1 (by decide) tb_1_147 rfl rfl d_Ins_immediateOf_76 ?_
    refine lv_ldc (v := 1044480) hx hb hown (hts _ tb_3_203) d_Ins_immediateOf_79 ?_
    refine lv_iand hx hb d_Ins_immediateOf_81 ?_
    refine lv_ior hx hb d_Ins_immediateOf_82 ?_
    refine lv_aload_n hx hb d_Ins_immediateOf_83 rfl (lv_at hl 0 rfl) ?_
    refine q_get S hw ly_Ins 0 rfl rfl 1 (by decide) tb_1_147 rfl rfl d_Ins_immediateOf_84 ?_
    refine lv_bipush (v := 9) hx hb d_Ins_immediateOf_87 (by decide) ?_
    refine lv_iushr (v := (jus bits (9 : Int32))) hx hb d_Ins_immediateOf_89 rfl ?_
    refine lv_sipush (v := 2048) hx hb d_Ins_immediateOf_90 (by decide) ?_
    refine lv_iand hx hb d_Ins_immediateOf_93 ?_
    refine lv_ior hx hb d_Ins_immediateOf_94 ?_
    refine lv_aload_n hx hb d_Ins_immediateOf_95 rfl (lv_at hl 0 rfl) ?_
    refine q_get S hw ly_Ins 0 rfl rfl 1 (by decide) tb_1_147 rfl rfl d_Ins_immediateOf_96 ?_
    refine lv_bipush (v := 20) hx hb d_Ins_immediateOf_99 (by decide) ?_
    refine lv_iushr (v := (jus bits (20 : Int32))) hx hb d_Ins_immediateOf_101 rfl ?_
    refine lv_sipush (v := 2046) hx hb d_Ins_immediateOf_102 (by decide) ?_
    refine lv_iand hx hb d_Ins_immediateOf_105 ?_
    refine lv_ior hx hb d_Ins_immediateOf_106 ?_
    exact rd_i S hr hlk rfl d_Ins_immediateOf_107 (by simp [iImm, hc4_23, hc4_35, hc4_55, hc4_99, hc4_111])
  refine lv_lookup (off := 161) (tgt := 165) hx hb d_Ins_immediateOf_4 (by decide) (by show Op.lookupswitch.offset [(23, 52), (35, 146), (55, 52), (99, 104), (111, 61)] 161 (Int32.toInt op) = 161; rw [lv_osw (a := 23) hc4_23 rfl, lv_osw (a := 35) hc4_35 rfl, lv_osw (a := 55) hc4_55 rfl, lv_osw (a := 99) hc4_99 rfl, lv_osw (a := 111) hc4_111 rfl] <;> rfl) rfl ?_
  refine lv_aload_n hx hb d_Ins_immediateOf_165 rfl (lv_at hl 0 rfl) ?_
  refine q_get S hw ly_Ins 0 rfl rfl 1 (by decide) tb_1_147 rfl rfl d_Ins_immediateOf_166 ?_
  refine lv_bipush (v := 20) hx hb d_Ins_immediateOf_169 (by decide) ?_
  refine lv_ishr hx hb d_Ins_immediateOf_171 ?_
  exact rd_i S hr hlk rfl d_Ins_immediateOf_172 (by simp [iImm, hc4_23, hc4_35, hc4_55, hc4_99, hc4_111])
set_option maxHeartbeats 4000000 in
set_option maxRecDepth 100000 in
theorem c_Ins_decode (l : Launch) (D : va_G) (tys : List (ClassId × FieldType)) (o : Nat) (ix bits op rd fn r1 r2 nb im : Int32) (k x : Int32) : Cg l y_Ins_decode (wl y_Ins_decode b_Ins_decode 3 none) (rmL 1) D clz tys [.ref o, .int k, .int x] [(o, insC ix bits op rd fn r1 r2 nb im)] (fun _ : Unit => none) (fun _ => [(o, insD k x)]) (fun _ => True) := by
  refine Cg.ofF (plainFor_of_name (by decide)) (Nat.le_of_ble_eq_true rfl) ?_
  intro p9 e9 s9 m9 b9 me9 c9 ls S hr hlk hl hw
  obtain ⟨hx, hb, hml, hown, hts⟩ := id S
  have hl : lv_has ls 3 [(0, .ref o), (1, .int k), (2, .int x)] := hl
  refine lv_aload_n hx hb d_Ins_decode_0 rfl (lv_at hl 0 rfl) ?_
  refine lv_iload_n hx hb d_Ins_decode_1 rfl (lv_at hl 1 rfl) ?_
  refine q_put (v := .int k) S hw ly_Ins t_Ins t_Ins_ok n_Ins 0 rfl rfl 0 (by decide) tb_1_145 rfl rfl rfl rfl (Nat.le_of_ble_eq_true rfl) d_Ins_decode_2 (fun H locs hw => ?_)
  have hw : Lv _ _ _ _ _ [(o, insC k bits op rd fn r1 r2 nb im)] _ _ _ := hw
  refine lv_aload_n hx hb d_Ins_decode_5 rfl (lv_at hl 0 rfl) ?_
  refine lv_iload_n hx hb d_Ins_decode_6 rfl (lv_at hl 2 rfl) ?_
  refine q_put (v := .int x) S hw ly_Ins t_Ins t_Ins_ok n_Ins 0 rfl rfl 1 (by decide) tb_1_147 rfl rfl rfl rfl (Nat.le_of_ble_eq_true rfl) d_Ins_decode_7 (fun H locs hw => ?_)
  have hw : Lv _ _ _ _ _ [(o, insC k x op rd fn r1 r2 nb im)] _ _ _ := hw
  refine lv_aload_n hx hb d_Ins_decode_10 rfl (lv_at hl 0 rfl) ?_
  refine lv_aload_n hx hb d_Ins_decode_11 rfl (lv_at hl 0 rfl) ?_
  refine q_get S hw ly_Ins 0 rfl rfl 1 (by decide) tb_1_147 rfl rfl d_Ins_decode_12 ?_
  refine lv_bipush (v := 127) hx hb d_Ins_decode_15 (by decide) ?_
  refine lv_iand hx hb d_Ins_decode_17 ?_
  refine q_topi (z := (iOp x)) (iOp_e x) ?_
  refine q_put (v := .int (iOp x)) S hw ly_Ins t_Ins t_Ins_ok n_Ins 0 rfl rfl 2 (by decide) tb_1_151 rfl rfl rfl rfl (Nat.le_of_ble_eq_true rfl) d_Ins_decode_18 (fun H locs hw => ?_)
  have hw : Lv _ _ _ _ _ [(o, insC k x (iOp x) rd fn r1 r2 nb im)] _ _ _ := hw
  refine lv_aload_n hx hb d_Ins_decode_21 rfl (lv_at hl 0 rfl) ?_
  refine lv_aload_n hx hb d_Ins_decode_22 rfl (lv_at hl 0 rfl) ?_
  refine q_get S hw ly_Ins 0 rfl rfl 1 (by decide) tb_1_147 rfl rfl d_Ins_decode_23 ?_
  refine lv_bipush (v := 7) hx hb d_Ins_decode_26 (by decide) ?_
  refine lv_iushr (v := (jus x (7 : Int32))) hx hb d_Ins_decode_28 rfl ?_
  refine lv_bipush (v := 31) hx hb d_Ins_decode_29 (by decide) ?_
  refine lv_iand hx hb d_Ins_decode_31 ?_
  refine q_topi (z := (iRd x)) (iRd_e x) ?_
  refine q_put (v := .int (iRd x)) S hw ly_Ins t_Ins t_Ins_ok n_Ins 0 rfl rfl 3 (by decide) tb_1_153 rfl rfl rfl rfl (Nat.le_of_ble_eq_true rfl) d_Ins_decode_32 (fun H locs hw => ?_)
  have hw : Lv _ _ _ _ _ [(o, insC k x (iOp x) (iRd x) fn r1 r2 nb im)] _ _ _ := hw
  refine lv_aload_n hx hb d_Ins_decode_35 rfl (lv_at hl 0 rfl) ?_
  refine lv_aload_n hx hb d_Ins_decode_36 rfl (lv_at hl 0 rfl) ?_
  refine q_get S hw ly_Ins 0 rfl rfl 1 (by decide) tb_1_147 rfl rfl d_Ins_decode_37 ?_
  refine lv_bipush (v := 12) hx hb d_Ins_decode_40 (by decide) ?_
  refine lv_iushr (v := (jus x (12 : Int32))) hx hb d_Ins_decode_42 rfl ?_
  refine lv_bipush (v := 7) hx hb d_Ins_decode_43 (by decide) ?_
  refine lv_iand hx hb d_Ins_decode_45 ?_
  refine q_topi (z := (iFn x)) (iFn_e x) ?_
  refine q_put (v := .int (iFn x)) S hw ly_Ins t_Ins t_Ins_ok n_Ins 0 rfl rfl 4 (by decide) tb_1_157 rfl rfl rfl rfl (Nat.le_of_ble_eq_true rfl) d_Ins_decode_46 (fun H locs hw => ?_)
  have hw : Lv _ _ _ _ _ [(o, insC k x (iOp x) (iRd x) (iFn x) r1 r2 nb im)] _ _ _ := hw
  refine lv_aload_n hx hb d_Ins_decode_49 rfl (lv_at hl 0 rfl) ?_
  refine lv_aload_n hx hb d_Ins_decode_50 rfl (lv_at hl 0 rfl) ?_
  refine q_get S hw ly_Ins 0 rfl rfl 1 (by decide) tb_1_147 rfl rfl d_Ins_decode_51 ?_
  refine lv_bipush (v := 15) hx hb d_Ins_decode_54 (by decide) ?_
  refine lv_iushr (v := (jus x (15 : Int32))) hx hb d_Ins_decode_56 rfl ?_
  refine lv_bipush (v := 31) hx hb d_Ins_decode_57 (by decide) ?_
  refine lv_iand hx hb d_Ins_decode_59 ?_
  refine q_topi (z := (iR1 x)) (iR1_e x) ?_
  refine q_put (v := .int (iR1 x)) S hw ly_Ins t_Ins t_Ins_ok n_Ins 0 rfl rfl 5 (by decide) tb_1_160 rfl rfl rfl rfl (Nat.le_of_ble_eq_true rfl) d_Ins_decode_60 (fun H locs hw => ?_)
  have hw : Lv _ _ _ _ _ [(o, insC k x (iOp x) (iRd x) (iFn x) (iR1 x) r2 nb im)] _ _ _ := hw
  refine lv_aload_n hx hb d_Ins_decode_63 rfl (lv_at hl 0 rfl) ?_
  refine lv_aload_n hx hb d_Ins_decode_64 rfl (lv_at hl 0 rfl) ?_
  refine q_get S hw ly_Ins 0 rfl rfl 1 (by decide) tb_1_147 rfl rfl d_Ins_decode_65 ?_
  refine lv_bipush (v := 20) hx hb d_Ins_decode_68 (by decide) ?_
  refine lv_iushr (v := (jus x (20 : Int32))) hx hb d_Ins_decode_70 rfl ?_
  refine lv_bipush (v := 31) hx hb d_Ins_decode_71 (by decide) ?_
  refine lv_iand hx hb d_Ins_decode_73 ?_
  refine q_topi (z := (iR2 x)) (iR2_e x) ?_
  refine q_put (v := .int (iR2 x)) S hw ly_Ins t_Ins t_Ins_ok n_Ins 0 rfl rfl 6 (by decide) tb_1_163 rfl rfl rfl rfl (Nat.le_of_ble_eq_true rfl) d_Ins_decode_74 (fun H locs hw => ?_)
  have hw : Lv _ _ _ _ _ [(o, insC k x (iOp x) (iRd x) (iFn x) (iR1 x) (iR2 x) nb im)] _ _ _ := hw
  refine lv_aload_n hx hb d_Ins_decode_77 rfl (lv_at hl 0 rfl) ?_
  refine lv_aload_n hx hb d_Ins_decode_78 rfl (lv_at hl 0 rfl) ?_
  refine q_get S hw ly_Ins 0 rfl rfl 1 (by decide) tb_1_147 rfl rfl d_Ins_decode_79 ?_
  refine lv_bipush (v := 25) hx hb d_Ins_decode_82 (by decide) ?_
  refine lv_iushr (v := (jus x (25 : Int32))) hx hb d_Ins_decode_84 rfl ?_
  refine q_topi (z := (iNb x)) (iNb_e x) ?_
  refine q_put (v := .int (iNb x)) S hw ly_Ins t_Ins t_Ins_ok n_Ins 0 rfl rfl 7 (by decide) tb_1_165 rfl rfl rfl rfl (Nat.le_of_ble_eq_true rfl) d_Ins_decode_85 (fun H locs hw => ?_)
  have hw : Lv _ _ _ _ _ [(o, insC k x (iOp x) (iRd x) (iFn x) (iR1 x) (iR2 x) (iNb x) im)] _ _ _ := hw
  refine lv_aload_n hx hb d_Ins_decode_88 rfl (lv_at hl 0 rfl) ?_
  refine lv_aload_n hx hb d_Ins_decode_89 rfl (lv_at hl 0 rfl) ?_
  refine q_cr (q_runV (As := []) (rest := [.ref o]) S (Cr.one (c_Ins_immediateOf l D tys o k x (iOp x) (iRd x) (iFn x) (iR1 x) (iR2 x) (iNb x) im) 0 rfl) (cw_v hts tb_3_199 k_Ins_immediateOf rfl rfl ⟨by decide, by decide⟩) hw 0 rfl rfl rfl hl.1 rfl (Nat.le_of_ble_eq_true rfl) d_Ins_decode_90 ⟨Nat.zero_le _, Nat.zero_le _⟩) ?_
  refine W.eq (g2 := F0 m9 93 ls [.int (iImm (iOp x) x (iRd x)), .ref o]) rfl ?_
  refine q_topi (z := (iIm x)) (rfl) ?_
  refine q_put (v := .int (iIm x)) S hw ly_Ins t_Ins t_Ins_ok n_Ins 0 rfl rfl 8 (by decide) tb_1_169 rfl rfl rfl rfl (Nat.le_of_ble_eq_true rfl) d_Ins_decode_93 (fun H locs hw => ?_)
  have hw : Lv _ _ _ _ _ [(o, insC k x (iOp x) (iRd x) (iFn x) (iR1 x) (iR2 x) (iNb x) (iIm x))] _ _ _ := hw
  exact hw.rv S hr hlk d_Ins_decode_96 () (rfl) (trivial) (rfl)
