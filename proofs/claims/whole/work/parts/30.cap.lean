/-! Capability: the words of the class for its numbers. -/
abbrev capC (t : Bool) (a m : Int32) (b tp : Int64) : va_E := .inr (0, [.int (jb t), .int a, .int m, .long b, .long tp])
def lmin (x y : Int64) : Int64 := if y < x then y else x
def cPerms (m : Int32) : Int32 := jus m 20
def cType (m : Int32) : Int32 := jus m 16 &&& 15
def cMay (m k : Int32) : Bool := if (jus (cPerms m) k &&& 1) = 0 then false else true
def cOpen (m : Int32) : Bool := if cType m = 15 then true else false
def cTold (m : Int32) : Int32 := m ^^^ 1000194
def cLen (b tp : Int64) : Int32 := (lmin (tp - b) 4294967295).toInt32
def cCov (b tp : Int64) (x : Int32) (n : Int64) : Bool := if cLow x < b then false else if tp < cLow x + n then false else true
def cWith (m : Int32) (b tp : Int64) (m2 : Int32) (b2 tp2 : Int64) : Bool := if b < b2 then false else if tp2 < tp then false else if (cPerms m &&& (cPerms m2 ^^^ (-1))) = 0 then true else false
def cSetT (m t : Int32) : Int32 := (m &&& (-983041)) ||| (t <<< ((16 : Int32) &&& 31))
def cSetP (m q : Int32) : Int32 := (m &&& 1048575) ||| (q <<< ((20 : Int32) &&& 31))
def cSetB (m x : Int32) : Int32 := (m &&& (-32768)) ||| x
def cMv (t : Bool) (m : Int32) (b tp : Int64) (x : Int32) : Bool := if t = false then false else if cOpen m = false then false else if cbase m x = b then (if ctop m x = tp then true else false) else false
set_option maxHeartbeats 4000000 in
set_option maxRecDepth 100000 in
theorem c_Math_min (l : Launch) (D : va_G) (tys : List (ClassId × FieldType)) (x y : Int32) : Cr l y_Math_min (wl y_Math_min b_Math_min 2 (some .int)) (rmL 0) D clz tys [.int x, .int y] [] (some (.int (jmin x y))) := by
  refine Cr.ofF (by decide +kernel) (Nat.le_of_ble_eq_true rfl) ?_
  intro p9 e9 s9 m9 b9 me9 c9 ls S hr hlk hl hw
  obtain ⟨hx, hb, hml, hown, hts⟩ := id S
  have hl : lv_has ls 2 [(0, .int x), (1, .int y)] := hl
  refine lv_iload_n hx hb d_Math_min_0 rfl (lv_at hl 0 rfl) ?_
  refine lv_iload_n hx hb d_Math_min_1 rfl (lv_at hl 1 rfl) ?_
  refine lv_icmp_gt hx hb d_Math_min_2 rfl (fun h2 => ?_) (fun h2 => ?_)
  · refine lv_iload_n hx hb d_Math_min_9 rfl (lv_at hl 1 rfl) ?_
    exact rd_i S hr hlk rfl d_Math_min_10 (by simp [jmin, h2])
  · refine lv_iload_n hx hb d_Math_min_5 rfl (lv_at hl 0 rfl) ?_
    refine lv_goto hx hb d_Math_min_6 rfl ?_
    exact rd_i S hr hlk rfl d_Math_min_10 (by simp [jmin, h2])
set_option maxHeartbeats 4000000 in
set_option maxRecDepth 100000 in
theorem c_Math_minL (l : Launch) (D : va_G) (tys : List (ClassId × FieldType)) (x y : Int64) : Cr l y_Math_minL (wl y_Math_minL b_Math_minL 4 (some .long)) (rmL 0) D clz tys [.long x, .long y] [] (some (.long (lmin x y))) := by
  refine Cr.ofF (by decide +kernel) (Nat.le_of_ble_eq_true rfl) ?_
  intro p9 e9 s9 m9 b9 me9 c9 ls S hr hlk hl hw
  obtain ⟨hx, hb, hml, hown, hts⟩ := id S
  have hl : lv_has ls 4 [(0, .long x), (2, .long y)] := hl
  refine lv_lload_n hx hb d_Math_minL_0 rfl (lv_at hl 0 rfl) ?_
  refine lv_lload_n hx hb d_Math_minL_1 rfl (lv_at hl 1 rfl) ?_
  refine q_lc_gt S d_Math_minL_2 d_Math_minL_3 rfl (fun h3 => ?_) (fun h3 => ?_)
  · refine lv_lload_n hx hb d_Math_minL_10 rfl (lv_at hl 1 rfl) ?_
    exact rd_l S hr hlk d_Math_minL_11 (by simp [lmin, h3])
  · refine lv_lload_n hx hb d_Math_minL_6 rfl (lv_at hl 0 rfl) ?_
    refine lv_goto hx hb d_Math_minL_7 rfl ?_
    exact rd_l S hr hlk d_Math_minL_11 (by simp [lmin, h3])
set_option maxHeartbeats 4000000 in
set_option maxRecDepth 100000 in
theorem c_Cap_below (l : Launch) (D : va_G) (tys : List (ClassId × FieldType)) (x y : Int32) : Cr l y_Cap_below (wl y_Cap_below b_Cap_below 2 (some .int)) (rmL 0) D clz tys [.int x, .int y] [] (some (.int (sBel x y))) := by
  refine Cr.ofF (plainFor_of_name (by decide)) (Nat.le_of_ble_eq_true rfl) ?_
  intro p9 e9 s9 m9 b9 me9 c9 ls S hr hlk hl hw
  obtain ⟨hx, hb, hml, hown, hts⟩ := id S
  have hl : lv_has ls 2 [(0, .int x), (1, .int y)] := hl
  refine lv_iload_n hx hb d_Cap_below_0 rfl (lv_at hl 0 rfl) ?_
  refine lv_iconst (v := 5) hx hb d_Cap_below_1 (by decide) ?_
  refine lv_iushr (v := (jus x (5 : Int32))) hx hb d_Cap_below_2 rfl ?_
  refine lv_iload_n hx hb d_Cap_below_3 rfl (lv_at hl 1 rfl) ?_
  refine lv_icmp_ge hx hb d_Cap_below_4 rfl (fun h4 => ?_) (fun h4 => ?_)
  · refine lv_iconst (v := 0) hx hb d_Cap_below_11 (by decide) ?_
    exact rd_i S hr hlk rfl d_Cap_below_12 (by simp [sBel, Int32.not_lt, h4])
  · refine lv_iconst (v := 1) hx hb d_Cap_below_7 (by decide) ?_
    refine lv_goto hx hb d_Cap_below_8 rfl ?_
    exact rd_i S hr hlk rfl d_Cap_below_12 (by simp [sBel, Int32.not_lt, h4])
set_option maxHeartbeats 4000000 in
set_option maxRecDepth 100000 in
theorem c_Cap_perms (l : Launch) (D : va_G) (tys : List (ClassId × FieldType)) (o : Nat) (t : Bool) (a m : Int32) (b tp : Int64) : Cr l y_Cap_perms (wl y_Cap_perms b_Cap_perms 1 (some .int)) (rmL 0) D clz tys [.ref o] [(o, capC t a m b tp)] (some (.int (cPerms m))) := by
  refine Cr.ofF (plainFor_of_name (by decide)) (Nat.le_of_ble_eq_true rfl) ?_
  intro p9 e9 s9 m9 b9 me9 c9 ls S hr hlk hl hw
  obtain ⟨hx, hb, hml, hown, hts⟩ := id S
  have hl : lv_has ls 1 [(0, .ref o)] := hl
  refine lv_aload_n hx hb d_Cap_perms_0 rfl (lv_at hl 0 rfl) ?_
  refine q_get S hw ly_Cap 0 rfl rfl 2 (by decide) tb_1_55 rfl rfl d_Cap_perms_1 ?_
  refine lv_bipush (v := 20) hx hb d_Cap_perms_4 (by decide) ?_
  refine lv_iushr (v := (jus m (20 : Int32))) hx hb d_Cap_perms_6 rfl ?_
  exact rd_i S hr hlk rfl d_Cap_perms_7 (rfl)
set_option maxHeartbeats 4000000 in
set_option maxRecDepth 100000 in
theorem c_Cap_type (l : Launch) (D : va_G) (tys : List (ClassId × FieldType)) (o : Nat) (t : Bool) (a m : Int32) (b tp : Int64) : Cr l y_Cap_type (wl y_Cap_type b_Cap_type 1 (some .int)) (rmL 0) D clz tys [.ref o] [(o, capC t a m b tp)] (some (.int (cType m))) := by
  refine Cr.ofF (plainFor_of_name (by decide)) (Nat.le_of_ble_eq_true rfl) ?_
  intro p9 e9 s9 m9 b9 me9 c9 ls S hr hlk hl hw
  obtain ⟨hx, hb, hml, hown, hts⟩ := id S
  have hl : lv_has ls 1 [(0, .ref o)] := hl
  refine lv_aload_n hx hb d_Cap_type_0 rfl (lv_at hl 0 rfl) ?_
  refine q_get S hw ly_Cap 0 rfl rfl 2 (by decide) tb_1_55 rfl rfl d_Cap_type_1 ?_
  refine lv_bipush (v := 16) hx hb d_Cap_type_4 (by decide) ?_
  refine lv_iushr (v := (jus m (16 : Int32))) hx hb d_Cap_type_6 rfl ?_
  refine lv_bipush (v := 15) hx hb d_Cap_type_7 (by decide) ?_
  refine lv_iand hx hb d_Cap_type_9 ?_
  exact rd_i S hr hlk rfl d_Cap_type_10 (rfl)
set_option maxHeartbeats 4000000 in
set_option maxRecDepth 100000 in
theorem c_Cap_may (l : Launch) (D : va_G) (tys : List (ClassId × FieldType)) (o : Nat) (t : Bool) (a m : Int32) (b tp : Int64) (k : Int32) : Cr l y_Cap_may (wl y_Cap_may b_Cap_may 2 (some .boolean)) (rmL 1) D clz tys [.ref o, .int k] [(o, capC t a m b tp)] (some (.int (jb (cMay m k)))) := by
  refine Cr.ofF (plainFor_of_name (by decide)) (Nat.le_of_ble_eq_true rfl) ?_
  intro p9 e9 s9 m9 b9 me9 c9 ls S hr hlk hl hw
  obtain ⟨hx, hb, hml, hown, hts⟩ := id S
  have hl : lv_has ls 2 [(0, .ref o), (1, .int k)] := hl
  refine lv_aload_n hx hb d_Cap_may_0 rfl (lv_at hl 0 rfl) ?_
  refine q_cr (q_runV (As := []) (rest := []) S (Cr.one (c_Cap_perms l D tys o t a m b tp) 0 rfl) (cw_v hts tb_2_131 k_Cap_perms rfl rfl ⟨by decide, by decide⟩) hw 0 rfl rfl rfl hl.1 rfl (Nat.le_of_ble_eq_true rfl) d_Cap_may_1 ⟨Nat.zero_le _, Nat.zero_le _⟩) ?_
  refine W.eq (g2 := F0 m9 4 ls [.int (cPerms m)]) rfl ?_
  refine lv_iload_n hx hb d_Cap_may_4 rfl (lv_at hl 1 rfl) ?_
  refine lv_iushr (v := (jus (cPerms m) k)) hx hb d_Cap_may_5 rfl ?_
  refine lv_iconst (v := 1) hx hb d_Cap_may_6 (by decide) ?_
  refine lv_iand hx hb d_Cap_may_7 ?_
  refine lv_if_eq hx hb d_Cap_may_8 rfl (fun h8 => ?_) (fun h8 => ?_)
  · refine lv_iconst (v := 0) hx hb d_Cap_may_15 (by decide) ?_
    exact rd_i S hr hlk rfl d_Cap_may_16 (by simp [cMay, jb, h8])
  · refine lv_iconst (v := 1) hx hb d_Cap_may_11 (by decide) ?_
    refine lv_goto hx hb d_Cap_may_12 rfl ?_
    exact rd_i S hr hlk rfl d_Cap_may_16 (by simp [cMay, jb, h8])
set_option maxHeartbeats 4000000 in
set_option maxRecDepth 100000 in
theorem c_Cap_isOpen (l : Launch) (D : va_G) (tys : List (ClassId × FieldType)) (o : Nat) (t : Bool) (a m : Int32) (b tp : Int64) : Cr l y_Cap_isOpen (wl y_Cap_isOpen b_Cap_isOpen 1 (some .boolean)) (rmL 1) D clz tys [.ref o] [(o, capC t a m b tp)] (some (.int (jb (cOpen m)))) := by
  refine Cr.ofF (plainFor_of_name (by decide)) (Nat.le_of_ble_eq_true rfl) ?_
  intro p9 e9 s9 m9 b9 me9 c9 ls S hr hlk hl hw
  obtain ⟨hx, hb, hml, hown, hts⟩ := id S
  have hl : lv_has ls 1 [(0, .ref o)] := hl
  refine lv_aload_n hx hb d_Cap_isOpen_0 rfl (lv_at hl 0 rfl) ?_
  refine q_cr (q_runV (As := []) (rest := []) S (Cr.one (c_Cap_type l D tys o t a m b tp) 0 rfl) (cw_v hts tb_3_174 k_Cap_type rfl rfl ⟨by decide, by decide⟩) hw 0 rfl rfl rfl hl.1 rfl (Nat.le_of_ble_eq_true rfl) d_Cap_isOpen_1 ⟨Nat.zero_le _, Nat.zero_le _⟩) ?_
  refine W.eq (g2 := F0 m9 4 ls [.int (cType m)]) rfl ?_
  refine lv_bipush (v := 15) hx hb d_Cap_isOpen_4 (by decide) ?_
  refine lv_icmp_ne hx hb d_Cap_isOpen_6 rfl (fun h6 => ?_) (fun h6 => ?_)
  · refine lv_iconst (v := 0) hx hb d_Cap_isOpen_13 (by decide) ?_
    exact rd_i S hr hlk rfl d_Cap_isOpen_14 (by simp [cOpen, jb, h6])
  · refine lv_iconst (v := 1) hx hb d_Cap_isOpen_9 (by decide) ?_
    refine lv_goto hx hb d_Cap_isOpen_10 rfl ?_
    exact rd_i S hr hlk rfl d_Cap_isOpen_14 (by simp [cOpen, jb, h6])
set_option maxHeartbeats 4000000 in
set_option maxRecDepth 100000 in
theorem c_Cap_toldMeta (l : Launch) (D : va_G) (tys : List (ClassId × FieldType)) (o : Nat) (t : Bool) (a m : Int32) (b tp : Int64) : Cr l y_Cap_toldMeta (wl y_Cap_toldMeta b_Cap_toldMeta 1 (some .int)) (rmL 0) D clz tys [.ref o] [(o, capC t a m b tp)] (some (.int (cTold m))) := by
  refine Cr.ofF (plainFor_of_name (by decide)) (Nat.le_of_ble_eq_true rfl) ?_
  intro p9 e9 s9 m9 b9 me9 c9 ls S hr hlk hl hw
  obtain ⟨hx, hb, hml, hown, hts⟩ := id S
  have hl : lv_has ls 1 [(0, .ref o)] := hl
  refine lv_aload_n hx hb d_Cap_toldMeta_0 rfl (lv_at hl 0 rfl) ?_
  refine q_get S hw ly_Cap 0 rfl rfl 2 (by decide) tb_1_55 rfl rfl d_Cap_toldMeta_1 ?_
  refine lv_ldc (v := 1000194) hx hb hown (hts _ tb_1_43) d_Cap_toldMeta_4 ?_
  refine lv_ixor hx hb d_Cap_toldMeta_6 ?_
  exact rd_i S hr hlk rfl d_Cap_toldMeta_7 (rfl)
set_option maxHeartbeats 4000000 in
set_option maxRecDepth 100000 in
theorem c_Cap_length (l : Launch) (D : va_G) (tys : List (ClassId × FieldType)) (o : Nat) (t : Bool) (a m : Int32) (b tp : Int64) : Cr l y_Cap_length (wl y_Cap_length b_Cap_length 1 (some .int)) (rmL 1) D clz tys [.ref o] [(o, capC t a m b tp)] (some (.int (cLen b tp))) := by
  refine Cr.ofF (plainFor_of_name (by decide)) (Nat.le_of_ble_eq_true rfl) ?_
  intro p9 e9 s9 m9 b9 me9 c9 ls S hr hlk hl hw
  obtain ⟨hx, hb, hml, hown, hts⟩ := id S
  have hl : lv_has ls 1 [(0, .ref o)] := hl
  refine lv_aload_n hx hb d_Cap_length_0 rfl (lv_at hl 0 rfl) ?_
  refine q_get S hw ly_Cap 0 rfl rfl 4 (by decide) tb_1_59 rfl rfl d_Cap_length_1 ?_
  refine lv_aload_n hx hb d_Cap_length_4 rfl (lv_at hl 0 rfl) ?_
  refine q_get S hw ly_Cap 0 rfl rfl 3 (by decide) tb_1_56 rfl rfl d_Cap_length_5 ?_
  refine lv_lsub hx hb d_Cap_length_8 ?_
  refine lv_ldc2 (v := 4294967295) hx hb hown (hts _ tb_2_113) d_Cap_length_9 ?_
  refine q_cr (q_runS (As := [.long (tp - b), .long (4294967295 : Int64)]) (rest := []) S ((c_Math_minL l D tys (tp - b) (4294967295 : Int64)).nil _) (cw_s hts tb_4_81 k_Math_minL rfl rfl ⟨by decide, by decide⟩) hw rfl hl.1 rfl (Nat.le_of_ble_eq_true rfl) d_Cap_length_12 ⟨Nat.zero_le _, Nat.zero_le _⟩) ?_
  refine W.eq (g2 := F0 m9 15 ls [.long (lmin (tp - b) (4294967295 : Int64))]) rfl ?_
  refine lv_l2i (v := ((lmin (tp - b) (4294967295 : Int64)).toInt32)) hx hb d_Cap_length_15 rfl ?_
  exact rd_i S hr hlk rfl d_Cap_length_16 (rfl)
set_option maxHeartbeats 4000000 in
set_option maxRecDepth 100000 in
theorem c_Cap_covers (l : Launch) (D : va_G) (tys : List (ClassId × FieldType)) (o : Nat) (t : Bool) (a m : Int32) (b tp : Int64) (x : Int32) (n : Int64) : Cr l y_Cap_covers (wl y_Cap_covers b_Cap_covers 6 (some .boolean)) (rmL 0) D clz tys [.ref o, .int x, .long n] [(o, capC t a m b tp)] (some (.int (jb (cCov b tp x n)))) := by
  refine Cr.ofF (plainFor_of_name (by decide)) (Nat.le_of_ble_eq_true rfl) ?_
  intro p9 e9 s9 m9 b9 me9 c9 ls S hr hlk hl hw
  obtain ⟨hx, hb, hml, hown, hts⟩ := id S
  have hl : lv_has ls 6 [(0, .ref o), (1, .int x), (2, .long n)] := hl
  refine lv_iload_n hx hb d_Cap_covers_0 rfl (lv_at hl 1 rfl) ?_
  refine lv_i2l (v := (x.toInt64)) hx hb d_Cap_covers_1 rfl ?_
  refine lv_ldc2 (v := 4294967295) hx hb hown (hts _ tb_2_113) d_Cap_covers_2 ?_
  refine lv_land hx hb d_Cap_covers_5 ?_
  refine q_topl (z := cLow x) rfl ?_
  refine lv_lstore (lv' := [(4, .long (cLow x)), (0, .ref o), (1, .int x), (2, .long n)]) hx hb d_Cap_covers_6 hl (by decide) rfl (fun ls hl => ?_)
  refine lv_aload_n hx hb d_Cap_covers_8 rfl (lv_at hl 1 rfl) ?_
  refine q_get S hw ly_Cap 0 rfl rfl 3 (by decide) tb_1_56 rfl rfl d_Cap_covers_9 ?_
  refine lv_lload hx hb d_Cap_covers_12 (lv_at hl 0 rfl) ?_
  refine q_lc_gt S d_Cap_covers_14 d_Cap_covers_15 rfl (fun h15 => ?_) (fun h15 => ?_)
  · refine lv_iconst (v := 0) hx hb d_Cap_covers_34 (by decide) ?_
    exact rd_i S hr hlk rfl d_Cap_covers_35 (by simp [cCov, jb, h15])
  · refine lv_lload hx hb d_Cap_covers_18 (lv_at hl 0 rfl) ?_
    refine lv_lload_n hx hb d_Cap_covers_20 rfl (lv_at hl 3 rfl) ?_
    refine lv_ladd hx hb d_Cap_covers_21 ?_
    refine lv_aload_n hx hb d_Cap_covers_22 rfl (lv_at hl 1 rfl) ?_
    refine q_get S hw ly_Cap 0 rfl rfl 4 (by decide) tb_1_59 rfl rfl d_Cap_covers_23 ?_
    refine q_lc_gt S d_Cap_covers_26 d_Cap_covers_27 rfl (fun h27 => ?_) (fun h27 => ?_)
    · refine lv_iconst (v := 0) hx hb d_Cap_covers_34 (by decide) ?_
      exact rd_i S hr hlk rfl d_Cap_covers_35 (by simp [cCov, jb, h15, h27])
    · refine lv_iconst (v := 1) hx hb d_Cap_covers_30 (by decide) ?_
      refine lv_goto hx hb d_Cap_covers_31 rfl ?_
      exact rd_i S hr hlk rfl d_Cap_covers_35 (by simp [cCov, jb, h15, h27])
set_option maxHeartbeats 4000000 in
set_option maxRecDepth 100000 in
theorem c_Cap_isWithin (l : Launch) (D : va_G) (tys : List (ClassId × FieldType)) (o : Nat) (t : Bool) (a m : Int32) (b tp : Int64) (o2 : Nat) (t2 : Bool) (a2 m2 : Int32) (b2 tp2 : Int64) : Cr l y_Cap_isWithin (wl y_Cap_isWithin b_Cap_isWithin 2 (some .boolean)) (rmL 1) D clz tys [.ref o, .ref o2] [(o, capC t a m b tp), (o2, capC t2 a2 m2 b2 tp2)] (some (.int (jb (cWith m b tp m2 b2 tp2)))) := by
  refine Cr.ofF (plainFor_of_name (by decide)) (Nat.le_of_ble_eq_true rfl) ?_
  intro p9 e9 s9 m9 b9 me9 c9 ls S hr hlk hl hw
  obtain ⟨hx, hb, hml, hown, hts⟩ := id S
  have hl : lv_has ls 2 [(0, .ref o), (1, .ref o2)] := hl
  refine lv_aload_n hx hb d_Cap_isWithin_0 rfl (lv_at hl 0 rfl) ?_
  refine q_get S hw ly_Cap 0 rfl rfl 3 (by decide) tb_1_56 rfl rfl d_Cap_isWithin_1 ?_
  refine lv_aload_n hx hb d_Cap_isWithin_4 rfl (lv_at hl 1 rfl) ?_
  refine q_get S hw ly_Cap 1 rfl rfl 3 (by decide) tb_1_56 rfl rfl d_Cap_isWithin_5 ?_
  refine q_lc_lt S d_Cap_isWithin_8 d_Cap_isWithin_9 rfl (fun h9 => ?_) (fun h9 => ?_)
  · refine lv_iconst (v := 0) hx hb d_Cap_isWithin_42 (by decide) ?_
    exact rd_i S hr hlk rfl d_Cap_isWithin_43 (by simp only [cWith, h9, ↓reduceIte] <;> rfl)
  · refine lv_aload_n hx hb d_Cap_isWithin_12 rfl (lv_at hl 0 rfl) ?_
    refine q_get S hw ly_Cap 0 rfl rfl 4 (by decide) tb_1_59 rfl rfl d_Cap_isWithin_13 ?_
    refine lv_aload_n hx hb d_Cap_isWithin_16 rfl (lv_at hl 1 rfl) ?_
    refine q_get S hw ly_Cap 1 rfl rfl 4 (by decide) tb_1_59 rfl rfl d_Cap_isWithin_17 ?_
    refine q_lc_gt S d_Cap_isWithin_20 d_Cap_isWithin_21 rfl (fun h21 => ?_) (fun h21 => ?_)
    · refine lv_iconst (v := 0) hx hb d_Cap_isWithin_42 (by decide) ?_
      exact rd_i S hr hlk rfl d_Cap_isWithin_43 (by simp only [cWith, h9, h21, ↓reduceIte] <;> rfl)
    · refine lv_aload_n hx hb d_Cap_isWithin_24 rfl (lv_at hl 0 rfl) ?_
      refine q_cr (q_runV (As := []) (rest := []) S (Cr.one (c_Cap_perms l D tys o t a m b tp) 0 rfl) (cw_v hts tb_2_131 k_Cap_perms rfl rfl ⟨by decide, by decide⟩) hw 0 rfl rfl rfl hl.1 rfl (Nat.le_of_ble_eq_true rfl) d_Cap_isWithin_25 ⟨Nat.zero_le _, Nat.zero_le _⟩) ?_
      refine W.eq (g2 := F0 m9 28 ls [.int (cPerms m)]) rfl ?_
      refine lv_aload_n hx hb d_Cap_isWithin_28 rfl (lv_at hl 1 rfl) ?_
      refine q_cr (q_runV (As := []) (rest := [.int (cPerms m)]) S (Cr.one (c_Cap_perms l D tys o2 t2 a2 m2 b2 tp2) 1 rfl) (cw_v hts tb_2_131 k_Cap_perms rfl rfl ⟨by decide, by decide⟩) hw 1 rfl rfl rfl hl.1 rfl (Nat.le_of_ble_eq_true rfl) d_Cap_isWithin_29 ⟨Nat.zero_le _, Nat.zero_le _⟩) ?_
      refine W.eq (g2 := F0 m9 32 ls [.int (cPerms m2), .int (cPerms m)]) rfl ?_
      refine lv_iconst (v := -1) hx hb d_Cap_isWithin_32 (by decide) ?_
      refine lv_ixor hx hb d_Cap_isWithin_33 ?_
      refine lv_iand hx hb d_Cap_isWithin_34 ?_
      refine lv_if_ne hx hb d_Cap_isWithin_35 rfl (fun h35 => ?_) (fun h35 => ?_)
      · refine lv_iconst (v := 0) hx hb d_Cap_isWithin_42 (by decide) ?_
        exact rd_i S hr hlk rfl d_Cap_isWithin_43 (by simp only [cWith, h9, h21, h35, ↓reduceIte] <;> rfl)
      · refine lv_iconst (v := 1) hx hb d_Cap_isWithin_38 (by decide) ?_
        refine lv_goto hx hb d_Cap_isWithin_39 rfl ?_
        exact rd_i S hr hlk rfl d_Cap_isWithin_43 (by simp only [cWith, h9, h21, h35, ↓reduceIte] <;> rfl)
set_option maxHeartbeats 4000000 in
set_option maxRecDepth 100000 in
theorem c_Cap_become (l : Launch) (D : va_G) (tys : List (ClassId × FieldType)) (o : Nat) (t : Bool) (a m : Int32) (b tp : Int64) (o2 : Nat) (t2 : Bool) (a2 m2 : Int32) (b2 tp2 : Int64) : Cg l y_Cap_become (wl y_Cap_become b_Cap_become 2 none) (rmL 0) D clz tys [.ref o, .ref o2] [(o, capC t a m b tp), (o2, capC t2 a2 m2 b2 tp2)] (fun _ : Unit => none) (fun _ => [(o, capC t2 a2 m2 b2 tp2), (o2, capC t2 a2 m2 b2 tp2)]) (fun _ => True) := by
  refine Cg.ofF (plainFor_of_name (by decide)) (Nat.le_of_ble_eq_true rfl) ?_
  intro p9 e9 s9 m9 b9 me9 c9 ls S hr hlk hl hw
  obtain ⟨hx, hb, hml, hown, hts⟩ := id S
  have hl : lv_has ls 2 [(0, .ref o), (1, .ref o2)] := hl
  refine lv_aload_n hx hb d_Cap_become_0 rfl (lv_at hl 0 rfl) ?_
  refine lv_aload_n hx hb d_Cap_become_1 rfl (lv_at hl 1 rfl) ?_
  refine q_get S hw ly_Cap 1 rfl rfl 0 (by decide) tb_1_45 rfl rfl d_Cap_become_2 ?_
  refine q_put (v := .int (jb t2)) S hw ly_Cap t_Cap t_Cap_ok n_Cap 0 rfl rfl 0 (by decide) tb_1_45 rfl rfl (jb_nar t2) (jb_fit t2) (Nat.le_of_ble_eq_true rfl) d_Cap_become_5 (fun H locs hw => ?_)
  have hw : Lv _ _ _ _ _ [(o, capC t2 a m b tp), (o2, capC t2 a2 m2 b2 tp2)] _ _ _ := hw
  refine lv_aload_n hx hb d_Cap_become_8 rfl (lv_at hl 0 rfl) ?_
  refine lv_aload_n hx hb d_Cap_become_9 rfl (lv_at hl 1 rfl) ?_
  refine q_get S hw ly_Cap 1 rfl rfl 1 (by decide) tb_1_50 rfl rfl d_Cap_become_10 ?_
  refine q_put (v := .int a2) S hw ly_Cap t_Cap t_Cap_ok n_Cap 0 rfl rfl 1 (by decide) tb_1_50 rfl rfl rfl rfl (Nat.le_of_ble_eq_true rfl) d_Cap_become_13 (fun H locs hw => ?_)
  have hw : Lv _ _ _ _ _ [(o, capC t2 a2 m b tp), (o2, capC t2 a2 m2 b2 tp2)] _ _ _ := hw
  refine lv_aload_n hx hb d_Cap_become_16 rfl (lv_at hl 0 rfl) ?_
  refine lv_aload_n hx hb d_Cap_become_17 rfl (lv_at hl 1 rfl) ?_
  refine q_get S hw ly_Cap 1 rfl rfl 2 (by decide) tb_1_55 rfl rfl d_Cap_become_18 ?_
  refine q_put (v := .int m2) S hw ly_Cap t_Cap t_Cap_ok n_Cap 0 rfl rfl 2 (by decide) tb_1_55 rfl rfl rfl rfl (Nat.le_of_ble_eq_true rfl) d_Cap_become_21 (fun H locs hw => ?_)
  have hw : Lv _ _ _ _ _ [(o, capC t2 a2 m2 b tp), (o2, capC t2 a2 m2 b2 tp2)] _ _ _ := hw
  refine lv_aload_n hx hb d_Cap_become_24 rfl (lv_at hl 0 rfl) ?_
  refine lv_aload_n hx hb d_Cap_become_25 rfl (lv_at hl 1 rfl) ?_
  refine q_get S hw ly_Cap 1 rfl rfl 3 (by decide) tb_1_56 rfl rfl d_Cap_become_26 ?_
  refine q_put (v := .long b2) S hw ly_Cap t_Cap t_Cap_ok n_Cap 0 rfl rfl 3 (by decide) tb_1_56 rfl rfl rfl rfl (Nat.le_of_ble_eq_true rfl) d_Cap_become_29 (fun H locs hw => ?_)
  have hw : Lv _ _ _ _ _ [(o, capC t2 a2 m2 b2 tp), (o2, capC t2 a2 m2 b2 tp2)] _ _ _ := hw
  refine lv_aload_n hx hb d_Cap_become_32 rfl (lv_at hl 0 rfl) ?_
  refine lv_aload_n hx hb d_Cap_become_33 rfl (lv_at hl 1 rfl) ?_
  refine q_get S hw ly_Cap 1 rfl rfl 4 (by decide) tb_1_59 rfl rfl d_Cap_become_34 ?_
  refine q_put (v := .long tp2) S hw ly_Cap t_Cap t_Cap_ok n_Cap 0 rfl rfl 4 (by decide) tb_1_59 rfl rfl rfl rfl (Nat.le_of_ble_eq_true rfl) d_Cap_become_37 (fun H locs hw => ?_)
  have hw : Lv _ _ _ _ _ [(o, capC t2 a2 m2 b2 tp2), (o2, capC t2 a2 m2 b2 tp2)] _ _ _ := hw
  exact hw.rv S hr hlk d_Cap_become_40 () (rfl) (trivial) (rfl)
set_option maxHeartbeats 4000000 in
set_option maxRecDepth 100000 in
theorem c_Cap_becomeNumber (l : Launch) (D : va_G) (tys : List (ClassId × FieldType)) (o : Nat) (t : Bool) (a m : Int32) (b tp : Int64) (x : Int32) : Cg l y_Cap_becomeNumber (wl y_Cap_becomeNumber b_Cap_becomeNumber 2 none) (rmL 0) D clz tys [.ref o, .int x] [(o, capC t a m b tp)] (fun _ : Unit => none) (fun _ => [(o, capC false x 1000194 0 4294967296)]) (fun _ => True) := by
  refine Cg.ofF (plainFor_of_name (by decide)) (Nat.le_of_ble_eq_true rfl) ?_
  intro p9 e9 s9 m9 b9 me9 c9 ls S hr hlk hl hw
  obtain ⟨hx, hb, hml, hown, hts⟩ := id S
  have hl : lv_has ls 2 [(0, .ref o), (1, .int x)] := hl
  refine lv_aload_n hx hb d_Cap_becomeNumber_0 rfl (lv_at hl 0 rfl) ?_
  refine lv_iconst (v := 0) hx hb d_Cap_becomeNumber_1 (by decide) ?_
  refine q_put (v := .int (jb false)) S hw ly_Cap t_Cap t_Cap_ok n_Cap 0 rfl rfl 0 (by decide) tb_1_45 rfl rfl (jb_nar false) (jb_fit false) (Nat.le_of_ble_eq_true rfl) d_Cap_becomeNumber_2 (fun H locs hw => ?_)
  have hw : Lv _ _ _ _ _ [(o, capC false a m b tp)] _ _ _ := hw
  refine lv_aload_n hx hb d_Cap_becomeNumber_5 rfl (lv_at hl 0 rfl) ?_
  refine lv_iload_n hx hb d_Cap_becomeNumber_6 rfl (lv_at hl 1 rfl) ?_
  refine q_put (v := .int x) S hw ly_Cap t_Cap t_Cap_ok n_Cap 0 rfl rfl 1 (by decide) tb_1_50 rfl rfl rfl rfl (Nat.le_of_ble_eq_true rfl) d_Cap_becomeNumber_7 (fun H locs hw => ?_)
  have hw : Lv _ _ _ _ _ [(o, capC false x m b tp)] _ _ _ := hw
  refine lv_aload_n hx hb d_Cap_becomeNumber_10 rfl (lv_at hl 0 rfl) ?_
  refine lv_ldc (v := 1000194) hx hb hown (hts _ tb_1_43) d_Cap_becomeNumber_11 ?_
  refine q_put (v := .int (1000194 : Int32)) S hw ly_Cap t_Cap t_Cap_ok n_Cap 0 rfl rfl 2 (by decide) tb_1_55 rfl rfl rfl rfl (Nat.le_of_ble_eq_true rfl) d_Cap_becomeNumber_13 (fun H locs hw => ?_)
  have hw : Lv _ _ _ _ _ [(o, capC false x (1000194 : Int32) b tp)] _ _ _ := hw
  refine lv_aload_n hx hb d_Cap_becomeNumber_16 rfl (lv_at hl 0 rfl) ?_
  refine lv_lconst (v := 0) hx hb d_Cap_becomeNumber_17 (by decide) ?_
  refine q_put (v := .long (0 : Int64)) S hw ly_Cap t_Cap t_Cap_ok n_Cap 0 rfl rfl 3 (by decide) tb_1_56 rfl rfl rfl rfl (Nat.le_of_ble_eq_true rfl) d_Cap_becomeNumber_18 (fun H locs hw => ?_)
  have hw : Lv _ _ _ _ _ [(o, capC false x (1000194 : Int32) (0 : Int64) tp)] _ _ _ := hw
  refine lv_aload_n hx hb d_Cap_becomeNumber_21 rfl (lv_at hl 0 rfl) ?_
  refine lv_ldc2 (v := 4294967296) hx hb hown (hts _ tb_1_44) d_Cap_becomeNumber_22 ?_
  refine q_put (v := .long (4294967296 : Int64)) S hw ly_Cap t_Cap t_Cap_ok n_Cap 0 rfl rfl 4 (by decide) tb_1_59 rfl rfl rfl rfl (Nat.le_of_ble_eq_true rfl) d_Cap_becomeNumber_25 (fun H locs hw => ?_)
  have hw : Lv _ _ _ _ _ [(o, capC false x (1000194 : Int32) (0 : Int64) (4294967296 : Int64))] _ _ _ := hw
  exact hw.rv S hr hlk d_Cap_becomeNumber_28 () (rfl) (trivial) (rfl)
set_option maxHeartbeats 4000000 in
set_option maxRecDepth 100000 in
theorem c_Cap_settle (l : Launch) (D : va_G) (tys : List (ClassId × FieldType)) (o : Nat) (t : Bool) (a m : Int32) (b tp : Int64) : Cg l y_Cap_settle (wl y_Cap_settle b_Cap_settle 12 none) (rmL 1) D clz tys [.ref o] [(o, capC t a m b tp)] (fun _ : Unit => none) (fun _ => [(o, capC t a m (cbase m a) (ctop m a))]) (fun _ => True) := by
  refine Cg.ofF (plainFor_of_name (by decide)) (Nat.le_of_ble_eq_true rfl) ?_
  intro p9 e9 s9 m9 b9 me9 c9 ls S hr hlk hl hw
  obtain ⟨hx, hb, hml, hown, hts⟩ := id S
  have hl : lv_has ls 12 [(0, .ref o)] := hl
  refine lv_aload_n hx hb d_Cap_settle_0 rfl (lv_at hl 0 rfl) ?_
  refine q_get S hw ly_Cap 0 rfl rfl 2 (by decide) tb_1_55 rfl rfl d_Cap_settle_1 ?_
  refine lv_sipush (v := 16384) hx hb d_Cap_settle_4 (by decide) ?_
  refine lv_iand hx hb d_Cap_settle_7 ?_
  refine q_join (pcJ := 16) (st := [.int (jb (sIn m))]) (lv' := [(0, .ref o)]) (nL := 12) (fun ls hl => ?_) (fun J16 => ?_)
  · refine lv_istore_n (lv' := [(1, .int (jb (sIn m))), (0, .ref o)]) hx hb d_Cap_settle_16 rfl hl (by decide) rfl (fun ls hl => ?_)
    refine lv_aload_n hx hb d_Cap_settle_17 rfl (lv_at hl 1 rfl) ?_
    refine q_get S hw ly_Cap 0 rfl rfl 2 (by decide) tb_1_55 rfl rfl d_Cap_settle_18 ?_
    refine lv_sipush (v := 255) hx hb d_Cap_settle_21 (by decide) ?_
    refine lv_iand hx hb d_Cap_settle_24 ?_
    refine lv_istore_n (lv' := [(2, .int (m &&& (255 : Int32))), (1, .int (jb (sIn m))), (0, .ref o)]) hx hb d_Cap_settle_25 rfl hl (by decide) rfl (fun ls hl => ?_)
    refine lv_aload_n hx hb d_Cap_settle_26 rfl (lv_at hl 2 rfl) ?_
    refine q_get S hw ly_Cap 0 rfl rfl 2 (by decide) tb_1_55 rfl rfl d_Cap_settle_27 ?_
    refine lv_bipush (v := 8) hx hb d_Cap_settle_30 (by decide) ?_
    refine lv_iushr (v := (jus m (8 : Int32))) hx hb d_Cap_settle_32 rfl ?_
    refine lv_bipush (v := 63) hx hb d_Cap_settle_33 (by decide) ?_
    refine lv_iand hx hb d_Cap_settle_35 ?_
    refine lv_istore_n (lv' := [(3, .int ((jus m (8 : Int32)) &&& (63 : Int32))), (2, .int (m &&& (255 : Int32))), (1, .int (jb (sIn m))), (0, .ref o)]) hx hb d_Cap_settle_36 rfl hl (by decide) rfl (fun ls hl => ?_)
    refine lv_iconst (v := 0) hx hb d_Cap_settle_37 (by decide) ?_
    refine lv_istore (lv' := [(4, .int (0 : Int32)), (3, .int ((jus m (8 : Int32)) &&& (63 : Int32))), (2, .int (m &&& (255 : Int32))), (1, .int (jb (sIn m))), (0, .ref o)]) hx hb d_Cap_settle_38 hl (by decide) rfl (fun ls hl => ?_)
    refine lv_iload_n hx hb d_Cap_settle_40 rfl (lv_at hl 3 rfl) ?_
    refine q_join (pcJ := 73) (st := []) (lv' := [(4, .int (sEx m)), (3, .int (sHi1 m)), (2, .int (sLo m)), (1, .int (jb (sIn m))), (0, .ref o)]) (nL := 12) (fun ls hl => ?_) (fun J73 => ?_)
    · refine lv_iload_n hx hb d_Cap_settle_73 rfl (lv_at hl 2 rfl) ?_
      refine lv_bipush (v := 6) hx hb d_Cap_settle_74 (by decide) ?_
      refine lv_iushr (v := (jus (sLo m) (6 : Int32))) hx hb d_Cap_settle_76 rfl ?_
      refine lv_iload_n hx hb d_Cap_settle_77 rfl (lv_at hl 1 rfl) ?_
      refine lv_iload_n hx hb d_Cap_settle_78 rfl (lv_at hl 2 rfl) ?_
      refine lv_bipush (v := 63) hx hb d_Cap_settle_79 (by decide) ?_
      refine lv_iand hx hb d_Cap_settle_81 ?_
      refine q_join (pcJ := 90) (st := [.int (if sHi1 m < (sLo m &&& 63) then 1 else 0), .int (jus (sLo m) (6 : Int32))]) (lv' := [(4, .int (sEx m)), (3, .int (sHi1 m)), (2, .int (sLo m)), (1, .int (jb (sIn m))), (0, .ref o)]) (nL := 12) (fun ls hl => ?_) (fun J90 => ?_)
      · refine lv_iadd hx hb d_Cap_settle_90 ?_
        refine lv_iload_n hx hb d_Cap_settle_91 rfl (lv_at hl 3 rfl) ?_
        refine q_join (pcJ := 100) (st := [.int (jb (sIn m)), .int ((jus (sLo m) (6 : Int32)) + (if sHi1 m < (sLo m &&& 63) then 1 else 0))]) (lv' := [(4, .int (sEx m)), (3, .int (sHi1 m)), (2, .int (sLo m)), (1, .int (jb (sIn m))), (0, .ref o)]) (nL := 12) (fun ls hl => ?_) (fun J100 => ?_)
        · refine lv_iadd hx hb d_Cap_settle_100 ?_
          refine lv_istore (lv' := [(5, .int (((jus (sLo m) (6 : Int32)) + (if sHi1 m < (sLo m &&& 63) then 1 else 0)) + (jb (sIn m)))), (4, .int (sEx m)), (3, .int (sHi1 m)), (2, .int (sLo m)), (1, .int (jb (sIn m))), (0, .ref o)]) hx hb d_Cap_settle_101 hl (by decide) rfl (fun ls hl => ?_)
          have hl : lv_has ls 12 [(5, .int (sAb m)), (4, .int (sEx m)), (3, .int (sHi1 m)), (2, .int (sLo m)), (1, .int (jb (sIn m))), (0, .ref o)] := hl
          refine lv_iload_n hx hb d_Cap_settle_103 rfl (lv_at hl 2 rfl) ?_
          refine lv_iload hx hb d_Cap_settle_104 (lv_at hl 0 rfl) ?_
          refine lv_iconst (v := 3) hx hb d_Cap_settle_106 (by decide) ?_
          refine lv_iand hx hb d_Cap_settle_107 ?_
          refine lv_bipush (v := 6) hx hb d_Cap_settle_108 (by decide) ?_
          refine lv_ishl hx hb d_Cap_settle_110 ?_
          refine lv_ior hx hb d_Cap_settle_111 ?_
          refine lv_istore_n (lv' := [(3, .int ((sHi1 m) ||| (((sAb m) &&& (3 : Int32)) <<< ((6 : Int32) &&& 31)))), (5, .int (sAb m)), (4, .int (sEx m)), (2, .int (sLo m)), (1, .int (jb (sIn m))), (0, .ref o)]) hx hb d_Cap_settle_112 rfl hl (by decide) rfl (fun ls hl => ?_)
          have hl : lv_has ls 12 [(3, .int (sHi m)), (5, .int (sAb m)), (4, .int (sEx m)), (2, .int (sLo m)), (1, .int (jb (sIn m))), (0, .ref o)] := hl
          refine lv_aload_n hx hb d_Cap_settle_113 rfl (lv_at hl 5 rfl) ?_
          refine q_get S hw ly_Cap 0 rfl rfl 1 (by decide) tb_1_50 rfl rfl d_Cap_settle_114 ?_
          refine lv_i2l (v := (a.toInt64)) hx hb d_Cap_settle_117 rfl ?_
          refine lv_ldc2 (v := 4294967295) hx hb hown (hts _ tb_2_113) d_Cap_settle_118 ?_
          refine lv_land hx hb d_Cap_settle_121 ?_
          refine lv_lstore (lv' := [(6, .long ((a.toInt64) &&& (4294967295 : Int64))), (3, .int (sHi m)), (5, .int (sAb m)), (4, .int (sEx m)), (2, .int (sLo m)), (1, .int (jb (sIn m))), (0, .ref o)]) hx hb d_Cap_settle_122 hl (by decide) rfl (fun ls hl => ?_)
          have hl : lv_has ls 12 [(6, .long (cLow a)), (3, .int (sHi m)), (5, .int (sAb m)), (4, .int (sEx m)), (2, .int (sLo m)), (1, .int (jb (sIn m))), (0, .ref o)] := hl
          refine lv_lload hx hb d_Cap_settle_124 (lv_at hl 0 rfl) ?_
          refine lv_iload hx hb d_Cap_settle_126 (lv_at hl 3 rfl) ?_
          refine lv_lushr (v := (jul (cLow a) (sEx m))) hx hb d_Cap_settle_128 rfl ?_
          refine lv_l2i (v := ((jul (cLow a) (sEx m)).toInt32)) hx hb d_Cap_settle_129 rfl ?_
          refine lv_sipush (v := 255) hx hb d_Cap_settle_130 (by decide) ?_
          refine lv_iand hx hb d_Cap_settle_133 ?_
          refine lv_istore (lv' := [(8, .int (((jul (cLow a) (sEx m)).toInt32) &&& (255 : Int32))), (6, .long (cLow a)), (3, .int (sHi m)), (5, .int (sAb m)), (4, .int (sEx m)), (2, .int (sLo m)), (1, .int (jb (sIn m))), (0, .ref o)]) hx hb d_Cap_settle_134 hl (by decide) rfl (fun ls hl => ?_)
          have hl : lv_has ls 12 [(8, .int (sMid m a)), (6, .long (cLow a)), (3, .int (sHi m)), (5, .int (sAb m)), (4, .int (sEx m)), (2, .int (sLo m)), (1, .int (jb (sIn m))), (0, .ref o)] := hl
          refine lv_iload_n hx hb d_Cap_settle_136 rfl (lv_at hl 5 rfl) ?_
          refine lv_iconst (v := 5) hx hb d_Cap_settle_137 (by decide) ?_
          refine lv_iushr (v := (jus (sLo m) (5 : Int32))) hx hb d_Cap_settle_138 rfl ?_
          refine lv_iconst (v := 1) hx hb d_Cap_settle_139 (by decide) ?_
          refine lv_isub hx hb d_Cap_settle_140 ?_
          refine lv_bipush (v := 7) hx hb d_Cap_settle_141 (by decide) ?_
          refine lv_iand hx hb d_Cap_settle_143 ?_
          refine lv_istore (lv' := [(9, .int (((jus (sLo m) (5 : Int32)) - (1 : Int32)) &&& (7 : Int32))), (8, .int (sMid m a)), (6, .long (cLow a)), (3, .int (sHi m)), (5, .int (sAb m)), (4, .int (sEx m)), (2, .int (sLo m)), (1, .int (jb (sIn m))), (0, .ref o)]) hx hb d_Cap_settle_144 hl (by decide) rfl (fun ls hl => ?_)
          have hl : lv_has ls 12 [(9, .int (sEdge m)), (8, .int (sMid m a)), (6, .long (cLow a)), (3, .int (sHi m)), (5, .int (sAb m)), (4, .int (sEx m)), (2, .int (sLo m)), (1, .int (jb (sIn m))), (0, .ref o)] := hl
          refine lv_lload hx hb d_Cap_settle_146 (lv_at hl 2 rfl) ?_
          refine lv_iload hx hb d_Cap_settle_148 (lv_at hl 5 rfl) ?_
          refine lv_bipush (v := 8) hx hb d_Cap_settle_150 (by decide) ?_
          refine lv_iadd hx hb d_Cap_settle_152 ?_
          refine lv_lushr (v := (jul (cLow a) ((sEx m) + (8 : Int32)))) hx hb d_Cap_settle_153 rfl ?_
          refine lv_iload hx hb d_Cap_settle_154 (lv_at hl 1 rfl) ?_
          refine lv_iload hx hb d_Cap_settle_156 (lv_at hl 0 rfl) ?_
          refine q_cr (q_runS (As := [.int (sMid m a), .int (sEdge m)]) (rest := [.long (jul (cLow a) ((sEx m) + (8 : Int32)))]) S ((c_Cap_below l D tys (sMid m a) (sEdge m)).nil _) (cw_s hts tb_2_114 k_Cap_below rfl rfl ⟨by decide, by decide⟩) hw rfl hl.1 rfl (Nat.le_of_ble_eq_true rfl) d_Cap_settle_158 ⟨Nat.zero_le _, Nat.zero_le _⟩) ?_
          refine W.eq (g2 := F0 m9 161 ls [.int (sBel (sMid m a) (sEdge m)), .long (jul (cLow a) ((sEx m) + (8 : Int32)))]) rfl ?_
          refine lv_i2l (v := ((sBel (sMid m a) (sEdge m)).toInt64)) hx hb d_Cap_settle_161 rfl ?_
          refine lv_lsub hx hb d_Cap_settle_162 ?_
          refine lv_lstore (lv' := [(10, .long ((jul (cLow a) ((sEx m) + (8 : Int32))) - ((sBel (sMid m a) (sEdge m)).toInt64))), (9, .int (sEdge m)), (8, .int (sMid m a)), (6, .long (cLow a)), (3, .int (sHi m)), (5, .int (sAb m)), (4, .int (sEx m)), (2, .int (sLo m)), (1, .int (jb (sIn m))), (0, .ref o)]) hx hb d_Cap_settle_163 hl (by decide) rfl (fun ls hl => ?_)
          have hl : lv_has ls 12 [(10, .long (sReg m a)), (9, .int (sEdge m)), (8, .int (sMid m a)), (6, .long (cLow a)), (3, .int (sHi m)), (5, .int (sAb m)), (4, .int (sEx m)), (2, .int (sLo m)), (1, .int (jb (sIn m))), (0, .ref o)] := hl
          refine lv_aload_n hx hb d_Cap_settle_165 rfl (lv_at hl 9 rfl) ?_
          refine lv_lload hx hb d_Cap_settle_166 (lv_at hl 0 rfl) ?_
          refine lv_iload_n hx hb d_Cap_settle_168 rfl (lv_at hl 7 rfl) ?_
          refine lv_iload hx hb d_Cap_settle_169 (lv_at hl 1 rfl) ?_
          refine q_cr (q_runS (As := [.int (sLo m), .int (sEdge m)]) (rest := [.long (sReg m a), .ref o]) S ((c_Cap_below l D tys (sLo m) (sEdge m)).nil _) (cw_s hts tb_2_114 k_Cap_below rfl rfl ⟨by decide, by decide⟩) hw rfl hl.1 rfl (Nat.le_of_ble_eq_true rfl) d_Cap_settle_171 ⟨Nat.zero_le _, Nat.zero_le _⟩) ?_
          refine W.eq (g2 := F0 m9 174 ls [.int (sBel (sLo m) (sEdge m)), .long (sReg m a), .ref o]) rfl ?_
          refine lv_i2l (v := ((sBel (sLo m) (sEdge m)).toInt64)) hx hb d_Cap_settle_174 rfl ?_
          refine lv_ladd hx hb d_Cap_settle_175 ?_
          refine lv_bipush (v := 8) hx hb d_Cap_settle_176 (by decide) ?_
          refine lv_lshl (v := (jsl ((sReg m a) + ((sBel (sLo m) (sEdge m)).toInt64)) (8 : Int32))) hx hb d_Cap_settle_178 rfl ?_
          refine lv_iload_n hx hb d_Cap_settle_179 rfl (lv_at hl 7 rfl) ?_
          refine lv_i2l (v := ((sLo m).toInt64)) hx hb d_Cap_settle_180 rfl ?_
          refine lv_ladd hx hb d_Cap_settle_181 ?_
          refine lv_iload hx hb d_Cap_settle_182 (lv_at hl 6 rfl) ?_
          refine lv_lshl (v := (jsl ((jsl ((sReg m a) + ((sBel (sLo m) (sEdge m)).toInt64)) (8 : Int32)) + ((sLo m).toInt64)) (sEx m))) hx hb d_Cap_settle_184 rfl ?_
          refine lv_ldc2 (v := 4294967295) hx hb hown (hts _ tb_2_113) d_Cap_settle_185 ?_
          refine lv_land hx hb d_Cap_settle_188 ?_
          refine q_topl (z := (cbase m a)) (rfl) ?_
          refine q_put (v := .long (cbase m a)) S hw ly_Cap t_Cap t_Cap_ok n_Cap 0 rfl rfl 3 (by decide) tb_1_56 rfl rfl rfl rfl (Nat.le_of_ble_eq_true rfl) d_Cap_settle_189 (fun H locs hw => ?_)
          have hw : Lv _ _ _ _ _ [(o, capC t a m (cbase m a) tp)] _ _ _ := hw
          refine lv_aload_n hx hb d_Cap_settle_192 rfl (lv_at hl 9 rfl) ?_
          refine lv_lload hx hb d_Cap_settle_193 (lv_at hl 0 rfl) ?_
          refine lv_iload_n hx hb d_Cap_settle_195 rfl (lv_at hl 4 rfl) ?_
          refine lv_iload hx hb d_Cap_settle_196 (lv_at hl 1 rfl) ?_
          refine q_cr (q_runS (As := [.int (sHi m), .int (sEdge m)]) (rest := [.long (sReg m a), .ref o]) S ((c_Cap_below l D tys (sHi m) (sEdge m)).nil _) (cw_s hts tb_2_114 k_Cap_below rfl rfl ⟨by decide, by decide⟩) hw rfl hl.1 rfl (Nat.le_of_ble_eq_true rfl) d_Cap_settle_198 ⟨Nat.zero_le _, Nat.zero_le _⟩) ?_
          refine W.eq (g2 := F0 m9 201 ls [.int (sBel (sHi m) (sEdge m)), .long (sReg m a), .ref o]) rfl ?_
          refine lv_i2l (v := ((sBel (sHi m) (sEdge m)).toInt64)) hx hb d_Cap_settle_201 rfl ?_
          refine lv_ladd hx hb d_Cap_settle_202 ?_
          refine lv_bipush (v := 8) hx hb d_Cap_settle_203 (by decide) ?_
          refine lv_lshl (v := (jsl ((sReg m a) + ((sBel (sHi m) (sEdge m)).toInt64)) (8 : Int32))) hx hb d_Cap_settle_205 rfl ?_
          refine lv_iload_n hx hb d_Cap_settle_206 rfl (lv_at hl 4 rfl) ?_
          refine lv_i2l (v := ((sHi m).toInt64)) hx hb d_Cap_settle_207 rfl ?_
          refine lv_ladd hx hb d_Cap_settle_208 ?_
          refine lv_iload hx hb d_Cap_settle_209 (lv_at hl 6 rfl) ?_
          refine lv_lshl (v := (jsl ((jsl ((sReg m a) + ((sBel (sHi m) (sEdge m)).toInt64)) (8 : Int32)) + ((sHi m).toInt64)) (sEx m))) hx hb d_Cap_settle_211 rfl ?_
          refine lv_ldc2 (v := 8589934591) hx hb hown (hts _ tb_2_117) d_Cap_settle_212 ?_
          refine lv_land hx hb d_Cap_settle_215 ?_
          refine q_topl (z := (ctop0 m a)) (rfl) ?_
          refine q_put (v := .long (ctop0 m a)) S hw ly_Cap t_Cap t_Cap_ok n_Cap 0 rfl rfl 4 (by decide) tb_1_59 rfl rfl rfl rfl (Nat.le_of_ble_eq_true rfl) d_Cap_settle_216 (fun H locs hw => ?_)
          have hw : Lv _ _ _ _ _ [(o, capC t a m (cbase m a) (ctop0 m a))] _ _ _ := hw
          refine lv_iload hx hb d_Cap_settle_219 (lv_at hl 6 rfl) ?_
          refine lv_bipush (v := 25) hx hb d_Cap_settle_221 (by decide) ?_
          refine lv_icmp_ge hx hb d_Cap_settle_223 rfl (fun h223 => ?_) (fun h223 => ?_)
          · exact hw.rv S hr hlk d_Cap_settle_262 () (rfl) (trivial) (by rw [ctop, if_neg (Int32.not_lt.mpr h223)])
          · refine lv_aload_n hx hb d_Cap_settle_226 rfl (lv_at hl 9 rfl) ?_
            refine q_get S hw ly_Cap 0 rfl rfl 4 (by decide) tb_1_59 rfl rfl d_Cap_settle_227 ?_
            refine lv_bipush (v := 31) hx hb d_Cap_settle_230 (by decide) ?_
            refine lv_lushr (v := (jul (ctop0 m a) (31 : Int32))) hx hb d_Cap_settle_232 rfl ?_
            refine lv_aload_n hx hb d_Cap_settle_233 rfl (lv_at hl 9 rfl) ?_
            refine q_get S hw ly_Cap 0 rfl rfl 3 (by decide) tb_1_56 rfl rfl d_Cap_settle_234 ?_
            refine lv_bipush (v := 31) hx hb d_Cap_settle_237 (by decide) ?_
            refine lv_lushr (v := (jul (cbase m a) (31 : Int32))) hx hb d_Cap_settle_239 rfl ?_
            refine lv_lsub hx hb d_Cap_settle_240 ?_
            refine lv_ldc2 (v := 3) hx hb hown (hts _ tb_2_118) d_Cap_settle_241 ?_
            refine lv_land hx hb d_Cap_settle_244 ?_
            refine lv_lconst (v := 1) hx hb d_Cap_settle_245 (by decide) ?_
            refine q_lc_le S d_Cap_settle_246 d_Cap_settle_247 rfl (fun h247 => ?_) (fun h247 => ?_)
            · exact hw.rv S hr hlk d_Cap_settle_262 () (rfl) (trivial) (by rw [ctop, if_pos (Int32.not_le.mp h223), if_neg (Int64.not_lt.mpr h247)])
            · refine lv_aload_n hx hb d_Cap_settle_250 rfl (lv_at hl 9 rfl) ?_
              refine lv_dup hx hb d_Cap_settle_251 rfl ?_
              refine q_get S hw ly_Cap 0 rfl rfl 4 (by decide) tb_1_59 rfl rfl d_Cap_settle_252 ?_
              refine lv_ldc2 (v := 4294967296) hx hb hown (hts _ tb_1_44) d_Cap_settle_255 ?_
              refine lv_lxor hx hb d_Cap_settle_258 ?_
              refine q_put (v := .long ((ctop0 m a) ^^^ (4294967296 : Int64))) S hw ly_Cap t_Cap t_Cap_ok n_Cap 0 rfl rfl 4 (by decide) tb_1_59 rfl rfl rfl rfl (Nat.le_of_ble_eq_true rfl) d_Cap_settle_259 (fun H locs hw => ?_)
              have hw : Lv _ _ _ _ _ [(o, capC t a m (cbase m a) ((ctop0 m a) ^^^ (4294967296 : Int64)))] _ _ _ := hw
              exact hw.rv S hr hlk d_Cap_settle_262 () (rfl) (trivial) (by rw [ctop, if_pos (Int32.not_le.mp h223), if_pos (Int64.not_le.mp h247)])
        · refine q_ifz_eq S d_Cap_settle_92 rfl (fun h92 => ?_) (fun h92 => ?_)
          · refine lv_iconst (v := 0) hx hb d_Cap_settle_99 (by decide) ?_
            refine q_topi (z := (jb (sIn m))) (by simp [jb, h92]) ?_
            exact J100 _ (lv_sub (l' := [(4, .int (sEx m)), (3, .int (sHi1 m)), (2, .int (sLo m)), (1, .int (jb (sIn m))), (0, .ref o)]) hl [0, 1, 2, 3, 4] rfl)
          · refine lv_iconst (v := 1) hx hb d_Cap_settle_95 (by decide) ?_
            refine lv_goto hx hb d_Cap_settle_96 rfl ?_
            refine q_topi (z := (jb (sIn m))) (by simp [jb, h92]) ?_
            exact J100 _ (lv_sub (l' := [(4, .int (sEx m)), (3, .int (sHi1 m)), (2, .int (sLo m)), (1, .int (jb (sIn m))), (0, .ref o)]) hl [0, 1, 2, 3, 4] rfl)
      · refine lv_icmp_ge hx hb d_Cap_settle_82 rfl (fun h82 => ?_) (fun h82 => ?_)
        · refine lv_iconst (v := 0) hx hb d_Cap_settle_89 (by decide) ?_
          refine q_topi (z := (if sHi1 m < (sLo m &&& 63) then 1 else 0)) (by simp [Int32.not_lt, h82]) ?_
          exact J90 _ (lv_sub (l' := [(4, .int (sEx m)), (3, .int (sHi1 m)), (2, .int (sLo m)), (1, .int (jb (sIn m))), (0, .ref o)]) hl [0, 1, 2, 3, 4] rfl)
        · refine lv_iconst (v := 1) hx hb d_Cap_settle_85 (by decide) ?_
          refine lv_goto hx hb d_Cap_settle_86 rfl ?_
          refine q_topi (z := (if sHi1 m < (sLo m &&& 63) then 1 else 0)) (by simp [Int32.not_lt, h82]) ?_
          exact J90 _ (lv_sub (l' := [(4, .int (sEx m)), (3, .int (sHi1 m)), (2, .int (sLo m)), (1, .int (jb (sIn m))), (0, .ref o)]) hl [0, 1, 2, 3, 4] rfl)
    · refine q_ifz_eq S d_Cap_settle_41 rfl (fun h41 => ?_) (fun h41 => ?_)
      · exact J73 _ (q_loc (l' := [(4, .int (sEx m)), (3, .int (sHi1 m)), (2, .int (sLo m)), (1, .int (jb (sIn m))), (0, .ref o)]) (lv_sub (l' := [(4, .int (0 : Int32)), (3, .int ((jus m (8 : Int32)) &&& (63 : Int32))), (2, .int (m &&& (255 : Int32))), (1, .int (jb (sIn m))), (0, .ref o)]) hl [0, 1, 2, 3, 4] rfl) (by simp [sEx, sHi1, sLo, sHi0, sLo0, h41]))
      · refine lv_iload_n hx hb d_Cap_settle_44 rfl (lv_at hl 1 rfl) ?_
        refine lv_bipush (v := 7) hx hb d_Cap_settle_45 (by decide) ?_
        refine lv_iand hx hb d_Cap_settle_47 ?_
        refine lv_bipush (v := 8) hx hb d_Cap_settle_48 (by decide) ?_
        refine lv_imul hx hb d_Cap_settle_50 ?_
        refine lv_iload_n hx hb d_Cap_settle_51 rfl (lv_at hl 2 rfl) ?_
        refine lv_bipush (v := 7) hx hb d_Cap_settle_52 (by decide) ?_
        refine lv_iand hx hb d_Cap_settle_54 ?_
        refine lv_iadd hx hb d_Cap_settle_55 ?_
        refine lv_bipush (v := 26) hx hb d_Cap_settle_56 (by decide) ?_
        refine q_cr (q_runS (As := [.int (((((jus m (8 : Int32)) &&& (63 : Int32)) &&& (7 : Int32)) * (8 : Int32)) + ((m &&& (255 : Int32)) &&& (7 : Int32))), .int (26 : Int32)]) (rest := []) S ((c_Math_min l D tys (((((jus m (8 : Int32)) &&& (63 : Int32)) &&& (7 : Int32)) * (8 : Int32)) + ((m &&& (255 : Int32)) &&& (7 : Int32))) (26 : Int32)).nil _) (cw_s hts tb_2_110 k_Math_min rfl rfl ⟨by decide, by decide⟩) hw rfl hl.1 rfl (Nat.le_of_ble_eq_true rfl) d_Cap_settle_58 ⟨Nat.zero_le _, Nat.zero_le _⟩) ?_
        refine W.eq (g2 := F0 m9 61 ls [.int (jmin (((((jus m (8 : Int32)) &&& (63 : Int32)) &&& (7 : Int32)) * (8 : Int32)) + ((m &&& (255 : Int32)) &&& (7 : Int32))) (26 : Int32))]) rfl ?_
        refine lv_istore (lv' := [(4, .int (jmin (((((jus m (8 : Int32)) &&& (63 : Int32)) &&& (7 : Int32)) * (8 : Int32)) + ((m &&& (255 : Int32)) &&& (7 : Int32))) (26 : Int32))), (3, .int ((jus m (8 : Int32)) &&& (63 : Int32))), (2, .int (m &&& (255 : Int32))), (1, .int (jb (sIn m))), (0, .ref o)]) hx hb d_Cap_settle_61 hl (by decide) rfl (fun ls hl => ?_)
        refine lv_iload_n hx hb d_Cap_settle_63 rfl (lv_at hl 2 rfl) ?_
        refine lv_bipush (v := -8) hx hb d_Cap_settle_64 (by decide) ?_
        refine lv_iand hx hb d_Cap_settle_66 ?_
        refine lv_istore_n (lv' := [(2, .int ((m &&& (255 : Int32)) &&& (-8 : Int32))), (4, .int (jmin (((((jus m (8 : Int32)) &&& (63 : Int32)) &&& (7 : Int32)) * (8 : Int32)) + ((m &&& (255 : Int32)) &&& (7 : Int32))) (26 : Int32))), (3, .int ((jus m (8 : Int32)) &&& (63 : Int32))), (1, .int (jb (sIn m))), (0, .ref o)]) hx hb d_Cap_settle_67 rfl hl (by decide) rfl (fun ls hl => ?_)
        refine lv_iload_n hx hb d_Cap_settle_68 rfl (lv_at hl 2 rfl) ?_
        refine lv_bipush (v := -8) hx hb d_Cap_settle_69 (by decide) ?_
        refine lv_iand hx hb d_Cap_settle_71 ?_
        refine lv_istore_n (lv' := [(3, .int (((jus m (8 : Int32)) &&& (63 : Int32)) &&& (-8 : Int32))), (2, .int ((m &&& (255 : Int32)) &&& (-8 : Int32))), (4, .int (jmin (((((jus m (8 : Int32)) &&& (63 : Int32)) &&& (7 : Int32)) * (8 : Int32)) + ((m &&& (255 : Int32)) &&& (7 : Int32))) (26 : Int32))), (1, .int (jb (sIn m))), (0, .ref o)]) hx hb d_Cap_settle_72 rfl hl (by decide) rfl (fun ls hl => ?_)
        exact J73 _ (q_loc (l' := [(4, .int (sEx m)), (3, .int (sHi1 m)), (2, .int (sLo m)), (1, .int (jb (sIn m))), (0, .ref o)]) (lv_sub (l' := [(4, .int (jmin (((((jus m (8 : Int32)) &&& (63 : Int32)) &&& (7 : Int32)) * (8 : Int32)) + ((m &&& (255 : Int32)) &&& (7 : Int32))) (26 : Int32))), (3, .int (((jus m (8 : Int32)) &&& (63 : Int32)) &&& (-8 : Int32))), (2, .int ((m &&& (255 : Int32)) &&& (-8 : Int32))), (1, .int (jb (sIn m))), (0, .ref o)]) hl [2, 0, 1, 3, 4] rfl) (by simp [sEx, sHi1, sLo, sHi0, sLo0, h41]))
  · refine lv_if_eq hx hb d_Cap_settle_8 rfl (fun h8 => ?_) (fun h8 => ?_)
    · refine lv_iconst (v := 0) hx hb d_Cap_settle_15 (by decide) ?_
      refine q_topi (z := (jb (sIn m))) (by simp [sIn, jb, h8]) ?_
      exact J16 _ (lv_sub (l' := [(0, .ref o)]) hl [0] rfl)
    · refine lv_iconst (v := 1) hx hb d_Cap_settle_11 (by decide) ?_
      refine lv_goto hx hb d_Cap_settle_12 rfl ?_
      refine q_topi (z := (jb (sIn m))) (by simp [sIn, jb, h8]) ?_
      exact J16 _ (lv_sub (l' := [(0, .ref o)]) hl [0] rfl)
set_option maxHeartbeats 4000000 in
set_option maxRecDepth 100000 in
theorem c_Cap_define (l : Launch) (D : va_G) (tys : List (ClassId × FieldType)) (o : Nat) (t : Bool) (a m : Int32) (b tp : Int64) (nt : Bool) (na nm : Int32) : Cg l y_Cap_define (wl y_Cap_define b_Cap_define 4 none) (rmL 2) D clz tys [.ref o, .int (jb nt), .int na, .int nm] [(o, capC t a m b tp)] (fun _ : Unit => none) (fun _ => [(o, capC nt na nm (cbase nm na) (ctop nm na))]) (fun _ => True) := by
  refine Cg.ofF (plainFor_of_name (by decide)) (Nat.le_of_ble_eq_true rfl) ?_
  intro p9 e9 s9 m9 b9 me9 c9 ls S hr hlk hl hw
  obtain ⟨hx, hb, hml, hown, hts⟩ := id S
  have hl : lv_has ls 4 [(0, .ref o), (1, .int (jb nt)), (2, .int na), (3, .int nm)] := hl
  refine lv_aload_n hx hb d_Cap_define_0 rfl (lv_at hl 0 rfl) ?_
  refine lv_iload_n hx hb d_Cap_define_1 rfl (lv_at hl 1 rfl) ?_
  refine q_put (v := .int (jb nt)) S hw ly_Cap t_Cap t_Cap_ok n_Cap 0 rfl rfl 0 (by decide) tb_1_45 rfl rfl (jb_nar nt) (jb_fit nt) (Nat.le_of_ble_eq_true rfl) d_Cap_define_2 (fun H locs hw => ?_)
  have hw : Lv _ _ _ _ _ [(o, capC nt a m b tp)] _ _ _ := hw
  refine lv_aload_n hx hb d_Cap_define_5 rfl (lv_at hl 0 rfl) ?_
  refine lv_iload_n hx hb d_Cap_define_6 rfl (lv_at hl 2 rfl) ?_
  refine q_put (v := .int na) S hw ly_Cap t_Cap t_Cap_ok n_Cap 0 rfl rfl 1 (by decide) tb_1_50 rfl rfl rfl rfl (Nat.le_of_ble_eq_true rfl) d_Cap_define_7 (fun H locs hw => ?_)
  have hw : Lv _ _ _ _ _ [(o, capC nt na m b tp)] _ _ _ := hw
  refine lv_aload_n hx hb d_Cap_define_10 rfl (lv_at hl 0 rfl) ?_
  refine lv_iload_n hx hb d_Cap_define_11 rfl (lv_at hl 3 rfl) ?_
  refine q_put (v := .int nm) S hw ly_Cap t_Cap t_Cap_ok n_Cap 0 rfl rfl 2 (by decide) tb_1_55 rfl rfl rfl rfl (Nat.le_of_ble_eq_true rfl) d_Cap_define_12 (fun H locs hw => ?_)
  have hw : Lv _ _ _ _ _ [(o, capC nt na nm b tp)] _ _ _ := hw
  refine lv_aload_n hx hb d_Cap_define_15 rfl (lv_at hl 0 rfl) ?_
  refine q_cg (q_runV (As := []) (rest := []) S (Cg.one (c_Cap_settle l D tys o nt na nm b tp) 0 rfl) (cw_v hts tb_2_106 k_Cap_settle rfl rfl ⟨by decide, by decide⟩) hw 0 rfl rfl rfl hl.1 rfl (Nat.le_of_ble_eq_true rfl) d_Cap_define_16 ⟨Nat.zero_le _, Nat.zero_le _⟩) hw (fun u hD => hD.set rfl) (fun u H locs hp hw => ?_)
  refine W.eq (g2 := F0 m9 19 ls []) rfl ?_
  have hw : Lv _ _ _ _ _ [(o, capC nt na nm (cbase nm na) (ctop nm na))] _ _ _ := hw
  exact hw.rv S hr hlk d_Cap_define_19 () (rfl) (trivial) (rfl)
set_option maxHeartbeats 4000000 in
set_option maxRecDepth 100000 in
theorem c_Cap_moveTo (l : Launch) (D : va_G) (tys : List (ClassId × FieldType)) (o : Nat) (t : Bool) (a m : Int32) (b tp : Int64) (x : Int32) : Cg l y_Cap_moveTo (wl y_Cap_moveTo b_Cap_moveTo 6 none) (rmL 2) D clz tys [.ref o, .int x] [(o, capC t a m b tp)] (fun _ : Unit => none) (fun _ => [(o, capC (cMv t m b tp x) x m (cbase m x) (ctop m x))]) (fun _ => True) := by
  refine Cg.ofF (plainFor_of_name (by decide)) (Nat.le_of_ble_eq_true rfl) ?_
  intro p9 e9 s9 m9 b9 me9 c9 ls S hr hlk hl hw
  obtain ⟨hx, hb, hml, hown, hts⟩ := id S
  have hl : lv_has ls 6 [(0, .ref o), (1, .int x)] := hl
  refine lv_aload_n hx hb d_Cap_moveTo_0 rfl (lv_at hl 0 rfl) ?_
  refine q_get S hw ly_Cap 0 rfl rfl 3 (by decide) tb_1_56 rfl rfl d_Cap_moveTo_1 ?_
  refine lv_lstore_n (lv' := [(2, .long b), (0, .ref o), (1, .int x)]) hx hb d_Cap_moveTo_4 rfl hl (by decide) rfl (fun ls hl => ?_)
  refine lv_aload_n hx hb d_Cap_moveTo_5 rfl (lv_at hl 1 rfl) ?_
  refine q_get S hw ly_Cap 0 rfl rfl 4 (by decide) tb_1_59 rfl rfl d_Cap_moveTo_6 ?_
  refine lv_lstore (lv' := [(4, .long tp), (2, .long b), (0, .ref o), (1, .int x)]) hx hb d_Cap_moveTo_9 hl (by decide) rfl (fun ls hl => ?_)
  refine lv_aload_n hx hb d_Cap_moveTo_11 rfl (lv_at hl 2 rfl) ?_
  refine lv_iload_n hx hb d_Cap_moveTo_12 rfl (lv_at hl 3 rfl) ?_
  refine q_put (v := .int x) S hw ly_Cap t_Cap t_Cap_ok n_Cap 0 rfl rfl 1 (by decide) tb_1_50 rfl rfl rfl rfl (Nat.le_of_ble_eq_true rfl) d_Cap_moveTo_13 (fun H locs hw => ?_)
  have hw : Lv _ _ _ _ _ [(o, capC t x m b tp)] _ _ _ := hw
  refine lv_aload_n hx hb d_Cap_moveTo_16 rfl (lv_at hl 2 rfl) ?_
  refine q_cg (q_runV (As := []) (rest := []) S (Cg.one (c_Cap_settle l D tys o t x m b tp) 0 rfl) (cw_v hts tb_2_106 k_Cap_settle rfl rfl ⟨by decide, by decide⟩) hw 0 rfl rfl rfl hl.1 rfl (Nat.le_of_ble_eq_true rfl) d_Cap_moveTo_17 ⟨Nat.zero_le _, Nat.zero_le _⟩) hw (fun u hD => hD.set rfl) (fun u H locs hp hw => ?_)
  refine W.eq (g2 := F0 m9 20 ls []) rfl ?_
  have hw : Lv _ _ _ _ _ [(o, capC t x m (cbase m x) (ctop m x))] _ _ _ := hw
  refine lv_aload_n hx hb d_Cap_moveTo_20 rfl (lv_at hl 2 rfl) ?_
  refine lv_aload_n hx hb d_Cap_moveTo_21 rfl (lv_at hl 2 rfl) ?_
  refine q_joinH (wsJ := [(o, capC t x m (cbase m x) (ctop m x))]) (pcJ := 59) (st := [.int (jb (cMv t m b tp x)), .ref o]) (lv' := [(4, .long tp), (2, .long b), (0, .ref o), (1, .int x)]) (nL := 6) hw (fun H locs ls hw hl => ?_) (fun J59 => ?_)
  · refine q_put (v := .int (jb (cMv t m b tp x))) S hw ly_Cap t_Cap t_Cap_ok n_Cap 0 rfl rfl 0 (by decide) tb_1_45 rfl rfl (jb_nar (cMv t m b tp x)) (jb_fit (cMv t m b tp x)) (Nat.le_of_ble_eq_true rfl) d_Cap_moveTo_59 (fun H locs hw => ?_)
    have hw : Lv _ _ _ _ _ [(o, capC (cMv t m b tp x) x m (cbase m x) (ctop m x))] _ _ _ := hw
    exact hw.rv S hr hlk d_Cap_moveTo_62 () (rfl) (trivial) (rfl)
  · refine q_get S hw ly_Cap 0 rfl rfl 0 (by decide) tb_1_45 rfl rfl d_Cap_moveTo_22 ?_
    refine q_ifz_eq S d_Cap_moveTo_25 rfl (fun h25 => ?_) (fun h25 => ?_)
    · refine lv_iconst (v := 0) hx hb d_Cap_moveTo_58 (by decide) ?_
      refine q_topi (z := (jb (cMv t m b tp x))) (by simp [cMv, jb, h25]) ?_
      exact J59 _ _ _ hw (lv_sub (l' := [(4, .long tp), (2, .long b), (0, .ref o), (1, .int x)]) hl [0, 1, 2, 3] rfl)
    · refine lv_aload_n hx hb d_Cap_moveTo_28 rfl (lv_at hl 2 rfl) ?_
      refine q_cr (q_runV (As := []) (rest := [.ref o]) S (Cr.one (c_Cap_isOpen l D tys o t x m (cbase m x) (ctop m x)) 0 rfl) (cw_v hts tb_4_43 k_Cap_isOpen rfl rfl ⟨by decide, by decide⟩) hw 0 rfl rfl rfl hl.1 rfl (Nat.le_of_ble_eq_true rfl) d_Cap_moveTo_29 ⟨Nat.zero_le _, Nat.zero_le _⟩) ?_
      refine W.eq (g2 := F0 m9 32 ls [.int (jb (cOpen m)), .ref o]) rfl ?_
      refine q_ifz_eq S d_Cap_moveTo_32 rfl (fun h32 => ?_) (fun h32 => ?_)
      · refine lv_iconst (v := 0) hx hb d_Cap_moveTo_58 (by decide) ?_
        refine q_topi (z := (jb (cMv t m b tp x))) (by simp [cMv, jb, h25, h32]) ?_
        exact J59 _ _ _ hw (lv_sub (l' := [(4, .long tp), (2, .long b), (0, .ref o), (1, .int x)]) hl [0, 1, 2, 3] rfl)
      · refine lv_aload_n hx hb d_Cap_moveTo_35 rfl (lv_at hl 2 rfl) ?_
        refine q_get S hw ly_Cap 0 rfl rfl 3 (by decide) tb_1_56 rfl rfl d_Cap_moveTo_36 ?_
        refine lv_lload_n hx hb d_Cap_moveTo_39 rfl (lv_at hl 1 rfl) ?_
        refine q_lc_ne S d_Cap_moveTo_40 d_Cap_moveTo_41 rfl (fun h41 => ?_) (fun h41 => ?_)
        · refine lv_iconst (v := 0) hx hb d_Cap_moveTo_58 (by decide) ?_
          refine q_topi (z := (jb (cMv t m b tp x))) (by simp [cMv, jb, h25, h32, h41]) ?_
          exact J59 _ _ _ hw (lv_sub (l' := [(4, .long tp), (2, .long b), (0, .ref o), (1, .int x)]) hl [0, 1, 2, 3] rfl)
        · refine lv_aload_n hx hb d_Cap_moveTo_44 rfl (lv_at hl 2 rfl) ?_
          refine q_get S hw ly_Cap 0 rfl rfl 4 (by decide) tb_1_59 rfl rfl d_Cap_moveTo_45 ?_
          refine lv_lload hx hb d_Cap_moveTo_48 (lv_at hl 0 rfl) ?_
          refine q_lc_ne S d_Cap_moveTo_50 d_Cap_moveTo_51 rfl (fun h51 => ?_) (fun h51 => ?_)
          · refine lv_iconst (v := 0) hx hb d_Cap_moveTo_58 (by decide) ?_
            refine q_topi (z := (jb (cMv t m b tp x))) (by simp [cMv, jb, h25, h32, h41, h51]) ?_
            exact J59 _ _ _ hw (lv_sub (l' := [(4, .long tp), (2, .long b), (0, .ref o), (1, .int x)]) hl [0, 1, 2, 3] rfl)
          · refine lv_iconst (v := 1) hx hb d_Cap_moveTo_54 (by decide) ?_
            refine lv_goto hx hb d_Cap_moveTo_55 rfl ?_
            refine q_topi (z := (jb (cMv t m b tp x))) (by simp [cMv, jb, h25, h32, h41, h51]) ?_
            exact J59 _ _ _ hw (lv_sub (l' := [(4, .long tp), (2, .long b), (0, .ref o), (1, .int x)]) hl [0, 1, 2, 3] rfl)
set_option maxHeartbeats 4000000 in
set_option maxRecDepth 100000 in
theorem c_Cap_setType (l : Launch) (D : va_G) (tys : List (ClassId × FieldType)) (o : Nat) (t : Bool) (a m : Int32) (b tp : Int64) (x : Int32) : Cg l y_Cap_setType (wl y_Cap_setType b_Cap_setType 2 none) (rmL 0) D clz tys [.ref o, .int x] [(o, capC t a m b tp)] (fun _ : Unit => none) (fun _ => [(o, capC t a (cSetT m x) b tp)]) (fun _ => True) := by
  refine Cg.ofF (plainFor_of_name (by decide)) (Nat.le_of_ble_eq_true rfl) ?_
  intro p9 e9 s9 m9 b9 me9 c9 ls S hr hlk hl hw
  obtain ⟨hx, hb, hml, hown, hts⟩ := id S
  have hl : lv_has ls 2 [(0, .ref o), (1, .int x)] := hl
  refine lv_aload_n hx hb d_Cap_setType_0 rfl (lv_at hl 0 rfl) ?_
  refine lv_aload_n hx hb d_Cap_setType_1 rfl (lv_at hl 0 rfl) ?_
  refine q_get S hw ly_Cap 0 rfl rfl 2 (by decide) tb_1_55 rfl rfl d_Cap_setType_2 ?_
  refine lv_ldc (v := -983041) hx hb hown (hts _ tb_4_19) d_Cap_setType_5 ?_
  refine lv_iand hx hb d_Cap_setType_7 ?_
  refine lv_iload_n hx hb d_Cap_setType_8 rfl (lv_at hl 1 rfl) ?_
  refine lv_bipush (v := 16) hx hb d_Cap_setType_9 (by decide) ?_
  refine lv_ishl hx hb d_Cap_setType_11 ?_
  refine lv_ior hx hb d_Cap_setType_12 ?_
  refine q_put (v := .int ((m &&& (-983041 : Int32)) ||| (x <<< ((16 : Int32) &&& 31)))) S hw ly_Cap t_Cap t_Cap_ok n_Cap 0 rfl rfl 2 (by decide) tb_1_55 rfl rfl rfl rfl (Nat.le_of_ble_eq_true rfl) d_Cap_setType_13 (fun H locs hw => ?_)
  have hw : Lv _ _ _ _ _ [(o, capC t a ((m &&& (-983041 : Int32)) ||| (x <<< ((16 : Int32) &&& 31))) b tp)] _ _ _ := hw
  exact hw.rv S hr hlk d_Cap_setType_16 () (rfl) (trivial) (rfl)
set_option maxHeartbeats 4000000 in
set_option maxRecDepth 100000 in
theorem c_Cap_setPerms (l : Launch) (D : va_G) (tys : List (ClassId × FieldType)) (o : Nat) (t : Bool) (a m : Int32) (b tp : Int64) (x : Int32) : Cg l y_Cap_setPerms (wl y_Cap_setPerms b_Cap_setPerms 2 none) (rmL 0) D clz tys [.ref o, .int x] [(o, capC t a m b tp)] (fun _ : Unit => none) (fun _ => [(o, capC t a (cSetP m x) b tp)]) (fun _ => True) := by
  refine Cg.ofF (plainFor_of_name (by decide)) (Nat.le_of_ble_eq_true rfl) ?_
  intro p9 e9 s9 m9 b9 me9 c9 ls S hr hlk hl hw
  obtain ⟨hx, hb, hml, hown, hts⟩ := id S
  have hl : lv_has ls 2 [(0, .ref o), (1, .int x)] := hl
  refine lv_aload_n hx hb d_Cap_setPerms_0 rfl (lv_at hl 0 rfl) ?_
  refine lv_aload_n hx hb d_Cap_setPerms_1 rfl (lv_at hl 0 rfl) ?_
  refine q_get S hw ly_Cap 0 rfl rfl 2 (by decide) tb_1_55 rfl rfl d_Cap_setPerms_2 ?_
  refine lv_ldc (v := 1048575) hx hb hown (hts _ tb_4_30) d_Cap_setPerms_5 ?_
  refine lv_iand hx hb d_Cap_setPerms_7 ?_
  refine lv_iload_n hx hb d_Cap_setPerms_8 rfl (lv_at hl 1 rfl) ?_
  refine lv_bipush (v := 20) hx hb d_Cap_setPerms_9 (by decide) ?_
  refine lv_ishl hx hb d_Cap_setPerms_11 ?_
  refine lv_ior hx hb d_Cap_setPerms_12 ?_
  refine q_put (v := .int ((m &&& (1048575 : Int32)) ||| (x <<< ((20 : Int32) &&& 31)))) S hw ly_Cap t_Cap t_Cap_ok n_Cap 0 rfl rfl 2 (by decide) tb_1_55 rfl rfl rfl rfl (Nat.le_of_ble_eq_true rfl) d_Cap_setPerms_13 (fun H locs hw => ?_)
  have hw : Lv _ _ _ _ _ [(o, capC t a ((m &&& (1048575 : Int32)) ||| (x <<< ((20 : Int32) &&& 31))) b tp)] _ _ _ := hw
  exact hw.rv S hr hlk d_Cap_setPerms_16 () (rfl) (trivial) (rfl)
set_option maxHeartbeats 4000000 in
set_option maxRecDepth 100000 in
theorem c_Cap_setBounds (l : Launch) (D : va_G) (tys : List (ClassId × FieldType)) (o : Nat) (t : Bool) (a m : Int32) (b tp : Int64) (x : Int32) : Cg l y_Cap_setBounds (wl y_Cap_setBounds b_Cap_setBounds 2 none) (rmL 2) D clz tys [.ref o, .int x] [(o, capC t a m b tp)] (fun _ : Unit => none) (fun _ => [(o, capC t a (cSetB m x) (cbase (cSetB m x) a) (ctop (cSetB m x) a))]) (fun _ => True) := by
  refine Cg.ofF (plainFor_of_name (by decide)) (Nat.le_of_ble_eq_true rfl) ?_
  intro p9 e9 s9 m9 b9 me9 c9 ls S hr hlk hl hw
  obtain ⟨hx, hb, hml, hown, hts⟩ := id S
  have hl : lv_has ls 2 [(0, .ref o), (1, .int x)] := hl
  refine lv_aload_n hx hb d_Cap_setBounds_0 rfl (lv_at hl 0 rfl) ?_
  refine lv_aload_n hx hb d_Cap_setBounds_1 rfl (lv_at hl 0 rfl) ?_
  refine q_get S hw ly_Cap 0 rfl rfl 2 (by decide) tb_1_55 rfl rfl d_Cap_setBounds_2 ?_
  refine lv_sipush (v := -32768) hx hb d_Cap_setBounds_5 (by decide) ?_
  refine lv_iand hx hb d_Cap_setBounds_8 ?_
  refine lv_iload_n hx hb d_Cap_setBounds_9 rfl (lv_at hl 1 rfl) ?_
  refine lv_ior hx hb d_Cap_setBounds_10 ?_
  refine q_put (v := .int ((m &&& (-32768 : Int32)) ||| x)) S hw ly_Cap t_Cap t_Cap_ok n_Cap 0 rfl rfl 2 (by decide) tb_1_55 rfl rfl rfl rfl (Nat.le_of_ble_eq_true rfl) d_Cap_setBounds_11 (fun H locs hw => ?_)
  have hw : Lv _ _ _ _ _ [(o, capC t a ((m &&& (-32768 : Int32)) ||| x) b tp)] _ _ _ := hw
  refine lv_aload_n hx hb d_Cap_setBounds_14 rfl (lv_at hl 0 rfl) ?_
  refine q_cg (q_runV (As := []) (rest := []) S (Cg.one (c_Cap_settle l D tys o t a ((m &&& (-32768 : Int32)) ||| x) b tp) 0 rfl) (cw_v hts tb_2_106 k_Cap_settle rfl rfl ⟨by decide, by decide⟩) hw 0 rfl rfl rfl hl.1 rfl (Nat.le_of_ble_eq_true rfl) d_Cap_setBounds_15 ⟨Nat.zero_le _, Nat.zero_le _⟩) hw (fun u hD => hD.set rfl) (fun u H locs hp hw => ?_)
  refine W.eq (g2 := F0 m9 18 ls []) rfl ?_
  have hw : Lv _ _ _ _ _ [(o, capC t a ((m &&& (-32768 : Int32)) ||| x) (cbase ((m &&& (-32768 : Int32)) ||| x) a) (ctop ((m &&& (-32768 : Int32)) ||| x) a))] _ _ _ := hw
  exact hw.rv S hr hlk d_Cap_setBounds_18 () (rfl) (trivial) (rfl)
