/-! Packer: the words of the class. -/
abbrev pkC (bits : Int32) (ex inn : Bool) (ep : Int32) (len : Int64) : va_E := .inr (1, [.int bits, .int (jb ex), .int (jb inn), .int ep, .long len])
def kB (x : Int64) : Nat → Nat → Nat
  | 0, n => n
  | f + 1, n => if jul x (nI n) = 0 then n else kB x f (n + 1)
def kDn (x : Int64) (ep : Int32) : Int64 := x &&& (-(jsl 8 ep))
def kUp (x : Int64) (ep : Int32) : Int64 := (x + jsl 8 ep - 1) &&& (-(jsl 8 ep))
def kE0 (f t : Int64) : Int32 := nI (kB (jul (t - f) 7) 63 0)
def kIn (f t : Int64) : Bool := if 0 < kE0 f t then true else if t - f ≤ 63 then false else true
def kE (f t : Int64) : Int32 := if kIn f t = false then kE0 f t else if jul (kUp t (kE0 f t) - kDn f (kE0 f t)) (kE0 f t + 3) < 16 then kE0 f t else kE0 f t + 1
def kLo (f t : Int64) : Int64 := if kIn f t = false then f else kDn f (kE f t)
def kHi (f t : Int64) : Int64 := if kIn f t = false then t else kUp t (kE f t)
def kEx (f t : Int64) : Bool := if kLo f t = f then (if kHi f t = t then true else false) else false
def kLen (f t : Int64) : Int64 := kHi f t - kLo f t
def kB0 (f t : Int64) : Int32 := (((jul (kHi f t) (kE f t)).toInt32 &&& 63) <<< ((8 : Int32) &&& 31)) ||| ((jul (kLo f t) (kE f t)).toInt32 &&& 255)
def kBits (f t : Int64) : Int32 := if kIn f t = false then kB0 f t else kB0 f t ||| (((16384 : Int32) ||| (jus (kE f t) 3 <<< ((8 : Int32) &&& 31))) ||| (kE f t &&& 7))
theorem kB_le (x : Int64) : ∀ f n, kB x f n ≤ f + n := by
  intro f
  induction f with
  | zero => intro n; simp [kB]
  | succ f ih => intro n; simp only [kB]; split; omega; have := ih (n + 1); omega
theorem nI_lt63 {z : Nat} (hz : z ≤ 63) (h : ¬ (63 : Int32) ≤ nI z) : z < 63 := by
  rcases Nat.lt_or_ge z 63 with h1 | h1
  · exact h1
  · have h2 : z = 63 := by omega
    subst h2
    exact absurd (by decide) h
theorem nI_ge63 {z : Nat} (hz : z ≤ 63) (h : (63 : Int32) ≤ nI z) : z = 63 := by
  rcases Nat.lt_or_ge z 63 with h1 | h1
  · exact absurd h (nI_ge h1 (by decide))
  · omega
set_option maxHeartbeats 4000000 in
set_option maxRecDepth 100000 in
theorem c_Pk_bitsOf (l : Launch) (D : va_G) (tys : List (ClassId × FieldType)) (x : Int64) : Cr l y_Pk_bitsOf (wl y_Pk_bitsOf b_Pk_bitsOf 3 (some .int)) (rmL 0) D clz tys [.long x] [] (some (.int (nI (kB x 63 0)))) := by
  refine Cr.ofF (plainFor_of_name (by decide)) (Nat.le_of_ble_eq_true rfl) ?_
  intro p9 e9 s9 m9 b9 me9 c9 ls S hr hlk hl hw
  obtain ⟨hx, hb, hml, hown, hts⟩ := id S
  have hl : lv_has ls 3 [(0, .long x)] := hl
  refine lv_iconst (v := 0) hx hb d_Pk_bitsOf_0 (by decide) ?_
  refine lv_istore_n (lv' := [(2, .int (0 : Int32)), (0, .long x)]) hx hb d_Pk_bitsOf_1 rfl hl (by decide) rfl (fun ls hl => ?_)
  refine q_loop (Z := Nat) (pcL := 2) (st := []) (nL := 3) (fun z => [(2, .int (nI z)), (0, .long x)]) (fun z => z ≤ 63 ∧ kB x (63 - z) z = kB x 63 0) (fun z => 63 - z) (fun z ls hI2 hl IH2 => ?_) 0 (⟨by decide, rfl⟩) (q_loc (l' := [(2, .int (nI 0)), (0, .long x)]) (lv_sub (l' := [(2, .int (0 : Int32)), (0, .long x)]) hl [0, 1] rfl) (rfl))
  have hl : lv_has ls 3 [(2, .int (nI z)), (0, .long x)] := hl
  refine lv_iload_n hx hb d_Pk_bitsOf_2 rfl (lv_at hl 0 rfl) ?_
  refine lv_bipush (v := 63) hx hb d_Pk_bitsOf_3 (by decide) ?_
  refine lv_icmp_ge hx hb d_Pk_bitsOf_5 rfl (fun h5 => ?_) (fun h5 => ?_)
  · refine lv_iload_n hx hb d_Pk_bitsOf_22 rfl (lv_at hl 0 rfl) ?_
    have h9 := nI_ge63 hI2.1 h5
    subst h9
    exact rd_i S hr hlk rfl d_Pk_bitsOf_23 (by rw [← hI2.2]; rfl)
  · refine lv_lload_n hx hb d_Pk_bitsOf_8 rfl (lv_at hl 1 rfl) ?_
    refine lv_iload_n hx hb d_Pk_bitsOf_9 rfl (lv_at hl 0 rfl) ?_
    refine lv_lushr (v := (jul x (nI z))) hx hb d_Pk_bitsOf_10 rfl ?_
    refine lv_lconst (v := 0) hx hb d_Pk_bitsOf_11 (by decide) ?_
    refine q_lc_eq S d_Pk_bitsOf_12 d_Pk_bitsOf_13 rfl (fun h13 => ?_) (fun h13 => ?_)
    · refine lv_iload_n hx hb d_Pk_bitsOf_22 rfl (lv_at hl 0 rfl) ?_
      have h8 := nI_lt63 hI2.1 h5
      have h9 : 63 - z = (63 - z - 1) + 1 := by omega
      exact rd_i S hr hlk rfl d_Pk_bitsOf_23 (by rw [← hI2.2, h9]; simp [kB, h13])
    · refine lv_iinc (k := 0) (v := ((nI z) + (1 : Int32))) (lv' := [(2, .int ((nI z) + (1 : Int32))), (0, .long x)]) hx hb d_Pk_bitsOf_16 hl rfl rfl (by decide) rfl (fun ls hl => ?_)
      refine lv_goto hx hb d_Pk_bitsOf_19 rfl ?_
      have h9 := nI_lt63 hI2.1 h5
      have h8 : 63 - z = (63 - (z + 1)) + 1 := by omega
      exact IH2 (z + 1) _ (⟨by omega, by rw [← hI2.2, h8]; simp [kB, h13]⟩) (by omega) (q_loc (l' := [(2, .int (nI (z + 1))), (0, .long x)]) (lv_sub (l' := [(2, .int ((nI z) + (1 : Int32))), (0, .long x)]) hl [0, 1] rfl) (by rw [← nI_1]))
set_option maxHeartbeats 4000000 in
set_option maxRecDepth 100000 in
theorem c_Pk_roundedDown (l : Launch) (D : va_G) (tys : List (ClassId × FieldType)) (o : Nat) (bits : Int32) (ex inn : Bool) (ep : Int32) (len : Int64) (x : Int64) : Cr l y_Pk_roundedDown (wl y_Pk_roundedDown b_Pk_roundedDown 3 (some .long)) (rmL 0) D clz tys [.ref o, .long x] [(o, pkC bits ex inn ep len)] (some (.long (kDn x ep))) := by
  refine Cr.ofF (plainFor_of_name (by decide)) (Nat.le_of_ble_eq_true rfl) ?_
  intro p9 e9 s9 m9 b9 me9 c9 ls S hr hlk hl hw
  obtain ⟨hx, hb, hml, hown, hts⟩ := id S
  have hl : lv_has ls 3 [(0, .ref o), (1, .long x)] := hl
  refine lv_lload_n hx hb d_Pk_roundedDown_0 rfl (lv_at hl 1 rfl) ?_
  refine lv_ldc2 (v := 8) hx hb hown (hts _ tb_3_123) d_Pk_roundedDown_1 ?_
  refine lv_aload_n hx hb d_Pk_roundedDown_4 rfl (lv_at hl 0 rfl) ?_
  refine q_get S hw ly_Pk 0 rfl rfl 3 (by decide) tb_2_41 rfl rfl d_Pk_roundedDown_5 ?_
  refine lv_lshl (v := (jsl (8 : Int64) ep)) hx hb d_Pk_roundedDown_8 rfl ?_
  refine lv_lneg hx hb d_Pk_roundedDown_9 ?_
  refine lv_land hx hb d_Pk_roundedDown_10 ?_
  exact rd_l S hr hlk d_Pk_roundedDown_11 (rfl)
set_option maxHeartbeats 4000000 in
set_option maxRecDepth 100000 in
theorem c_Pk_roundedUp (l : Launch) (D : va_G) (tys : List (ClassId × FieldType)) (o : Nat) (bits : Int32) (ex inn : Bool) (ep : Int32) (len : Int64) (x : Int64) : Cr l y_Pk_roundedUp (wl y_Pk_roundedUp b_Pk_roundedUp 5 (some .long)) (rmL 0) D clz tys [.ref o, .long x] [(o, pkC bits ex inn ep len)] (some (.long (kUp x ep))) := by
  refine Cr.ofF (plainFor_of_name (by decide)) (Nat.le_of_ble_eq_true rfl) ?_
  intro p9 e9 s9 m9 b9 me9 c9 ls S hr hlk hl hw
  obtain ⟨hx, hb, hml, hown, hts⟩ := id S
  have hl : lv_has ls 5 [(0, .ref o), (1, .long x)] := hl
  refine lv_ldc2 (v := 8) hx hb hown (hts _ tb_3_123) d_Pk_roundedUp_0 ?_
  refine lv_aload_n hx hb d_Pk_roundedUp_3 rfl (lv_at hl 0 rfl) ?_
  refine q_get S hw ly_Pk 0 rfl rfl 3 (by decide) tb_2_41 rfl rfl d_Pk_roundedUp_4 ?_
  refine lv_lshl (v := (jsl (8 : Int64) ep)) hx hb d_Pk_roundedUp_7 rfl ?_
  refine lv_lstore_n (lv' := [(3, .long (jsl (8 : Int64) ep)), (0, .ref o), (1, .long x)]) hx hb d_Pk_roundedUp_8 rfl hl (by decide) rfl (fun ls hl => ?_)
  refine lv_lload_n hx hb d_Pk_roundedUp_9 rfl (lv_at hl 2 rfl) ?_
  refine lv_lload_n hx hb d_Pk_roundedUp_10 rfl (lv_at hl 0 rfl) ?_
  refine lv_ladd hx hb d_Pk_roundedUp_11 ?_
  refine lv_lconst (v := 1) hx hb d_Pk_roundedUp_12 (by decide) ?_
  refine lv_lsub hx hb d_Pk_roundedUp_13 ?_
  refine lv_lload_n hx hb d_Pk_roundedUp_14 rfl (lv_at hl 0 rfl) ?_
  refine lv_lneg hx hb d_Pk_roundedUp_15 ?_
  refine lv_land hx hb d_Pk_roundedUp_16 ?_
  exact rd_l S hr hlk d_Pk_roundedUp_17 (rfl)
set_option maxHeartbeats 4000000 in
set_option maxRecDepth 100000 in
theorem c_Pk_fit (l : Launch) (D : va_G) (tys : List (ClassId × FieldType)) (o : Nat) (bits : Int32) (ex inn : Bool) (ep : Int32) (len : Int64) (f t : Int64) : Cg l y_Pk_fit (wl y_Pk_fit b_Pk_fit 11 none) (rmL 1) D clz tys [.ref o, .long f, .long t] [(o, pkC bits ex inn ep len)] (fun _ : Unit => none) (fun _ => [(o, pkC (kBits f t) (kEx f t) (kIn f t) (kE f t) (kLen f t))]) (fun _ => True) := by
  refine Cg.ofF (plainFor_of_name (by decide)) (Nat.le_of_ble_eq_true rfl) ?_
  intro p9 e9 s9 m9 b9 me9 c9 ls S hr hlk hl hw
  obtain ⟨hx, hb, hml, hown, hts⟩ := id S
  have hl : lv_has ls 11 [(0, .ref o), (1, .long f), (3, .long t)] := hl
  refine lv_aload_n hx hb d_Pk_fit_0 rfl (lv_at hl 0 rfl) ?_
  refine lv_lload_n hx hb d_Pk_fit_1 rfl (lv_at hl 2 rfl) ?_
  refine lv_lload_n hx hb d_Pk_fit_2 rfl (lv_at hl 1 rfl) ?_
  refine lv_lsub hx hb d_Pk_fit_3 ?_
  refine lv_bipush (v := 7) hx hb d_Pk_fit_4 (by decide) ?_
  refine lv_lushr (v := (jul (t - f) (7 : Int32))) hx hb d_Pk_fit_6 rfl ?_
  refine q_cr (q_runS (As := [.long (jul (t - f) (7 : Int32))]) (rest := [.ref o]) S ((c_Pk_bitsOf l D tys (jul (t - f) (7 : Int32))).nil _) (cw_s hts tb_3_115 k_Pk_bitsOf rfl rfl ⟨by decide, by decide⟩) hw rfl hl.1 rfl (Nat.le_of_ble_eq_true rfl) d_Pk_fit_7 ⟨Nat.zero_le _, Nat.zero_le _⟩) ?_
  refine W.eq (g2 := F0 m9 10 ls [.int (nI (kB (jul (t - f) (7 : Int32)) 63 0)), .ref o]) rfl ?_
  refine q_topi (z := (kE0 f t)) (rfl) ?_
  refine q_put (v := .int (kE0 f t)) S hw ly_Pk t_Pk t_Pk_ok n_Pk 0 rfl rfl 3 (by decide) tb_2_41 rfl rfl rfl rfl (Nat.le_of_ble_eq_true rfl) d_Pk_fit_10 (fun H locs hw => ?_)
  have hw : Lv _ _ _ _ _ [(o, pkC bits ex inn (kE0 f t) len)] _ _ _ := hw
  refine lv_aload_n hx hb d_Pk_fit_13 rfl (lv_at hl 0 rfl) ?_
  refine lv_aload_n hx hb d_Pk_fit_14 rfl (lv_at hl 0 rfl) ?_
  refine q_get S hw ly_Pk 0 rfl rfl 3 (by decide) tb_2_41 rfl rfl d_Pk_fit_15 ?_
  refine q_join (pcJ := 36) (st := [.int (jb (kIn f t)), .ref o]) (lv' := [(0, .ref o), (1, .long f), (3, .long t)]) (nL := 11) (fun ls hl => ?_) (fun J36 => ?_)
  · refine q_put (v := .int (jb (kIn f t))) S hw ly_Pk t_Pk t_Pk_ok n_Pk 0 rfl rfl 2 (by decide) tb_2_39 rfl rfl (jb_nar (kIn f t)) (jb_fit (kIn f t)) (Nat.le_of_ble_eq_true rfl) d_Pk_fit_36 (fun H locs hw => ?_)
    have hw : Lv _ _ _ _ _ [(o, pkC bits ex (kIn f t) (kE0 f t) len)] _ _ _ := hw
    refine lv_lload_n hx hb d_Pk_fit_39 rfl (lv_at hl 1 rfl) ?_
    refine lv_lstore (lv' := [(5, .long f), (0, .ref o), (1, .long f), (3, .long t)]) hx hb d_Pk_fit_40 hl (by decide) rfl (fun ls hl => ?_)
    refine lv_lload_n hx hb d_Pk_fit_42 rfl (lv_at hl 3 rfl) ?_
    refine lv_lstore (lv' := [(7, .long t), (5, .long f), (0, .ref o), (1, .long f), (3, .long t)]) hx hb d_Pk_fit_43 hl (by decide) rfl (fun ls hl => ?_)
    refine lv_aload_n hx hb d_Pk_fit_45 rfl (lv_at hl 2 rfl) ?_
    refine q_get S hw ly_Pk 0 rfl rfl 2 (by decide) tb_2_39 rfl rfl d_Pk_fit_46 ?_
    refine q_joinH (wsJ := [(o, pkC bits ex (kIn f t) (kE f t) len)]) (pcJ := 109) (st := []) (lv' := [(7, .long (kHi f t)), (5, .long (kLo f t)), (3, .long t), (1, .long f), (0, .ref o)]) (nL := 11) hw (fun H locs ls hw hl => ?_) (fun J109 => ?_)
    · refine lv_aload_n hx hb d_Pk_fit_109 rfl (lv_at hl 4 rfl) ?_
      refine lv_lload hx hb d_Pk_fit_110 (lv_at hl 1 rfl) ?_
      refine lv_lload_n hx hb d_Pk_fit_112 rfl (lv_at hl 3 rfl) ?_
      refine q_join (pcJ := 129) (st := [.int (jb (kEx f t)), .ref o]) (lv' := [(7, .long (kHi f t)), (5, .long (kLo f t)), (3, .long t), (1, .long f), (0, .ref o)]) (nL := 11) (fun ls hl => ?_) (fun J129 => ?_)
      · refine q_put (v := .int (jb (kEx f t))) S hw ly_Pk t_Pk t_Pk_ok n_Pk 0 rfl rfl 1 (by decide) tb_2_36 rfl rfl (jb_nar (kEx f t)) (jb_fit (kEx f t)) (Nat.le_of_ble_eq_true rfl) d_Pk_fit_129 (fun H locs hw => ?_)
        have hw : Lv _ _ _ _ _ [(o, pkC bits (kEx f t) (kIn f t) (kE f t) len)] _ _ _ := hw
        refine lv_aload_n hx hb d_Pk_fit_132 rfl (lv_at hl 4 rfl) ?_
        refine lv_lload hx hb d_Pk_fit_133 (lv_at hl 0 rfl) ?_
        refine lv_lload hx hb d_Pk_fit_135 (lv_at hl 1 rfl) ?_
        refine lv_lsub hx hb d_Pk_fit_137 ?_
        refine q_put (v := .long ((kHi f t) - (kLo f t))) S hw ly_Pk t_Pk t_Pk_ok n_Pk 0 rfl rfl 4 (by decide) tb_2_43 rfl rfl rfl rfl (Nat.le_of_ble_eq_true rfl) d_Pk_fit_138 (fun H locs hw => ?_)
        have hw : Lv _ _ _ _ _ [(o, pkC bits (kEx f t) (kIn f t) (kE f t) ((kHi f t) - (kLo f t)))] _ _ _ := hw
        refine lv_lload hx hb d_Pk_fit_141 (lv_at hl 1 rfl) ?_
        refine lv_aload_n hx hb d_Pk_fit_143 rfl (lv_at hl 4 rfl) ?_
        refine q_get S hw ly_Pk 0 rfl rfl 3 (by decide) tb_2_41 rfl rfl d_Pk_fit_144 ?_
        refine lv_lushr (v := (jul (kLo f t) (kE f t))) hx hb d_Pk_fit_147 rfl ?_
        refine lv_l2i (v := ((jul (kLo f t) (kE f t)).toInt32)) hx hb d_Pk_fit_148 rfl ?_
        refine lv_sipush (v := 255) hx hb d_Pk_fit_149 (by decide) ?_
        refine lv_iand hx hb d_Pk_fit_152 ?_
        refine lv_istore (lv' := [(9, .int (((jul (kLo f t) (kE f t)).toInt32) &&& (255 : Int32))), (7, .long (kHi f t)), (5, .long (kLo f t)), (3, .long t), (1, .long f), (0, .ref o)]) hx hb d_Pk_fit_153 hl (by decide) rfl (fun ls hl => ?_)
        refine lv_lload hx hb d_Pk_fit_155 (lv_at hl 1 rfl) ?_
        refine lv_aload_n hx hb d_Pk_fit_157 rfl (lv_at hl 5 rfl) ?_
        refine q_get S hw ly_Pk 0 rfl rfl 3 (by decide) tb_2_41 rfl rfl d_Pk_fit_158 ?_
        refine lv_lushr (v := (jul (kHi f t) (kE f t))) hx hb d_Pk_fit_161 rfl ?_
        refine lv_l2i (v := ((jul (kHi f t) (kE f t)).toInt32)) hx hb d_Pk_fit_162 rfl ?_
        refine lv_bipush (v := 63) hx hb d_Pk_fit_163 (by decide) ?_
        refine lv_iand hx hb d_Pk_fit_165 ?_
        refine lv_istore (lv' := [(10, .int (((jul (kHi f t) (kE f t)).toInt32) &&& (63 : Int32))), (9, .int (((jul (kLo f t) (kE f t)).toInt32) &&& (255 : Int32))), (7, .long (kHi f t)), (5, .long (kLo f t)), (3, .long t), (1, .long f), (0, .ref o)]) hx hb d_Pk_fit_166 hl (by decide) rfl (fun ls hl => ?_)
        refine lv_aload_n hx hb d_Pk_fit_168 rfl (lv_at hl 6 rfl) ?_
        refine lv_iload hx hb d_Pk_fit_169 (lv_at hl 0 rfl) ?_
        refine lv_bipush (v := 8) hx hb d_Pk_fit_171 (by decide) ?_
        refine lv_ishl hx hb d_Pk_fit_173 ?_
        refine lv_iload hx hb d_Pk_fit_174 (lv_at hl 1 rfl) ?_
        refine lv_ior hx hb d_Pk_fit_176 ?_
        refine q_put (v := .int (((((jul (kHi f t) (kE f t)).toInt32) &&& (63 : Int32)) <<< ((8 : Int32) &&& 31)) ||| (((jul (kLo f t) (kE f t)).toInt32) &&& (255 : Int32)))) S hw ly_Pk t_Pk t_Pk_ok n_Pk 0 rfl rfl 0 (by decide) tb_2_33 rfl rfl rfl rfl (Nat.le_of_ble_eq_true rfl) d_Pk_fit_177 (fun H locs hw => ?_)
        have hw : Lv _ _ _ _ _ [(o, pkC (((((jul (kHi f t) (kE f t)).toInt32) &&& (63 : Int32)) <<< ((8 : Int32) &&& 31)) ||| (((jul (kLo f t) (kE f t)).toInt32) &&& (255 : Int32))) (kEx f t) (kIn f t) (kE f t) ((kHi f t) - (kLo f t)))] _ _ _ := hw
        refine lv_aload_n hx hb d_Pk_fit_180 rfl (lv_at hl 6 rfl) ?_
        refine q_get S hw ly_Pk 0 rfl rfl 2 (by decide) tb_2_39 rfl rfl d_Pk_fit_181 ?_
        refine q_ifz_eq S d_Pk_fit_184 rfl (fun h184 => ?_) (fun h184 => ?_)
        · exact hw.rv S hr hlk d_Pk_fit_217 () (rfl) (trivial) (by simp [kBits, kB0, kLen, h184])
        · refine lv_aload_n hx hb d_Pk_fit_187 rfl (lv_at hl 6 rfl) ?_
          refine lv_dup hx hb d_Pk_fit_188 rfl ?_
          refine q_get S hw ly_Pk 0 rfl rfl 0 (by decide) tb_2_33 rfl rfl d_Pk_fit_189 ?_
          refine lv_sipush (v := 16384) hx hb d_Pk_fit_192 (by decide) ?_
          refine lv_aload_n hx hb d_Pk_fit_195 rfl (lv_at hl 6 rfl) ?_
          refine q_get S hw ly_Pk 0 rfl rfl 3 (by decide) tb_2_41 rfl rfl d_Pk_fit_196 ?_
          refine lv_iconst (v := 3) hx hb d_Pk_fit_199 (by decide) ?_
          refine lv_iushr (v := (jus (kE f t) (3 : Int32))) hx hb d_Pk_fit_200 rfl ?_
          refine lv_bipush (v := 8) hx hb d_Pk_fit_201 (by decide) ?_
          refine lv_ishl hx hb d_Pk_fit_203 ?_
          refine lv_ior hx hb d_Pk_fit_204 ?_
          refine lv_aload_n hx hb d_Pk_fit_205 rfl (lv_at hl 6 rfl) ?_
          refine q_get S hw ly_Pk 0 rfl rfl 3 (by decide) tb_2_41 rfl rfl d_Pk_fit_206 ?_
          refine lv_bipush (v := 7) hx hb d_Pk_fit_209 (by decide) ?_
          refine lv_iand hx hb d_Pk_fit_211 ?_
          refine lv_ior hx hb d_Pk_fit_212 ?_
          refine lv_ior hx hb d_Pk_fit_213 ?_
          refine q_put (v := .int ((((((jul (kHi f t) (kE f t)).toInt32) &&& (63 : Int32)) <<< ((8 : Int32) &&& 31)) ||| (((jul (kLo f t) (kE f t)).toInt32) &&& (255 : Int32))) ||| (((16384 : Int32) ||| ((jus (kE f t) (3 : Int32)) <<< ((8 : Int32) &&& 31))) ||| ((kE f t) &&& (7 : Int32))))) S hw ly_Pk t_Pk t_Pk_ok n_Pk 0 rfl rfl 0 (by decide) tb_2_33 rfl rfl rfl rfl (Nat.le_of_ble_eq_true rfl) d_Pk_fit_214 (fun H locs hw => ?_)
          have hw : Lv _ _ _ _ _ [(o, pkC ((((((jul (kHi f t) (kE f t)).toInt32) &&& (63 : Int32)) <<< ((8 : Int32) &&& 31)) ||| (((jul (kLo f t) (kE f t)).toInt32) &&& (255 : Int32))) ||| (((16384 : Int32) ||| ((jus (kE f t) (3 : Int32)) <<< ((8 : Int32) &&& 31))) ||| ((kE f t) &&& (7 : Int32)))) (kEx f t) (kIn f t) (kE f t) ((kHi f t) - (kLo f t)))] _ _ _ := hw
          exact hw.rv S hr hlk d_Pk_fit_217 () (rfl) (trivial) (by simp [kBits, kB0, kLen, h184])
      · refine q_lc_ne S d_Pk_fit_113 d_Pk_fit_114 rfl (fun h114 => ?_) (fun h114 => ?_)
        · refine lv_iconst (v := 0) hx hb d_Pk_fit_128 (by decide) ?_
          refine q_topi (z := (jb (kEx f t))) (by simp [kEx, jb, h114]) ?_
          exact J129 _ (lv_sub (l' := [(7, .long (kHi f t)), (5, .long (kLo f t)), (3, .long t), (1, .long f), (0, .ref o)]) hl [0, 1, 2, 3, 4] rfl)
        · refine lv_lload hx hb d_Pk_fit_117 (lv_at hl 0 rfl) ?_
          refine lv_lload_n hx hb d_Pk_fit_119 rfl (lv_at hl 2 rfl) ?_
          refine q_lc_ne S d_Pk_fit_120 d_Pk_fit_121 rfl (fun h121 => ?_) (fun h121 => ?_)
          · refine lv_iconst (v := 0) hx hb d_Pk_fit_128 (by decide) ?_
            refine q_topi (z := (jb (kEx f t))) (by simp [kEx, jb, h114, h121]) ?_
            exact J129 _ (lv_sub (l' := [(7, .long (kHi f t)), (5, .long (kLo f t)), (3, .long t), (1, .long f), (0, .ref o)]) hl [0, 1, 2, 3, 4] rfl)
          · refine lv_iconst (v := 1) hx hb d_Pk_fit_124 (by decide) ?_
            refine lv_goto hx hb d_Pk_fit_125 rfl ?_
            refine q_topi (z := (jb (kEx f t))) (by simp [kEx, jb, h114, h121]) ?_
            exact J129 _ (lv_sub (l' := [(7, .long (kHi f t)), (5, .long (kLo f t)), (3, .long t), (1, .long f), (0, .ref o)]) hl [0, 1, 2, 3, 4] rfl)
    · refine q_ifz_eq S d_Pk_fit_49 rfl (fun h49 => ?_) (fun h49 => ?_)
      · exact J109 _ _ _ (hw.same (by simp [kE, h49])) (q_loc (l' := [(7, .long (kHi f t)), (5, .long (kLo f t)), (3, .long t), (1, .long f), (0, .ref o)]) (lv_sub (l' := [(7, .long t), (5, .long f), (3, .long t), (1, .long f), (0, .ref o)]) hl [0, 1, 4, 3, 2] rfl) (by simp [kLo, kHi, kE, h49]))
      · refine lv_aload_n hx hb d_Pk_fit_52 rfl (lv_at hl 2 rfl) ?_
        refine lv_lload_n hx hb d_Pk_fit_53 rfl (lv_at hl 3 rfl) ?_
        refine q_cr (q_runV (As := [.long f]) (rest := []) S (Cr.one (c_Pk_roundedDown l D tys o bits ex (kIn f t) (kE0 f t) len f) 0 rfl) (cw_v hts tb_3_119 k_Pk_roundedDown rfl rfl ⟨by decide, by decide⟩) hw 0 rfl rfl rfl hl.1 rfl (Nat.le_of_ble_eq_true rfl) d_Pk_fit_54 ⟨Nat.zero_le _, Nat.zero_le _⟩) ?_
        refine W.eq (g2 := F0 m9 57 ls [.long (kDn f (kE0 f t))]) rfl ?_
        refine lv_lstore (lv' := [(5, .long (kDn f (kE0 f t))), (7, .long t), (0, .ref o), (1, .long f), (3, .long t)]) hx hb d_Pk_fit_57 hl (by decide) rfl (fun ls hl => ?_)
        refine lv_aload_n hx hb d_Pk_fit_59 rfl (lv_at hl 2 rfl) ?_
        refine lv_lload_n hx hb d_Pk_fit_60 rfl (lv_at hl 4 rfl) ?_
        refine q_cr (q_runV (As := [.long t]) (rest := []) S (Cr.one (c_Pk_roundedUp l D tys o bits ex (kIn f t) (kE0 f t) len t) 0 rfl) (cw_v hts tb_3_124 k_Pk_roundedUp rfl rfl ⟨by decide, by decide⟩) hw 0 rfl rfl rfl hl.1 rfl (Nat.le_of_ble_eq_true rfl) d_Pk_fit_61 ⟨Nat.zero_le _, Nat.zero_le _⟩) ?_
        refine W.eq (g2 := F0 m9 64 ls [.long (kUp t (kE0 f t))]) rfl ?_
        refine lv_lstore (lv' := [(7, .long (kUp t (kE0 f t))), (5, .long (kDn f (kE0 f t))), (0, .ref o), (1, .long f), (3, .long t)]) hx hb d_Pk_fit_64 hl (by decide) rfl (fun ls hl => ?_)
        refine lv_lload hx hb d_Pk_fit_66 (lv_at hl 0 rfl) ?_
        refine lv_lload hx hb d_Pk_fit_68 (lv_at hl 1 rfl) ?_
        refine lv_lsub hx hb d_Pk_fit_70 ?_
        refine lv_aload_n hx hb d_Pk_fit_71 rfl (lv_at hl 2 rfl) ?_
        refine q_get S hw ly_Pk 0 rfl rfl 3 (by decide) tb_2_41 rfl rfl d_Pk_fit_72 ?_
        refine lv_iconst (v := 3) hx hb d_Pk_fit_75 (by decide) ?_
        refine lv_iadd hx hb d_Pk_fit_76 ?_
        refine lv_lushr (v := (jul ((kUp t (kE0 f t)) - (kDn f (kE0 f t))) ((kE0 f t) + (3 : Int32)))) hx hb d_Pk_fit_77 rfl ?_
        refine lv_ldc2 (v := 16) hx hb hown (hts _ tb_3_128) d_Pk_fit_78 ?_
        refine q_lc_lt S d_Pk_fit_81 d_Pk_fit_82 rfl (fun h82 => ?_) (fun h82 => ?_)
        · exact J109 _ _ _ (hw.same (by simp [kE, h49, h82])) (q_loc (l' := [(7, .long (kHi f t)), (5, .long (kLo f t)), (3, .long t), (1, .long f), (0, .ref o)]) (lv_sub (l' := [(7, .long (kUp t (kE0 f t))), (5, .long (kDn f (kE0 f t))), (3, .long t), (1, .long f), (0, .ref o)]) hl [0, 1, 4, 3, 2] rfl) (by simp [kLo, kHi, kE, h49, h82]))
        · refine lv_aload_n hx hb d_Pk_fit_85 rfl (lv_at hl 2 rfl) ?_
          refine lv_dup hx hb d_Pk_fit_86 rfl ?_
          refine q_get S hw ly_Pk 0 rfl rfl 3 (by decide) tb_2_41 rfl rfl d_Pk_fit_87 ?_
          refine lv_iconst (v := 1) hx hb d_Pk_fit_90 (by decide) ?_
          refine lv_iadd hx hb d_Pk_fit_91 ?_
          refine q_put (v := .int ((kE0 f t) + (1 : Int32))) S hw ly_Pk t_Pk t_Pk_ok n_Pk 0 rfl rfl 3 (by decide) tb_2_41 rfl rfl rfl rfl (Nat.le_of_ble_eq_true rfl) d_Pk_fit_92 (fun H locs hw => ?_)
          have hw : Lv _ _ _ _ _ [(o, pkC bits ex (kIn f t) ((kE0 f t) + (1 : Int32)) len)] _ _ _ := hw
          refine lv_aload_n hx hb d_Pk_fit_95 rfl (lv_at hl 2 rfl) ?_
          refine lv_lload_n hx hb d_Pk_fit_96 rfl (lv_at hl 3 rfl) ?_
          refine q_cr (q_runV (As := [.long f]) (rest := []) S (Cr.one (c_Pk_roundedDown l D tys o bits ex (kIn f t) ((kE0 f t) + (1 : Int32)) len f) 0 rfl) (cw_v hts tb_3_119 k_Pk_roundedDown rfl rfl ⟨by decide, by decide⟩) hw 0 rfl rfl rfl hl.1 rfl (Nat.le_of_ble_eq_true rfl) d_Pk_fit_97 ⟨Nat.zero_le _, Nat.zero_le _⟩) ?_
          refine W.eq (g2 := F0 m9 100 ls [.long (kDn f ((kE0 f t) + (1 : Int32)))]) rfl ?_
          refine lv_lstore (lv' := [(5, .long (kDn f ((kE0 f t) + (1 : Int32)))), (7, .long (kUp t (kE0 f t))), (0, .ref o), (1, .long f), (3, .long t)]) hx hb d_Pk_fit_100 hl (by decide) rfl (fun ls hl => ?_)
          refine lv_aload_n hx hb d_Pk_fit_102 rfl (lv_at hl 2 rfl) ?_
          refine lv_lload_n hx hb d_Pk_fit_103 rfl (lv_at hl 4 rfl) ?_
          refine q_cr (q_runV (As := [.long t]) (rest := []) S (Cr.one (c_Pk_roundedUp l D tys o bits ex (kIn f t) ((kE0 f t) + (1 : Int32)) len t) 0 rfl) (cw_v hts tb_3_124 k_Pk_roundedUp rfl rfl ⟨by decide, by decide⟩) hw 0 rfl rfl rfl hl.1 rfl (Nat.le_of_ble_eq_true rfl) d_Pk_fit_104 ⟨Nat.zero_le _, Nat.zero_le _⟩) ?_
          refine W.eq (g2 := F0 m9 107 ls [.long (kUp t ((kE0 f t) + (1 : Int32)))]) rfl ?_
          refine lv_lstore (lv' := [(7, .long (kUp t ((kE0 f t) + (1 : Int32)))), (5, .long (kDn f ((kE0 f t) + (1 : Int32)))), (0, .ref o), (1, .long f), (3, .long t)]) hx hb d_Pk_fit_107 hl (by decide) rfl (fun ls hl => ?_)
          exact J109 _ _ _ (hw.same (by simp [kE, h49, h82])) (q_loc (l' := [(7, .long (kHi f t)), (5, .long (kLo f t)), (3, .long t), (1, .long f), (0, .ref o)]) (lv_sub (l' := [(7, .long (kUp t ((kE0 f t) + (1 : Int32)))), (5, .long (kDn f ((kE0 f t) + (1 : Int32)))), (3, .long t), (1, .long f), (0, .ref o)]) hl [0, 1, 4, 3, 2] rfl) (by simp [kLo, kHi, kE, h49, h82]))
  · refine lv_if_gt hx hb d_Pk_fit_18 rfl (fun h18 => ?_) (fun h18 => ?_)
    · refine lv_iconst (v := 1) hx hb d_Pk_fit_31 (by decide) ?_
      refine lv_goto hx hb d_Pk_fit_32 rfl ?_
      refine q_topi (z := (jb (kIn f t))) (by simp [kIn, jb, h18]) ?_
      exact J36 _ (lv_sub (l' := [(0, .ref o), (1, .long f), (3, .long t)]) hl [0, 1, 2] rfl)
    · refine lv_lload_n hx hb d_Pk_fit_21 rfl (lv_at hl 2 rfl) ?_
      refine lv_lload_n hx hb d_Pk_fit_22 rfl (lv_at hl 1 rfl) ?_
      refine lv_lsub hx hb d_Pk_fit_23 ?_
      refine lv_ldc2 (v := 63) hx hb hown (hts _ tb_3_118) d_Pk_fit_24 ?_
      refine q_lc_le S d_Pk_fit_27 d_Pk_fit_28 rfl (fun h28 => ?_) (fun h28 => ?_)
      · refine lv_iconst (v := 0) hx hb d_Pk_fit_35 (by decide) ?_
        refine q_topi (z := (jb (kIn f t))) (by simp [kIn, jb, h18, h28]) ?_
        exact J36 _ (lv_sub (l' := [(0, .ref o), (1, .long f), (3, .long t)]) hl [0, 1, 2] rfl)
      · refine lv_iconst (v := 1) hx hb d_Pk_fit_31 (by decide) ?_
        refine lv_goto hx hb d_Pk_fit_32 rfl ?_
        refine q_topi (z := (jb (kIn f t))) (by simp [kIn, jb, h18, h28]) ?_
        exact J36 _ (lv_sub (l' := [(0, .ref o), (1, .long f), (3, .long t)]) hl [0, 1, 2] rfl)
