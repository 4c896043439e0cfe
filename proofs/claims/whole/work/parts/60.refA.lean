theorem r_min26 {n : Nat} (hn : n < 2 ^ 31) (h : (26 : Int32) ≤ nI n) : (if n ≤ 26 then n else 26) = 26 := by
  have h1 : 26 ≤ n := (nI_leI (a := 26) (b := n) (by decide) hn).mp h
  by_cases h2 : n ≤ 26
  · rw [if_pos h2]
    omega
  · rw [if_neg h2]
theorem r_two {k : Nat} (hk : k < 64) : jsl 1 (nI k) = Int64.ofInt (2 ^ k) := by
  rw [show (1 : Int64) = Int64.ofInt 1 from rfl, jsl_of 1 hk, Int.one_mul]
theorem p_8 (e : Nat) : (2 : Int) ^ (e + 8) = 256 * 2 ^ e := by rw [Int.pow_add, Int.mul_comm]; rfl
theorem p_5 (e : Nat) : (2 : Int) ^ (e + 5) = 32 * 2 ^ e := by rw [Int.pow_add, Int.mul_comm]; rfl
theorem p_b {e : Nat} (h : e ≤ 26) : (0 : Int) < 2 ^ e ∧ (2 : Int) ^ e ≤ 67108864 := by
  have hP : 0 < 2 ^ e := Nat.pow_pos (by decide)
  have hP2 : 2 ^ e ≤ 2 ^ 26 := Nat.pow_le_pow_right (by decide) h
  have ep : ((2 : Int) ^ e) = ((2 ^ e : Nat) : Int) := (Int.natCast_pow 2 _).symm
  rw [ep]
  omega
theorem xP_b {x e : Nat} (hx : x < 256) (h : e ≤ 26) : 0 ≤ (x : Int) * 2 ^ e ∧ (x : Int) * 2 ^ e ≤ 17179869184 := by
  have := p_b h
  constructor
  · exact Int.mul_nonneg (by omega) (by omega)
  · calc (x : Int) * 2 ^ e ≤ 256 * 67108864 := Int.mul_le_mul (by omega) this.2 (by omega) (by omega)
      _ = 17179869184 := by decide
set_option maxHeartbeats 4000000 in
set_option maxRecDepth 100000 in
theorem c_Math_floorModL (l : Launch) (D : va_G) (tys : List (ClassId × FieldType)) (X Y : Int) (h1 : -4611686018427387904 ≤ X) (h2 : X < 4611686018427387904) (h3 : 0 < Y) (h4 : Y < 4611686018427387904) : Cr l y_Math_floorModL (wl y_Math_floorModL b_Math_floorModL 6 (some .long)) (rmL 0) D clz tys [.long (Int64.ofInt X), .long (Int64.ofInt Y)] [] (some (.long (Int64.ofInt (X % Y)))) := by
  refine Cr.ofF (by decide +kernel) (Nat.le_of_ble_eq_true rfl) ?_
  intro p9 e9 s9 m9 b9 me9 c9 ls S hr hlk hl hw
  obtain ⟨hx, hb, hml, hown, hts⟩ := id S
  have hl : lv_has ls 6 [(0, .long (Int64.ofInt X)), (2, .long (Int64.ofInt Y))] := hl
  refine lv_lload_n hx hb d_Math_floorModL_0 rfl (lv_at hl 0 rfl) ?_
  refine lv_lload_n hx hb d_Math_floorModL_1 rfl (lv_at hl 1 rfl) ?_
  refine lv_lrem hx hb d_Math_floorModL_2 (fun q => by have e := congrArg Int64.toInt q; rw [fm_oI (by omega) h4] at e; exact absurd e (by show ¬ Y = 0; omega)) ?_
  refine q_topl (z := (Int64.ofInt (X.tmod Y))) (fm_rem h1 h2 h3 h4) ?_
  refine lv_lstore (lv' := [(4, .long (Int64.ofInt (X.tmod Y))), (0, .long (Int64.ofInt X)), (2, .long (Int64.ofInt Y))]) hx hb d_Math_floorModL_3 hl (by decide) rfl (fun ls hl => ?_)
  refine lv_lload_n hx hb d_Math_floorModL_5 rfl (lv_at hl 1 rfl) ?_
  refine lv_lload_n hx hb d_Math_floorModL_6 rfl (lv_at hl 2 rfl) ?_
  refine lv_lxor hx hb d_Math_floorModL_7 ?_
  refine lv_lconst (v := 0) hx hb d_Math_floorModL_8 (by decide) ?_
  refine q_lc_ge S d_Math_floorModL_9 d_Math_floorModL_10 rfl (fun h10 => ?_) (fun h10 => ?_)
  · refine lv_lload hx hb d_Math_floorModL_25 (lv_at hl 0 rfl) ?_
    exact rd_l S hr hlk d_Math_floorModL_27 (by rw [fm_pos (fun q => absurd ((fm_neg h1 h2 h3 h4).mpr q) (Int64.not_lt.mpr h10))])
  · refine lv_lload hx hb d_Math_floorModL_13 (lv_at hl 0 rfl) ?_
    refine lv_lconst (v := 0) hx hb d_Math_floorModL_15 (by decide) ?_
    refine q_lc_eq S d_Math_floorModL_16 d_Math_floorModL_17 rfl (fun h17 => ?_) (fun h17 => ?_)
    · refine lv_lload hx hb d_Math_floorModL_25 (lv_at hl 0 rfl) ?_
      exact rd_l S hr hlk d_Math_floorModL_27 (by rw [h17, fm_zero ((fm_inj h3 h4).mp h17)]; rfl)
    · refine lv_lload hx hb d_Math_floorModL_20 (lv_at hl 0 rfl) ?_
      refine lv_lload_n hx hb d_Math_floorModL_22 rfl (lv_at hl 2 rfl) ?_
      refine lv_ladd hx hb d_Math_floorModL_23 ?_
      exact rd_l S hr hlk d_Math_floorModL_24 (by rw [oI_add, fm_add ((fm_neg h1 h2 h3 h4).mp (Int64.not_le.mp h10)) h3 (fun q => h17 ((fm_inj h3 h4).mpr q))])
set_option maxHeartbeats 4000000 in
set_option maxRecDepth 100000 in
theorem c_Mod_low (l : Launch) (D : va_G) (tys : List (ClassId × FieldType)) (a : Int32) : Cr l y_Mod_low (wl y_Mod_low b_Mod_low 1 (some .long)) (rmL 0) D clz tys [.int a] [] (some (.long (cLow a))) := by
  refine Cr.ofF (plainFor_of_name (by decide)) (Nat.le_of_ble_eq_true rfl) ?_
  intro p9 e9 s9 m9 b9 me9 c9 ls S hr hlk hl hw
  obtain ⟨hx, hb, hml, hown, hts⟩ := id S
  have hl : lv_has ls 1 [(0, .int a)] := hl
  refine lv_iload_n hx hb d_Mod_low_0 rfl (lv_at hl 0 rfl) ?_
  refine lv_i2l (v := (a.toInt64)) hx hb d_Mod_low_1 rfl ?_
  refine lv_ldc2 (v := 4294967295) hx hb hown (hts _ tb_5_121) d_Mod_low_2 ?_
  refine lv_land hx hb d_Mod_low_5 ?_
  exact rd_l S hr hlk d_Mod_low_6 (rfl)
set_option maxHeartbeats 4000000 in
set_option maxRecDepth 100000 in
theorem c_Mod_perms (l : Launch) (D : va_G) (tys : List (ClassId × FieldType)) (m : Int32) : Cr l y_Mod_perms (wl y_Mod_perms b_Mod_perms 1 (some .int)) (rmL 0) D clz tys [.int m] [] (some (.int (cPerms m))) := by
  refine Cr.ofF (plainFor_of_name (by decide)) (Nat.le_of_ble_eq_true rfl) ?_
  intro p9 e9 s9 m9 b9 me9 c9 ls S hr hlk hl hw
  obtain ⟨hx, hb, hml, hown, hts⟩ := id S
  have hl : lv_has ls 1 [(0, .int m)] := hl
  refine lv_iload_n hx hb d_Mod_perms_0 rfl (lv_at hl 0 rfl) ?_
  refine lv_bipush (v := 20) hx hb d_Mod_perms_1 (by decide) ?_
  refine lv_iushr (v := (jus m (20 : Int32))) hx hb d_Mod_perms_3 rfl ?_
  exact rd_i S hr hlk rfl d_Mod_perms_4 (rfl)
set_option maxHeartbeats 4000000 in
set_option maxRecDepth 100000 in
theorem c_Mod_type (l : Launch) (D : va_G) (tys : List (ClassId × FieldType)) (m : Int32) : Cr l y_Mod_type (wl y_Mod_type b_Mod_type 1 (some .int)) (rmL 0) D clz tys [.int m] [] (some (.int (cType m))) := by
  refine Cr.ofF (plainFor_of_name (by decide)) (Nat.le_of_ble_eq_true rfl) ?_
  intro p9 e9 s9 m9 b9 me9 c9 ls S hr hlk hl hw
  obtain ⟨hx, hb, hml, hown, hts⟩ := id S
  have hl : lv_has ls 1 [(0, .int m)] := hl
  refine lv_iload_n hx hb d_Mod_type_0 rfl (lv_at hl 0 rfl) ?_
  refine lv_bipush (v := 16) hx hb d_Mod_type_1 (by decide) ?_
  refine lv_ishr hx hb d_Mod_type_3 ?_
  refine lv_bipush (v := 15) hx hb d_Mod_type_4 (by decide) ?_
  refine lv_iand hx hb d_Mod_type_6 ?_
  exact rd_i S hr hlk rfl d_Mod_type_7 (r_ty m)
set_option maxHeartbeats 4000000 in
set_option maxRecDepth 100000 in
theorem c_Mod_withType (l : Launch) (D : va_G) (tys : List (ClassId × FieldType)) (m t : Int32) : Cr l y_Mod_withType (wl y_Mod_withType b_Mod_withType 2 (some .int)) (rmL 0) D clz tys [.int m, .int t] [] (some (.int (cSetT m t))) := by
  refine Cr.ofF (plainFor_of_name (by decide)) (Nat.le_of_ble_eq_true rfl) ?_
  intro p9 e9 s9 m9 b9 me9 c9 ls S hr hlk hl hw
  obtain ⟨hx, hb, hml, hown, hts⟩ := id S
  have hl : lv_has ls 2 [(0, .int m), (1, .int t)] := hl
  refine lv_iload_n hx hb d_Mod_withType_0 rfl (lv_at hl 0 rfl) ?_
  refine lv_ldc (v := -983041) hx hb hown (hts _ tb_5_234) d_Mod_withType_1 ?_
  refine lv_iand hx hb d_Mod_withType_3 ?_
  refine lv_iload_n hx hb d_Mod_withType_4 rfl (lv_at hl 1 rfl) ?_
  refine lv_bipush (v := 16) hx hb d_Mod_withType_5 (by decide) ?_
  refine lv_ishl hx hb d_Mod_withType_7 ?_
  refine lv_ior hx hb d_Mod_withType_8 ?_
  exact rd_i S hr hlk rfl d_Mod_withType_9 (rfl)
set_option maxHeartbeats 4000000 in
set_option maxRecDepth 100000 in
theorem c_Mod_withPerms (l : Launch) (D : va_G) (tys : List (ClassId × FieldType)) (m t : Int32) : Cr l y_Mod_withPerms (wl y_Mod_withPerms b_Mod_withPerms 2 (some .int)) (rmL 0) D clz tys [.int m, .int t] [] (some (.int (cSetP m t))) := by
  refine Cr.ofF (plainFor_of_name (by decide)) (Nat.le_of_ble_eq_true rfl) ?_
  intro p9 e9 s9 m9 b9 me9 c9 ls S hr hlk hl hw
  obtain ⟨hx, hb, hml, hown, hts⟩ := id S
  have hl : lv_has ls 2 [(0, .int m), (1, .int t)] := hl
  refine lv_iload_n hx hb d_Mod_withPerms_0 rfl (lv_at hl 0 rfl) ?_
  refine lv_ldc (v := 1048575) hx hb hown (hts _ tb_6_36) d_Mod_withPerms_1 ?_
  refine lv_iand hx hb d_Mod_withPerms_3 ?_
  refine lv_iload_n hx hb d_Mod_withPerms_4 rfl (lv_at hl 1 rfl) ?_
  refine lv_bipush (v := 20) hx hb d_Mod_withPerms_5 (by decide) ?_
  refine lv_ishl hx hb d_Mod_withPerms_7 ?_
  refine lv_ior hx hb d_Mod_withPerms_8 ?_
  exact rd_i S hr hlk rfl d_Mod_withPerms_9 (rfl)
set_option maxHeartbeats 4000000 in
set_option maxRecDepth 100000 in
theorem c_Mod_scale (l : Launch) (D : va_G) (tys : List (ClassId × FieldType)) (m : Int32) : Cr l y_Mod_scale (wl y_Mod_scale b_Mod_scale 2 (some .int)) (rmL 0) D clz tys [.int m] [] (some (.int (nI (bE (mN m))))) := by
  refine Cr.ofF (plainFor_of_name (by decide)) (Nat.le_of_ble_eq_true rfl) ?_
  intro p9 e9 s9 m9 b9 me9 c9 ls S hr hlk hl hw
  obtain ⟨hx, hb, hml, hown, hts⟩ := id S
  have hl : lv_has ls 2 [(0, .int m)] := hl
  refine lv_bipush (v := 8) hx hb d_Mod_scale_0 (by decide) ?_
  refine lv_iload_n hx hb d_Mod_scale_2 rfl (lv_at hl 0 rfl) ?_
  refine lv_bipush (v := 8) hx hb d_Mod_scale_3 (by decide) ?_
  refine lv_ishr hx hb d_Mod_scale_5 ?_
  refine lv_bipush (v := 7) hx hb d_Mod_scale_6 (by decide) ?_
  refine lv_iand hx hb d_Mod_scale_8 ?_
  refine q_topi (z := (nI (mN m / 256 % 8))) (r_e3 m) ?_
  refine lv_imul hx hb d_Mod_scale_9 ?_
  refine q_topi (z := nI (8 * (mN m / 256 % 8))) (pk_mul 8 (mN m / 256 % 8)) ?_
  refine lv_iload_n hx hb d_Mod_scale_10 rfl (lv_at hl 0 rfl) ?_
  refine lv_bipush (v := 7) hx hb d_Mod_scale_11 (by decide) ?_
  refine lv_iand hx hb d_Mod_scale_13 ?_
  refine q_topi (z := (nI (mN m % 8))) (r_e0 m) ?_
  refine lv_iadd hx hb d_Mod_scale_14 ?_
  refine q_topi (z := nI ((8 * (mN m / 256 % 8)) + (mN m % 8))) (nI_add (8 * (mN m / 256 % 8)) (mN m % 8)) ?_
  refine lv_istore_n (lv' := [(1, .int (nI ((8 * (mN m / 256 % 8)) + (mN m % 8)))), (0, .int m)]) hx hb d_Mod_scale_15 rfl hl (by decide) rfl (fun ls hl => ?_)
  refine lv_iload_n hx hb d_Mod_scale_16 rfl (lv_at hl 1 rfl) ?_
  refine lv_bipush (v := 14) hx hb d_Mod_scale_17 (by decide) ?_
  refine lv_ishr hx hb d_Mod_scale_19 ?_
  refine lv_iconst (v := 1) hx hb d_Mod_scale_20 (by decide) ?_
  refine lv_iand hx hb d_Mod_scale_21 ?_
  refine q_topi (z := (nI (bI (mN m)))) (r_bi m) ?_
  refine lv_if_ne hx hb d_Mod_scale_22 rfl (fun h22 => ?_) (fun h22 => ?_)
  · refine lv_iload_n hx hb d_Mod_scale_29 rfl (lv_at hl 0 rfl) ?_
    refine lv_bipush (v := 26) hx hb d_Mod_scale_30 (by decide) ?_
    refine lv_icmp_ge hx hb d_Mod_scale_32 rfl (fun h32 => ?_) (fun h32 => ?_)
    · refine lv_bipush (v := 26) hx hb d_Mod_scale_39 (by decide) ?_
      exact rd_i S hr hlk rfl d_Mod_scale_41 (by unfold bE; rw [if_neg (fun q => h22 (bI0.mpr q)), Nat.mul_comm (mN m / 256 % 8) 8, r_min26 (by omega) h32]; rfl)
    · refine lv_iload_n hx hb d_Mod_scale_35 rfl (lv_at hl 0 rfl) ?_
      refine lv_goto hx hb d_Mod_scale_36 rfl ?_
      exact rd_i S hr hlk rfl d_Mod_scale_41 (by unfold bE; rw [if_neg (fun q => h22 (bI0.mpr q)), Nat.mul_comm (mN m / 256 % 8) 8, if_pos (show 8 * (mN m / 256 % 8) + mN m % 8 ≤ 26 by have := lt_nge2 (c := 26) (by omega) h32; omega)])
  · refine lv_iconst (v := 0) hx hb d_Mod_scale_25 (by decide) ?_
    refine lv_goto hx hb d_Mod_scale_26 rfl ?_
    exact rd_i S hr hlk rfl d_Mod_scale_41 (by unfold bE; rw [if_pos (bI0.mp h22)]; rfl)
set_option maxHeartbeats 4000000 in
set_option maxRecDepth 100000 in
theorem c_Mod_bottom (l : Launch) (D : va_G) (tys : List (ClassId × FieldType)) (m : Int32) : Cr l y_Mod_bottom (wl y_Mod_bottom b_Mod_bottom 1 (some .int)) (rmL 0) D clz tys [.int m] [] (some (.int (nI (bB (mN m))))) := by
  refine Cr.ofF (plainFor_of_name (by decide)) (Nat.le_of_ble_eq_true rfl) ?_
  intro p9 e9 s9 m9 b9 me9 c9 ls S hr hlk hl hw
  obtain ⟨hx, hb, hml, hown, hts⟩ := id S
  have hl : lv_has ls 1 [(0, .int m)] := hl
  refine lv_iload_n hx hb d_Mod_bottom_0 rfl (lv_at hl 0 rfl) ?_
  refine lv_bipush (v := 14) hx hb d_Mod_bottom_1 (by decide) ?_
  refine lv_ishr hx hb d_Mod_bottom_3 ?_
  refine lv_iconst (v := 1) hx hb d_Mod_bottom_4 (by decide) ?_
  refine lv_iand hx hb d_Mod_bottom_5 ?_
  refine q_topi (z := (nI (bI (mN m)))) (r_bi m) ?_
  refine lv_if_ne hx hb d_Mod_bottom_6 rfl (fun h6 => ?_) (fun h6 => ?_)
  · refine lv_iload_n hx hb d_Mod_bottom_17 rfl (lv_at hl 0 rfl) ?_
    refine lv_sipush (v := 248) hx hb d_Mod_bottom_18 (by decide) ?_
    refine lv_iand hx hb d_Mod_bottom_21 ?_
    exact rd_i S hr hlk rfl d_Mod_bottom_22 (by unfold bB; rw [if_neg (fun q => h6 (bI0.mpr q)), r_248])
  · refine lv_iload_n hx hb d_Mod_bottom_9 rfl (lv_at hl 0 rfl) ?_
    refine lv_sipush (v := 255) hx hb d_Mod_bottom_10 (by decide) ?_
    refine lv_iand hx hb d_Mod_bottom_13 ?_
    refine lv_goto hx hb d_Mod_bottom_14 rfl ?_
    exact rd_i S hr hlk rfl d_Mod_bottom_22 (by unfold bB; rw [if_pos (bI0.mp h6), r_255])
set_option maxHeartbeats 4000000 in
set_option maxRecDepth 100000 in
theorem c_Mod_roof (l : Launch) (D : va_G) (tys : List (ClassId × FieldType)) (m : Int32) : Cr l y_Mod_roof (wl y_Mod_roof b_Mod_roof 5 (some .int)) (rmL 1) D clz tys [.int m] [] (some (.int (nI (bT (mN m))))) := by
  refine Cr.ofF (plainFor_of_name (by decide)) (Nat.le_of_ble_eq_true rfl) ?_
  intro p9 e9 s9 m9 b9 me9 c9 ls S hr hlk hl hw
  obtain ⟨hx, hb, hml, hown, hts⟩ := id S
  have hl : lv_has ls 5 [(0, .int m)] := hl
  have hB := bB_lt (mN m)
  have hS := bS_lt (mN m)
  have hI := bI_lt (mN m)
  refine lv_iload_n hx hb d_Mod_roof_0 rfl (lv_at hl 0 rfl) ?_
  refine lv_bipush (v := 14) hx hb d_Mod_roof_1 (by decide) ?_
  refine lv_ishr hx hb d_Mod_roof_3 ?_
  refine lv_iconst (v := 1) hx hb d_Mod_roof_4 (by decide) ?_
  refine lv_iand hx hb d_Mod_roof_5 ?_
  refine q_topi (z := (nI (bI (mN m)))) (r_bi m) ?_
  refine lv_istore_n (lv' := [(1, .int (nI (bI (mN m)))), (0, .int m)]) hx hb d_Mod_roof_6 rfl hl (by decide) rfl (fun ls hl => ?_)
  refine q_join (pcJ := 28) (st := [.int (nI (bS (mN m)))]) (lv' := [(1, .int (nI (bI (mN m)))), (0, .int m)]) (nL := 5) (fun ls hl => ?_) (fun J28 => ?_)
  · refine lv_istore_n (lv' := [(2, .int (nI (bS (mN m)))), (1, .int (nI (bI (mN m)))), (0, .int m)]) hx hb d_Mod_roof_28 rfl hl (by decide) rfl (fun ls hl => ?_)
    refine lv_iload_n hx hb d_Mod_roof_29 rfl (lv_at hl 2 rfl) ?_
    refine q_cr (q_runS (As := [.int m]) (rest := []) S ((c_Mod_bottom l D tys m).nil _) (cw_s hts tb_5_138 k_Mod_bottom rfl rfl ⟨by decide, by decide⟩) hw rfl hl.1 rfl (Nat.le_of_ble_eq_true rfl) d_Mod_roof_30 ⟨Nat.zero_le _, Nat.zero_le _⟩) ?_
    refine W.eq (g2 := F0 m9 33 ls [.int (nI (bB (mN m)))]) rfl ?_
    refine lv_istore_n (lv' := [(3, .int (nI (bB (mN m)))), (2, .int (nI (bS (mN m)))), (1, .int (nI (bI (mN m)))), (0, .int m)]) hx hb d_Mod_roof_33 rfl hl (by decide) rfl (fun ls hl => ?_)
    refine lv_iload_n hx hb d_Mod_roof_34 rfl (lv_at hl 0 rfl) ?_
    refine lv_bipush (v := 6) hx hb d_Mod_roof_35 (by decide) ?_
    refine lv_ishr hx hb d_Mod_roof_37 ?_
    refine q_topi (z := (nI (bB (mN m) / 64))) (r_sh6 _ hB) ?_
    refine lv_iload_n hx hb d_Mod_roof_38 rfl (lv_at hl 1 rfl) ?_
    refine lv_iload_n hx hb d_Mod_roof_39 rfl (lv_at hl 0 rfl) ?_
    refine lv_bipush (v := 63) hx hb d_Mod_roof_40 (by decide) ?_
    refine lv_iand hx hb d_Mod_roof_42 ?_
    refine q_topi (z := (nI (bB (mN m) % 64))) (pk_andN (by omega) 6 rfl) ?_
    refine q_join (pcJ := 51) (st := [.int (nI (if bS (mN m) < bB (mN m) % 64 then 1 else 0)), .int (nI (bB (mN m) / 64))]) (lv' := [(3, .int (nI (bB (mN m)))), (2, .int (nI (bS (mN m)))), (1, .int (nI (bI (mN m)))), (0, .int m)]) (nL := 5) (fun ls hl => ?_) (fun J51 => ?_)
    · refine lv_iadd hx hb d_Mod_roof_51 ?_
      refine q_topi (z := nI ((bB (mN m) / 64) + (if bS (mN m) < bB (mN m) % 64 then 1 else 0))) (nI_add (bB (mN m) / 64) (if bS (mN m) < bB (mN m) % 64 then 1 else 0)) ?_
      refine lv_iload_n hx hb d_Mod_roof_52 rfl (lv_at hl 2 rfl) ?_
      refine lv_iadd hx hb d_Mod_roof_53 ?_
      refine q_topi (z := nI (((bB (mN m) / 64) + (if bS (mN m) < bB (mN m) % 64 then 1 else 0)) + (bI (mN m)))) (nI_add ((bB (mN m) / 64) + (if bS (mN m) < bB (mN m) % 64 then 1 else 0)) (bI (mN m))) ?_
      refine lv_istore (lv' := [(4, .int (nI (((bB (mN m) / 64) + (if bS (mN m) < bB (mN m) % 64 then 1 else 0)) + (bI (mN m))))), (3, .int (nI (bB (mN m)))), (2, .int (nI (bS (mN m)))), (1, .int (nI (bI (mN m)))), (0, .int m)]) hx hb d_Mod_roof_54 hl (by decide) rfl (fun ls hl => ?_)
      refine lv_iload hx hb d_Mod_roof_56 (lv_at hl 0 rfl) ?_
      refine lv_iconst (v := 3) hx hb d_Mod_roof_58 (by decide) ?_
      refine lv_iand hx hb d_Mod_roof_59 ?_
      refine q_topi (z := (nI ((bB (mN m) / 64 + (if bS (mN m) < bB (mN m) % 64 then 1 else 0) + bI (mN m)) % 4))) (pk_andN (by split <;> omega) 2 rfl) ?_
      refine lv_bipush (v := 6) hx hb d_Mod_roof_60 (by decide) ?_
      refine lv_ishl hx hb d_Mod_roof_62 ?_
      refine lv_iload_n hx hb d_Mod_roof_63 rfl (lv_at hl 2 rfl) ?_
      refine lv_ior hx hb d_Mod_roof_64 ?_
      exact rd_i S hr hlk rfl d_Mod_roof_65 (by rw [Int32.or_comm, or_hi _ hS _ (Nat.mod_lt _ (by decide))]; rfl)
    · refine lv_icmp_ge hx hb d_Mod_roof_43 rfl (fun h43 => ?_) (fun h43 => ?_)
      · refine lv_iconst (v := 0) hx hb d_Mod_roof_50 (by decide) ?_
        refine q_topi (z := (nI (if bS (mN m) < bB (mN m) % 64 then 1 else 0))) (by rw [if_neg (fun q => nI_ge q (by omega) h43)]; rfl) ?_
        exact J51 _ (lv_sub (l' := [(3, .int (nI (bB (mN m)))), (2, .int (nI (bS (mN m)))), (1, .int (nI (bI (mN m)))), (0, .int m)]) hl [0, 1, 2, 3] rfl)
      · refine lv_iconst (v := 1) hx hb d_Mod_roof_46 (by decide) ?_
        refine lv_goto hx hb d_Mod_roof_47 rfl ?_
        refine q_topi (z := (nI (if bS (mN m) < bB (mN m) % 64 then 1 else 0))) (by rw [if_pos (lt_nge2 (by omega) h43)]; rfl) ?_
        exact J51 _ (lv_sub (l' := [(3, .int (nI (bB (mN m)))), (2, .int (nI (bS (mN m)))), (1, .int (nI (bI (mN m)))), (0, .int m)]) hl [0, 1, 2, 3] rfl)
  · refine lv_iload_n hx hb d_Mod_roof_7 rfl (lv_at hl 0 rfl) ?_
    refine lv_if_ne hx hb d_Mod_roof_8 rfl (fun h8 => ?_) (fun h8 => ?_)
    · refine lv_iload_n hx hb d_Mod_roof_21 rfl (lv_at hl 1 rfl) ?_
      refine lv_bipush (v := 8) hx hb d_Mod_roof_22 (by decide) ?_
      refine lv_ishr hx hb d_Mod_roof_24 ?_
      refine lv_bipush (v := 56) hx hb d_Mod_roof_25 (by decide) ?_
      refine lv_iand hx hb d_Mod_roof_27 ?_
      refine q_topi (z := (nI (bS (mN m)))) (by unfold bS; rw [if_neg (fun q => h8 (bI0.mpr q)), r_56]) ?_
      exact J28 _ (lv_sub (l' := [(1, .int (nI (bI (mN m)))), (0, .int m)]) hl [0, 1] rfl)
    · refine lv_iload_n hx hb d_Mod_roof_11 rfl (lv_at hl 1 rfl) ?_
      refine lv_bipush (v := 8) hx hb d_Mod_roof_12 (by decide) ?_
      refine lv_ishr hx hb d_Mod_roof_14 ?_
      refine lv_bipush (v := 63) hx hb d_Mod_roof_15 (by decide) ?_
      refine lv_iand hx hb d_Mod_roof_17 ?_
      refine lv_goto hx hb d_Mod_roof_18 rfl ?_
      refine q_topi (z := (nI (bS (mN m)))) (by unfold bS; rw [if_pos (bI0.mp h8), r_63]) ?_
      exact J28 _ (lv_sub (l' := [(1, .int (nI (bI (mN m)))), (0, .int m)]) hl [0, 1] rfl)
set_option maxHeartbeats 4000000 in
set_option maxRecDepth 100000 in
theorem c_Mod_inWindow (l : Launch) (D : va_G) (tys : List (ClassId × FieldType)) (x e : Nat) (S1 : Int) (hx9 : x < 256) (he : e ≤ 26) (hS1 : -17179869184 ≤ S1) (hS2 : S1 ≤ 4294967296) : Cr l y_Mod_inWindow (wl y_Mod_inWindow b_Mod_inWindow 8 (some .long)) (rmL 1) D clz tys [.int (nI x), .int (nI e), .long (Int64.ofInt S1)] [] (some (.long (Int64.ofInt (S1 + ((x : Int) * 2 ^ e - S1) % (256 * 2 ^ e))))) := by
  refine Cr.ofF (plainFor_of_name (by decide)) (Nat.le_of_ble_eq_true rfl) ?_
  intro p9 e9 s9 m9 b9 me9 c9 ls S hr hlk hl hw
  obtain ⟨hx, hb, hml, hown, hts⟩ := id S
  have hl : lv_has ls 8 [(0, .int (nI x)), (1, .int (nI e)), (2, .long (Int64.ofInt S1))] := hl
  have hp := p_b he
  have hxp := xP_b hx9 he
  refine lv_lconst (v := 1) hx hb d_Mod_inWindow_0 (by decide) ?_
  refine lv_iload_n hx hb d_Mod_inWindow_1 rfl (lv_at hl 1 rfl) ?_
  refine lv_bipush (v := 8) hx hb d_Mod_inWindow_2 (by decide) ?_
  refine lv_iadd hx hb d_Mod_inWindow_4 ?_
  refine q_topi (z := nI (e + 8)) (nI_add e 8) ?_
  refine lv_lshl (v := (jsl (1 : Int64) (nI (e + 8)))) hx hb d_Mod_inWindow_5 rfl ?_
  refine q_topl (z := (Int64.ofInt (256 * 2 ^ e))) (by rw [r_two (by omega), p_8]) ?_
  refine lv_lstore (lv' := [(4, .long (Int64.ofInt (256 * 2 ^ e))), (0, .int (nI x)), (1, .int (nI e)), (2, .long (Int64.ofInt S1))]) hx hb d_Mod_inWindow_6 hl (by decide) rfl (fun ls hl => ?_)
  refine lv_iload_n hx hb d_Mod_inWindow_8 rfl (lv_at hl 1 rfl) ?_
  refine lv_i2l (v := ((nI x).toInt64)) hx hb d_Mod_inWindow_9 rfl ?_
  refine lv_iload_n hx hb d_Mod_inWindow_10 rfl (lv_at hl 2 rfl) ?_
  refine lv_lshl (v := (jsl ((nI x).toInt64) (nI e))) hx hb d_Mod_inWindow_11 rfl ?_
  refine q_topl (z := (Int64.ofInt ((x : Int) * 2 ^ e))) (by rw [nI_l (by omega), oI_N, jsl_of _ (by omega)]) ?_
  refine lv_lstore (lv' := [(6, .long (Int64.ofInt ((x : Int) * 2 ^ e))), (4, .long (Int64.ofInt (256 * 2 ^ e))), (0, .int (nI x)), (1, .int (nI e)), (2, .long (Int64.ofInt S1))]) hx hb d_Mod_inWindow_12 hl (by decide) rfl (fun ls hl => ?_)
  refine lv_lload_n hx hb d_Mod_inWindow_14 rfl (lv_at hl 4 rfl) ?_
  refine lv_lload hx hb d_Mod_inWindow_15 (lv_at hl 0 rfl) ?_
  refine lv_lload_n hx hb d_Mod_inWindow_17 rfl (lv_at hl 4 rfl) ?_
  refine lv_lsub hx hb d_Mod_inWindow_18 ?_
  refine q_topl (z := (Int64.ofInt ((x : Int) * 2 ^ e - S1))) (oI_sub _ _) ?_
  refine lv_lload hx hb d_Mod_inWindow_19 (lv_at hl 1 rfl) ?_
  refine q_cr (q_runS (As := [.long (Int64.ofInt ((x : Int) * 2 ^ e - S1)), .long (Int64.ofInt (256 * 2 ^ e))]) (rest := [.long (Int64.ofInt S1)]) S ((c_Math_floorModL l D tys ((x : Int) * 2 ^ e - S1) (256 * 2 ^ e) (by omega) (by omega) (by omega) (by omega)).nil _) (cw_s hts tb_5_147 k_Math_floorModL rfl rfl ⟨by decide, by decide⟩) hw rfl hl.1 rfl (Nat.le_of_ble_eq_true rfl) d_Mod_inWindow_21 ⟨Nat.zero_le _, Nat.zero_le _⟩) ?_
  refine W.eq (g2 := F0 m9 24 ls [.long (Int64.ofInt (((x : Int) * 2 ^ e - S1) % (256 * 2 ^ e))), .long (Int64.ofInt S1)]) rfl ?_
  refine lv_ladd hx hb d_Mod_inWindow_24 ?_
  exact rd_l S hr hlk d_Mod_inWindow_25 (by rw [oI_add])
set_option maxHeartbeats 4000000 in
set_option maxRecDepth 100000 in
theorem c_Mod_window (l : Launch) (D : va_G) (tys : List (ClassId × FieldType)) (m a : Int32) : Cr l y_Mod_window (wl y_Mod_window b_Mod_window 7 (some .long)) (rmL 1) D clz tys [.int m, .int a] [] (some (.long (Int64.ofInt (wS (mN m) (mN a))))) := by
  refine Cr.ofF (plainFor_of_name (by decide)) (Nat.le_of_ble_eq_true rfl) ?_
  intro p9 e9 s9 m9 b9 me9 c9 ls S hr hlk hl hw
  obtain ⟨hx, hb, hml, hown, hts⟩ := id S
  have hl : lv_has ls 7 [(0, .int m), (1, .int a)] := hl
  have hB := bB_lt (mN m)
  have he := bE_le (mN m)
  have hR := bR_lt (mN m)
  have hp := p_b he
  have ha : mN a < 4294967296 := iN_lt a
  have hxp := xP_b (show bR (mN m) < 256 by omega) he
  have hxq : 32 * (bR (mN m) : Int) * 2 ^ bE (mN m) = 32 * ((bR (mN m) : Int) * 2 ^ bE (mN m)) := Int.mul_assoc _ _ _
  refine lv_iload_n hx hb d_Mod_window_0 rfl (lv_at hl 0 rfl) ?_
  refine q_cr (q_runS (As := [.int m]) (rest := []) S ((c_Mod_scale l D tys m).nil _) (cw_s hts tb_5_141 k_Mod_scale rfl rfl ⟨by decide, by decide⟩) hw rfl hl.1 rfl (Nat.le_of_ble_eq_true rfl) d_Mod_window_1 ⟨Nat.zero_le _, Nat.zero_le _⟩) ?_
  refine W.eq (g2 := F0 m9 4 ls [.int (nI (bE (mN m)))]) rfl ?_
  refine lv_istore_n (lv' := [(2, .int (nI (bE (mN m)))), (0, .int m), (1, .int a)]) hx hb d_Mod_window_4 rfl hl (by decide) rfl (fun ls hl => ?_)
  refine lv_lconst (v := 1) hx hb d_Mod_window_5 (by decide) ?_
  refine lv_iload_n hx hb d_Mod_window_6 rfl (lv_at hl 0 rfl) ?_
  refine lv_bipush (v := 8) hx hb d_Mod_window_7 (by decide) ?_
  refine lv_iadd hx hb d_Mod_window_9 ?_
  refine q_topi (z := nI ((bE (mN m)) + 8)) (nI_add (bE (mN m)) 8) ?_
  refine lv_lshl (v := (jsl (1 : Int64) (nI ((bE (mN m)) + 8)))) hx hb d_Mod_window_10 rfl ?_
  refine q_topl (z := (Int64.ofInt (256 * 2 ^ bE (mN m)))) (by rw [r_two (by omega), p_8]) ?_
  refine lv_lstore_n (lv' := [(3, .long (Int64.ofInt (256 * 2 ^ bE (mN m)))), (2, .int (nI (bE (mN m)))), (0, .int m), (1, .int a)]) hx hb d_Mod_window_11 rfl hl (by decide) rfl (fun ls hl => ?_)
  refine lv_iload_n hx hb d_Mod_window_12 rfl (lv_at hl 2 rfl) ?_
  refine q_cr (q_runS (As := [.int m]) (rest := []) S ((c_Mod_bottom l D tys m).nil _) (cw_s hts tb_5_138 k_Mod_bottom rfl rfl ⟨by decide, by decide⟩) hw rfl hl.1 rfl (Nat.le_of_ble_eq_true rfl) d_Mod_window_13 ⟨Nat.zero_le _, Nat.zero_le _⟩) ?_
  refine W.eq (g2 := F0 m9 16 ls [.int (nI (bB (mN m)))]) rfl ?_
  refine lv_bipush (v := 32) hx hb d_Mod_window_16 (by decide) ?_
  refine lv_idiv hx hb d_Mod_window_18 (by decide) ?_
  refine q_topi (z := nI ((bB (mN m)) / 32)) (pk_div (a := bB (mN m)) (d := 32) (by omega) (by decide) (by decide)) ?_
  refine lv_bipush (v := 7) hx hb d_Mod_window_19 (by decide) ?_
  refine lv_iadd hx hb d_Mod_window_21 ?_
  refine q_topi (z := nI (((bB (mN m)) / 32) + 7)) (nI_add ((bB (mN m)) / 32) 7) ?_
  refine lv_bipush (v := 8) hx hb d_Mod_window_22 (by decide) ?_
  refine lv_irem hx hb d_Mod_window_24 (by decide) ?_
  refine q_topi (z := nI ((((bB (mN m)) / 32) + 7) % 8)) (pk_rem (a := ((bB (mN m)) / 32) + 7) (d := 8) (by omega) (by decide) (by decide)) ?_
  refine q_topi (z := (nI (bR (mN m)))) (rfl) ?_
  refine lv_i2l (v := ((nI (bR (mN m))).toInt64)) hx hb d_Mod_window_25 rfl ?_
  refine lv_iload_n hx hb d_Mod_window_26 rfl (lv_at hl 1 rfl) ?_
  refine lv_iconst (v := 5) hx hb d_Mod_window_27 (by decide) ?_
  refine lv_iadd hx hb d_Mod_window_28 ?_
  refine q_topi (z := nI ((bE (mN m)) + 5)) (nI_add (bE (mN m)) 5) ?_
  refine lv_lshl (v := (jsl ((nI (bR (mN m))).toInt64) (nI ((bE (mN m)) + 5)))) hx hb d_Mod_window_29 rfl ?_
  refine q_topl (z := (Int64.ofInt (32 * (bR (mN m) : Int) * 2 ^ bE (mN m)))) (by rw [nI_l (by omega), oI_N, jsl_of _ (by omega), p_5, ← Int.mul_assoc, Int.mul_comm _ 32]) ?_
  refine lv_lstore (lv' := [(5, .long (Int64.ofInt (32 * (bR (mN m) : Int) * 2 ^ bE (mN m)))), (3, .long (Int64.ofInt (256 * 2 ^ bE (mN m)))), (2, .int (nI (bE (mN m)))), (0, .int m), (1, .int a)]) hx hb d_Mod_window_30 hl (by decide) rfl (fun ls hl => ?_)
  refine lv_iload_n hx hb d_Mod_window_32 rfl (lv_at hl 4 rfl) ?_
  refine q_cr (q_runS (As := [.int a]) (rest := []) S ((c_Mod_low l D tys a).nil _) (cw_s hts tb_5_118 k_Mod_low rfl rfl ⟨by decide, by decide⟩) hw rfl hl.1 rfl (Nat.le_of_ble_eq_true rfl) d_Mod_window_33 ⟨Nat.zero_le _, Nat.zero_le _⟩) ?_
  refine W.eq (g2 := F0 m9 36 ls [.long (cLow a)]) rfl ?_
  refine lv_iload_n hx hb d_Mod_window_36 rfl (lv_at hl 4 rfl) ?_
  refine q_cr (q_runS (As := [.int a]) (rest := [.long (cLow a)]) S ((c_Mod_low l D tys a).nil _) (cw_s hts tb_5_118 k_Mod_low rfl rfl ⟨by decide, by decide⟩) hw rfl hl.1 rfl (Nat.le_of_ble_eq_true rfl) d_Mod_window_37 ⟨Nat.zero_le _, Nat.zero_le _⟩) ?_
  refine W.eq (g2 := F0 m9 40 ls [.long (cLow a), .long (cLow a)]) rfl ?_
  refine lv_lload hx hb d_Mod_window_40 (lv_at hl 0 rfl) ?_
  refine lv_lsub hx hb d_Mod_window_42 ?_
  refine q_topl (z := (Int64.ofInt ((mN a : Int) - 32 * (bR (mN m) : Int) * 2 ^ bE (mN m)))) (by rw [cLow_n, oI_N, oI_sub]) ?_
  refine lv_lload_n hx hb d_Mod_window_43 rfl (lv_at hl 1 rfl) ?_
  refine q_cr (q_runS (As := [.long (Int64.ofInt ((mN a : Int) - 32 * (bR (mN m) : Int) * 2 ^ bE (mN m))), .long (Int64.ofInt (256 * 2 ^ bE (mN m)))]) (rest := [.long (cLow a)]) S ((c_Math_floorModL l D tys ((mN a : Int) - 32 * (bR (mN m) : Int) * 2 ^ bE (mN m)) (256 * 2 ^ bE (mN m)) (by omega) (by omega) (by omega) (by omega)).nil _) (cw_s hts tb_5_147 k_Math_floorModL rfl rfl ⟨by decide, by decide⟩) hw rfl hl.1 rfl (Nat.le_of_ble_eq_true rfl) d_Mod_window_44 ⟨Nat.zero_le _, Nat.zero_le _⟩) ?_
  refine W.eq (g2 := F0 m9 47 ls [.long (Int64.ofInt (((mN a : Int) - 32 * (bR (mN m) : Int) * 2 ^ bE (mN m)) % (256 * 2 ^ bE (mN m)))), .long (cLow a)]) rfl ?_
  refine lv_lsub hx hb d_Mod_window_47 ?_
  exact rd_l S hr hlk d_Mod_window_48 (by rw [cLow_n, oI_N, oI_sub]; rfl)
set_option maxHeartbeats 4000000 in
set_option maxRecDepth 100000 in
theorem c_Mod_base (l : Launch) (D : va_G) (tys : List (ClassId × FieldType)) (m a : Int32) : Cr l y_Mod_base (wl y_Mod_base b_Mod_base 2 (some .long)) (rmL 2) D clz tys [.int m, .int a] [] (some (.long (cbase m a))) := by
  refine Cr.ofF (plainFor_of_name (by decide)) (Nat.le_of_ble_eq_true rfl) ?_
  intro p9 e9 s9 m9 b9 me9 c9 ls S hr hlk hl hw
  obtain ⟨hx, hb, hml, hown, hts⟩ := id S
  have hl : lv_has ls 2 [(0, .int m), (1, .int a)] := hl
  have hB := bB_lt (mN m)
  have hT := bT_lt (mN m)
  have he := bE_le (mN m)
  have ha : mN a < 4294967296 := iN_lt a
  have hW := wS_b (mN m) (mN a) ha
  refine lv_iload_n hx hb d_Mod_base_0 rfl (lv_at hl 0 rfl) ?_
  refine q_cr (q_runS (As := [.int m]) (rest := []) S ((c_Mod_bottom l D tys m).nil _) (cw_s hts tb_5_138 k_Mod_bottom rfl rfl ⟨by decide, by decide⟩) hw rfl hl.1 rfl (Nat.le_of_ble_eq_true rfl) d_Mod_base_1 ⟨Nat.zero_le _, Nat.zero_le _⟩) ?_
  refine W.eq (g2 := F0 m9 4 ls [.int (nI (bB (mN m)))]) rfl ?_
  refine lv_iload_n hx hb d_Mod_base_4 rfl (lv_at hl 0 rfl) ?_
  refine q_cr (q_runS (As := [.int m]) (rest := [.int (nI (bB (mN m)))]) S ((c_Mod_scale l D tys m).nil _) (cw_s hts tb_5_141 k_Mod_scale rfl rfl ⟨by decide, by decide⟩) hw rfl hl.1 rfl (Nat.le_of_ble_eq_true rfl) d_Mod_base_5 ⟨Nat.zero_le _, Nat.zero_le _⟩) ?_
  refine W.eq (g2 := F0 m9 8 ls [.int (nI (bE (mN m))), .int (nI (bB (mN m)))]) rfl ?_
  refine lv_iload_n hx hb d_Mod_base_8 rfl (lv_at hl 0 rfl) ?_
  refine lv_iload_n hx hb d_Mod_base_9 rfl (lv_at hl 1 rfl) ?_
  refine q_cr (q_runS (As := [.int m, .int a]) (rest := [.int (nI (bE (mN m))), .int (nI (bB (mN m)))]) S ((c_Mod_window l D tys m a).nil _) (cw_s hts tb_5_144 k_Mod_window rfl rfl ⟨by decide, by decide⟩) hw rfl hl.1 rfl (Nat.le_of_ble_eq_true rfl) d_Mod_base_10 ⟨Nat.zero_le _, Nat.zero_le _⟩) ?_
  refine W.eq (g2 := F0 m9 13 ls [.long (Int64.ofInt (wS (mN m) (mN a))), .int (nI (bE (mN m))), .int (nI (bB (mN m)))]) rfl ?_
  refine q_cr (q_runS (As := [.int (nI (bB (mN m))), .int (nI (bE (mN m))), .long (Int64.ofInt (wS (mN m) (mN a)))]) (rest := []) S ((c_Mod_inWindow l D tys (bB (mN m)) (bE (mN m)) (wS (mN m) (mN a)) (by omega) (by omega) (by omega) (by omega)).nil _) (cw_s hts tb_5_150 k_Mod_inWindow rfl rfl ⟨by decide, by decide⟩) hw rfl hl.1 rfl (Nat.le_of_ble_eq_true rfl) d_Mod_base_13 ⟨Nat.zero_le _, Nat.zero_le _⟩) ?_
  refine W.eq (g2 := F0 m9 16 ls [.long (Int64.ofInt ((wS (mN m) (mN a)) + ((bB (mN m) : Int) * 2 ^ (bE (mN m)) - (wS (mN m) (mN a))) % (256 * 2 ^ (bE (mN m)))))]) rfl ?_
  refine lv_ldc2 (v := 4294967295) hx hb hown (hts _ tb_5_121) d_Mod_base_16 ?_
  refine lv_land hx hb d_Mod_base_19 ?_
  exact rd_l S hr hlk d_Mod_base_20 (by rw [wS_in _ _ _ hB]; exact r_base m a)
set_option maxHeartbeats 4000000 in
set_option maxRecDepth 100000 in
theorem c_Mod_top (l : Launch) (D : va_G) (tys : List (ClassId × FieldType)) (m a : Int32) : Cr l y_Mod_top (wl y_Mod_top b_Mod_top 7 (some .long)) (rmL 3) D clz tys [.int m, .int a] [] (some (.long (ctop m a))) := by
  refine Cr.ofF (plainFor_of_name (by decide)) (Nat.le_of_ble_eq_true rfl) ?_
  intro p9 e9 s9 m9 b9 me9 c9 ls S hr hlk hl hw
  obtain ⟨hx, hb, hml, hown, hts⟩ := id S
  have hl : lv_has ls 7 [(0, .int m), (1, .int a)] := hl
  have hB := bB_lt (mN m)
  have hT := bT_lt (mN m)
  have he := bE_le (mN m)
  have ha : mN a < 4294967296 := iN_lt a
  have hW := wS_b (mN m) (mN a) ha
  refine lv_iload_n hx hb d_Mod_top_0 rfl (lv_at hl 0 rfl) ?_
  refine q_cr (q_runS (As := [.int m]) (rest := []) S ((c_Mod_roof l D tys m).nil _) (cw_s hts tb_5_156 k_Mod_roof rfl rfl ⟨by decide, by decide⟩) hw rfl hl.1 rfl (Nat.le_of_ble_eq_true rfl) d_Mod_top_1 ⟨Nat.zero_le _, Nat.zero_le _⟩) ?_
  refine W.eq (g2 := F0 m9 4 ls [.int (nI (bT (mN m)))]) rfl ?_
  refine lv_iload_n hx hb d_Mod_top_4 rfl (lv_at hl 0 rfl) ?_
  refine q_cr (q_runS (As := [.int m]) (rest := [.int (nI (bT (mN m)))]) S ((c_Mod_scale l D tys m).nil _) (cw_s hts tb_5_141 k_Mod_scale rfl rfl ⟨by decide, by decide⟩) hw rfl hl.1 rfl (Nat.le_of_ble_eq_true rfl) d_Mod_top_5 ⟨Nat.zero_le _, Nat.zero_le _⟩) ?_
  refine W.eq (g2 := F0 m9 8 ls [.int (nI (bE (mN m))), .int (nI (bT (mN m)))]) rfl ?_
  refine lv_iload_n hx hb d_Mod_top_8 rfl (lv_at hl 0 rfl) ?_
  refine lv_iload_n hx hb d_Mod_top_9 rfl (lv_at hl 1 rfl) ?_
  refine q_cr (q_runS (As := [.int m, .int a]) (rest := [.int (nI (bE (mN m))), .int (nI (bT (mN m)))]) S ((c_Mod_window l D tys m a).nil _) (cw_s hts tb_5_144 k_Mod_window rfl rfl ⟨by decide, by decide⟩) hw rfl hl.1 rfl (Nat.le_of_ble_eq_true rfl) d_Mod_top_10 ⟨Nat.zero_le _, Nat.zero_le _⟩) ?_
  refine W.eq (g2 := F0 m9 13 ls [.long (Int64.ofInt (wS (mN m) (mN a))), .int (nI (bE (mN m))), .int (nI (bT (mN m)))]) rfl ?_
  refine q_cr (q_runS (As := [.int (nI (bT (mN m))), .int (nI (bE (mN m))), .long (Int64.ofInt (wS (mN m) (mN a)))]) (rest := []) S ((c_Mod_inWindow l D tys (bT (mN m)) (bE (mN m)) (wS (mN m) (mN a)) (by omega) (by omega) (by omega) (by omega)).nil _) (cw_s hts tb_5_150 k_Mod_inWindow rfl rfl ⟨by decide, by decide⟩) hw rfl hl.1 rfl (Nat.le_of_ble_eq_true rfl) d_Mod_top_13 ⟨Nat.zero_le _, Nat.zero_le _⟩) ?_
  refine W.eq (g2 := F0 m9 16 ls [.long (Int64.ofInt ((wS (mN m) (mN a)) + ((bT (mN m) : Int) * 2 ^ (bE (mN m)) - (wS (mN m) (mN a))) % (256 * 2 ^ (bE (mN m)))))]) rfl ?_
  refine lv_ldc2 (v := 8589934591) hx hb hown (hts _ tb_5_159) d_Mod_top_16 ?_
  refine lv_land hx hb d_Mod_top_19 ?_
  refine q_topl (z := (ctop0 m a)) (by rw [wS_in _ _ _ hT]; exact r_top0 m a) ?_
  refine lv_lstore_n (lv' := [(2, .long (ctop0 m a)), (0, .int m), (1, .int a)]) hx hb d_Mod_top_20 rfl hl (by decide) rfl (fun ls hl => ?_)
  refine lv_iload_n hx hb d_Mod_top_21 rfl (lv_at hl 1 rfl) ?_
  refine lv_iload_n hx hb d_Mod_top_22 rfl (lv_at hl 2 rfl) ?_
  refine q_cr (q_runS (As := [.int m, .int a]) (rest := []) S ((c_Mod_base l D tys m a).nil _) (cw_s hts tb_5_135 k_Mod_base rfl rfl ⟨by decide, by decide⟩) hw rfl hl.1 rfl (Nat.le_of_ble_eq_true rfl) d_Mod_top_23 ⟨Nat.zero_le _, Nat.zero_le _⟩) ?_
  refine W.eq (g2 := F0 m9 26 ls [.long (cbase m a)]) rfl ?_
  refine lv_lstore (lv' := [(4, .long (cbase m a)), (2, .long (ctop0 m a)), (0, .int m), (1, .int a)]) hx hb d_Mod_top_26 hl (by decide) rfl (fun ls hl => ?_)
  refine lv_lload_n hx hb d_Mod_top_28 rfl (lv_at hl 1 rfl) ?_
  refine lv_bipush (v := 31) hx hb d_Mod_top_29 (by decide) ?_
  refine lv_lshr (v := (jsr (ctop0 m a) (31 : Int32))) hx hb d_Mod_top_31 rfl ?_
  refine lv_l2i (v := ((jsr (ctop0 m a) (31 : Int32)).toInt32)) hx hb d_Mod_top_32 rfl ?_
  refine lv_lload hx hb d_Mod_top_33 (lv_at hl 0 rfl) ?_
  refine lv_bipush (v := 31) hx hb d_Mod_top_35 (by decide) ?_
  refine lv_lshr (v := (jsr (cbase m a) (31 : Int32))) hx hb d_Mod_top_37 rfl ?_
  refine lv_l2i (v := ((jsr (cbase m a) (31 : Int32)).toInt32)) hx hb d_Mod_top_38 rfl ?_
  refine lv_isub hx hb d_Mod_top_39 ?_
  refine lv_iconst (v := 3) hx hb d_Mod_top_40 (by decide) ?_
  refine lv_iand hx hb d_Mod_top_41 ?_
  refine lv_istore (lv' := [(6, .int ((((jsr (ctop0 m a) (31 : Int32)).toInt32) - ((jsr (cbase m a) (31 : Int32)).toInt32)) &&& (3 : Int32))), (4, .long (cbase m a)), (2, .long (ctop0 m a)), (0, .int m), (1, .int a)]) hx hb d_Mod_top_42 hl (by decide) rfl (fun ls hl => ?_)
  refine lv_iload_n hx hb d_Mod_top_44 rfl (lv_at hl 3 rfl) ?_
  refine q_cr (q_runS (As := [.int m]) (rest := []) S ((c_Mod_scale l D tys m).nil _) (cw_s hts tb_5_141 k_Mod_scale rfl rfl ⟨by decide, by decide⟩) hw rfl hl.1 rfl (Nat.le_of_ble_eq_true rfl) d_Mod_top_45 ⟨Nat.zero_le _, Nat.zero_le _⟩) ?_
  refine W.eq (g2 := F0 m9 48 ls [.int (nI (bE (mN m)))]) rfl ?_
  refine lv_bipush (v := 25) hx hb d_Mod_top_48 (by decide) ?_
  refine lv_icmp_ge hx hb d_Mod_top_50 rfl (fun h50 => ?_) (fun h50 => ?_)
  · refine lv_lload_n hx hb d_Mod_top_67 rfl (lv_at hl 2 rfl) ?_
    exact rd_l S hr hlk d_Mod_top_68 (by unfold ctop; rw [n_ex, if_neg (Int32.not_lt.mpr h50)])
  · refine lv_iload hx hb d_Mod_top_53 (lv_at hl 0 rfl) ?_
    refine lv_iconst (v := 1) hx hb d_Mod_top_55 (by decide) ?_
    refine lv_icmp_le hx hb d_Mod_top_56 rfl (fun h56 => ?_) (fun h56 => ?_)
    · refine lv_lload_n hx hb d_Mod_top_67 rfl (lv_at hl 2 rfl) ?_
      exact rd_l S hr hlk d_Mod_top_68 (by unfold ctop; rw [n_ex, if_pos (Int32.not_le.mp h50), if_neg (fun q => (r_topc m a).mp q h56)])
    · refine lv_lload_n hx hb d_Mod_top_59 rfl (lv_at hl 2 rfl) ?_
      refine lv_ldc2 (v := 4294967296) hx hb hown (hts _ tb_5_122) d_Mod_top_60 ?_
      refine lv_lxor hx hb d_Mod_top_63 ?_
      refine lv_goto hx hb d_Mod_top_64 rfl ?_
      exact rd_l S hr hlk d_Mod_top_68 (by unfold ctop; rw [n_ex, if_pos (Int32.not_le.mp h50), if_pos ((r_topc m a).mpr h56)])
set_option maxHeartbeats 4000000 in
set_option maxRecDepth 100000 in
theorem c_Mod_isIn (l : Launch) (D : va_G) (tys : List (ClassId × FieldType)) (m a y n : Int32) : Cr l y_Mod_isIn (wl y_Mod_isIn b_Mod_isIn 5 (some .boolean)) (rmL 4) D clz tys [.int m, .int a, .long (cLow y), .int n] [] (some (.int (jb (cCov (cbase m a) (ctop m a) y n.toInt64)))) := by
  refine Cr.ofF (plainFor_of_name (by decide)) (Nat.le_of_ble_eq_true rfl) ?_
  intro p9 e9 s9 m9 b9 me9 c9 ls S hr hlk hl hw
  obtain ⟨hx, hb, hml, hown, hts⟩ := id S
  have hl : lv_has ls 5 [(0, .int m), (1, .int a), (2, .long (cLow y)), (4, .int n)] := hl
  refine lv_iload_n hx hb d_Mod_isIn_0 rfl (lv_at hl 0 rfl) ?_
  refine lv_iload_n hx hb d_Mod_isIn_1 rfl (lv_at hl 1 rfl) ?_
  refine q_cr (q_runS (As := [.int m, .int a]) (rest := []) S ((c_Mod_base l D tys m a).nil _) (cw_s hts tb_5_135 k_Mod_base rfl rfl ⟨by decide, by decide⟩) hw rfl hl.1 rfl (Nat.le_of_ble_eq_true rfl) d_Mod_isIn_2 ⟨Nat.zero_le _, Nat.zero_le _⟩) ?_
  refine W.eq (g2 := F0 m9 5 ls [.long (cbase m a)]) rfl ?_
  refine lv_lload_n hx hb d_Mod_isIn_5 rfl (lv_at hl 2 rfl) ?_
  refine q_lc_gt S d_Mod_isIn_6 d_Mod_isIn_7 rfl (fun h7 => ?_) (fun h7 => ?_)
  · refine lv_iconst (v := 0) hx hb d_Mod_isIn_28 (by decide) ?_
    exact rd_i S hr hlk rfl d_Mod_isIn_29 (by simp [cCov, jb, h7])
  · refine lv_lload_n hx hb d_Mod_isIn_10 rfl (lv_at hl 2 rfl) ?_
    refine lv_iload hx hb d_Mod_isIn_11 (lv_at hl 3 rfl) ?_
    refine lv_i2l (v := (n.toInt64)) hx hb d_Mod_isIn_13 rfl ?_
    refine lv_ladd hx hb d_Mod_isIn_14 ?_
    refine lv_iload_n hx hb d_Mod_isIn_15 rfl (lv_at hl 0 rfl) ?_
    refine lv_iload_n hx hb d_Mod_isIn_16 rfl (lv_at hl 1 rfl) ?_
    refine q_cr (q_runS (As := [.int m, .int a]) (rest := [.long ((cLow y) + (n.toInt64))]) S ((c_Mod_top l D tys m a).nil _) (cw_s hts tb_5_153 k_Mod_top rfl rfl ⟨by decide, by decide⟩) hw rfl hl.1 rfl (Nat.le_of_ble_eq_true rfl) d_Mod_isIn_17 ⟨Nat.zero_le _, Nat.zero_le _⟩) ?_
    refine W.eq (g2 := F0 m9 20 ls [.long (ctop m a), .long ((cLow y) + (n.toInt64))]) rfl ?_
    refine q_lc_gt S d_Mod_isIn_20 d_Mod_isIn_21 rfl (fun h21 => ?_) (fun h21 => ?_)
    · refine lv_iconst (v := 0) hx hb d_Mod_isIn_28 (by decide) ?_
      exact rd_i S hr hlk rfl d_Mod_isIn_29 (by simp [cCov, jb, h7, h21])
    · refine lv_iconst (v := 1) hx hb d_Mod_isIn_24 (by decide) ?_
      refine lv_goto hx hb d_Mod_isIn_25 rfl ?_
      exact rd_i S hr hlk rfl d_Mod_isIn_29 (by simp [cCov, jb, h7, h21])
set_option maxHeartbeats 4000000 in
set_option maxRecDepth 100000 in
theorem c_Mod_most (l : Launch) (D : va_G) (tys : List (ClassId × FieldType)) (b t : Int64) : Cr l y_Mod_most (wl y_Mod_most b_Mod_most 2 (some .int)) (rmL 0) D clz tys [.long (t - b)] [] (some (.int (cLen b t))) := by
  refine Cr.ofF (plainFor_of_name (by decide)) (Nat.le_of_ble_eq_true rfl) ?_
  intro p9 e9 s9 m9 b9 me9 c9 ls S hr hlk hl hw
  obtain ⟨hx, hb, hml, hown, hts⟩ := id S
  have hl : lv_has ls 2 [(0, .long (t - b))] := hl
  refine lv_lload_n hx hb d_Mod_most_0 rfl (lv_at hl 0 rfl) ?_
  refine lv_ldc2 (v := 4294967296) hx hb hown (hts _ tb_5_122) d_Mod_most_1 ?_
  refine q_lc_lt S d_Mod_most_4 d_Mod_most_5 rfl (fun h5 => ?_) (fun h5 => ?_)
  · refine lv_lload_n hx hb d_Mod_most_12 rfl (lv_at hl 0 rfl) ?_
    refine lv_l2i (v := ((t - b).toInt32)) hx hb d_Mod_most_13 rfl ?_
    exact rd_i S hr hlk rfl d_Mod_most_14 (by rw [← r_len, if_pos h5])
  · refine lv_iconst (v := -1) hx hb d_Mod_most_8 (by decide) ?_
    refine lv_goto hx hb d_Mod_most_9 rfl ?_
    exact rd_i S hr hlk rfl d_Mod_most_14 (by rw [← r_len, if_neg h5])
