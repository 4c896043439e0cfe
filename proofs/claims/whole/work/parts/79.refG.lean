/-! The reference's own calls. -/
theorem up7_0 {x : Int32} (h : up7 x) : ¬ x < 0 := by rcases h with h | h | h | h | h | h | h <;> rw [h] <;> decide
theorem up7_6 {x : Int32} (h : up7 x) : x ≤ 6 := by rcases h with h | h | h | h | h | h | h <;> rw [h] <;> decide
theorem isW_f {i : Int32} (h : isW i = false) (h1 : ¬ i < 0) (h2 : i < 4096) : False := by
  unfold isW at h
  rw [if_neg h1, if_neg (Int32.not_le.mpr h2)] at h
  exact absurd h (by decide)
theorem gTag_2 (g : Nat → Int32) (i : Nat) : gTag g (2 * (i / 2)) = gTag g i := by
  rw [gTag_b, gTag_b, show 2 * (i / 2) / 8 = i / 8 by omega, show 2 * (i / 2) % 8 / 2 = i % 8 / 2 by omega]
theorem mO_0 {rb rt : Nat → Int64} {rp : Nat → Int32} {m : Nat} {c : Cap} (h : c.1 = false) : mOut rb rt rp m c = false := by unfold mOut; rw [if_pos h]
theorem mO_1 {rb rt : Nat → Int64} {rp : Nat → Int32} {m : Nat} {c : Cap} (h : anyR (rOf rb rt rp c.2.2 c.2.1) m = true) : mOut rb rt rp m c = false := by unfold mOut; rw [if_pos h]; split <;> rfl
theorem mO_2 {rb rt : Nat → Int64} {rp : Nat → Int32} {m : Nat} {c : Cap} (h1 : c.1 = true) (h : anyR (rOf rb rt rp c.2.2 c.2.1) m = false) : mOut rb rt rp m c = true := by unfold mOut; rw [if_neg (tne h1), if_neg (fne h)]
set_option maxHeartbeats 4000000 in
set_option maxRecDepth 100000 in
theorem c_Mod_fail (l : Launch) (D : va_G) (ti : Nat → ClassId) (mo : Nat) (am : Nat → Nat) (Q : Nat → Cap) (w g : Nat → Int32) (rb rt : Nat → Int64) (rp : Nat → Int32) (ro ca va st tr th : Int32) (ha : Bool) (pk : Int32) (xx : Bool) (rd : Int64) (to : Int32) (c : Int32) : Cg l y_Mod_fail (wl y_Mod_fail b_Mod_fail 2 (some .int)) (rmL 0) D clz (ty4 ti) [.ref mo, .int c] (RMW mo am ti Q w g rb rt rp ro ca va st tr th ha pk xx rd to) (fun _ : Unit => some (.int 0)) (fun _ => (RMW mo am ti Q w g rb rt rp ro ca va st tr c ha pk xx rd to)) (fun _ => True) := by
  refine Cg.ofF (plainFor_of_name (by decide)) (Nat.le_of_ble_eq_true rfl) ?_
  intro p9 e9 s9 m9 b9 me9 c9 ls S hr hlk hl hw
  obtain ⟨hx, hb, hml, hown, hts⟩ := id S
  have hl : lv_has ls 2 [(0, .ref mo), (1, .int c)] := hl
  refine lv_aload_n hx hb d_Mod_fail_0 rfl (lv_at hl 0 rfl) ?_
  refine lv_iload_n hx hb d_Mod_fail_1 rfl (lv_at hl 1 rfl) ?_
  refine q_put (v := .int c) S hw ly_Mod t_Mod t_Mod_ok n_Mod 0 rfl rfl 13 (by decide) tb_5_56 rfl rfl rfl rfl (Nat.le_of_ble_eq_true rfl) d_Mod_fail_2 (fun H locs hw => ?_)
  have hw : Lv _ _ _ _ _ (RMW mo am ti Q w g rb rt rp ro ca va st tr c ha pk xx rd to) _ _ _ := hw
  refine lv_iconst (v := 0) hx hb d_Mod_fail_5 (by decide) ?_
  exact hw.riz S hr hlk (rfl) d_Mod_fail_6 () (rfl) (trivial) (rfl)
set_option maxHeartbeats 4000000 in
set_option maxRecDepth 100000 in
theorem c_Mod_thrown (l : Launch) (D : va_G) (ti : Nat → ClassId) (mo : Nat) (am : Nat → Nat) (Q : Nat → Cap) (w g : Nat → Int32) (rb rt : Nat → Int64) (rp : Nat → Int32) (ro ca va st tr th : Int32) (ha : Bool) (pk : Int32) (xx : Bool) (rd : Int64) (to : Int32) : Cr l y_Mod_thrown (wl y_Mod_thrown b_Mod_thrown 1 (some .int)) (rmL 0) D clz (ty4 ti) [.ref mo] (RMW mo am ti Q w g rb rt rp ro ca va st tr th ha pk xx rd to) (some (.int th)) := by
  refine Cr.ofF (plainFor_of_name (by decide)) (Nat.le_of_ble_eq_true rfl) ?_
  intro p9 e9 s9 m9 b9 me9 c9 ls S hr hlk hl hw
  obtain ⟨hx, hb, hml, hown, hts⟩ := id S
  have hl : lv_has ls 1 [(0, .ref mo)] := hl
  refine lv_aload_n hx hb d_Mod_thrown_0 rfl (lv_at hl 0 rfl) ?_
  refine q_get S hw ly_Mod 0 rfl rfl 13 (by decide) tb_5_56 rfl rfl d_Mod_thrown_1 ?_
  exact rd_i S hr hlk rfl d_Mod_thrown_4 (rfl)
set_option maxHeartbeats 4000000 in
set_option maxRecDepth 100000 in
theorem c_Mod_word (l : Launch) (D : va_G) (ti : Nat → ClassId) (mo : Nat) (am : Nat → Nat) (Q : Nat → Cap) (w g : Nat → Int32) (rb rt : Nat → Int64) (rp : Nat → Int32) (ro ca va st tr th : Int32) (ha : Bool) (pk : Int32) (xx : Bool) (rd : Int64) (to : Int32) (i : Nat) (hi : i < 4096) (x : Int32) : Cg l y_Mod_word (wl y_Mod_word b_Mod_word 4 (some .int)) (rmL 1) D clz (ty4 ti) [.ref mo, .int (nI i), .int x] (RMW mo am ti Q w g rb rt rp ro ca va st tr th ha pk xx rd to) (fun _ : Unit => some (.int (w i))) (fun _ => (RMW mo am ti Q (upd w i x) (gOff g i) rb rt rp ro ca va st tr 0 ha pk xx rd to)) (fun _ => True) := by
  refine Cg.ofF (plainFor_of_name (by decide)) (Nat.le_of_ble_eq_true rfl) ?_
  intro p9 e9 s9 m9 b9 me9 c9 ls S hr hlk hl hw
  obtain ⟨hx, hb, hml, hown, hts⟩ := id S
  have hl : lv_has ls 4 [(0, .ref mo), (1, .int (nI i)), (2, .int x)] := hl
  refine lv_iload_n hx hb d_Mod_word_0 rfl (lv_at hl 1 rfl) ?_
  refine lv_if_lt hx hb d_Mod_word_1 rfl (fun h => absurd h (nI_pos (by omega))) (fun _ => ?_)
  refine lv_iload_n hx hb d_Mod_word_4 rfl (lv_at hl 1 rfl) ?_
  refine lv_sipush (v := 4096) hx hb d_Mod_word_5 (by decide) ?_
  refine lv_icmp_lt hx hb d_Mod_word_8 rfl (fun _ => ?_) (fun h => absurd h (not_not_intro (nI_lt (a := i) (b := 4096) hi (by decide))))
  refine lv_aload_n hx hb d_Mod_word_17 rfl (lv_at hl 0 rfl) ?_
  refine lv_iconst (v := 0) hx hb d_Mod_word_18 (by decide) ?_
  refine q_put (v := .int (0 : Int32)) S hw ly_Mod t_Mod t_Mod_ok n_Mod 0 rfl rfl 13 (by decide) tb_5_56 rfl rfl rfl rfl (Nat.le_of_ble_eq_true rfl) d_Mod_word_19 (fun H locs hw => ?_)
  have hw : Lv _ _ _ _ _ (RMW mo am ti Q w g rb rt rp ro ca va st tr (0 : Int32) ha pk xx rd to) _ _ _ := hw
  refine lv_aload_n hx hb d_Mod_word_22 rfl (lv_at hl 0 rfl) ?_
  refine q_get S hw ly_Mod 0 rfl rfl 3 (by decide) tb_5_46 rfl rfl d_Mod_word_23 ?_
  refine lv_iload_n hx hb d_Mod_word_26 rfl (lv_at hl 1 rfl) ?_
  refine q_ialdN (k := i) S hw 4 0 rfl rfl (by first | assumption | omega) (by decide) d_Mod_word_27 ?_
  refine lv_istore_n (lv' := [(3, .int (w i)), (0, .ref mo), (1, .int (nI i)), (2, .int x)]) hx hb d_Mod_word_28 rfl hl (by decide) rfl (fun ls hl => ?_)
  refine lv_aload_n hx hb d_Mod_word_29 rfl (lv_at hl 1 rfl) ?_
  refine q_get S hw ly_Mod 0 rfl rfl 3 (by decide) tb_5_46 rfl rfl d_Mod_word_30 ?_
  refine lv_iload_n hx hb d_Mod_word_33 rfl (lv_at hl 2 rfl) ?_
  refine lv_iload_n hx hb d_Mod_word_34 rfl (lv_at hl 3 rfl) ?_
  refine q_iastN (k := i) S hw 4 0 rfl rfl (by first | assumption | omega) (by decide) d_Mod_word_35 (fun H locs hw => ?_)
  have hw : Lv _ _ _ _ _ (RMW mo am ti Q (upd w i x) g rb rt rp ro ca va st tr (0 : Int32) ha pk xx rd to) _ _ _ := hw
  refine lv_aload_n hx hb d_Mod_word_36 rfl (lv_at hl 1 rfl) ?_
  refine q_get S hw ly_Mod 0 rfl rfl 4 (by decide) tb_5_47 rfl rfl d_Mod_word_37 ?_
  refine lv_iload_n hx hb d_Mod_word_40 rfl (lv_at hl 2 rfl) ?_
  refine lv_iconst (v := 2) hx hb d_Mod_word_41 (by decide) ?_
  refine lv_idiv hx hb d_Mod_word_42 (by decide) ?_
  refine q_topi (z := nI (i / 2)) (pk_div (a := i) (d := 2) (by omega) (by decide) (by decide)) ?_
  refine lv_iconst (v := 0) hx hb d_Mod_word_43 (by decide) ?_
  refine q_zastN (k := i / 2) S hw 5 1 rfl rfl false (by first | assumption | omega) (by decide) d_Mod_word_44 (fun H locs hw => ?_)
  have hw : Lv _ _ _ _ _ (RMW mo am ti Q (upd w i x) (gOff g i) rb rt rp ro ca va st tr (0 : Int32) ha pk xx rd to) _ _ _ := hw.same (RMW_g (tg_off g i (i / 2) rfl))
  refine lv_iload_n hx hb d_Mod_word_45 rfl (lv_at hl 0 rfl) ?_
  exact hw.riz S hr hlk (rfl) d_Mod_word_46 () (rfl) (trivial) (rfl)
set_option maxHeartbeats 4000000 in
set_option maxRecDepth 100000 in
theorem c_Mod_wordX (l : Launch) (D : va_G) (ti : Nat → ClassId) (mo : Nat) (am : Nat → Nat) (Q : Nat → Cap) (w g : Nat → Int32) (rb rt : Nat → Int64) (rp : Nat → Int32) (ro ca va st tr th : Int32) (ha : Bool) (pk : Int32) (xx : Bool) (rd : Int64) (to : Int32) (i : Int32) (hbd : isW i = false) (x : Int32) : Cg l y_Mod_word (wl y_Mod_word b_Mod_word 4 (some .int)) (rmL 1) D clz (ty4 ti) [.ref mo, .int i, .int x] (RMW mo am ti Q w g rb rt rp ro ca va st tr th ha pk xx rd to) (fun _ : Unit => some (.int 0)) (fun _ => (RMW mo am ti Q w g rb rt rp ro ca va st tr 1 ha pk xx rd to)) (fun _ => True) := by
  refine Cg.ofF (plainFor_of_name (by decide)) (Nat.le_of_ble_eq_true rfl) ?_
  intro p9 e9 s9 m9 b9 me9 c9 ls S hr hlk hl hw
  obtain ⟨hx, hb, hml, hown, hts⟩ := id S
  have hl : lv_has ls 4 [(0, .ref mo), (1, .int i), (2, .int x)] := hl
  refine lv_iload_n hx hb d_Mod_word_0 rfl (lv_at hl 1 rfl) ?_
  refine lv_if_lt hx hb d_Mod_word_1 rfl (fun h1 => ?_) (fun h1 => ?_)
  · refine lv_aload_n hx hb d_Mod_word_11 rfl (lv_at hl 0 rfl) ?_
    refine lv_iconst (v := 1) hx hb d_Mod_word_12 (by decide) ?_
    refine q_cg (q_runV (As := [.int (1 : Int32)]) (rest := []) S (c_Mod_fail l D ti mo am Q w g rb rt rp ro ca va st tr th ha pk xx rd to (1 : Int32)) (cw_v hts tb_5_110 k_Mod_fail rfl rfl ⟨by decide, by decide⟩) hw 0 rfl rfl rfl hl.1 rfl (Nat.le_of_ble_eq_true rfl) d_Mod_word_13 ⟨Nat.zero_le _, Nat.zero_le _⟩) hw (fun z hD => qD_same hD rfl) (fun z9 H locs hp9 hw => ?_)
    refine W.eq (g2 := F0 m9 16 ls [.int (0 : Int32)]) rfl ?_
    have hw : Lv _ _ _ _ _ (RMW mo am ti Q w g rb rt rp ro ca va st tr (1 : Int32) ha pk xx rd to) _ _ _ := hw
    exact hw.riz S hr hlk (rfl) d_Mod_word_16 () (rfl) (trivial) (rfl)
  · refine lv_iload_n hx hb d_Mod_word_4 rfl (lv_at hl 1 rfl) ?_
    refine lv_sipush (v := 4096) hx hb d_Mod_word_5 (by decide) ?_
    refine lv_icmp_lt hx hb d_Mod_word_8 rfl (fun h8 => ?_) (fun h8 => ?_)
    · exact (isW_f hbd h1 h8).elim
    · refine lv_aload_n hx hb d_Mod_word_11 rfl (lv_at hl 0 rfl) ?_
      refine lv_iconst (v := 1) hx hb d_Mod_word_12 (by decide) ?_
      refine q_cg (q_runV (As := [.int (1 : Int32)]) (rest := []) S (c_Mod_fail l D ti mo am Q w g rb rt rp ro ca va st tr th ha pk xx rd to (1 : Int32)) (cw_v hts tb_5_110 k_Mod_fail rfl rfl ⟨by decide, by decide⟩) hw 0 rfl rfl rfl hl.1 rfl (Nat.le_of_ble_eq_true rfl) d_Mod_word_13 ⟨Nat.zero_le _, Nat.zero_le _⟩) hw (fun z hD => qD_same hD rfl) (fun z9 H locs hp9 hw => ?_)
      refine W.eq (g2 := F0 m9 16 ls [.int (0 : Int32)]) rfl ?_
      have hw : Lv _ _ _ _ _ (RMW mo am ti Q w g rb rt rp ro ca va st tr (1 : Int32) ha pk xx rd to) _ _ _ := hw
      exact hw.riz S hr hlk (rfl) d_Mod_word_16 () (rfl) (trivial) (rfl)
set_option maxHeartbeats 4000000 in
set_option maxRecDepth 100000 in
theorem c_Mod_memory (l : Launch) (D : va_G) (ti : Nat → ClassId) (mo : Nat) (am : Nat → Nat) (Q : Nat → Cap) (w g : Nat → Int32) (rb rt : Nat → Int64) (rp : Nat → Int32) (ro ca va st tr th : Int32) (ha : Bool) (pk : Int32) (xx : Bool) (rd : Int64) (to : Int32) (i : Nat) (hi : i < 4096) : Cg l y_Mod_memory (wl y_Mod_memory b_Mod_memory 2 (some .int)) (rmL 1) D clz (ty4 ti) [.ref mo, .int (nI i)] (RMW mo am ti Q w g rb rt rp ro ca va st tr th ha pk xx rd to) (fun _ : Unit => some (.int (w i))) (fun _ => (RMW mo am ti Q w g rb rt rp ro ca va st tr 0 ha pk xx rd to)) (fun _ => True) := by
  refine Cg.ofF (plainFor_of_name (by decide)) (Nat.le_of_ble_eq_true rfl) ?_
  intro p9 e9 s9 m9 b9 me9 c9 ls S hr hlk hl hw
  obtain ⟨hx, hb, hml, hown, hts⟩ := id S
  have hl : lv_has ls 2 [(0, .ref mo), (1, .int (nI i))] := hl
  refine lv_iload_n hx hb d_Mod_memory_0 rfl (lv_at hl 1 rfl) ?_
  refine lv_if_lt hx hb d_Mod_memory_1 rfl (fun h => absurd h (nI_pos (by omega))) (fun _ => ?_)
  refine lv_iload_n hx hb d_Mod_memory_4 rfl (lv_at hl 1 rfl) ?_
  refine lv_sipush (v := 4096) hx hb d_Mod_memory_5 (by decide) ?_
  refine lv_icmp_lt hx hb d_Mod_memory_8 rfl (fun _ => ?_) (fun h => absurd h (not_not_intro (nI_lt (a := i) (b := 4096) hi (by decide))))
  refine lv_aload_n hx hb d_Mod_memory_17 rfl (lv_at hl 0 rfl) ?_
  refine lv_iconst (v := 0) hx hb d_Mod_memory_18 (by decide) ?_
  refine q_put (v := .int (0 : Int32)) S hw ly_Mod t_Mod t_Mod_ok n_Mod 0 rfl rfl 13 (by decide) tb_5_56 rfl rfl rfl rfl (Nat.le_of_ble_eq_true rfl) d_Mod_memory_19 (fun H locs hw => ?_)
  have hw : Lv _ _ _ _ _ (RMW mo am ti Q w g rb rt rp ro ca va st tr (0 : Int32) ha pk xx rd to) _ _ _ := hw
  refine lv_aload_n hx hb d_Mod_memory_22 rfl (lv_at hl 0 rfl) ?_
  refine q_get S hw ly_Mod 0 rfl rfl 3 (by decide) tb_5_46 rfl rfl d_Mod_memory_23 ?_
  refine lv_iload_n hx hb d_Mod_memory_26 rfl (lv_at hl 1 rfl) ?_
  refine q_ialdN (k := i) S hw 4 0 rfl rfl (by first | assumption | omega) (by decide) d_Mod_memory_27 ?_
  exact hw.riz S hr hlk (rfl) d_Mod_memory_28 () (rfl) (trivial) (rfl)
set_option maxHeartbeats 4000000 in
set_option maxRecDepth 100000 in
theorem c_Mod_memoryX (l : Launch) (D : va_G) (ti : Nat → ClassId) (mo : Nat) (am : Nat → Nat) (Q : Nat → Cap) (w g : Nat → Int32) (rb rt : Nat → Int64) (rp : Nat → Int32) (ro ca va st tr th : Int32) (ha : Bool) (pk : Int32) (xx : Bool) (rd : Int64) (to : Int32) (i : Int32) (hbd : isW i = false) : Cg l y_Mod_memory (wl y_Mod_memory b_Mod_memory 2 (some .int)) (rmL 1) D clz (ty4 ti) [.ref mo, .int i] (RMW mo am ti Q w g rb rt rp ro ca va st tr th ha pk xx rd to) (fun _ : Unit => some (.int 0)) (fun _ => (RMW mo am ti Q w g rb rt rp ro ca va st tr 1 ha pk xx rd to)) (fun _ => True) := by
  refine Cg.ofF (plainFor_of_name (by decide)) (Nat.le_of_ble_eq_true rfl) ?_
  intro p9 e9 s9 m9 b9 me9 c9 ls S hr hlk hl hw
  obtain ⟨hx, hb, hml, hown, hts⟩ := id S
  have hl : lv_has ls 2 [(0, .ref mo), (1, .int i)] := hl
  refine lv_iload_n hx hb d_Mod_memory_0 rfl (lv_at hl 1 rfl) ?_
  refine lv_if_lt hx hb d_Mod_memory_1 rfl (fun h1 => ?_) (fun h1 => ?_)
  · refine lv_aload_n hx hb d_Mod_memory_11 rfl (lv_at hl 0 rfl) ?_
    refine lv_iconst (v := 1) hx hb d_Mod_memory_12 (by decide) ?_
    refine q_cg (q_runV (As := [.int (1 : Int32)]) (rest := []) S (c_Mod_fail l D ti mo am Q w g rb rt rp ro ca va st tr th ha pk xx rd to (1 : Int32)) (cw_v hts tb_5_110 k_Mod_fail rfl rfl ⟨by decide, by decide⟩) hw 0 rfl rfl rfl hl.1 rfl (Nat.le_of_ble_eq_true rfl) d_Mod_memory_13 ⟨Nat.zero_le _, Nat.zero_le _⟩) hw (fun z hD => qD_same hD rfl) (fun z9 H locs hp9 hw => ?_)
    refine W.eq (g2 := F0 m9 16 ls [.int (0 : Int32)]) rfl ?_
    have hw : Lv _ _ _ _ _ (RMW mo am ti Q w g rb rt rp ro ca va st tr (1 : Int32) ha pk xx rd to) _ _ _ := hw
    exact hw.riz S hr hlk (rfl) d_Mod_memory_16 () (rfl) (trivial) (rfl)
  · refine lv_iload_n hx hb d_Mod_memory_4 rfl (lv_at hl 1 rfl) ?_
    refine lv_sipush (v := 4096) hx hb d_Mod_memory_5 (by decide) ?_
    refine lv_icmp_lt hx hb d_Mod_memory_8 rfl (fun h8 => ?_) (fun h8 => ?_)
    · exact (isW_f hbd h1 h8).elim
    · refine lv_aload_n hx hb d_Mod_memory_11 rfl (lv_at hl 0 rfl) ?_
      refine lv_iconst (v := 1) hx hb d_Mod_memory_12 (by decide) ?_
      refine q_cg (q_runV (As := [.int (1 : Int32)]) (rest := []) S (c_Mod_fail l D ti mo am Q w g rb rt rp ro ca va st tr th ha pk xx rd to (1 : Int32)) (cw_v hts tb_5_110 k_Mod_fail rfl rfl ⟨by decide, by decide⟩) hw 0 rfl rfl rfl hl.1 rfl (Nat.le_of_ble_eq_true rfl) d_Mod_memory_13 ⟨Nat.zero_le _, Nat.zero_le _⟩) hw (fun z hD => qD_same hD rfl) (fun z9 H locs hp9 hw => ?_)
      refine W.eq (g2 := F0 m9 16 ls [.int (0 : Int32)]) rfl ?_
      have hw : Lv _ _ _ _ _ (RMW mo am ti Q w g rb rt rp ro ca va st tr (1 : Int32) ha pk xx rd to) _ _ _ := hw
      exact hw.riz S hr hlk (rfl) d_Mod_memory_16 () (rfl) (trivial) (rfl)
set_option maxHeartbeats 4000000 in
set_option maxRecDepth 100000 in
theorem c_Mod_tag (l : Launch) (D : va_G) (ti : Nat → ClassId) (mo : Nat) (am : Nat → Nat) (Q : Nat → Cap) (w g : Nat → Int32) (rb rt : Nat → Int64) (rp : Nat → Int32) (ro ca va st tr th : Int32) (ha : Bool) (pk : Int32) (xx : Bool) (rd : Int64) (to : Int32) (i : Nat) (hi : i < 4096) : Cg l y_Mod_tag (wl y_Mod_tag b_Mod_tag 2 (some .boolean)) (rmL 1) D clz (ty4 ti) [.ref mo, .int (nI i)] (RMW mo am ti Q w g rb rt rp ro ca va st tr th ha pk xx rd to) (fun _ : Unit => some (.int (jb (gTag g i)))) (fun _ => (RMW mo am ti Q w g rb rt rp ro ca va st tr 0 ha pk xx rd to)) (fun _ => True) := by
  refine Cg.ofF (plainFor_of_name (by decide)) (Nat.le_of_ble_eq_true rfl) ?_
  intro p9 e9 s9 m9 b9 me9 c9 ls S hr hlk hl hw
  obtain ⟨hx, hb, hml, hown, hts⟩ := id S
  have hl : lv_has ls 2 [(0, .ref mo), (1, .int (nI i))] := hl
  refine lv_aload_n hx hb d_Mod_tag_0 rfl (lv_at hl 0 rfl) ?_
  refine lv_iload_n hx hb d_Mod_tag_1 rfl (lv_at hl 1 rfl) ?_
  refine lv_if_lt hx hb d_Mod_tag_2 rfl (fun h => absurd h (nI_pos (by omega))) (fun _ => ?_)
  refine lv_iload_n hx hb d_Mod_tag_5 rfl (lv_at hl 1 rfl) ?_
  refine lv_sipush (v := 4096) hx hb d_Mod_tag_6 (by decide) ?_
  refine lv_icmp_lt hx hb d_Mod_tag_9 rfl (fun _ => ?_) (fun h => absurd h (not_not_intro (nI_lt (a := i) (b := 4096) hi (by decide))))
  refine lv_iconst (v := 0) hx hb d_Mod_tag_16 (by decide) ?_
  refine q_put (v := .int (0 : Int32)) S hw ly_Mod t_Mod t_Mod_ok n_Mod 0 rfl rfl 13 (by decide) tb_5_56 rfl rfl rfl rfl (Nat.le_of_ble_eq_true rfl) d_Mod_tag_17 (fun H locs hw => ?_)
  have hw : Lv _ _ _ _ _ (RMW mo am ti Q w g rb rt rp ro ca va st tr (0 : Int32) ha pk xx rd to) _ _ _ := hw
  refine lv_aload_n hx hb d_Mod_tag_20 rfl (lv_at hl 0 rfl) ?_
  refine q_get S hw ly_Mod 0 rfl rfl 13 (by decide) tb_5_56 rfl rfl d_Mod_tag_21 ?_
  refine lv_if_ne hx hb d_Mod_tag_24 rfl (fun h => absurd h (by decide)) (fun _ => ?_)
  refine lv_aload_n hx hb d_Mod_tag_27 rfl (lv_at hl 0 rfl) ?_
  refine q_get S hw ly_Mod 0 rfl rfl 4 (by decide) tb_5_47 rfl rfl d_Mod_tag_28 ?_
  refine lv_iload_n hx hb d_Mod_tag_31 rfl (lv_at hl 1 rfl) ?_
  refine lv_iconst (v := 2) hx hb d_Mod_tag_32 (by decide) ?_
  refine lv_idiv hx hb d_Mod_tag_33 (by decide) ?_
  refine q_topi (z := nI (i / 2)) (pk_div (a := i) (d := 2) (by omega) (by decide) (by decide)) ?_
  refine q_zaldN (k := i / 2) S hw 5 1 rfl rfl (by first | assumption | omega) (by decide) d_Mod_tag_34 ?_
  refine q_ifz_eq S d_Mod_tag_35 rfl (fun h35 => ?_) (fun h35 => ?_)
  · refine lv_iconst (v := 0) hx hb d_Mod_tag_42 (by decide) ?_
    exact hw.riz S hr hlk (rfl) d_Mod_tag_43 () (by rw [← gTag_2, h35]; rfl) (trivial) (rfl)
  · refine lv_iconst (v := 1) hx hb d_Mod_tag_38 (by decide) ?_
    refine lv_goto hx hb d_Mod_tag_39 rfl ?_
    exact hw.riz S hr hlk (rfl) d_Mod_tag_43 () (by rw [← gTag_2, h35]; rfl) (trivial) (rfl)
set_option maxHeartbeats 4000000 in
set_option maxRecDepth 100000 in
theorem c_Mod_tagX (l : Launch) (D : va_G) (ti : Nat → ClassId) (mo : Nat) (am : Nat → Nat) (Q : Nat → Cap) (w g : Nat → Int32) (rb rt : Nat → Int64) (rp : Nat → Int32) (ro ca va st tr th : Int32) (ha : Bool) (pk : Int32) (xx : Bool) (rd : Int64) (to : Int32) (i : Int32) (hbd : isW i = false) : Cg l y_Mod_tag (wl y_Mod_tag b_Mod_tag 2 (some .boolean)) (rmL 1) D clz (ty4 ti) [.ref mo, .int i] (RMW mo am ti Q w g rb rt rp ro ca va st tr th ha pk xx rd to) (fun _ : Unit => some (.int (jb false))) (fun _ => (RMW mo am ti Q w g rb rt rp ro ca va st tr 1 ha pk xx rd to)) (fun _ => True) := by
  refine Cg.ofF (plainFor_of_name (by decide)) (Nat.le_of_ble_eq_true rfl) ?_
  intro p9 e9 s9 m9 b9 me9 c9 ls S hr hlk hl hw
  obtain ⟨hx, hb, hml, hown, hts⟩ := id S
  have hl : lv_has ls 2 [(0, .ref mo), (1, .int i)] := hl
  refine lv_aload_n hx hb d_Mod_tag_0 rfl (lv_at hl 0 rfl) ?_
  refine lv_iload_n hx hb d_Mod_tag_1 rfl (lv_at hl 1 rfl) ?_
  refine lv_if_lt hx hb d_Mod_tag_2 rfl (fun h2 => ?_) (fun h2 => ?_)
  · refine lv_iconst (v := 1) hx hb d_Mod_tag_12 (by decide) ?_
    refine lv_goto hx hb d_Mod_tag_13 rfl ?_
    refine q_put (v := .int (1 : Int32)) S hw ly_Mod t_Mod t_Mod_ok n_Mod 0 rfl rfl 13 (by decide) tb_5_56 rfl rfl rfl rfl (Nat.le_of_ble_eq_true rfl) d_Mod_tag_17 (fun H locs hw => ?_)
    have hw : Lv _ _ _ _ _ (RMW mo am ti Q w g rb rt rp ro ca va st tr (1 : Int32) ha pk xx rd to) _ _ _ := hw
    refine lv_aload_n hx hb d_Mod_tag_20 rfl (lv_at hl 0 rfl) ?_
    refine q_get S hw ly_Mod 0 rfl rfl 13 (by decide) tb_5_56 rfl rfl d_Mod_tag_21 ?_
    refine lv_if_ne hx hb d_Mod_tag_24 rfl (fun _ => ?_) (fun h => absurd h (by decide))
    refine lv_iconst (v := 0) hx hb d_Mod_tag_42 (by decide) ?_
    exact hw.riz S hr hlk (rfl) d_Mod_tag_43 () (rfl) (trivial) (rfl)
  · refine lv_iload_n hx hb d_Mod_tag_5 rfl (lv_at hl 1 rfl) ?_
    refine lv_sipush (v := 4096) hx hb d_Mod_tag_6 (by decide) ?_
    refine lv_icmp_lt hx hb d_Mod_tag_9 rfl (fun h9 => ?_) (fun h9 => ?_)
    · exact (isW_f hbd h2 h9).elim
    · refine lv_iconst (v := 1) hx hb d_Mod_tag_12 (by decide) ?_
      refine lv_goto hx hb d_Mod_tag_13 rfl ?_
      refine q_put (v := .int (1 : Int32)) S hw ly_Mod t_Mod t_Mod_ok n_Mod 0 rfl rfl 13 (by decide) tb_5_56 rfl rfl rfl rfl (Nat.le_of_ble_eq_true rfl) d_Mod_tag_17 (fun H locs hw => ?_)
      have hw : Lv _ _ _ _ _ (RMW mo am ti Q w g rb rt rp ro ca va st tr (1 : Int32) ha pk xx rd to) _ _ _ := hw
      refine lv_aload_n hx hb d_Mod_tag_20 rfl (lv_at hl 0 rfl) ?_
      refine q_get S hw ly_Mod 0 rfl rfl 13 (by decide) tb_5_56 rfl rfl d_Mod_tag_21 ?_
      refine lv_if_ne hx hb d_Mod_tag_24 rfl (fun _ => ?_) (fun h => absurd h (by decide))
      refine lv_iconst (v := 0) hx hb d_Mod_tag_42 (by decide) ?_
      exact hw.riz S hr hlk (rfl) d_Mod_tag_43 () (rfl) (trivial) (rfl)
set_option maxHeartbeats 4000000 in
set_option maxRecDepth 100000 in
theorem c_Mod_put (l : Launch) (D : va_G) (ti : Nat → ClassId) (mo : Nat) (am : Nat → Nat) (Q : Nat → Cap) (w g : Nat → Int32) (rb rt : Nat → Int64) (rp : Nat → Int32) (ro ca va st tr th : Int32) (ha : Bool) (pk : Int32) (xx : Bool) (rd : Int64) (to : Int32) (r : Nat) (h1 : 1 ≤ r) (h32 : r < 32) (a me : Int32) : Cg l y_Mod_put (wl y_Mod_put b_Mod_put 4 none) (rmL 1) D clz (ty4 ti) [.ref mo, .int (nI r), .int a, .int me] (RMW mo am ti Q w g rb rt rp ro ca va st tr th ha pk xx rd to) (fun _ : Unit => none) (fun _ => (RMW mo am ti (va_up Q r (false, a, me ^^^ 1000194)) w g rb rt rp ro ca va st tr 0 ha pk xx rd to)) (fun _ => True) := by
  refine Cg.ofF (plainFor_of_name (by decide)) (Nat.le_of_ble_eq_true rfl) ?_
  intro p9 e9 s9 m9 b9 me9 c9 ls S hr hlk hl hw
  obtain ⟨hx, hb, hml, hown, hts⟩ := id S
  have hl : lv_has ls 4 [(0, .ref mo), (1, .int (nI r)), (2, .int a), (3, .int me)] := hl
  refine lv_aload_n hx hb d_Mod_put_0 rfl (lv_at hl 0 rfl) ?_
  refine lv_iload_n hx hb d_Mod_put_1 rfl (lv_at hl 1 rfl) ?_
  refine lv_iconst (v := 1) hx hb d_Mod_put_2 (by decide) ?_
  refine lv_icmp_lt hx hb d_Mod_put_3 rfl (fun h => absurd h (nI_nlt (a := r) (b := 1) h1 (by omega))) (fun _ => ?_)
  refine lv_iload_n hx hb d_Mod_put_6 rfl (lv_at hl 1 rfl) ?_
  refine lv_bipush (v := 31) hx hb d_Mod_put_7 (by decide) ?_
  refine lv_icmp_le hx hb d_Mod_put_9 rfl (fun _ => ?_) (fun h => absurd h (not_not_intro (nI_le (a := r) (b := 31) (by omega) (by decide))))
  refine lv_iconst (v := 0) hx hb d_Mod_put_16 (by decide) ?_
  refine q_put (v := .int (0 : Int32)) S hw ly_Mod t_Mod t_Mod_ok n_Mod 0 rfl rfl 13 (by decide) tb_5_56 rfl rfl rfl rfl (Nat.le_of_ble_eq_true rfl) d_Mod_put_17 (fun H locs hw => ?_)
  have hw : Lv _ _ _ _ _ (RMW mo am ti Q w g rb rt rp ro ca va st tr (0 : Int32) ha pk xx rd to) _ _ _ := hw
  refine lv_aload_n hx hb d_Mod_put_20 rfl (lv_at hl 0 rfl) ?_
  refine q_get S hw ly_Mod 0 rfl rfl 13 (by decide) tb_5_56 rfl rfl d_Mod_put_21 ?_
  refine lv_if_ne hx hb d_Mod_put_24 rfl (fun h => absurd h (by decide)) (fun _ => ?_)
  refine lv_aload_n hx hb d_Mod_put_27 rfl (lv_at hl 0 rfl) ?_
  refine lv_iload_n hx hb d_Mod_put_28 rfl (lv_at hl 1 rfl) ?_
  refine lv_iconst (v := 0) hx hb d_Mod_put_29 (by decide) ?_
  refine lv_iload_n hx hb d_Mod_put_30 rfl (lv_at hl 2 rfl) ?_
  refine lv_iload_n hx hb d_Mod_put_31 rfl (lv_at hl 3 rfl) ?_
  refine lv_ldc (v := 1000194) hx hb hown (hts _ tb_5_42) d_Mod_put_32 ?_
  refine lv_ixor hx hb d_Mod_put_34 ?_
  refine q_cg (q_runV (As := [.int (nI r), .int (jb false), .int a, .int (me ^^^ (1000194 : Int32))]) (rest := []) S (c_Mod_set l D ti mo am Q w g rb rt rp ro ca va st tr (0 : Int32) ha pk xx rd to r (by first | decide | omega) false a (me ^^^ (1000194 : Int32))) (cw_v hts tb_5_131 k_Mod_set rfl rfl ⟨by decide, by decide⟩) hw 0 rfl rfl rfl hl.1 rfl (Nat.le_of_ble_eq_true rfl) d_Mod_put_35 ⟨Nat.zero_le _, Nat.zero_le _⟩) hw (fun z hD => qD_same hD rfl) (fun z9 H locs hp9 hw => ?_)
  refine W.eq (g2 := F0 m9 38 ls []) rfl ?_
  have hw : Lv _ _ _ _ _ (RMW mo am ti (rSet Q r (false, a, (me ^^^ (1000194 : Int32)))) w g rb rt rp ro ca va st tr (0 : Int32) ha pk xx rd to) _ _ _ := hw
  exact hw.rv S hr hlk d_Mod_put_38 () (rfl) (trivial) (by rw [rS_c (nI_ne0 (by omega) (by omega))])
set_option maxHeartbeats 4000000 in
set_option maxRecDepth 100000 in
theorem c_Mod_putX (l : Launch) (D : va_G) (ti : Nat → ClassId) (mo : Nat) (am : Nat → Nat) (Q : Nat → Cap) (w g : Nat → Int32) (rb rt : Nat → Int64) (rp : Nat → Int32) (ro ca va st tr th : Int32) (ha : Bool) (pk : Int32) (xx : Bool) (rd : Int64) (to : Int32) (r : Int32) (hbd : r < 1 ∨ 31 < r) (a me : Int32) : Cg l y_Mod_put (wl y_Mod_put b_Mod_put 4 none) (rmL 1) D clz (ty4 ti) [.ref mo, .int r, .int a, .int me] (RMW mo am ti Q w g rb rt rp ro ca va st tr th ha pk xx rd to) (fun _ : Unit => none) (fun _ => (RMW mo am ti Q w g rb rt rp ro ca va st tr 1 ha pk xx rd to)) (fun _ => True) := by
  refine Cg.ofF (plainFor_of_name (by decide)) (Nat.le_of_ble_eq_true rfl) ?_
  intro p9 e9 s9 m9 b9 me9 c9 ls S hr hlk hl hw
  obtain ⟨hx, hb, hml, hown, hts⟩ := id S
  have hl : lv_has ls 4 [(0, .ref mo), (1, .int r), (2, .int a), (3, .int me)] := hl
  refine lv_aload_n hx hb d_Mod_put_0 rfl (lv_at hl 0 rfl) ?_
  refine lv_iload_n hx hb d_Mod_put_1 rfl (lv_at hl 1 rfl) ?_
  refine lv_iconst (v := 1) hx hb d_Mod_put_2 (by decide) ?_
  refine lv_icmp_lt hx hb d_Mod_put_3 rfl (fun h3 => ?_) (fun h3 => ?_)
  · refine lv_iconst (v := 1) hx hb d_Mod_put_12 (by decide) ?_
    refine lv_goto hx hb d_Mod_put_13 rfl ?_
    refine q_put (v := .int (1 : Int32)) S hw ly_Mod t_Mod t_Mod_ok n_Mod 0 rfl rfl 13 (by decide) tb_5_56 rfl rfl rfl rfl (Nat.le_of_ble_eq_true rfl) d_Mod_put_17 (fun H locs hw => ?_)
    have hw : Lv _ _ _ _ _ (RMW mo am ti Q w g rb rt rp ro ca va st tr (1 : Int32) ha pk xx rd to) _ _ _ := hw
    refine lv_aload_n hx hb d_Mod_put_20 rfl (lv_at hl 0 rfl) ?_
    refine q_get S hw ly_Mod 0 rfl rfl 13 (by decide) tb_5_56 rfl rfl d_Mod_put_21 ?_
    refine lv_if_ne hx hb d_Mod_put_24 rfl (fun _ => ?_) (fun h => absurd h (by decide))
    exact hw.rv S hr hlk d_Mod_put_38 () (rfl) (trivial) (rfl)
  · refine lv_iload_n hx hb d_Mod_put_6 rfl (lv_at hl 1 rfl) ?_
    refine lv_bipush (v := 31) hx hb d_Mod_put_7 (by decide) ?_
    refine lv_icmp_le hx hb d_Mod_put_9 rfl (fun h9 => ?_) (fun h9 => ?_)
    · exact (hbd.elim h3 (Int32.not_lt.mpr h9)).elim
    · refine lv_iconst (v := 1) hx hb d_Mod_put_12 (by decide) ?_
      refine lv_goto hx hb d_Mod_put_13 rfl ?_
      refine q_put (v := .int (1 : Int32)) S hw ly_Mod t_Mod t_Mod_ok n_Mod 0 rfl rfl 13 (by decide) tb_5_56 rfl rfl rfl rfl (Nat.le_of_ble_eq_true rfl) d_Mod_put_17 (fun H locs hw => ?_)
      have hw : Lv _ _ _ _ _ (RMW mo am ti Q w g rb rt rp ro ca va st tr (1 : Int32) ha pk xx rd to) _ _ _ := hw
      refine lv_aload_n hx hb d_Mod_put_20 rfl (lv_at hl 0 rfl) ?_
      refine q_get S hw ly_Mod 0 rfl rfl 13 (by decide) tb_5_56 rfl rfl d_Mod_put_21 ?_
      refine lv_if_ne hx hb d_Mod_put_24 rfl (fun _ => ?_) (fun h => absurd h (by decide))
      exact hw.rv S hr hlk d_Mod_put_38 () (rfl) (trivial) (rfl)
set_option maxHeartbeats 4000000 in
set_option maxRecDepth 100000 in
theorem c_Mod_told (l : Launch) (D : va_G) (ti : Nat → ClassId) (mo : Nat) (am : Nat → Nat) (Q : Nat → Cap) (w g : Nat → Int32) (rb rt : Nat → Int64) (rp : Nat → Int32) (ro ca va st tr th : Int32) (ha : Bool) (pk : Int32) (xx : Bool) (rd : Int64) (to : Int32) (r : Nat) (hrr : r < 37) (x : Int32) (h7 : up7 x) : Cg l y_Mod_told (wl y_Mod_told b_Mod_told 5 (some .int)) (rmL 4) D clz (ty4 ti) [.ref mo, .int (nI r), .int x] (RMW mo am ti Q w g rb rt rp ro ca va st tr th ha pk xx rd to) (fun _ : Unit => some (.int (tV (Q r) x))) (fun _ => (RMW mo am ti Q w g rb rt rp ro ca va st tr 0 ha pk xx rd to)) (fun _ => True) := by
  refine Cg.ofF (plainFor_of_name (by decide)) (Nat.le_of_ble_eq_true rfl) ?_
  intro p9 e9 s9 m9 b9 me9 c9 ls S hr hlk hl hw
  obtain ⟨hx, hb, hml, hown, hts⟩ := id S
  have hl : lv_has ls 5 [(0, .ref mo), (1, .int (nI r)), (2, .int x)] := hl
  refine lv_iload_n hx hb d_Mod_told_0 rfl (lv_at hl 1 rfl) ?_
  refine lv_if_lt hx hb d_Mod_told_1 rfl (fun h => absurd h (nI_pos (by omega))) (fun _ => ?_)
  refine lv_iload_n hx hb d_Mod_told_4 rfl (lv_at hl 1 rfl) ?_
  refine lv_bipush (v := 37) hx hb d_Mod_told_5 (by decide) ?_
  refine lv_icmp_lt hx hb d_Mod_told_7 rfl (fun _ => ?_) (fun h => absurd h (not_not_intro (nI_lt (a := r) (b := 37) hrr (by decide))))
  refine lv_iload_n hx hb d_Mod_told_16 rfl (lv_at hl 2 rfl) ?_
  refine lv_if_lt hx hb d_Mod_told_17 rfl (fun h => absurd h (up7_0 h7)) (fun _ => ?_)
  refine lv_iload_n hx hb d_Mod_told_20 rfl (lv_at hl 2 rfl) ?_
  refine lv_bipush (v := 6) hx hb d_Mod_told_21 (by decide) ?_
  refine lv_icmp_le hx hb d_Mod_told_23 rfl (fun _ => ?_) (fun h => absurd h (not_not_intro (up7_6 h7)))
  refine lv_aload_n hx hb d_Mod_told_32 rfl (lv_at hl 0 rfl) ?_
  refine lv_iconst (v := 0) hx hb d_Mod_told_33 (by decide) ?_
  refine q_put (v := .int (0 : Int32)) S hw ly_Mod t_Mod t_Mod_ok n_Mod 0 rfl rfl 13 (by decide) tb_5_56 rfl rfl rfl rfl (Nat.le_of_ble_eq_true rfl) d_Mod_told_34 (fun H locs hw => ?_)
  have hw : Lv _ _ _ _ _ (RMW mo am ti Q w g rb rt rp ro ca va st tr (0 : Int32) ha pk xx rd to) _ _ _ := hw
  refine lv_aload_n hx hb d_Mod_told_37 rfl (lv_at hl 0 rfl) ?_
  refine q_get S hw ly_Mod 0 rfl rfl 1 (by decide) tb_5_44 rfl rfl d_Mod_told_38 ?_
  refine lv_iload_n hx hb d_Mod_told_41 rfl (lv_at hl 1 rfl) ?_
  refine q_ialdN (k := r) S hw 2 0 rfl rfl (by first | assumption | omega) (by decide) d_Mod_told_42 ?_
  refine lv_istore_n (lv' := [(3, .int ((Q r).2.1)), (0, .ref mo), (1, .int (nI r)), (2, .int x)]) hx hb d_Mod_told_43 rfl hl (by decide) rfl (fun ls hl => ?_)
  refine lv_aload_n hx hb d_Mod_told_44 rfl (lv_at hl 1 rfl) ?_
  refine q_get S hw ly_Mod 0 rfl rfl 2 (by decide) tb_5_45 rfl rfl d_Mod_told_45 ?_
  refine lv_iload_n hx hb d_Mod_told_48 rfl (lv_at hl 2 rfl) ?_
  refine q_ialdN (k := r) S hw 3 0 rfl rfl (by first | assumption | omega) (by decide) d_Mod_told_49 ?_
  refine lv_istore (lv' := [(4, .int ((Q r).2.2)), (3, .int ((Q r).2.1)), (0, .ref mo), (1, .int (nI r)), (2, .int x)]) hx hb d_Mod_told_50 hl (by decide) rfl (fun ls hl => ?_)
  refine lv_iload_n hx hb d_Mod_told_52 rfl (lv_at hl 4 rfl) ?_
  by_cases hc53_0 : x = (0 : Int32)
  · refine lv_tableIn hx hb d_Mod_told_53 (by rw [hc53_0]; decide) (by rw [hc53_0]; decide) (by rw [hc53_0]; rfl) rfl ?_
    refine lv_aload_n hx hb d_Mod_told_92 rfl (lv_at hl 2 rfl) ?_
    refine q_get S hw ly_Mod 0 rfl rfl 0 (by decide) tb_5_43 rfl rfl d_Mod_told_93 ?_
    refine lv_iload_n hx hb d_Mod_told_96 rfl (lv_at hl 3 rfl) ?_
    refine q_zaldN (k := r) S hw 1 1 rfl rfl (by first | assumption | omega) (by decide) d_Mod_told_97 ?_
    refine q_ifz_eq S d_Mod_told_98 rfl (fun h98 => ?_) (fun h98 => ?_)
    · refine lv_iconst (v := 0) hx hb d_Mod_told_105 (by decide) ?_
      exact hw.riz S hr hlk (rfl) d_Mod_told_106 () (by unfold tV; rw [hc53_0]; simp [h98]) (trivial) (rfl)
    · refine lv_iconst (v := 1) hx hb d_Mod_told_101 (by decide) ?_
      refine lv_goto hx hb d_Mod_told_102 rfl ?_
      exact hw.riz S hr hlk (rfl) d_Mod_told_106 () (by unfold tV; rw [hc53_0]; simp [h98]) (trivial) (rfl)
  by_cases hc53_1 : x = (1 : Int32)
  · refine lv_tableIn hx hb d_Mod_told_53 (by rw [hc53_1]; decide) (by rw [hc53_1]; decide) (by rw [hc53_1]; rfl) rfl ?_
    refine lv_iload_n hx hb d_Mod_told_107 rfl (lv_at hl 1 rfl) ?_
    exact hw.riz S hr hlk (rfl) d_Mod_told_108 () (by unfold tV; rw [hc53_1]; rfl) (trivial) (rfl)
  by_cases hc53_2 : x = (2 : Int32)
  · refine lv_tableIn hx hb d_Mod_told_53 (by rw [hc53_2]; decide) (by rw [hc53_2]; decide) (by rw [hc53_2]; rfl) rfl ?_
    refine lv_iload hx hb d_Mod_told_109 (lv_at hl 0 rfl) ?_
    refine lv_ldc (v := 1000194) hx hb hown (hts _ tb_5_42) d_Mod_told_111 ?_
    refine lv_ixor hx hb d_Mod_told_113 ?_
    exact hw.riz S hr hlk (rfl) d_Mod_told_114 () (by unfold tV; rw [hc53_2]; rfl) (trivial) (rfl)
  by_cases hc53_3 : x = (3 : Int32)
  · refine lv_tableIn hx hb d_Mod_told_53 (by rw [hc53_3]; decide) (by rw [hc53_3]; decide) (by rw [hc53_3]; rfl) rfl ?_
    refine lv_iload hx hb d_Mod_told_115 (lv_at hl 0 rfl) ?_
    refine lv_iload_n hx hb d_Mod_told_117 rfl (lv_at hl 1 rfl) ?_
    refine q_cr (q_runS (As := [.int ((Q r).2.2), .int ((Q r).2.1)]) (rest := []) S ((c_Mod_base l D (ty4 ti) ((Q r).2.2) ((Q r).2.1)).nil _) (cw_s hts tb_5_135 k_Mod_base rfl rfl ⟨by decide, by decide⟩) hw rfl hl.1 rfl (Nat.le_of_ble_eq_true rfl) d_Mod_told_118 ⟨Nat.zero_le _, Nat.zero_le _⟩) ?_
    refine W.eq (g2 := F0 m9 121 ls [.long (cbase ((Q r).2.2) ((Q r).2.1))]) rfl ?_
    refine lv_l2i (v := ((cbase ((Q r).2.2) ((Q r).2.1)).toInt32)) hx hb d_Mod_told_121 rfl ?_
    exact hw.riz S hr hlk (rfl) d_Mod_told_122 () (by unfold tV; rw [hc53_3]; rfl) (trivial) (rfl)
  by_cases hc53_4 : x = (4 : Int32)
  · refine lv_tableIn hx hb d_Mod_told_53 (by rw [hc53_4]; decide) (by rw [hc53_4]; decide) (by rw [hc53_4]; rfl) rfl ?_
    refine lv_iload hx hb d_Mod_told_123 (lv_at hl 0 rfl) ?_
    refine lv_iload_n hx hb d_Mod_told_125 rfl (lv_at hl 1 rfl) ?_
    refine q_cr (q_runS (As := [.int ((Q r).2.2), .int ((Q r).2.1)]) (rest := []) S ((c_Mod_top l D (ty4 ti) ((Q r).2.2) ((Q r).2.1)).nil _) (cw_s hts tb_5_153 k_Mod_top rfl rfl ⟨by decide, by decide⟩) hw rfl hl.1 rfl (Nat.le_of_ble_eq_true rfl) d_Mod_told_126 ⟨Nat.zero_le _, Nat.zero_le _⟩) ?_
    refine W.eq (g2 := F0 m9 129 ls [.long (ctop ((Q r).2.2) ((Q r).2.1))]) rfl ?_
    refine lv_iload hx hb d_Mod_told_129 (lv_at hl 0 rfl) ?_
    refine lv_iload_n hx hb d_Mod_told_131 rfl (lv_at hl 1 rfl) ?_
    refine q_cr (q_runS (As := [.int ((Q r).2.2), .int ((Q r).2.1)]) (rest := [.long (ctop ((Q r).2.2) ((Q r).2.1))]) S ((c_Mod_base l D (ty4 ti) ((Q r).2.2) ((Q r).2.1)).nil _) (cw_s hts tb_5_135 k_Mod_base rfl rfl ⟨by decide, by decide⟩) hw rfl hl.1 rfl (Nat.le_of_ble_eq_true rfl) d_Mod_told_132 ⟨Nat.zero_le _, Nat.zero_le _⟩) ?_
    refine W.eq (g2 := F0 m9 135 ls [.long (cbase ((Q r).2.2) ((Q r).2.1)), .long (ctop ((Q r).2.2) ((Q r).2.1))]) rfl ?_
    refine lv_lsub hx hb d_Mod_told_135 ?_
    refine q_cr (q_runS (As := [.long ((ctop ((Q r).2.2) ((Q r).2.1)) - (cbase ((Q r).2.2) ((Q r).2.1)))]) (rest := []) S ((c_Mod_most l D (ty4 ti) (cbase (Q r).2.2 (Q r).2.1) (ctop (Q r).2.2 (Q r).2.1)).nil _) (cw_s hts tb_6_53 k_Mod_most rfl rfl ⟨by decide, by decide⟩) hw rfl hl.1 rfl (Nat.le_of_ble_eq_true rfl) d_Mod_told_136 ⟨Nat.zero_le _, Nat.zero_le _⟩) ?_
    refine W.eq (g2 := F0 m9 139 ls [.int (cLen (cbase (Q r).2.2 (Q r).2.1) (ctop (Q r).2.2 (Q r).2.1))]) rfl ?_
    exact hw.riz S hr hlk (rfl) d_Mod_told_139 () (by unfold tV; rw [hc53_4]; rfl) (trivial) (rfl)
  by_cases hc53_5 : x = (5 : Int32)
  · refine lv_tableIn hx hb d_Mod_told_53 (by rw [hc53_5]; decide) (by rw [hc53_5]; decide) (by rw [hc53_5]; rfl) rfl ?_
    refine lv_iload hx hb d_Mod_told_140 (lv_at hl 0 rfl) ?_
    refine q_cr (q_runS (As := [.int ((Q r).2.2)]) (rest := []) S ((c_Mod_perms l D (ty4 ti) ((Q r).2.2)).nil _) (cw_s hts tb_5_191 k_Mod_perms rfl rfl ⟨by decide, by decide⟩) hw rfl hl.1 rfl (Nat.le_of_ble_eq_true rfl) d_Mod_told_142 ⟨Nat.zero_le _, Nat.zero_le _⟩) ?_
    refine W.eq (g2 := F0 m9 145 ls [.int (cPerms ((Q r).2.2))]) rfl ?_
    exact hw.riz S hr hlk (rfl) d_Mod_told_145 () (by unfold tV; rw [hc53_5]; rfl) (trivial) (rfl)
  refine lv_tableOut hx hb d_Mod_told_53 (by have := lv_neT hc53_0 (a := 0) rfl; have := lv_neT hc53_1 (a := 1) rfl; have := lv_neT hc53_2 (a := 2) rfl; have := lv_neT hc53_3 (a := 3) rfl; have := lv_neT hc53_4 (a := 4) rfl; have := lv_neT hc53_5 (a := 5) rfl; omega) rfl ?_
  refine lv_iload hx hb d_Mod_told_146 (lv_at hl 0 rfl) ?_
  refine q_cr (q_runS (As := [.int ((Q r).2.2)]) (rest := []) S ((c_Mod_type l D (ty4 ti) ((Q r).2.2)).nil _) (cw_s hts tb_5_184 k_Mod_type rfl rfl ⟨by decide, by decide⟩) hw rfl hl.1 rfl (Nat.le_of_ble_eq_true rfl) d_Mod_told_148 ⟨Nat.zero_le _, Nat.zero_le _⟩) ?_
  refine W.eq (g2 := F0 m9 151 ls [.int (cType ((Q r).2.2))]) rfl ?_
  exact hw.riz S hr hlk (rfl) d_Mod_told_151 () (by unfold tV; rw [if_neg hc53_0, if_neg hc53_1, if_neg hc53_2, if_neg hc53_3, if_neg hc53_4, if_neg hc53_5]) (trivial) (rfl)
set_option maxHeartbeats 4000000 in
set_option maxRecDepth 100000 in
theorem c_Mod_toldX (l : Launch) (D : va_G) (ti : Nat → ClassId) (mo : Nat) (am : Nat → Nat) (Q : Nat → Cap) (w g : Nat → Int32) (rb rt : Nat → Int64) (rp : Nat → Int32) (ro ca va st tr th : Int32) (ha : Bool) (pk : Int32) (xx : Bool) (rd : Int64) (to : Int32) (r : Int32) (hbd : r < 0 ∨ 37 ≤ r) (x : Int32) : Cg l y_Mod_told (wl y_Mod_told b_Mod_told 5 (some .int)) (rmL 4) D clz (ty4 ti) [.ref mo, .int r, .int x] (RMW mo am ti Q w g rb rt rp ro ca va st tr th ha pk xx rd to) (fun _ : Unit => some (.int 0)) (fun _ => (RMW mo am ti Q w g rb rt rp ro ca va st tr 1 ha pk xx rd to)) (fun _ => True) := by
  refine Cg.ofF (plainFor_of_name (by decide)) (Nat.le_of_ble_eq_true rfl) ?_
  intro p9 e9 s9 m9 b9 me9 c9 ls S hr hlk hl hw
  obtain ⟨hx, hb, hml, hown, hts⟩ := id S
  have hl : lv_has ls 5 [(0, .ref mo), (1, .int r), (2, .int x)] := hl
  refine lv_iload_n hx hb d_Mod_told_0 rfl (lv_at hl 1 rfl) ?_
  refine lv_if_lt hx hb d_Mod_told_1 rfl (fun h1 => ?_) (fun h1 => ?_)
  · refine lv_aload_n hx hb d_Mod_told_10 rfl (lv_at hl 0 rfl) ?_
    refine lv_iconst (v := 1) hx hb d_Mod_told_11 (by decide) ?_
    refine q_cg (q_runV (As := [.int (1 : Int32)]) (rest := []) S (c_Mod_fail l D ti mo am Q w g rb rt rp ro ca va st tr th ha pk xx rd to (1 : Int32)) (cw_v hts tb_5_110 k_Mod_fail rfl rfl ⟨by decide, by decide⟩) hw 0 rfl rfl rfl hl.1 rfl (Nat.le_of_ble_eq_true rfl) d_Mod_told_12 ⟨Nat.zero_le _, Nat.zero_le _⟩) hw (fun z hD => qD_same hD rfl) (fun z9 H locs hp9 hw => ?_)
    refine W.eq (g2 := F0 m9 15 ls [.int (0 : Int32)]) rfl ?_
    have hw : Lv _ _ _ _ _ (RMW mo am ti Q w g rb rt rp ro ca va st tr (1 : Int32) ha pk xx rd to) _ _ _ := hw
    exact hw.riz S hr hlk (rfl) d_Mod_told_15 () (rfl) (trivial) (rfl)
  · refine lv_iload_n hx hb d_Mod_told_4 rfl (lv_at hl 1 rfl) ?_
    refine lv_bipush (v := 37) hx hb d_Mod_told_5 (by decide) ?_
    refine lv_icmp_lt hx hb d_Mod_told_7 rfl (fun h7 => ?_) (fun h7 => ?_)
    · exact (hbd.elim h1 (Int32.not_le.mpr h7)).elim
    · refine lv_aload_n hx hb d_Mod_told_10 rfl (lv_at hl 0 rfl) ?_
      refine lv_iconst (v := 1) hx hb d_Mod_told_11 (by decide) ?_
      refine q_cg (q_runV (As := [.int (1 : Int32)]) (rest := []) S (c_Mod_fail l D ti mo am Q w g rb rt rp ro ca va st tr th ha pk xx rd to (1 : Int32)) (cw_v hts tb_5_110 k_Mod_fail rfl rfl ⟨by decide, by decide⟩) hw 0 rfl rfl rfl hl.1 rfl (Nat.le_of_ble_eq_true rfl) d_Mod_told_12 ⟨Nat.zero_le _, Nat.zero_le _⟩) hw (fun z hD => qD_same hD rfl) (fun z9 H locs hp9 hw => ?_)
      refine W.eq (g2 := F0 m9 15 ls [.int (0 : Int32)]) rfl ?_
      have hw : Lv _ _ _ _ _ (RMW mo am ti Q w g rb rt rp ro ca va st tr (1 : Int32) ha pk xx rd to) _ _ _ := hw
      exact hw.riz S hr hlk (rfl) d_Mod_told_15 () (rfl) (trivial) (rfl)
set_option maxHeartbeats 4000000 in
set_option maxRecDepth 100000 in
theorem c_Mod_toldY (l : Launch) (D : va_G) (ti : Nat → ClassId) (mo : Nat) (am : Nat → Nat) (Q : Nat → Cap) (w g : Nat → Int32) (rb rt : Nat → Int64) (rp : Nat → Int32) (ro ca va st tr th : Int32) (ha : Bool) (pk : Int32) (xx : Bool) (rd : Int64) (to : Int32) (r : Nat) (hrr : r < 37) (x : Int32) (hbd : x < 0 ∨ 6 < x) : Cg l y_Mod_told (wl y_Mod_told b_Mod_told 5 (some .int)) (rmL 4) D clz (ty4 ti) [.ref mo, .int (nI r), .int x] (RMW mo am ti Q w g rb rt rp ro ca va st tr th ha pk xx rd to) (fun _ : Unit => some (.int 0)) (fun _ => (RMW mo am ti Q w g rb rt rp ro ca va st tr 2 ha pk xx rd to)) (fun _ => True) := by
  refine Cg.ofF (plainFor_of_name (by decide)) (Nat.le_of_ble_eq_true rfl) ?_
  intro p9 e9 s9 m9 b9 me9 c9 ls S hr hlk hl hw
  obtain ⟨hx, hb, hml, hown, hts⟩ := id S
  have hl : lv_has ls 5 [(0, .ref mo), (1, .int (nI r)), (2, .int x)] := hl
  refine lv_iload_n hx hb d_Mod_told_0 rfl (lv_at hl 1 rfl) ?_
  refine lv_if_lt hx hb d_Mod_told_1 rfl (fun h => absurd h (nI_pos (by omega))) (fun _ => ?_)
  refine lv_iload_n hx hb d_Mod_told_4 rfl (lv_at hl 1 rfl) ?_
  refine lv_bipush (v := 37) hx hb d_Mod_told_5 (by decide) ?_
  refine lv_icmp_lt hx hb d_Mod_told_7 rfl (fun _ => ?_) (fun h => absurd h (not_not_intro (nI_lt (a := r) (b := 37) hrr (by decide))))
  refine lv_iload_n hx hb d_Mod_told_16 rfl (lv_at hl 2 rfl) ?_
  refine lv_if_lt hx hb d_Mod_told_17 rfl (fun h17 => ?_) (fun h17 => ?_)
  · refine lv_aload_n hx hb d_Mod_told_26 rfl (lv_at hl 0 rfl) ?_
    refine lv_iconst (v := 2) hx hb d_Mod_told_27 (by decide) ?_
    refine q_cg (q_runV (As := [.int (2 : Int32)]) (rest := []) S (c_Mod_fail l D ti mo am Q w g rb rt rp ro ca va st tr th ha pk xx rd to (2 : Int32)) (cw_v hts tb_5_110 k_Mod_fail rfl rfl ⟨by decide, by decide⟩) hw 0 rfl rfl rfl hl.1 rfl (Nat.le_of_ble_eq_true rfl) d_Mod_told_28 ⟨Nat.zero_le _, Nat.zero_le _⟩) hw (fun z hD => qD_same hD rfl) (fun z9 H locs hp9 hw => ?_)
    refine W.eq (g2 := F0 m9 31 ls [.int (0 : Int32)]) rfl ?_
    have hw : Lv _ _ _ _ _ (RMW mo am ti Q w g rb rt rp ro ca va st tr (2 : Int32) ha pk xx rd to) _ _ _ := hw
    exact hw.riz S hr hlk (rfl) d_Mod_told_31 () (rfl) (trivial) (rfl)
  · refine lv_iload_n hx hb d_Mod_told_20 rfl (lv_at hl 2 rfl) ?_
    refine lv_bipush (v := 6) hx hb d_Mod_told_21 (by decide) ?_
    refine lv_icmp_le hx hb d_Mod_told_23 rfl (fun h23 => ?_) (fun h23 => ?_)
    · exact (hbd.elim h17 (Int32.not_lt.mpr h23)).elim
    · refine lv_aload_n hx hb d_Mod_told_26 rfl (lv_at hl 0 rfl) ?_
      refine lv_iconst (v := 2) hx hb d_Mod_told_27 (by decide) ?_
      refine q_cg (q_runV (As := [.int (2 : Int32)]) (rest := []) S (c_Mod_fail l D ti mo am Q w g rb rt rp ro ca va st tr th ha pk xx rd to (2 : Int32)) (cw_v hts tb_5_110 k_Mod_fail rfl rfl ⟨by decide, by decide⟩) hw 0 rfl rfl rfl hl.1 rfl (Nat.le_of_ble_eq_true rfl) d_Mod_told_28 ⟨Nat.zero_le _, Nat.zero_le _⟩) hw (fun z hD => qD_same hD rfl) (fun z9 H locs hp9 hw => ?_)
      refine W.eq (g2 := F0 m9 31 ls [.int (0 : Int32)]) rfl ?_
      have hw : Lv _ _ _ _ _ (RMW mo am ti Q w g rb rt rp ro ca va st tr (2 : Int32) ha pk xx rd to) _ _ _ := hw
      exact hw.riz S hr hlk (rfl) d_Mod_told_31 () (rfl) (trivial) (rfl)
set_option maxHeartbeats 4000000 in
set_option maxRecDepth 100000 in
theorem c_Mod_count (l : Launch) (D : va_G) (ti : Nat → ClassId) (mo : Nat) (am : Nat → Nat) (Q : Nat → Cap) (w g : Nat → Int32) (rb rt : Nat → Int64) (rp : Nat → Int32) (ro ca va st tr th : Int32) (ha : Bool) (pk : Int32) (xx : Bool) (rd : Int64) (to : Int32) (x : Int32) (h7 : up7 x) : Cg l y_Mod_count (wl y_Mod_count b_Mod_count 4 (some .int)) (rmL 1) D clz (ty4 ti) [.ref mo, .int x] (RMW mo am ti Q w g rb rt rp ro ca va st tr th ha pk xx rd to) (fun _ : Unit => some (.int (cV ha ca va st tr ro (tS g 2048) x))) (fun _ => (RMW mo am ti Q w g rb rt rp ro ca va st tr 0 ha pk xx rd to)) (fun _ => True) := by
  refine Cg.ofF (plainFor_of_name (by decide)) (Nat.le_of_ble_eq_true rfl) ?_
  intro p9 e9 s9 m9 b9 me9 c9 ls S hr hlk hl hw
  obtain ⟨hx, hb, hml, hown, hts⟩ := id S
  have hl : lv_has ls 4 [(0, .ref mo), (1, .int x)] := hl
  refine lv_iload_n hx hb d_Mod_count_0 rfl (lv_at hl 1 rfl) ?_
  refine lv_if_lt hx hb d_Mod_count_1 rfl (fun h => absurd h (up7_0 h7)) (fun _ => ?_)
  refine lv_iload_n hx hb d_Mod_count_4 rfl (lv_at hl 1 rfl) ?_
  refine lv_bipush (v := 6) hx hb d_Mod_count_5 (by decide) ?_
  refine lv_icmp_le hx hb d_Mod_count_7 rfl (fun _ => ?_) (fun h => absurd h (not_not_intro (up7_6 h7)))
  refine lv_aload_n hx hb d_Mod_count_16 rfl (lv_at hl 0 rfl) ?_
  refine lv_iconst (v := 0) hx hb d_Mod_count_17 (by decide) ?_
  refine q_put (v := .int (0 : Int32)) S hw ly_Mod t_Mod t_Mod_ok n_Mod 0 rfl rfl 13 (by decide) tb_5_56 rfl rfl rfl rfl (Nat.le_of_ble_eq_true rfl) d_Mod_count_18 (fun H locs hw => ?_)
  have hw : Lv _ _ _ _ _ (RMW mo am ti Q w g rb rt rp ro ca va st tr (0 : Int32) ha pk xx rd to) _ _ _ := hw
  refine lv_iconst (v := 0) hx hb d_Mod_count_21 (by decide) ?_
  refine lv_istore_n (lv' := [(2, .int (0 : Int32)), (0, .ref mo), (1, .int x)]) hx hb d_Mod_count_22 rfl hl (by decide) rfl (fun ls hl => ?_)
  refine lv_iconst (v := 0) hx hb d_Mod_count_23 (by decide) ?_
  refine lv_istore_n (lv' := [(3, .int (0 : Int32)), (2, .int (0 : Int32)), (0, .ref mo), (1, .int x)]) hx hb d_Mod_count_24 rfl hl (by decide) rfl (fun ls hl => ?_)
  refine q_loop (Z := Nat) (pcL := 25) (st := []) (nL := 4) (fun z => [(3, .int (nI z)), (2, .int (tS g z)), (1, .int x), (0, .ref mo)]) (fun z => z ≤ 2048) (fun z => 2048 - z) (fun z ls hI25 hl IH25 => ?_) 0 (Nat.zero_le _) (q_loc (l' := [(3, .int (nI 0)), (2, .int (tS g 0)), (1, .int x), (0, .ref mo)]) (lv_sub (l' := [(3, .int (0 : Int32)), (2, .int (0 : Int32)), (1, .int x), (0, .ref mo)]) hl [0, 1, 3, 2] rfl) (rfl))
  have hl : lv_has ls 4 [(3, .int (nI z)), (2, .int (tS g z)), (1, .int x), (0, .ref mo)] := hl
  refine lv_iload_n hx hb d_Mod_count_25 rfl (lv_at hl 0 rfl) ?_
  refine lv_sipush (v := 2048) hx hb d_Mod_count_26 (by decide) ?_
  refine lv_icmp_ge hx hb d_Mod_count_29 rfl (fun h29 => ?_) (fun h29 => ?_)
  · have h9 : z = 2048 := by have := (nI_leI (a := 2048) (b := z) (by decide) (by omega)).mp h29; omega
    refine lv_iload_n hx hb d_Mod_count_50 rfl (lv_at hl 2 rfl) ?_
    refine lv_if_ne hx hb d_Mod_count_51 rfl (fun h51 => ?_) (fun h51 => ?_)
    · refine lv_iload_n hx hb d_Mod_count_69 rfl (lv_at hl 2 rfl) ?_
      refine lv_iconst (v := 1) hx hb d_Mod_count_70 (by decide) ?_
      refine lv_icmp_ne hx hb d_Mod_count_71 rfl (fun h71 => ?_) (fun h71 => ?_)
      · refine lv_iload_n hx hb d_Mod_count_81 rfl (lv_at hl 2 rfl) ?_
        refine lv_iconst (v := 2) hx hb d_Mod_count_82 (by decide) ?_
        refine lv_icmp_ne hx hb d_Mod_count_83 rfl (fun h83 => ?_) (fun h83 => ?_)
        · refine lv_iload_n hx hb d_Mod_count_93 rfl (lv_at hl 2 rfl) ?_
          refine lv_iconst (v := 3) hx hb d_Mod_count_94 (by decide) ?_
          refine lv_icmp_ne hx hb d_Mod_count_95 rfl (fun h95 => ?_) (fun h95 => ?_)
          · refine lv_iload_n hx hb d_Mod_count_105 rfl (lv_at hl 2 rfl) ?_
            refine lv_iconst (v := 4) hx hb d_Mod_count_106 (by decide) ?_
            refine lv_icmp_ne hx hb d_Mod_count_107 rfl (fun h107 => ?_) (fun h107 => ?_)
            · refine lv_iload_n hx hb d_Mod_count_117 rfl (lv_at hl 2 rfl) ?_
              refine lv_iconst (v := 5) hx hb d_Mod_count_118 (by decide) ?_
              refine lv_icmp_ne hx hb d_Mod_count_119 rfl (fun h119 => ?_) (fun h119 => ?_)
              · refine lv_iload_n hx hb d_Mod_count_129 rfl (lv_at hl 1 rfl) ?_
                exact hw.riz S hr hlk (rfl) d_Mod_count_130 () (by unfold cV; rw [if_neg h51, if_neg h71, if_neg h83, if_neg h95, if_neg h107, if_neg h119, h9]) (trivial) (rfl)
              · refine lv_aload_n hx hb d_Mod_count_122 rfl (lv_at hl 3 rfl) ?_
                refine q_get S hw ly_Mod 0 rfl rfl 8 (by decide) tb_5_51 rfl rfl d_Mod_count_123 ?_
                refine lv_goto hx hb d_Mod_count_126 rfl ?_
                exact hw.riz S hr hlk (rfl) d_Mod_count_130 () (by unfold cV; rw [if_neg h51, if_neg h71, if_neg h83, if_neg h95, if_neg h107, if_pos h119]) (trivial) (rfl)
            · refine lv_aload_n hx hb d_Mod_count_110 rfl (lv_at hl 3 rfl) ?_
              refine q_get S hw ly_Mod 0 rfl rfl 12 (by decide) tb_5_55 rfl rfl d_Mod_count_111 ?_
              refine lv_goto hx hb d_Mod_count_114 rfl ?_
              exact hw.riz S hr hlk (rfl) d_Mod_count_130 () (by unfold cV; rw [if_neg h51, if_neg h71, if_neg h83, if_neg h95, if_pos h107]) (trivial) (rfl)
          · refine lv_aload_n hx hb d_Mod_count_98 rfl (lv_at hl 3 rfl) ?_
            refine q_get S hw ly_Mod 0 rfl rfl 11 (by decide) tb_5_54 rfl rfl d_Mod_count_99 ?_
            refine lv_goto hx hb d_Mod_count_102 rfl ?_
            exact hw.riz S hr hlk (rfl) d_Mod_count_130 () (by unfold cV; rw [if_neg h51, if_neg h71, if_neg h83, if_pos h95]) (trivial) (rfl)
        · refine lv_aload_n hx hb d_Mod_count_86 rfl (lv_at hl 3 rfl) ?_
          refine q_get S hw ly_Mod 0 rfl rfl 10 (by decide) tb_5_53 rfl rfl d_Mod_count_87 ?_
          refine lv_goto hx hb d_Mod_count_90 rfl ?_
          exact hw.riz S hr hlk (rfl) d_Mod_count_130 () (by unfold cV; rw [if_neg h51, if_neg h71, if_pos h83]) (trivial) (rfl)
      · refine lv_aload_n hx hb d_Mod_count_74 rfl (lv_at hl 3 rfl) ?_
        refine q_get S hw ly_Mod 0 rfl rfl 9 (by decide) tb_5_52 rfl rfl d_Mod_count_75 ?_
        refine lv_goto hx hb d_Mod_count_78 rfl ?_
        exact hw.riz S hr hlk (rfl) d_Mod_count_130 () (by unfold cV; rw [if_neg h51, if_pos h71]) (trivial) (rfl)
    · refine lv_aload_n hx hb d_Mod_count_54 rfl (lv_at hl 3 rfl) ?_
      refine q_get S hw ly_Mod 0 rfl rfl 14 (by decide) tb_5_57 rfl rfl d_Mod_count_55 ?_
      refine q_ifz_eq S d_Mod_count_58 rfl (fun h58 => ?_) (fun h58 => ?_)
      · refine lv_iconst (v := 0) hx hb d_Mod_count_65 (by decide) ?_
        refine lv_goto hx hb d_Mod_count_66 rfl ?_
        exact hw.riz S hr hlk (rfl) d_Mod_count_130 () (by unfold cV; rw [if_pos h51, if_pos h58]) (trivial) (rfl)
      · refine lv_iconst (v := 1) hx hb d_Mod_count_61 (by decide) ?_
        refine lv_goto hx hb d_Mod_count_62 rfl ?_
        exact hw.riz S hr hlk (rfl) d_Mod_count_130 () (by unfold cV; rw [if_pos h51, if_neg (tne h58)]) (trivial) (rfl)
  · have hz := lt_nge (c := 2048) (by decide) hI25 h29
    refine lv_aload_n hx hb d_Mod_count_32 rfl (lv_at hl 3 rfl) ?_
    refine q_get S hw ly_Mod 0 rfl rfl 4 (by decide) tb_5_47 rfl rfl d_Mod_count_33 ?_
    refine lv_iload_n hx hb d_Mod_count_36 rfl (lv_at hl 0 rfl) ?_
    refine q_zaldN (k := z) S hw 5 1 rfl rfl (by first | assumption | omega) (by decide) d_Mod_count_37 ?_
    refine q_ifz_eq S d_Mod_count_38 rfl (fun h38 => ?_) (fun h38 => ?_)
    · refine lv_iinc (k := 0) (v := (nI (z + 1))) (lv' := [(3, .int (nI (z + 1))), (2, .int (tS g z)), (1, .int x), (0, .ref mo)]) hx hb d_Mod_count_44 hl rfl (iinc1 z) (by decide) rfl (fun ls hl => ?_)
      refine lv_goto hx hb d_Mod_count_47 rfl ?_
      exact IH25 (z + 1) _ (hz) (by show 2048 - (z + 1) < 2048 - z; omega) (q_loc (l' := [(3, .int (nI (z + 1))), (2, .int (tS g (z + 1))), (1, .int x), (0, .ref mo)]) (lv_sub (l' := [(3, .int (nI (z + 1))), (2, .int (tS g z)), (1, .int x), (0, .ref mo)]) hl [0, 1, 2, 3] rfl) (by rw [show tS g (z + 1) = tS g z + (if gTag g (2 * z) = false then 0 else 1) from rfl, if_pos h38, Int32.add_zero]))
    · refine lv_iinc (k := 1) (v := ((tS g z) + (1 : Int32))) (lv' := [(2, .int ((tS g z) + (1 : Int32))), (3, .int (nI z)), (1, .int x), (0, .ref mo)]) hx hb d_Mod_count_41 hl rfl rfl (by decide) rfl (fun ls hl => ?_)
      refine lv_iinc (k := 1) (v := (nI (z + 1))) (lv' := [(3, .int (nI (z + 1))), (2, .int ((tS g z) + (1 : Int32))), (1, .int x), (0, .ref mo)]) hx hb d_Mod_count_44 hl rfl (iinc1 z) (by decide) rfl (fun ls hl => ?_)
      refine lv_goto hx hb d_Mod_count_47 rfl ?_
      exact IH25 (z + 1) _ (hz) (by show 2048 - (z + 1) < 2048 - z; omega) (q_loc (l' := [(3, .int (nI (z + 1))), (2, .int (tS g (z + 1))), (1, .int x), (0, .ref mo)]) (lv_sub (l' := [(3, .int (nI (z + 1))), (2, .int ((tS g z) + (1 : Int32))), (1, .int x), (0, .ref mo)]) hl [0, 1, 2, 3] rfl) (by rw [show tS g (z + 1) = tS g z + (if gTag g (2 * z) = false then 0 else 1) from rfl, if_neg (tne h38)]))
set_option maxHeartbeats 4000000 in
set_option maxRecDepth 100000 in
theorem c_Mod_countX (l : Launch) (D : va_G) (ti : Nat → ClassId) (mo : Nat) (am : Nat → Nat) (Q : Nat → Cap) (w g : Nat → Int32) (rb rt : Nat → Int64) (rp : Nat → Int32) (ro ca va st tr th : Int32) (ha : Bool) (pk : Int32) (xx : Bool) (rd : Int64) (to : Int32) (x : Int32) (hbd : x < 0 ∨ 6 < x) : Cg l y_Mod_count (wl y_Mod_count b_Mod_count 4 (some .int)) (rmL 1) D clz (ty4 ti) [.ref mo, .int x] (RMW mo am ti Q w g rb rt rp ro ca va st tr th ha pk xx rd to) (fun _ : Unit => some (.int 0)) (fun _ => (RMW mo am ti Q w g rb rt rp ro ca va st tr 1 ha pk xx rd to)) (fun _ => True) := by
  refine Cg.ofF (plainFor_of_name (by decide)) (Nat.le_of_ble_eq_true rfl) ?_
  intro p9 e9 s9 m9 b9 me9 c9 ls S hr hlk hl hw
  obtain ⟨hx, hb, hml, hown, hts⟩ := id S
  have hl : lv_has ls 4 [(0, .ref mo), (1, .int x)] := hl
  refine lv_iload_n hx hb d_Mod_count_0 rfl (lv_at hl 1 rfl) ?_
  refine lv_if_lt hx hb d_Mod_count_1 rfl (fun h1 => ?_) (fun h1 => ?_)
  · refine lv_aload_n hx hb d_Mod_count_10 rfl (lv_at hl 0 rfl) ?_
    refine lv_iconst (v := 1) hx hb d_Mod_count_11 (by decide) ?_
    refine q_cg (q_runV (As := [.int (1 : Int32)]) (rest := []) S (c_Mod_fail l D ti mo am Q w g rb rt rp ro ca va st tr th ha pk xx rd to (1 : Int32)) (cw_v hts tb_5_110 k_Mod_fail rfl rfl ⟨by decide, by decide⟩) hw 0 rfl rfl rfl hl.1 rfl (Nat.le_of_ble_eq_true rfl) d_Mod_count_12 ⟨Nat.zero_le _, Nat.zero_le _⟩) hw (fun z hD => qD_same hD rfl) (fun z9 H locs hp9 hw => ?_)
    refine W.eq (g2 := F0 m9 15 ls [.int (0 : Int32)]) rfl ?_
    have hw : Lv _ _ _ _ _ (RMW mo am ti Q w g rb rt rp ro ca va st tr (1 : Int32) ha pk xx rd to) _ _ _ := hw
    exact hw.riz S hr hlk (rfl) d_Mod_count_15 () (rfl) (trivial) (rfl)
  · refine lv_iload_n hx hb d_Mod_count_4 rfl (lv_at hl 1 rfl) ?_
    refine lv_bipush (v := 6) hx hb d_Mod_count_5 (by decide) ?_
    refine lv_icmp_le hx hb d_Mod_count_7 rfl (fun h7 => ?_) (fun h7 => ?_)
    · exact (hbd.elim h1 (Int32.not_lt.mpr h7)).elim
    · refine lv_aload_n hx hb d_Mod_count_10 rfl (lv_at hl 0 rfl) ?_
      refine lv_iconst (v := 1) hx hb d_Mod_count_11 (by decide) ?_
      refine q_cg (q_runV (As := [.int (1 : Int32)]) (rest := []) S (c_Mod_fail l D ti mo am Q w g rb rt rp ro ca va st tr th ha pk xx rd to (1 : Int32)) (cw_v hts tb_5_110 k_Mod_fail rfl rfl ⟨by decide, by decide⟩) hw 0 rfl rfl rfl hl.1 rfl (Nat.le_of_ble_eq_true rfl) d_Mod_count_12 ⟨Nat.zero_le _, Nat.zero_le _⟩) hw (fun z hD => qD_same hD rfl) (fun z9 H locs hp9 hw => ?_)
      refine W.eq (g2 := F0 m9 15 ls [.int (0 : Int32)]) rfl ?_
      have hw : Lv _ _ _ _ _ (RMW mo am ti Q w g rb rt rp ro ca va st tr (1 : Int32) ha pk xx rd to) _ _ _ := hw
      exact hw.riz S hr hlk (rfl) d_Mod_count_15 () (rfl) (trivial) (rfl)
set_option maxHeartbeats 4000000 in
set_option maxRecDepth 100000 in
theorem c_Mod_packPX (l : Launch) (D : va_G) (ti : Nat → ClassId) (mo : Nat) (am : Nat → Nat) (Q : Nat → Cap) (w g : Nat → Int32) (rb rt : Nat → Int64) (rp : Nat → Int32) (ro ca va st tr th : Int32) (ha : Bool) (pk : Int32) (xx : Bool) (rd : Int64) (to : Int32) (b : Int32) (n : Int64) (hbd : fitS b n = false) : Cg l y_Mod_packP (wl y_Mod_packP b_Mod_packP 4 (some .int)) (rmL 1) D clz (ty4 ti) [.ref mo, .int b, .long n] (RMW mo am ti Q w g rb rt rp ro ca va st tr th ha pk xx rd to) (fun _ : Unit => some (.int 0)) (fun _ => (RMW mo am ti Q w g rb rt rp ro ca va st tr 1 ha pk xx rd to)) (fun _ => True) := by
  refine Cg.ofF (plainFor_of_name (by decide)) (Nat.le_of_ble_eq_true rfl) ?_
  intro p9 e9 s9 m9 b9 me9 c9 ls S hr hlk hl hw
  obtain ⟨hx, hb, hml, hown, hts⟩ := id S
  have hl : lv_has ls 4 [(0, .ref mo), (1, .int b), (2, .long n)] := hl
  refine lv_lload_n hx hb d_Mod_packP_0 rfl (lv_at hl 2 rfl) ?_
  refine lv_lconst (v := 0) hx hb d_Mod_packP_1 (by decide) ?_
  refine q_lc_lt S d_Mod_packP_2 d_Mod_packP_3 rfl (fun h3 => ?_) (fun h3 => ?_)
  · refine lv_aload_n hx hb d_Mod_packP_27 rfl (lv_at hl 0 rfl) ?_
    refine lv_iconst (v := 1) hx hb d_Mod_packP_28 (by decide) ?_
    refine q_cg (q_runV (As := [.int (1 : Int32)]) (rest := []) S (c_Mod_fail l D ti mo am Q w g rb rt rp ro ca va st tr th ha pk xx rd to (1 : Int32)) (cw_v hts tb_5_110 k_Mod_fail rfl rfl ⟨by decide, by decide⟩) hw 0 rfl rfl rfl hl.1 rfl (Nat.le_of_ble_eq_true rfl) d_Mod_packP_29 ⟨Nat.zero_le _, Nat.zero_le _⟩) hw (fun z hD => qD_same hD rfl) (fun z9 H locs hp9 hw => ?_)
    refine W.eq (g2 := F0 m9 32 ls [.int (0 : Int32)]) rfl ?_
    have hw : Lv _ _ _ _ _ (RMW mo am ti Q w g rb rt rp ro ca va st tr (1 : Int32) ha pk xx rd to) _ _ _ := hw
    exact hw.riz S hr hlk (rfl) d_Mod_packP_32 () (rfl) (trivial) (rfl)
  · refine lv_iload_n hx hb d_Mod_packP_6 rfl (lv_at hl 1 rfl) ?_
    refine q_cr (q_runS (As := [.int b]) (rest := []) S ((c_Mod_low l D (ty4 ti) b).nil _) (cw_s hts tb_5_118 k_Mod_low rfl rfl ⟨by decide, by decide⟩) hw rfl hl.1 rfl (Nat.le_of_ble_eq_true rfl) d_Mod_packP_7 ⟨Nat.zero_le _, Nat.zero_le _⟩) ?_
    refine W.eq (g2 := F0 m9 10 ls [.long (cLow b)]) rfl ?_
    refine lv_lload_n hx hb d_Mod_packP_10 rfl (lv_at hl 2 rfl) ?_
    refine lv_ladd hx hb d_Mod_packP_11 ?_
    refine lv_ldc2 (v := 4294967296) hx hb hown (hts _ tb_5_122) d_Mod_packP_12 ?_
    refine q_lc_gt S d_Mod_packP_15 d_Mod_packP_16 rfl (fun h16 => ?_) (fun h16 => ?_)
    · refine lv_aload_n hx hb d_Mod_packP_27 rfl (lv_at hl 0 rfl) ?_
      refine lv_iconst (v := 1) hx hb d_Mod_packP_28 (by decide) ?_
      refine q_cg (q_runV (As := [.int (1 : Int32)]) (rest := []) S (c_Mod_fail l D ti mo am Q w g rb rt rp ro ca va st tr th ha pk xx rd to (1 : Int32)) (cw_v hts tb_5_110 k_Mod_fail rfl rfl ⟨by decide, by decide⟩) hw 0 rfl rfl rfl hl.1 rfl (Nat.le_of_ble_eq_true rfl) d_Mod_packP_29 ⟨Nat.zero_le _, Nat.zero_le _⟩) hw (fun z hD => qD_same hD rfl) (fun z9 H locs hp9 hw => ?_)
      refine W.eq (g2 := F0 m9 32 ls [.int (0 : Int32)]) rfl ?_
      have hw : Lv _ _ _ _ _ (RMW mo am ti Q w g rb rt rp ro ca va st tr (1 : Int32) ha pk xx rd to) _ _ _ := hw
      exact hw.riz S hr hlk (rfl) d_Mod_packP_32 () (rfl) (trivial) (rfl)
    · refine lv_lload_n hx hb d_Mod_packP_19 rfl (lv_at hl 2 rfl) ?_
      refine lv_ldc2 (v := 4294967296) hx hb hown (hts _ tb_5_122) d_Mod_packP_20 ?_
      refine q_lc_le S d_Mod_packP_23 d_Mod_packP_24 rfl (fun h24 => ?_) (fun h24 => ?_)
      · exact absurd (fit_f hbd h3 (Int64.not_lt.mpr h24)) h16
      · refine lv_aload_n hx hb d_Mod_packP_27 rfl (lv_at hl 0 rfl) ?_
        refine lv_iconst (v := 1) hx hb d_Mod_packP_28 (by decide) ?_
        refine q_cg (q_runV (As := [.int (1 : Int32)]) (rest := []) S (c_Mod_fail l D ti mo am Q w g rb rt rp ro ca va st tr th ha pk xx rd to (1 : Int32)) (cw_v hts tb_5_110 k_Mod_fail rfl rfl ⟨by decide, by decide⟩) hw 0 rfl rfl rfl hl.1 rfl (Nat.le_of_ble_eq_true rfl) d_Mod_packP_29 ⟨Nat.zero_le _, Nat.zero_le _⟩) hw (fun z hD => qD_same hD rfl) (fun z9 H locs hp9 hw => ?_)
        refine W.eq (g2 := F0 m9 32 ls [.int (0 : Int32)]) rfl ?_
        have hw : Lv _ _ _ _ _ (RMW mo am ti Q w g rb rt rp ro ca va st tr (1 : Int32) ha pk xx rd to) _ _ _ := hw
        exact hw.riz S hr hlk (rfl) d_Mod_packP_32 () (rfl) (trivial) (rfl)
set_option maxHeartbeats 4000000 in
set_option maxRecDepth 100000 in
theorem c_Mod_bound (l : Launch) (D : va_G) (ti : Nat → ClassId) (mo : Nat) (am : Nat → Nat) (Q : Nat → Cap) (w g : Nat → Int32) (rb rt : Nat → Int64) (rp : Nat → Int32) (ro ca va st tr th : Int32) (ha : Bool) (pk : Int32) (xx : Bool) (rd : Int64) (to : Int32) (me a : Int32) (tp : Bool) : Cg l y_Mod_bound (wl y_Mod_bound b_Mod_bound 4 (some .long)) (rmL 4) D clz (ty4 ti) [.ref mo, .int me, .int a, .int (jb tp)] (RMW mo am ti Q w g rb rt rp ro ca va st tr th ha pk xx rd to) (fun _ : Unit => some (.long (if tp = false then cbase (me &&& 32767) a else ctop (me &&& 32767) a))) (fun _ => (RMW mo am ti Q w g rb rt rp ro ca va st tr 0 ha pk xx rd to)) (fun _ => True) := by
  refine Cg.ofF (plainFor_of_name (by decide)) (Nat.le_of_ble_eq_true rfl) ?_
  intro p9 e9 s9 m9 b9 me9 c9 ls S hr hlk hl hw
  obtain ⟨hx, hb, hml, hown, hts⟩ := id S
  have hl : lv_has ls 4 [(0, .ref mo), (1, .int me), (2, .int a), (3, .int (jb tp))] := hl
  refine lv_aload_n hx hb d_Mod_bound_0 rfl (lv_at hl 0 rfl) ?_
  refine lv_iconst (v := 0) hx hb d_Mod_bound_1 (by decide) ?_
  refine q_put (v := .int (0 : Int32)) S hw ly_Mod t_Mod t_Mod_ok n_Mod 0 rfl rfl 13 (by decide) tb_5_56 rfl rfl rfl rfl (Nat.le_of_ble_eq_true rfl) d_Mod_bound_2 (fun H locs hw => ?_)
  have hw : Lv _ _ _ _ _ (RMW mo am ti Q w g rb rt rp ro ca va st tr (0 : Int32) ha pk xx rd to) _ _ _ := hw
  refine lv_iload_n hx hb d_Mod_bound_5 rfl (lv_at hl 3 rfl) ?_
  refine q_ifz_eq S d_Mod_bound_6 rfl (fun h6 => ?_) (fun h6 => ?_)
  · refine lv_iload_n hx hb d_Mod_bound_21 rfl (lv_at hl 1 rfl) ?_
    refine lv_sipush (v := 32767) hx hb d_Mod_bound_22 (by decide) ?_
    refine lv_iand hx hb d_Mod_bound_25 ?_
    refine lv_iload_n hx hb d_Mod_bound_26 rfl (lv_at hl 2 rfl) ?_
    refine q_cr (q_runS (As := [.int (me &&& (32767 : Int32)), .int a]) (rest := []) S ((c_Mod_base l D (ty4 ti) (me &&& (32767 : Int32)) a).nil _) (cw_s hts tb_5_135 k_Mod_base rfl rfl ⟨by decide, by decide⟩) hw rfl hl.1 rfl (Nat.le_of_ble_eq_true rfl) d_Mod_bound_27 ⟨Nat.zero_le _, Nat.zero_le _⟩) ?_
    refine W.eq (g2 := F0 m9 30 ls [.long (cbase (me &&& (32767 : Int32)) a)]) rfl ?_
    exact hw.rl S hr hlk d_Mod_bound_30 () (by rw [if_pos h6]) (trivial) (rfl)
  · refine lv_iload_n hx hb d_Mod_bound_9 rfl (lv_at hl 1 rfl) ?_
    refine lv_sipush (v := 32767) hx hb d_Mod_bound_10 (by decide) ?_
    refine lv_iand hx hb d_Mod_bound_13 ?_
    refine lv_iload_n hx hb d_Mod_bound_14 rfl (lv_at hl 2 rfl) ?_
    refine q_cr (q_runS (As := [.int (me &&& (32767 : Int32)), .int a]) (rest := []) S ((c_Mod_top l D (ty4 ti) (me &&& (32767 : Int32)) a).nil _) (cw_s hts tb_5_153 k_Mod_top rfl rfl ⟨by decide, by decide⟩) hw rfl hl.1 rfl (Nat.le_of_ble_eq_true rfl) d_Mod_bound_15 ⟨Nat.zero_le _, Nat.zero_le _⟩) ?_
    refine W.eq (g2 := F0 m9 18 ls [.long (ctop (me &&& (32767 : Int32)) a)]) rfl ?_
    refine lv_goto hx hb d_Mod_bound_18 rfl ?_
    exact hw.rl S hr hlk d_Mod_bound_30 () (by rw [if_neg (tne h6)]) (trivial) (rfl)
set_option maxHeartbeats 4000000 in
set_option maxRecDepth 100000 in
theorem c_Mod_check (l : Launch) (D : va_G) (ti : Nat → ClassId) (mo : Nat) (am : Nat → Nat) (Q : Nat → Cap) (w g : Nat → Int32) (rb rt : Nat → Int64) (rp : Nat → Int32) (ro ca va st tr th : Int32) (ha : Bool) (pk : Int32) (xx : Bool) (rd : Int64) (to : Int32) : Cg l y_Mod_check (wl y_Mod_check b_Mod_check 1 (some .int)) (rmL 0) D clz (ty4 ti) [.ref mo] (RMW mo am ti Q w g rb rt rp ro ca va st tr th ha pk xx rd to) (fun _ : Unit => some (.int 0)) (fun _ => (RMW mo am ti Q w g rb rt rp ro ca va st tr 0 ha pk xx rd to)) (fun _ => True) := by
  refine Cg.ofF (plainFor_of_name (by decide)) (Nat.le_of_ble_eq_true rfl) ?_
  intro p9 e9 s9 m9 b9 me9 c9 ls S hr hlk hl hw
  obtain ⟨hx, hb, hml, hown, hts⟩ := id S
  have hl : lv_has ls 1 [(0, .ref mo)] := hl
  refine lv_aload_n hx hb d_Mod_check_0 rfl (lv_at hl 0 rfl) ?_
  refine lv_iconst (v := 0) hx hb d_Mod_check_1 (by decide) ?_
  refine q_put (v := .int (0 : Int32)) S hw ly_Mod t_Mod t_Mod_ok n_Mod 0 rfl rfl 13 (by decide) tb_5_56 rfl rfl rfl rfl (Nat.le_of_ble_eq_true rfl) d_Mod_check_2 (fun H locs hw => ?_)
  have hw : Lv _ _ _ _ _ (RMW mo am ti Q w g rb rt rp ro ca va st tr (0 : Int32) ha pk xx rd to) _ _ _ := hw
  refine lv_iconst (v := 0) hx hb d_Mod_check_5 (by decide) ?_
  exact hw.riz S hr hlk (rfl) d_Mod_check_6 () (rfl) (trivial) (rfl)
set_option maxHeartbeats 4000000 in
set_option maxRecDepth 100000 in
theorem c_Mod_isOfRoot (l : Launch) (D : va_G) (ti : Nat → ClassId) (mo : Nat) (am : Nat → Nat) (Q : Nat → Cap) (w g : Nat → Int32) (rb rt : Nat → Int64) (rp : Nat → Int32) (m : Nat) (hm : m ≤ 8) (ca va st tr th : Int32) (ha : Bool) (pk : Int32) (xx : Bool) (rd : Int64) (to : Int32) (me a : Int32) : Cr l y_Mod_isOfRoot (wl y_Mod_isOfRoot b_Mod_isOfRoot 4 (some .boolean)) (rmL 4) D clz (ty4 ti) [.ref mo, .int me, .int a] (RMW mo am ti Q w g rb rt rp (nI m) ca va st tr th ha pk xx rd to) (some (.int (jb (anyR (rOf rb rt rp me a) m)))) := by
  refine Cr.ofF (plainFor_of_name (by decide)) (Nat.le_of_ble_eq_true rfl) ?_
  intro p9 e9 s9 m9 b9 me9 c9 ls S hr hlk hl hw
  obtain ⟨hx, hb, hml, hown, hts⟩ := id S
  have hl : lv_has ls 4 [(0, .ref mo), (1, .int me), (2, .int a)] := hl
  refine lv_iconst (v := 0) hx hb d_Mod_isOfRoot_0 (by decide) ?_
  refine lv_istore_n (lv' := [(3, .int (0 : Int32)), (0, .ref mo), (1, .int me), (2, .int a)]) hx hb d_Mod_isOfRoot_1 rfl hl (by decide) rfl (fun ls hl => ?_)
  refine q_loop (Z := Nat) (pcL := 2) (st := []) (nL := 4) (fun z => [(3, .int (nI z)), (2, .int a), (1, .int me), (0, .ref mo)]) (fun z => z ≤ m ∧ ∀ j, j < z → (rOf rb rt rp me a) j = false) (fun z => m - z) (fun z ls hI2 hl IH2 => ?_) 0 (⟨Nat.zero_le _, fun j hj => absurd hj (Nat.not_lt_zero j)⟩) (q_loc (l' := [(3, .int (nI 0)), (2, .int a), (1, .int me), (0, .ref mo)]) (lv_sub (l' := [(3, .int (0 : Int32)), (2, .int a), (1, .int me), (0, .ref mo)]) hl [0, 3, 2, 1] rfl) (rfl))
  have hl : lv_has ls 4 [(3, .int (nI z)), (2, .int a), (1, .int me), (0, .ref mo)] := hl
  refine lv_iload_n hx hb d_Mod_isOfRoot_2 rfl (lv_at hl 0 rfl) ?_
  refine lv_aload_n hx hb d_Mod_isOfRoot_3 rfl (lv_at hl 3 rfl) ?_
  refine q_get S hw ly_Mod 0 rfl rfl 8 (by decide) tb_5_51 rfl rfl d_Mod_isOfRoot_4 ?_
  refine lv_icmp_ge hx hb d_Mod_isOfRoot_7 rfl (fun h7 => ?_) (fun h7 => ?_)
  · refine lv_iconst (v := 0) hx hb d_Mod_isOfRoot_64 (by decide) ?_
    exact rd_i S hr hlk rfl d_Mod_isOfRoot_65 (by rw [anyR_f (f := (rOf rb rt rp me a)) (m := m) (fun j hj => hI2.2 j (by have := (nI_leI (a := m) (b := z) (by omega) (by omega)).mp h7; omega))]; rfl)
  · have hz := lt_nge (c := m) (by omega) hI2.1 h7
    refine lv_iload_n hx hb d_Mod_isOfRoot_10 rfl (lv_at hl 2 rfl) ?_
    refine lv_iload_n hx hb d_Mod_isOfRoot_11 rfl (lv_at hl 1 rfl) ?_
    refine q_cr (q_runS (As := [.int me, .int a]) (rest := []) S ((c_Mod_base l D (ty4 ti) me a).nil _) (cw_s hts tb_5_135 k_Mod_base rfl rfl ⟨by decide, by decide⟩) hw rfl hl.1 rfl (Nat.le_of_ble_eq_true rfl) d_Mod_isOfRoot_12 ⟨Nat.zero_le _, Nat.zero_le _⟩) ?_
    refine W.eq (g2 := F0 m9 15 ls [.long (cbase me a)]) rfl ?_
    refine lv_aload_n hx hb d_Mod_isOfRoot_15 rfl (lv_at hl 3 rfl) ?_
    refine q_get S hw ly_Mod 0 rfl rfl 5 (by decide) tb_5_48 rfl rfl d_Mod_isOfRoot_16 ?_
    refine lv_iload_n hx hb d_Mod_isOfRoot_19 rfl (lv_at hl 0 rfl) ?_
    refine q_laldN (k := z) S hw 6 2 rfl rfl (by first | assumption | omega) (by decide) d_Mod_isOfRoot_20 ?_
    refine q_lc_lt S d_Mod_isOfRoot_21 d_Mod_isOfRoot_22 rfl (fun h22 => ?_) (fun h22 => ?_)
    · refine lv_iinc (k := 0) (v := (nI (z + 1))) (lv' := [(3, .int (nI (z + 1))), (2, .int a), (1, .int me), (0, .ref mo)]) hx hb d_Mod_isOfRoot_58 hl rfl (iinc1 z) (by decide) rfl (fun ls hl => ?_)
      refine lv_goto hx hb d_Mod_isOfRoot_61 rfl ?_
      have hf : rOf rb rt rp me a z = false := by unfold rOf; rw [if_pos h22]
      exact IH2 (z + 1) _ (⟨hz, fun j hj => by rcases Nat.lt_or_ge j z with q | q; exact hI2.2 j q; rw [show j = z by omega]; exact hf⟩) (by show m - (z + 1) < m - z; omega) (lv_sub (l' := [(3, .int (nI (z + 1))), (2, .int a), (1, .int me), (0, .ref mo)]) hl [0, 1, 2, 3] rfl)
    · refine lv_iload_n hx hb d_Mod_isOfRoot_25 rfl (lv_at hl 2 rfl) ?_
      refine lv_iload_n hx hb d_Mod_isOfRoot_26 rfl (lv_at hl 1 rfl) ?_
      refine q_cr (q_runS (As := [.int me, .int a]) (rest := []) S ((c_Mod_top l D (ty4 ti) me a).nil _) (cw_s hts tb_5_153 k_Mod_top rfl rfl ⟨by decide, by decide⟩) hw rfl hl.1 rfl (Nat.le_of_ble_eq_true rfl) d_Mod_isOfRoot_27 ⟨Nat.zero_le _, Nat.zero_le _⟩) ?_
      refine W.eq (g2 := F0 m9 30 ls [.long (ctop me a)]) rfl ?_
      refine lv_aload_n hx hb d_Mod_isOfRoot_30 rfl (lv_at hl 3 rfl) ?_
      refine q_get S hw ly_Mod 0 rfl rfl 6 (by decide) tb_5_49 rfl rfl d_Mod_isOfRoot_31 ?_
      refine lv_iload_n hx hb d_Mod_isOfRoot_34 rfl (lv_at hl 0 rfl) ?_
      refine q_laldN (k := z) S hw 7 2 rfl rfl (by first | assumption | omega) (by decide) d_Mod_isOfRoot_35 ?_
      refine q_lc_gt S d_Mod_isOfRoot_36 d_Mod_isOfRoot_37 rfl (fun h37 => ?_) (fun h37 => ?_)
      · refine lv_iinc (k := 0) (v := (nI (z + 1))) (lv' := [(3, .int (nI (z + 1))), (2, .int a), (1, .int me), (0, .ref mo)]) hx hb d_Mod_isOfRoot_58 hl rfl (iinc1 z) (by decide) rfl (fun ls hl => ?_)
        refine lv_goto hx hb d_Mod_isOfRoot_61 rfl ?_
        have hf : rOf rb rt rp me a z = false := by unfold rOf; rw [if_neg h22, if_pos h37]
        exact IH2 (z + 1) _ (⟨hz, fun j hj => by rcases Nat.lt_or_ge j z with q | q; exact hI2.2 j q; rw [show j = z by omega]; exact hf⟩) (by show m - (z + 1) < m - z; omega) (lv_sub (l' := [(3, .int (nI (z + 1))), (2, .int a), (1, .int me), (0, .ref mo)]) hl [0, 1, 2, 3] rfl)
      · refine lv_iload_n hx hb d_Mod_isOfRoot_40 rfl (lv_at hl 2 rfl) ?_
        refine q_cr (q_runS (As := [.int me]) (rest := []) S ((c_Mod_perms l D (ty4 ti) me).nil _) (cw_s hts tb_5_191 k_Mod_perms rfl rfl ⟨by decide, by decide⟩) hw rfl hl.1 rfl (Nat.le_of_ble_eq_true rfl) d_Mod_isOfRoot_41 ⟨Nat.zero_le _, Nat.zero_le _⟩) ?_
        refine W.eq (g2 := F0 m9 44 ls [.int (cPerms me)]) rfl ?_
        refine lv_aload_n hx hb d_Mod_isOfRoot_44 rfl (lv_at hl 3 rfl) ?_
        refine q_get S hw ly_Mod 0 rfl rfl 7 (by decide) tb_5_50 rfl rfl d_Mod_isOfRoot_45 ?_
        refine lv_iload_n hx hb d_Mod_isOfRoot_48 rfl (lv_at hl 0 rfl) ?_
        refine q_ialdN (k := z) S hw 8 0 rfl rfl (by first | assumption | omega) (by decide) d_Mod_isOfRoot_49 ?_
        refine lv_iconst (v := -1) hx hb d_Mod_isOfRoot_50 (by decide) ?_
        refine lv_ixor hx hb d_Mod_isOfRoot_51 ?_
        refine lv_iand hx hb d_Mod_isOfRoot_52 ?_
        refine lv_if_ne hx hb d_Mod_isOfRoot_53 rfl (fun h53 => ?_) (fun h53 => ?_)
        · refine lv_iinc (k := 0) (v := (nI (z + 1))) (lv' := [(3, .int (nI (z + 1))), (2, .int a), (1, .int me), (0, .ref mo)]) hx hb d_Mod_isOfRoot_58 hl rfl (iinc1 z) (by decide) rfl (fun ls hl => ?_)
          refine lv_goto hx hb d_Mod_isOfRoot_61 rfl ?_
          have hf : rOf rb rt rp me a z = false := by unfold rOf; rw [if_neg h22, if_neg h37, if_neg h53]
          exact IH2 (z + 1) _ (⟨hz, fun j hj => by rcases Nat.lt_or_ge j z with q | q; exact hI2.2 j q; rw [show j = z by omega]; exact hf⟩) (by show m - (z + 1) < m - z; omega) (lv_sub (l' := [(3, .int (nI (z + 1))), (2, .int a), (1, .int me), (0, .ref mo)]) hl [0, 1, 2, 3] rfl)
        · refine lv_iconst (v := 1) hx hb d_Mod_isOfRoot_56 (by decide) ?_
          exact rd_i S hr hlk rfl d_Mod_isOfRoot_57 (by rw [anyR_t (f := (rOf rb rt rp me a)) hz (show (rOf rb rt rp me a) z = true by unfold rOf; rw [if_neg h22, if_neg h37, if_pos h53])]; rfl)
set_option maxHeartbeats 4000000 in
set_option maxRecDepth 100000 in
theorem c_Mod_grown (l : Launch) (D : va_G) (ti : Nat → ClassId) (mo : Nat) (am : Nat → Nat) (Q : Nat → Cap) (w g : Nat → Int32) (rb rt : Nat → Int64) (rp : Nat → Int32) (m : Nat) (hm : m ≤ 8) (ca va st tr th : Int32) (ha : Bool) (pk : Int32) (xx : Bool) (rd : Int64) (to : Int32) : Cg l y_Mod_grown (wl y_Mod_grown b_Mod_grown 3 (some .int)) (rmL 5) D clz (ty4 ti) [.ref mo] (RMW mo am ti Q w g rb rt rp (nI m) ca va st tr th ha pk xx rd to) (fun _ : Unit => some (.int (gq2 (mOut rb rt rp m) Q w g 2048))) (fun _ => (RMW mo am ti Q w g rb rt rp (nI m) ca va st tr 0 ha pk xx rd to)) (fun _ => True) := by
  refine Cg.ofF (plainFor_of_name (by decide)) (Nat.le_of_ble_eq_true rfl) ?_
  intro p9 e9 s9 m9 b9 me9 c9 ls S hr hlk hl hw
  obtain ⟨hx, hb, hml, hown, hts⟩ := id S
  have hl : lv_has ls 3 [(0, .ref mo)] := hl
  refine lv_aload_n hx hb d_Mod_grown_0 rfl (lv_at hl 0 rfl) ?_
  refine lv_iconst (v := 0) hx hb d_Mod_grown_1 (by decide) ?_
  refine q_put (v := .int (0 : Int32)) S hw ly_Mod t_Mod t_Mod_ok n_Mod 0 rfl rfl 13 (by decide) tb_5_56 rfl rfl rfl rfl (Nat.le_of_ble_eq_true rfl) d_Mod_grown_2 (fun H locs hw => ?_)
  have hw : Lv _ _ _ _ _ (RMW mo am ti Q w g rb rt rp (nI m) ca va st tr (0 : Int32) ha pk xx rd to) _ _ _ := hw
  refine lv_iconst (v := 0) hx hb d_Mod_grown_5 (by decide) ?_
  refine lv_istore_n (lv' := [(1, .int (0 : Int32)), (0, .ref mo)]) hx hb d_Mod_grown_6 rfl hl (by decide) rfl (fun ls hl => ?_)
  refine lv_iconst (v := 0) hx hb d_Mod_grown_7 (by decide) ?_
  refine lv_istore_n (lv' := [(2, .int (0 : Int32)), (1, .int (0 : Int32)), (0, .ref mo)]) hx hb d_Mod_grown_8 rfl hl (by decide) rfl (fun ls hl => ?_)
  refine q_loop (Z := Nat) (pcL := 9) (st := []) (nL := 3) (fun z => [(2, .int (nI z)), (1, .int (gq1 (mOut rb rt rp m) Q z)), (0, .ref mo)]) (fun z => z ≤ 37) (fun z => 37 - z) (fun z ls hI9 hl IH9 => ?_) 0 (Nat.zero_le _) (q_loc (l' := [(2, .int (nI 0)), (1, .int (gq1 (mOut rb rt rp m) Q 0)), (0, .ref mo)]) (lv_sub (l' := [(2, .int (0 : Int32)), (1, .int (0 : Int32)), (0, .ref mo)]) hl [0, 1, 2] rfl) (rfl))
  have hl : lv_has ls 3 [(2, .int (nI z)), (1, .int (gq1 (mOut rb rt rp m) Q z)), (0, .ref mo)] := hl
  refine lv_iload_n hx hb d_Mod_grown_9 rfl (lv_at hl 0 rfl) ?_
  refine lv_bipush (v := 37) hx hb d_Mod_grown_10 (by decide) ?_
  refine lv_icmp_ge hx hb d_Mod_grown_12 rfl (fun h12 => ?_) (fun h12 => ?_)
  · have h37 : z = 37 := by have := (nI_leI (a := 37) (b := z) (by decide) (by omega)).mp h12; omega
    refine lv_iconst (v := 0) hx hb d_Mod_grown_52 (by decide) ?_
    refine lv_istore_n (lv' := [(2, .int (0 : Int32)), (1, .int (gq1 (mOut rb rt rp m) Q z)), (0, .ref mo)]) hx hb d_Mod_grown_53 rfl hl (by decide) rfl (fun ls hl => ?_)
    refine q_loop (Z := Nat) (pcL := 54) (st := []) (nL := 3) (fun y => [(2, .int (nI y)), (1, .int (gq2 (mOut rb rt rp m) Q w g y)), (0, .ref mo)]) (fun y => y ≤ 2048) (fun y => 2048 - y) (fun y ls hI54 hl IH54 => ?_) 0 (Nat.zero_le _) (q_loc (l' := [(2, .int (nI 0)), (1, .int (gq2 (mOut rb rt rp m) Q w g 0)), (0, .ref mo)]) (lv_sub (l' := [(2, .int (0 : Int32)), (1, .int (gq1 (mOut rb rt rp m) Q z)), (0, .ref mo)]) hl [0, 1, 2] rfl) (by rw [show gq2 (mOut rb rt rp m) Q w g 0 = gq1 (mOut rb rt rp m) Q 37 from rfl, h37]; rfl))
    have hl : lv_has ls 3 [(2, .int (nI y)), (1, .int (gq2 (mOut rb rt rp m) Q w g y)), (0, .ref mo)] := hl
    refine lv_iload_n hx hb d_Mod_grown_54 rfl (lv_at hl 0 rfl) ?_
    refine lv_sipush (v := 2048) hx hb d_Mod_grown_55 (by decide) ?_
    refine lv_icmp_ge hx hb d_Mod_grown_58 rfl (fun h58 => ?_) (fun h58 => ?_)
    · have h9 : y = 2048 := by have := (nI_leI (a := 2048) (b := y) (by decide) (by omega)).mp h58; omega
      refine lv_iload_n hx hb d_Mod_grown_107 rfl (lv_at hl 1 rfl) ?_
      exact hw.riz S hr hlk (rfl) d_Mod_grown_108 () (by rw [h9]) (trivial) (rfl)
    · have hy := lt_nge (c := 2048) (by decide) hI54 h58
      refine lv_aload_n hx hb d_Mod_grown_61 rfl (lv_at hl 2 rfl) ?_
      refine q_get S hw ly_Mod 0 rfl rfl 4 (by decide) tb_5_47 rfl rfl d_Mod_grown_62 ?_
      refine lv_iload_n hx hb d_Mod_grown_65 rfl (lv_at hl 0 rfl) ?_
      refine q_zaldN (k := y) S hw 5 1 rfl rfl (by first | assumption | omega) (by decide) d_Mod_grown_66 ?_
      refine q_ifz_eq S d_Mod_grown_67 rfl (fun h67 => ?_) (fun h67 => ?_)
      · refine lv_iinc (k := 0) (v := (nI (y + 1))) (lv' := [(2, .int (nI (y + 1))), (1, .int (gq2 (mOut rb rt rp m) Q w g y)), (0, .ref mo)]) hx hb d_Mod_grown_101 hl rfl (iinc1 y) (by decide) rfl (fun ls hl => ?_)
        refine lv_goto hx hb d_Mod_grown_104 rfl ?_
        exact IH54 (y + 1) _ (hy) (by show 2048 - (y + 1) < 2048 - y; omega) (q_loc (l' := [(2, .int (nI (y + 1))), (1, .int (gq2 (mOut rb rt rp m) Q w g (y + 1))), (0, .ref mo)]) (lv_sub (l' := [(2, .int (nI (y + 1))), (1, .int (gq2 (mOut rb rt rp m) Q w g y)), (0, .ref mo)]) hl [0, 1, 2] rfl) (by rw [show gq2 (mOut rb rt rp m) Q w g (y + 1) = (if gTag g (2 * y) = false then gq2 (mOut rb rt rp m) Q w g y else gq2 (mOut rb rt rp m) Q w g y + (if (mOut rb rt rp m) (true, w (2 * y), w (2 * y + 1) ^^^ 1000194) = false then 0 else 1)) from rfl, if_pos h67]))
      · refine lv_aload_n hx hb d_Mod_grown_70 rfl (lv_at hl 2 rfl) ?_
        refine lv_aload_n hx hb d_Mod_grown_71 rfl (lv_at hl 2 rfl) ?_
        refine q_get S hw ly_Mod 0 rfl rfl 3 (by decide) tb_5_46 rfl rfl d_Mod_grown_72 ?_
        refine lv_iconst (v := 2) hx hb d_Mod_grown_75 (by decide) ?_
        refine lv_iload_n hx hb d_Mod_grown_76 rfl (lv_at hl 0 rfl) ?_
        refine lv_imul hx hb d_Mod_grown_77 ?_
        refine q_topi (z := nI (2 * y)) (pk_mul 2 y) ?_
        refine lv_iconst (v := 1) hx hb d_Mod_grown_78 (by decide) ?_
        refine lv_iadd hx hb d_Mod_grown_79 ?_
        refine q_topi (z := nI ((2 * y) + 1)) (nI_add (2 * y) 1) ?_
        refine q_ialdN (k := (2 * y) + 1) S hw 4 0 rfl rfl (by first | assumption | omega) (by decide) d_Mod_grown_80 ?_
        refine lv_ldc (v := 1000194) hx hb hown (hts _ tb_5_42) d_Mod_grown_81 ?_
        refine lv_ixor hx hb d_Mod_grown_83 ?_
        refine lv_aload_n hx hb d_Mod_grown_84 rfl (lv_at hl 2 rfl) ?_
        refine q_get S hw ly_Mod 0 rfl rfl 3 (by decide) tb_5_46 rfl rfl d_Mod_grown_85 ?_
        refine lv_iconst (v := 2) hx hb d_Mod_grown_88 (by decide) ?_
        refine lv_iload_n hx hb d_Mod_grown_89 rfl (lv_at hl 0 rfl) ?_
        refine lv_imul hx hb d_Mod_grown_90 ?_
        refine q_topi (z := nI (2 * y)) (pk_mul 2 y) ?_
        refine q_ialdN (k := 2 * y) S hw 4 0 rfl rfl (by first | assumption | omega) (by decide) d_Mod_grown_91 ?_
        refine q_cr (q_runV (As := [.int ((w ((2 * y) + 1)) ^^^ (1000194 : Int32)), .int (w (2 * y))]) (rest := []) S (c_Mod_isOfRoot l D ti mo am Q w g rb rt rp m hm ca va st tr (0 : Int32) ha pk xx rd to ((w ((2 * y) + 1)) ^^^ (1000194 : Int32)) (w (2 * y))) (cw_v hts tb_6_86 k_Mod_isOfRoot rfl rfl ⟨by decide, by decide⟩) hw 0 rfl rfl rfl hl.1 rfl (Nat.le_of_ble_eq_true rfl) d_Mod_grown_92 ⟨Nat.zero_le _, Nat.zero_le _⟩) ?_
        refine W.eq (g2 := F0 m9 95 ls [.int (jb (anyR (rOf rb rt rp ((w ((2 * y) + 1)) ^^^ (1000194 : Int32)) (w (2 * y))) m))]) rfl ?_
        refine q_ifz_ne S d_Mod_grown_95 rfl (fun h95 => ?_) (fun h95 => ?_)
        · refine lv_iinc (k := 0) (v := (nI (y + 1))) (lv' := [(2, .int (nI (y + 1))), (1, .int (gq2 (mOut rb rt rp m) Q w g y)), (0, .ref mo)]) hx hb d_Mod_grown_101 hl rfl (iinc1 y) (by decide) rfl (fun ls hl => ?_)
          refine lv_goto hx hb d_Mod_grown_104 rfl ?_
          exact IH54 (y + 1) _ (hy) (by show 2048 - (y + 1) < 2048 - y; omega) (q_loc (l' := [(2, .int (nI (y + 1))), (1, .int (gq2 (mOut rb rt rp m) Q w g (y + 1))), (0, .ref mo)]) (lv_sub (l' := [(2, .int (nI (y + 1))), (1, .int (gq2 (mOut rb rt rp m) Q w g y)), (0, .ref mo)]) hl [0, 1, 2] rfl) (by rw [show gq2 (mOut rb rt rp m) Q w g (y + 1) = (if gTag g (2 * y) = false then gq2 (mOut rb rt rp m) Q w g y else gq2 (mOut rb rt rp m) Q w g y + (if (mOut rb rt rp m) (true, w (2 * y), w (2 * y + 1) ^^^ 1000194) = false then 0 else 1)) from rfl, if_neg (tne h67), if_pos (mO_1 (c := (true, w (2 * y), w (2 * y + 1) ^^^ 1000194)) h95), Int32.add_zero]))
        · refine lv_iinc (k := 1) (v := ((gq2 (mOut rb rt rp m) Q w g y) + (1 : Int32))) (lv' := [(1, .int ((gq2 (mOut rb rt rp m) Q w g y) + (1 : Int32))), (2, .int (nI y)), (0, .ref mo)]) hx hb d_Mod_grown_98 hl rfl rfl (by decide) rfl (fun ls hl => ?_)
          refine lv_iinc (k := 1) (v := (nI (y + 1))) (lv' := [(2, .int (nI (y + 1))), (1, .int ((gq2 (mOut rb rt rp m) Q w g y) + (1 : Int32))), (0, .ref mo)]) hx hb d_Mod_grown_101 hl rfl (iinc1 y) (by decide) rfl (fun ls hl => ?_)
          refine lv_goto hx hb d_Mod_grown_104 rfl ?_
          exact IH54 (y + 1) _ (hy) (by show 2048 - (y + 1) < 2048 - y; omega) (q_loc (l' := [(2, .int (nI (y + 1))), (1, .int (gq2 (mOut rb rt rp m) Q w g (y + 1))), (0, .ref mo)]) (lv_sub (l' := [(2, .int (nI (y + 1))), (1, .int ((gq2 (mOut rb rt rp m) Q w g y) + (1 : Int32))), (0, .ref mo)]) hl [0, 1, 2] rfl) (by rw [show gq2 (mOut rb rt rp m) Q w g (y + 1) = (if gTag g (2 * y) = false then gq2 (mOut rb rt rp m) Q w g y else gq2 (mOut rb rt rp m) Q w g y + (if (mOut rb rt rp m) (true, w (2 * y), w (2 * y + 1) ^^^ 1000194) = false then 0 else 1)) from rfl, if_neg (tne h67), if_neg (tne (mO_2 (c := (true, w (2 * y), w (2 * y + 1) ^^^ 1000194)) rfl h95))]))
  · have hz := lt_nge (c := 37) (by decide) hI9 h12
    refine lv_aload_n hx hb d_Mod_grown_15 rfl (lv_at hl 2 rfl) ?_
    refine q_get S hw ly_Mod 0 rfl rfl 0 (by decide) tb_5_43 rfl rfl d_Mod_grown_16 ?_
    refine lv_iload_n hx hb d_Mod_grown_19 rfl (lv_at hl 0 rfl) ?_
    refine q_zaldN (k := z) S hw 1 1 rfl rfl (by first | assumption | omega) (by decide) d_Mod_grown_20 ?_
    refine q_ifz_eq S d_Mod_grown_21 rfl (fun h21 => ?_) (fun h21 => ?_)
    · refine lv_iinc (k := 0) (v := (nI (z + 1))) (lv' := [(2, .int (nI (z + 1))), (1, .int (gq1 (mOut rb rt rp m) Q z)), (0, .ref mo)]) hx hb d_Mod_grown_46 hl rfl (iinc1 z) (by decide) rfl (fun ls hl => ?_)
      refine lv_goto hx hb d_Mod_grown_49 rfl ?_
      exact IH9 (z + 1) _ (hz) (by show 37 - (z + 1) < 37 - z; omega) (q_loc (l' := [(2, .int (nI (z + 1))), (1, .int (gq1 (mOut rb rt rp m) Q (z + 1))), (0, .ref mo)]) (lv_sub (l' := [(2, .int (nI (z + 1))), (1, .int (gq1 (mOut rb rt rp m) Q z)), (0, .ref mo)]) hl [0, 1, 2] rfl) (by rw [show gq1 (mOut rb rt rp m) Q (z + 1) = gq1 (mOut rb rt rp m) Q z + (if (mOut rb rt rp m) (Q z) = false then 0 else 1) from rfl, if_pos (mO_0 h21), Int32.add_zero]))
    · refine lv_aload_n hx hb d_Mod_grown_24 rfl (lv_at hl 2 rfl) ?_
      refine lv_aload_n hx hb d_Mod_grown_25 rfl (lv_at hl 2 rfl) ?_
      refine q_get S hw ly_Mod 0 rfl rfl 2 (by decide) tb_5_45 rfl rfl d_Mod_grown_26 ?_
      refine lv_iload_n hx hb d_Mod_grown_29 rfl (lv_at hl 0 rfl) ?_
      refine q_ialdN (k := z) S hw 3 0 rfl rfl (by first | assumption | omega) (by decide) d_Mod_grown_30 ?_
      refine lv_aload_n hx hb d_Mod_grown_31 rfl (lv_at hl 2 rfl) ?_
      refine q_get S hw ly_Mod 0 rfl rfl 1 (by decide) tb_5_44 rfl rfl d_Mod_grown_32 ?_
      refine lv_iload_n hx hb d_Mod_grown_35 rfl (lv_at hl 0 rfl) ?_
      refine q_ialdN (k := z) S hw 2 0 rfl rfl (by first | assumption | omega) (by decide) d_Mod_grown_36 ?_
      refine q_cr (q_runV (As := [.int ((Q z).2.2), .int ((Q z).2.1)]) (rest := []) S (c_Mod_isOfRoot l D ti mo am Q w g rb rt rp m hm ca va st tr (0 : Int32) ha pk xx rd to ((Q z).2.2) ((Q z).2.1)) (cw_v hts tb_6_86 k_Mod_isOfRoot rfl rfl ⟨by decide, by decide⟩) hw 0 rfl rfl rfl hl.1 rfl (Nat.le_of_ble_eq_true rfl) d_Mod_grown_37 ⟨Nat.zero_le _, Nat.zero_le _⟩) ?_
      refine W.eq (g2 := F0 m9 40 ls [.int (jb (anyR (rOf rb rt rp ((Q z).2.2) ((Q z).2.1)) m))]) rfl ?_
      refine q_ifz_ne S d_Mod_grown_40 rfl (fun h40 => ?_) (fun h40 => ?_)
      · refine lv_iinc (k := 0) (v := (nI (z + 1))) (lv' := [(2, .int (nI (z + 1))), (1, .int (gq1 (mOut rb rt rp m) Q z)), (0, .ref mo)]) hx hb d_Mod_grown_46 hl rfl (iinc1 z) (by decide) rfl (fun ls hl => ?_)
        refine lv_goto hx hb d_Mod_grown_49 rfl ?_
        exact IH9 (z + 1) _ (hz) (by show 37 - (z + 1) < 37 - z; omega) (q_loc (l' := [(2, .int (nI (z + 1))), (1, .int (gq1 (mOut rb rt rp m) Q (z + 1))), (0, .ref mo)]) (lv_sub (l' := [(2, .int (nI (z + 1))), (1, .int (gq1 (mOut rb rt rp m) Q z)), (0, .ref mo)]) hl [0, 1, 2] rfl) (by rw [show gq1 (mOut rb rt rp m) Q (z + 1) = gq1 (mOut rb rt rp m) Q z + (if (mOut rb rt rp m) (Q z) = false then 0 else 1) from rfl, if_pos (mO_1 h40), Int32.add_zero]))
      · refine lv_iinc (k := 1) (v := ((gq1 (mOut rb rt rp m) Q z) + (1 : Int32))) (lv' := [(1, .int ((gq1 (mOut rb rt rp m) Q z) + (1 : Int32))), (2, .int (nI z)), (0, .ref mo)]) hx hb d_Mod_grown_43 hl rfl rfl (by decide) rfl (fun ls hl => ?_)
        refine lv_iinc (k := 1) (v := (nI (z + 1))) (lv' := [(2, .int (nI (z + 1))), (1, .int ((gq1 (mOut rb rt rp m) Q z) + (1 : Int32))), (0, .ref mo)]) hx hb d_Mod_grown_46 hl rfl (iinc1 z) (by decide) rfl (fun ls hl => ?_)
        refine lv_goto hx hb d_Mod_grown_49 rfl ?_
        exact IH9 (z + 1) _ (hz) (by show 37 - (z + 1) < 37 - z; omega) (q_loc (l' := [(2, .int (nI (z + 1))), (1, .int (gq1 (mOut rb rt rp m) Q (z + 1))), (0, .ref mo)]) (lv_sub (l' := [(2, .int (nI (z + 1))), (1, .int ((gq1 (mOut rb rt rp m) Q z) + (1 : Int32))), (0, .ref mo)]) hl [0, 1, 2] rfl) (by rw [show gq1 (mOut rb rt rp m) Q (z + 1) = gq1 (mOut rb rt rp m) Q z + (if (mOut rb rt rp m) (Q z) = false then 0 else 1) from rfl, if_neg (tne (mO_2 h21 h40))]))
set_option maxHeartbeats 4000000 in
set_option maxRecDepth 100000 in
theorem c_Mod_root (l : Launch) (D : va_G) (ti : Nat → ClassId) (mo : Nat) (am : Nat → Nat) (Q : Nat → Cap) (w g : Nat → Int32) (rb rt : Nat → Int64) (rp : Nat → Int32) (m : Nat) (hm : m < 8) (ca va st tr th : Int32) (ha : Bool) (pk : Int32) (xx : Bool) (rd : Int64) (to : Int32) (r : Nat) (h1 : 1 ≤ r) (h37 : r < 37) (b n p : Int32) (hf : fitS b n.toInt64 = true) (hp0 : ¬ p < 0) (hp1 : p ≤ 4095) : Cg l y_Mod_root (wl y_Mod_root b_Mod_root 5 (some .int)) (rmL 4) D clz (ty4 ti) [.ref mo, .int (nI r), .int b, .int n, .int p] (RMW mo am ti Q w g rb rt rp (nI m) ca va st tr th ha pk xx rd to) (fun _ : Unit => some (.int (cbase (rtM b n p) b).toInt32)) (fun _ => (RMW mo am ti (va_up Q r (true, b, rtM b n p)) w g (vp_updL rb m (cbase (rtM b n p) b)) (vp_updL rt m (ctop (rtM b n p) b)) (upd rp m p) (nI (m + 1)) ca va st tr 0 ha (kBits (cLow b) (cLow b + n.toInt64)) (kEx (cLow b) (cLow b + n.toInt64)) (kLen (cLow b) (cLow b + n.toInt64)) to)) (fun _ => True) := by
  refine Cg.ofF (plainFor_of_name (by decide)) (Nat.le_of_ble_eq_true rfl) ?_
  intro p9 e9 s9 m9 b9 me9 c9 ls S hr hlk hl hw
  obtain ⟨hx, hb, hml, hown, hts⟩ := id S
  have hl : lv_has ls 5 [(0, .ref mo), (1, .int (nI r)), (2, .int b), (3, .int n), (4, .int p)] := hl
  obtain ⟨L, en, hL⟩ := fit_n hf
  have hr0 : ¬ nI r = 0 := nI_ne0 (by omega) (by omega)
  refine lv_iload_n hx hb d_Mod_root_0 rfl (lv_at hl 1 rfl) ?_
  refine lv_iconst (v := 1) hx hb d_Mod_root_1 (by decide) ?_
  refine lv_icmp_lt hx hb d_Mod_root_2 rfl (fun h => absurd h (nI_nlt (a := r) (b := 1) h1 (by omega))) (fun _ => ?_)
  refine lv_iload_n hx hb d_Mod_root_5 rfl (lv_at hl 1 rfl) ?_
  refine lv_bipush (v := 37) hx hb d_Mod_root_6 (by decide) ?_
  refine lv_icmp_lt hx hb d_Mod_root_8 rfl (fun _ => ?_) (fun h => absurd h (not_not_intro (nI_lt (a := r) (b := 37) h37 (by decide))))
  refine lv_iload_n hx hb d_Mod_root_17 rfl (lv_at hl 3 rfl) ?_
  refine lv_if_lt hx hb d_Mod_root_18 rfl (fun h => absurd h (fun q => (fit_t hf).1 ((i_l0 n).mpr q))) (fun _ => ?_)
  refine lv_iload_n hx hb d_Mod_root_21 rfl (lv_at hl 2 rfl) ?_
  refine q_cr (q_runS (As := [.int b]) (rest := []) S ((c_Mod_low l D (ty4 ti) b).nil _) (cw_s hts tb_5_118 k_Mod_low rfl rfl ⟨by decide, by decide⟩) hw rfl hl.1 rfl (Nat.le_of_ble_eq_true rfl) d_Mod_root_22 ⟨Nat.zero_le _, Nat.zero_le _⟩) ?_
  refine W.eq (g2 := F0 m9 25 ls [.long (cLow b)]) rfl ?_
  refine lv_iload_n hx hb d_Mod_root_25 rfl (lv_at hl 3 rfl) ?_
  refine lv_i2l (v := (n.toInt64)) hx hb d_Mod_root_26 rfl ?_
  refine lv_ladd hx hb d_Mod_root_27 ?_
  refine lv_ldc2 (v := 4294967296) hx hb hown (hts _ tb_5_122) d_Mod_root_28 ?_
  refine q_lc_gt S d_Mod_root_31 d_Mod_root_32 rfl (fun h32 => ?_) (fun h32 => ?_)
  · exact absurd h32 (fit_t hf).2.1
  · refine lv_iload hx hb d_Mod_root_35 (lv_at hl 4 rfl) ?_
    refine lv_if_lt hx hb d_Mod_root_37 rfl (fun h => absurd h (hp0)) (fun _ => ?_)
    refine lv_iload hx hb d_Mod_root_40 (lv_at hl 4 rfl) ?_
    refine lv_sipush (v := 4095) hx hb d_Mod_root_42 (by decide) ?_
    refine lv_icmp_le hx hb d_Mod_root_45 rfl (fun _ => ?_) (fun h => absurd h (not_not_intro hp1))
    refine lv_aload_n hx hb d_Mod_root_54 rfl (lv_at hl 0 rfl) ?_
    refine q_get S hw ly_Mod 0 rfl rfl 8 (by decide) tb_5_51 rfl rfl d_Mod_root_55 ?_
    refine lv_bipush (v := 8) hx hb d_Mod_root_58 (by decide) ?_
    refine lv_icmp_ne hx hb d_Mod_root_60 rfl (fun _ => ?_) (fun h => absurd h (fun q => by have := nI_inj (b := 8) (by omega) (by decide) q; omega))
    refine lv_aload_n hx hb d_Mod_root_69 rfl (lv_at hl 0 rfl) ?_
    refine lv_iconst (v := 0) hx hb d_Mod_root_70 (by decide) ?_
    refine q_put (v := .int (0 : Int32)) S hw ly_Mod t_Mod t_Mod_ok n_Mod 0 rfl rfl 13 (by decide) tb_5_56 rfl rfl rfl rfl (Nat.le_of_ble_eq_true rfl) d_Mod_root_71 (fun H locs hw => ?_)
    have hw : Lv _ _ _ _ _ (RMW mo am ti Q w g rb rt rp (nI m) ca va st tr (0 : Int32) ha pk xx rd to) _ _ _ := hw
    refine lv_aload_n hx hb d_Mod_root_74 rfl (lv_at hl 0 rfl) ?_
    refine lv_iload_n hx hb d_Mod_root_75 rfl (lv_at hl 2 rfl) ?_
    refine q_cr (q_runS (As := [.int b]) (rest := [.ref mo]) S ((c_Mod_low l D (ty4 ti) b).nil _) (cw_s hts tb_5_118 k_Mod_low rfl rfl ⟨by decide, by decide⟩) hw rfl hl.1 rfl (Nat.le_of_ble_eq_true rfl) d_Mod_root_76 ⟨Nat.zero_le _, Nat.zero_le _⟩) ?_
    refine W.eq (g2 := F0 m9 79 ls [.long (cLow b), .ref mo]) rfl ?_
    refine lv_iload_n hx hb d_Mod_root_79 rfl (lv_at hl 2 rfl) ?_
    refine q_cr (q_runS (As := [.int b]) (rest := [.long (cLow b), .ref mo]) S ((c_Mod_low l D (ty4 ti) b).nil _) (cw_s hts tb_5_118 k_Mod_low rfl rfl ⟨by decide, by decide⟩) hw rfl hl.1 rfl (Nat.le_of_ble_eq_true rfl) d_Mod_root_80 ⟨Nat.zero_le _, Nat.zero_le _⟩) ?_
    refine W.eq (g2 := F0 m9 83 ls [.long (cLow b), .long (cLow b), .ref mo]) rfl ?_
    refine lv_iload_n hx hb d_Mod_root_83 rfl (lv_at hl 3 rfl) ?_
    refine lv_i2l (v := (n.toInt64)) hx hb d_Mod_root_84 rfl ?_
    refine lv_ladd hx hb d_Mod_root_85 ?_
    refine q_cg (q_runV (As := [.long (cLow b), .long ((cLow b) + (n.toInt64))]) (rest := []) S (c_Mod_packE l D ti mo am Q w g rb rt rp (nI m) ca va st tr (0 : Int32) ha pk xx rd to (cLow b) ((cLow b) + (n.toInt64)) b.toBitVec.toNat (b.toBitVec.toNat + L) (cLow_n _) (by rw [cLow_n, en, lN_add]) (by omega) hL) (cw_v hts tb_5_123 k_Mod_pack rfl rfl ⟨by decide, by decide⟩) hw 0 rfl rfl rfl hl.1 rfl (Nat.le_of_ble_eq_true rfl) d_Mod_root_86 ⟨Nat.zero_le _, Nat.zero_le _⟩) hw (fun z hD => qD_same hD rfl) (fun z9 H locs hp9 hw => ?_)
    refine W.eq (g2 := F0 m9 89 ls []) rfl ?_
    have hw : Lv _ _ _ _ _ (RMW mo am ti Q w g rb rt rp (nI m) ca va st tr (0 : Int32) ha (kBits (cLow b) ((cLow b) + (n.toInt64))) (kEx (cLow b) ((cLow b) + (n.toInt64))) (kLen (cLow b) ((cLow b) + (n.toInt64))) to) _ _ _ := hw
    refine lv_aload_n hx hb d_Mod_root_89 rfl (lv_at hl 0 rfl) ?_
    refine lv_iload_n hx hb d_Mod_root_90 rfl (lv_at hl 1 rfl) ?_
    refine lv_iconst (v := 1) hx hb d_Mod_root_91 (by decide) ?_
    refine lv_iload_n hx hb d_Mod_root_92 rfl (lv_at hl 2 rfl) ?_
    refine lv_iload hx hb d_Mod_root_93 (lv_at hl 4 rfl) ?_
    refine lv_bipush (v := 20) hx hb d_Mod_root_95 (by decide) ?_
    refine lv_ishl hx hb d_Mod_root_97 ?_
    refine lv_ldc (v := 983040) hx hb hown (hts _ tb_5_130) d_Mod_root_98 ?_
    refine lv_ior hx hb d_Mod_root_100 ?_
    refine lv_aload_n hx hb d_Mod_root_101 rfl (lv_at hl 0 rfl) ?_
    refine q_get S hw ly_Mod 0 rfl rfl 15 (by decide) tb_5_58 rfl rfl d_Mod_root_102 ?_
    refine lv_ior hx hb d_Mod_root_105 ?_
    refine q_cg (q_runV (As := [.int (nI r), .int (jb true), .int b, .int (((p <<< ((20 : Int32) &&& 31)) ||| (983040 : Int32)) ||| (kBits (cLow b) ((cLow b) + (n.toInt64))))]) (rest := []) S (c_Mod_set l D ti mo am Q w g rb rt rp (nI m) ca va st tr (0 : Int32) ha (kBits (cLow b) ((cLow b) + (n.toInt64))) (kEx (cLow b) ((cLow b) + (n.toInt64))) (kLen (cLow b) ((cLow b) + (n.toInt64))) to r (by first | decide | omega) true b (((p <<< ((20 : Int32) &&& 31)) ||| (983040 : Int32)) ||| (kBits (cLow b) ((cLow b) + (n.toInt64))))) (cw_v hts tb_5_131 k_Mod_set rfl rfl ⟨by decide, by decide⟩) hw 0 rfl rfl rfl hl.1 rfl (Nat.le_of_ble_eq_true rfl) d_Mod_root_106 ⟨Nat.zero_le _, Nat.zero_le _⟩) hw (fun z hD => qD_same hD rfl) (fun z9 H locs hp9 hw => ?_)
    refine W.eq (g2 := F0 m9 109 ls []) rfl ?_
    have hw : Lv _ _ _ _ _ (RMW mo am ti (rSet Q r (true, b, (((p <<< ((20 : Int32) &&& 31)) ||| (983040 : Int32)) ||| (kBits (cLow b) ((cLow b) + (n.toInt64)))))) w g rb rt rp (nI m) ca va st tr (0 : Int32) ha (kBits (cLow b) ((cLow b) + (n.toInt64))) (kEx (cLow b) ((cLow b) + (n.toInt64))) (kLen (cLow b) ((cLow b) + (n.toInt64))) to) _ _ _ := hw
    refine lv_aload_n hx hb d_Mod_root_109 rfl (lv_at hl 0 rfl) ?_
    refine q_get S hw ly_Mod 0 rfl rfl 5 (by decide) tb_5_48 rfl rfl d_Mod_root_110 ?_
    refine lv_aload_n hx hb d_Mod_root_113 rfl (lv_at hl 0 rfl) ?_
    refine q_get S hw ly_Mod 0 rfl rfl 8 (by decide) tb_5_51 rfl rfl d_Mod_root_114 ?_
    refine q_topi (z := (nI m)) (rfl) ?_
    refine lv_aload_n hx hb d_Mod_root_117 rfl (lv_at hl 0 rfl) ?_
    refine q_get S hw ly_Mod 0 rfl rfl 2 (by decide) tb_5_45 rfl rfl d_Mod_root_118 ?_
    refine lv_iload_n hx hb d_Mod_root_121 rfl (lv_at hl 1 rfl) ?_
    refine q_ialdN (k := r) S hw 3 0 rfl rfl (by first | assumption | omega) (by decide) d_Mod_root_122 ?_
    refine q_topi (z := (rtM b n p)) (by rw [rS_c hr0, va_up_self]; rfl) ?_
    refine lv_iload_n hx hb d_Mod_root_123 rfl (lv_at hl 2 rfl) ?_
    refine q_cr (q_runS (As := [.int (rtM b n p), .int b]) (rest := [.int (nI m), .ref (am 5)]) S ((c_Mod_base l D (ty4 ti) (rtM b n p) b).nil _) (cw_s hts tb_5_135 k_Mod_base rfl rfl ⟨by decide, by decide⟩) hw rfl hl.1 rfl (Nat.le_of_ble_eq_true rfl) d_Mod_root_124 ⟨Nat.zero_le _, Nat.zero_le _⟩) ?_
    refine W.eq (g2 := F0 m9 127 ls [.long (cbase (rtM b n p) b), .int (nI m), .ref (am 5)]) rfl ?_
    refine q_lastN (k := m) S hw 6 2 rfl rfl (by first | assumption | omega) (by decide) d_Mod_root_127 (fun H locs hw => ?_)
    have hw : Lv _ _ _ _ _ (RMW mo am ti (rSet Q r (true, b, (((p <<< ((20 : Int32) &&& 31)) ||| (983040 : Int32)) ||| (kBits (cLow b) ((cLow b) + (n.toInt64)))))) w g (vp_updL rb m (cbase (rtM b n p) b)) rt rp (nI m) ca va st tr (0 : Int32) ha (kBits (cLow b) ((cLow b) + (n.toInt64))) (kEx (cLow b) ((cLow b) + (n.toInt64))) (kLen (cLow b) ((cLow b) + (n.toInt64))) to) _ _ _ := hw
    refine lv_aload_n hx hb d_Mod_root_128 rfl (lv_at hl 0 rfl) ?_
    refine q_get S hw ly_Mod 0 rfl rfl 6 (by decide) tb_5_49 rfl rfl d_Mod_root_129 ?_
    refine lv_aload_n hx hb d_Mod_root_132 rfl (lv_at hl 0 rfl) ?_
    refine q_get S hw ly_Mod 0 rfl rfl 8 (by decide) tb_5_51 rfl rfl d_Mod_root_133 ?_
    refine q_topi (z := (nI m)) (rfl) ?_
    refine lv_aload_n hx hb d_Mod_root_136 rfl (lv_at hl 0 rfl) ?_
    refine q_get S hw ly_Mod 0 rfl rfl 2 (by decide) tb_5_45 rfl rfl d_Mod_root_137 ?_
    refine lv_iload_n hx hb d_Mod_root_140 rfl (lv_at hl 1 rfl) ?_
    refine q_ialdN (k := r) S hw 3 0 rfl rfl (by first | assumption | omega) (by decide) d_Mod_root_141 ?_
    refine q_topi (z := (rtM b n p)) (by rw [rS_c hr0, va_up_self]; rfl) ?_
    refine lv_iload_n hx hb d_Mod_root_142 rfl (lv_at hl 2 rfl) ?_
    refine q_cr (q_runS (As := [.int (rtM b n p), .int b]) (rest := [.int (nI m), .ref (am 6)]) S ((c_Mod_top l D (ty4 ti) (rtM b n p) b).nil _) (cw_s hts tb_5_153 k_Mod_top rfl rfl ⟨by decide, by decide⟩) hw rfl hl.1 rfl (Nat.le_of_ble_eq_true rfl) d_Mod_root_143 ⟨Nat.zero_le _, Nat.zero_le _⟩) ?_
    refine W.eq (g2 := F0 m9 146 ls [.long (ctop (rtM b n p) b), .int (nI m), .ref (am 6)]) rfl ?_
    refine q_lastN (k := m) S hw 7 2 rfl rfl (by first | assumption | omega) (by decide) d_Mod_root_146 (fun H locs hw => ?_)
    have hw : Lv _ _ _ _ _ (RMW mo am ti (rSet Q r (true, b, (((p <<< ((20 : Int32) &&& 31)) ||| (983040 : Int32)) ||| (kBits (cLow b) ((cLow b) + (n.toInt64)))))) w g (vp_updL rb m (cbase (rtM b n p) b)) (vp_updL rt m (ctop (rtM b n p) b)) rp (nI m) ca va st tr (0 : Int32) ha (kBits (cLow b) ((cLow b) + (n.toInt64))) (kEx (cLow b) ((cLow b) + (n.toInt64))) (kLen (cLow b) ((cLow b) + (n.toInt64))) to) _ _ _ := hw
    refine lv_aload_n hx hb d_Mod_root_147 rfl (lv_at hl 0 rfl) ?_
    refine q_get S hw ly_Mod 0 rfl rfl 7 (by decide) tb_5_50 rfl rfl d_Mod_root_148 ?_
    refine lv_aload_n hx hb d_Mod_root_151 rfl (lv_at hl 0 rfl) ?_
    refine q_get S hw ly_Mod 0 rfl rfl 8 (by decide) tb_5_51 rfl rfl d_Mod_root_152 ?_
    refine q_topi (z := (nI m)) (rfl) ?_
    refine lv_iload hx hb d_Mod_root_155 (lv_at hl 4 rfl) ?_
    refine q_iastN (k := m) S hw 8 0 rfl rfl (by first | assumption | omega) (by decide) d_Mod_root_157 (fun H locs hw => ?_)
    have hw : Lv _ _ _ _ _ (RMW mo am ti (rSet Q r (true, b, (((p <<< ((20 : Int32) &&& 31)) ||| (983040 : Int32)) ||| (kBits (cLow b) ((cLow b) + (n.toInt64)))))) w g (vp_updL rb m (cbase (rtM b n p) b)) (vp_updL rt m (ctop (rtM b n p) b)) (upd rp m p) (nI m) ca va st tr (0 : Int32) ha (kBits (cLow b) ((cLow b) + (n.toInt64))) (kEx (cLow b) ((cLow b) + (n.toInt64))) (kLen (cLow b) ((cLow b) + (n.toInt64))) to) _ _ _ := hw
    refine lv_aload_n hx hb d_Mod_root_158 rfl (lv_at hl 0 rfl) ?_
    refine lv_dup hx hb d_Mod_root_159 rfl ?_
    refine q_get S hw ly_Mod 0 rfl rfl 8 (by decide) tb_5_51 rfl rfl d_Mod_root_160 ?_
    refine q_topi (z := (nI m)) (rfl) ?_
    refine lv_iconst (v := 1) hx hb d_Mod_root_163 (by decide) ?_
    refine lv_iadd hx hb d_Mod_root_164 ?_
    refine q_topi (z := nI (m + 1)) (nI_add m 1) ?_
    refine q_put (v := .int (nI (m + 1))) S hw ly_Mod t_Mod t_Mod_ok n_Mod 0 rfl rfl 8 (by decide) tb_5_51 rfl rfl rfl rfl (Nat.le_of_ble_eq_true rfl) d_Mod_root_165 (fun H locs hw => ?_)
    have hw : Lv _ _ _ _ _ (RMW mo am ti (rSet Q r (true, b, (((p <<< ((20 : Int32) &&& 31)) ||| (983040 : Int32)) ||| (kBits (cLow b) ((cLow b) + (n.toInt64)))))) w g (vp_updL rb m (cbase (rtM b n p) b)) (vp_updL rt m (ctop (rtM b n p) b)) (upd rp m p) (nI (m + 1)) ca va st tr (0 : Int32) ha (kBits (cLow b) ((cLow b) + (n.toInt64))) (kEx (cLow b) ((cLow b) + (n.toInt64))) (kLen (cLow b) ((cLow b) + (n.toInt64))) to) _ _ _ := hw
    refine lv_aload_n hx hb d_Mod_root_168 rfl (lv_at hl 0 rfl) ?_
    refine q_get S hw ly_Mod 0 rfl rfl 2 (by decide) tb_5_45 rfl rfl d_Mod_root_169 ?_
    refine lv_iload_n hx hb d_Mod_root_172 rfl (lv_at hl 1 rfl) ?_
    refine q_ialdN (k := r) S hw 3 0 rfl rfl (by first | assumption | omega) (by decide) d_Mod_root_173 ?_
    refine q_topi (z := (rtM b n p)) (by rw [rS_c hr0, va_up_self]; rfl) ?_
    refine lv_iload_n hx hb d_Mod_root_174 rfl (lv_at hl 2 rfl) ?_
    refine q_cr (q_runS (As := [.int (rtM b n p), .int b]) (rest := []) S ((c_Mod_base l D (ty4 ti) (rtM b n p) b).nil _) (cw_s hts tb_5_135 k_Mod_base rfl rfl ⟨by decide, by decide⟩) hw rfl hl.1 rfl (Nat.le_of_ble_eq_true rfl) d_Mod_root_175 ⟨Nat.zero_le _, Nat.zero_le _⟩) ?_
    refine W.eq (g2 := F0 m9 178 ls [.long (cbase (rtM b n p) b)]) rfl ?_
    refine lv_l2i (v := ((cbase (rtM b n p) b).toInt32)) hx hb d_Mod_root_178 rfl ?_
    exact hw.riz S hr hlk (rfl) d_Mod_root_179 () (rfl) (trivial) (by rw [rS_c hr0]; rfl)
set_option maxHeartbeats 4000000 in
set_option maxRecDepth 100000 in
theorem c_Mod_rootX (l : Launch) (D : va_G) (ti : Nat → ClassId) (mo : Nat) (am : Nat → Nat) (Q : Nat → Cap) (w g : Nat → Int32) (rb rt : Nat → Int64) (rp : Nat → Int32) (ro ca va st tr th : Int32) (ha : Bool) (pk : Int32) (xx : Bool) (rd : Int64) (to : Int32) (r : Int32) (hbd : r < 1 ∨ 37 ≤ r) (b n p : Int32) : Cg l y_Mod_root (wl y_Mod_root b_Mod_root 5 (some .int)) (rmL 4) D clz (ty4 ti) [.ref mo, .int r, .int b, .int n, .int p] (RMW mo am ti Q w g rb rt rp ro ca va st tr th ha pk xx rd to) (fun _ : Unit => some (.int 0)) (fun _ => (RMW mo am ti Q w g rb rt rp ro ca va st tr 1 ha pk xx rd to)) (fun _ => True) := by
  refine Cg.ofF (plainFor_of_name (by decide)) (Nat.le_of_ble_eq_true rfl) ?_
  intro p9 e9 s9 m9 b9 me9 c9 ls S hr hlk hl hw
  obtain ⟨hx, hb, hml, hown, hts⟩ := id S
  have hl : lv_has ls 5 [(0, .ref mo), (1, .int r), (2, .int b), (3, .int n), (4, .int p)] := hl
  refine lv_iload_n hx hb d_Mod_root_0 rfl (lv_at hl 1 rfl) ?_
  refine lv_iconst (v := 1) hx hb d_Mod_root_1 (by decide) ?_
  refine lv_icmp_lt hx hb d_Mod_root_2 rfl (fun h2 => ?_) (fun h2 => ?_)
  · refine lv_aload_n hx hb d_Mod_root_11 rfl (lv_at hl 0 rfl) ?_
    refine lv_iconst (v := 1) hx hb d_Mod_root_12 (by decide) ?_
    refine q_cg (q_runV (As := [.int (1 : Int32)]) (rest := []) S (c_Mod_fail l D ti mo am Q w g rb rt rp ro ca va st tr th ha pk xx rd to (1 : Int32)) (cw_v hts tb_5_110 k_Mod_fail rfl rfl ⟨by decide, by decide⟩) hw 0 rfl rfl rfl hl.1 rfl (Nat.le_of_ble_eq_true rfl) d_Mod_root_13 ⟨Nat.zero_le _, Nat.zero_le _⟩) hw (fun z hD => qD_same hD rfl) (fun z9 H locs hp9 hw => ?_)
    refine W.eq (g2 := F0 m9 16 ls [.int (0 : Int32)]) rfl ?_
    have hw : Lv _ _ _ _ _ (RMW mo am ti Q w g rb rt rp ro ca va st tr (1 : Int32) ha pk xx rd to) _ _ _ := hw
    exact hw.riz S hr hlk (rfl) d_Mod_root_16 () (rfl) (trivial) (rfl)
  · refine lv_iload_n hx hb d_Mod_root_5 rfl (lv_at hl 1 rfl) ?_
    refine lv_bipush (v := 37) hx hb d_Mod_root_6 (by decide) ?_
    refine lv_icmp_lt hx hb d_Mod_root_8 rfl (fun h8 => ?_) (fun h8 => ?_)
    · exact (hbd.elim h2 (Int32.not_le.mpr h8)).elim
    · refine lv_aload_n hx hb d_Mod_root_11 rfl (lv_at hl 0 rfl) ?_
      refine lv_iconst (v := 1) hx hb d_Mod_root_12 (by decide) ?_
      refine q_cg (q_runV (As := [.int (1 : Int32)]) (rest := []) S (c_Mod_fail l D ti mo am Q w g rb rt rp ro ca va st tr th ha pk xx rd to (1 : Int32)) (cw_v hts tb_5_110 k_Mod_fail rfl rfl ⟨by decide, by decide⟩) hw 0 rfl rfl rfl hl.1 rfl (Nat.le_of_ble_eq_true rfl) d_Mod_root_13 ⟨Nat.zero_le _, Nat.zero_le _⟩) hw (fun z hD => qD_same hD rfl) (fun z9 H locs hp9 hw => ?_)
      refine W.eq (g2 := F0 m9 16 ls [.int (0 : Int32)]) rfl ?_
      have hw : Lv _ _ _ _ _ (RMW mo am ti Q w g rb rt rp ro ca va st tr (1 : Int32) ha pk xx rd to) _ _ _ := hw
      exact hw.riz S hr hlk (rfl) d_Mod_root_16 () (rfl) (trivial) (rfl)
set_option maxHeartbeats 4000000 in
set_option maxRecDepth 100000 in
theorem c_Mod_rootY (l : Launch) (D : va_G) (ti : Nat → ClassId) (mo : Nat) (am : Nat → Nat) (Q : Nat → Cap) (w g : Nat → Int32) (rb rt : Nat → Int64) (rp : Nat → Int32) (ro ca va st tr th : Int32) (ha : Bool) (pk : Int32) (xx : Bool) (rd : Int64) (to : Int32) (r : Nat) (h1 : 1 ≤ r) (h36 : r < 37) (b n p : Int32) (hbd : fitS b n.toInt64 = false ∨ p < 0 ∨ 4095 < p) : Cg l y_Mod_root (wl y_Mod_root b_Mod_root 5 (some .int)) (rmL 4) D clz (ty4 ti) [.ref mo, .int (nI r), .int b, .int n, .int p] (RMW mo am ti Q w g rb rt rp ro ca va st tr th ha pk xx rd to) (fun _ : Unit => some (.int 0)) (fun _ => (RMW mo am ti Q w g rb rt rp ro ca va st tr 2 ha pk xx rd to)) (fun _ => True) := by
  refine Cg.ofF (plainFor_of_name (by decide)) (Nat.le_of_ble_eq_true rfl) ?_
  intro p9 e9 s9 m9 b9 me9 c9 ls S hr hlk hl hw
  obtain ⟨hx, hb, hml, hown, hts⟩ := id S
  have hl : lv_has ls 5 [(0, .ref mo), (1, .int (nI r)), (2, .int b), (3, .int n), (4, .int p)] := hl
  refine lv_iload_n hx hb d_Mod_root_0 rfl (lv_at hl 1 rfl) ?_
  refine lv_iconst (v := 1) hx hb d_Mod_root_1 (by decide) ?_
  refine lv_icmp_lt hx hb d_Mod_root_2 rfl (fun h => absurd h (nI_nlt (a := r) (b := 1) h1 (by omega))) (fun _ => ?_)
  refine lv_iload_n hx hb d_Mod_root_5 rfl (lv_at hl 1 rfl) ?_
  refine lv_bipush (v := 37) hx hb d_Mod_root_6 (by decide) ?_
  refine lv_icmp_lt hx hb d_Mod_root_8 rfl (fun _ => ?_) (fun h => absurd h (not_not_intro (nI_lt (a := r) (b := 37) h36 (by decide))))
  refine lv_iload_n hx hb d_Mod_root_17 rfl (lv_at hl 3 rfl) ?_
  refine lv_if_lt hx hb d_Mod_root_18 rfl (fun h18 => ?_) (fun h18 => ?_)
  · refine lv_aload_n hx hb d_Mod_root_48 rfl (lv_at hl 0 rfl) ?_
    refine lv_iconst (v := 2) hx hb d_Mod_root_49 (by decide) ?_
    refine q_cg (q_runV (As := [.int (2 : Int32)]) (rest := []) S (c_Mod_fail l D ti mo am Q w g rb rt rp ro ca va st tr th ha pk xx rd to (2 : Int32)) (cw_v hts tb_5_110 k_Mod_fail rfl rfl ⟨by decide, by decide⟩) hw 0 rfl rfl rfl hl.1 rfl (Nat.le_of_ble_eq_true rfl) d_Mod_root_50 ⟨Nat.zero_le _, Nat.zero_le _⟩) hw (fun z hD => qD_same hD rfl) (fun z9 H locs hp9 hw => ?_)
    refine W.eq (g2 := F0 m9 53 ls [.int (0 : Int32)]) rfl ?_
    have hw : Lv _ _ _ _ _ (RMW mo am ti Q w g rb rt rp ro ca va st tr (2 : Int32) ha pk xx rd to) _ _ _ := hw
    exact hw.riz S hr hlk (rfl) d_Mod_root_53 () (rfl) (trivial) (rfl)
  · refine lv_iload_n hx hb d_Mod_root_21 rfl (lv_at hl 2 rfl) ?_
    refine q_cr (q_runS (As := [.int b]) (rest := []) S ((c_Mod_low l D (ty4 ti) b).nil _) (cw_s hts tb_5_118 k_Mod_low rfl rfl ⟨by decide, by decide⟩) hw rfl hl.1 rfl (Nat.le_of_ble_eq_true rfl) d_Mod_root_22 ⟨Nat.zero_le _, Nat.zero_le _⟩) ?_
    refine W.eq (g2 := F0 m9 25 ls [.long (cLow b)]) rfl ?_
    refine lv_iload_n hx hb d_Mod_root_25 rfl (lv_at hl 3 rfl) ?_
    refine lv_i2l (v := (n.toInt64)) hx hb d_Mod_root_26 rfl ?_
    refine lv_ladd hx hb d_Mod_root_27 ?_
    refine lv_ldc2 (v := 4294967296) hx hb hown (hts _ tb_5_122) d_Mod_root_28 ?_
    refine q_lc_gt S d_Mod_root_31 d_Mod_root_32 rfl (fun h32 => ?_) (fun h32 => ?_)
    · refine lv_aload_n hx hb d_Mod_root_48 rfl (lv_at hl 0 rfl) ?_
      refine lv_iconst (v := 2) hx hb d_Mod_root_49 (by decide) ?_
      refine q_cg (q_runV (As := [.int (2 : Int32)]) (rest := []) S (c_Mod_fail l D ti mo am Q w g rb rt rp ro ca va st tr th ha pk xx rd to (2 : Int32)) (cw_v hts tb_5_110 k_Mod_fail rfl rfl ⟨by decide, by decide⟩) hw 0 rfl rfl rfl hl.1 rfl (Nat.le_of_ble_eq_true rfl) d_Mod_root_50 ⟨Nat.zero_le _, Nat.zero_le _⟩) hw (fun z hD => qD_same hD rfl) (fun z9 H locs hp9 hw => ?_)
      refine W.eq (g2 := F0 m9 53 ls [.int (0 : Int32)]) rfl ?_
      have hw : Lv _ _ _ _ _ (RMW mo am ti Q w g rb rt rp ro ca va st tr (2 : Int32) ha pk xx rd to) _ _ _ := hw
      exact hw.riz S hr hlk (rfl) d_Mod_root_53 () (rfl) (trivial) (rfl)
    · refine lv_iload hx hb d_Mod_root_35 (lv_at hl 4 rfl) ?_
      refine lv_if_lt hx hb d_Mod_root_37 rfl (fun h37 => ?_) (fun h37 => ?_)
      · refine lv_aload_n hx hb d_Mod_root_48 rfl (lv_at hl 0 rfl) ?_
        refine lv_iconst (v := 2) hx hb d_Mod_root_49 (by decide) ?_
        refine q_cg (q_runV (As := [.int (2 : Int32)]) (rest := []) S (c_Mod_fail l D ti mo am Q w g rb rt rp ro ca va st tr th ha pk xx rd to (2 : Int32)) (cw_v hts tb_5_110 k_Mod_fail rfl rfl ⟨by decide, by decide⟩) hw 0 rfl rfl rfl hl.1 rfl (Nat.le_of_ble_eq_true rfl) d_Mod_root_50 ⟨Nat.zero_le _, Nat.zero_le _⟩) hw (fun z hD => qD_same hD rfl) (fun z9 H locs hp9 hw => ?_)
        refine W.eq (g2 := F0 m9 53 ls [.int (0 : Int32)]) rfl ?_
        have hw : Lv _ _ _ _ _ (RMW mo am ti Q w g rb rt rp ro ca va st tr (2 : Int32) ha pk xx rd to) _ _ _ := hw
        exact hw.riz S hr hlk (rfl) d_Mod_root_53 () (rfl) (trivial) (rfl)
      · refine lv_iload hx hb d_Mod_root_40 (lv_at hl 4 rfl) ?_
        refine lv_sipush (v := 4095) hx hb d_Mod_root_42 (by decide) ?_
        refine lv_icmp_le hx hb d_Mod_root_45 rfl (fun h45 => ?_) (fun h45 => ?_)
        · rcases hbd with q | q | q
          · exact absurd (fit_f q (fun z => h18 ((i_l0 n).mp z)) (i_lA n)) h32
          · exact absurd q h37
          · exact absurd q (Int32.not_lt.mpr h45)
        · refine lv_aload_n hx hb d_Mod_root_48 rfl (lv_at hl 0 rfl) ?_
          refine lv_iconst (v := 2) hx hb d_Mod_root_49 (by decide) ?_
          refine q_cg (q_runV (As := [.int (2 : Int32)]) (rest := []) S (c_Mod_fail l D ti mo am Q w g rb rt rp ro ca va st tr th ha pk xx rd to (2 : Int32)) (cw_v hts tb_5_110 k_Mod_fail rfl rfl ⟨by decide, by decide⟩) hw 0 rfl rfl rfl hl.1 rfl (Nat.le_of_ble_eq_true rfl) d_Mod_root_50 ⟨Nat.zero_le _, Nat.zero_le _⟩) hw (fun z hD => qD_same hD rfl) (fun z9 H locs hp9 hw => ?_)
          refine W.eq (g2 := F0 m9 53 ls [.int (0 : Int32)]) rfl ?_
          have hw : Lv _ _ _ _ _ (RMW mo am ti Q w g rb rt rp ro ca va st tr (2 : Int32) ha pk xx rd to) _ _ _ := hw
          exact hw.riz S hr hlk (rfl) d_Mod_root_53 () (rfl) (trivial) (rfl)
set_option maxHeartbeats 4000000 in
set_option maxRecDepth 100000 in
theorem c_Mod_rootZ (l : Launch) (D : va_G) (ti : Nat → ClassId) (mo : Nat) (am : Nat → Nat) (Q : Nat → Cap) (w g : Nat → Int32) (rb rt : Nat → Int64) (rp : Nat → Int32) (ca va st tr th : Int32) (ha : Bool) (pk : Int32) (xx : Bool) (rd : Int64) (to : Int32) (r : Nat) (h1 : 1 ≤ r) (h37 : r < 37) (b n p : Int32) (hf : fitS b n.toInt64 = true) (hp0 : ¬ p < 0) (hp1 : p ≤ 4095) : Cg l y_Mod_root (wl y_Mod_root b_Mod_root 5 (some .int)) (rmL 4) D clz (ty4 ti) [.ref mo, .int (nI r), .int b, .int n, .int p] (RMW mo am ti Q w g rb rt rp (nI 8) ca va st tr th ha pk xx rd to) (fun _ : Unit => some (.int 0)) (fun _ => (RMW mo am ti Q w g rb rt rp (nI 8) ca va st tr 3 ha pk xx rd to)) (fun _ => True) := by
  refine Cg.ofF (plainFor_of_name (by decide)) (Nat.le_of_ble_eq_true rfl) ?_
  intro p9 e9 s9 m9 b9 me9 c9 ls S hr hlk hl hw
  obtain ⟨hx, hb, hml, hown, hts⟩ := id S
  have hl : lv_has ls 5 [(0, .ref mo), (1, .int (nI r)), (2, .int b), (3, .int n), (4, .int p)] := hl
  refine lv_iload_n hx hb d_Mod_root_0 rfl (lv_at hl 1 rfl) ?_
  refine lv_iconst (v := 1) hx hb d_Mod_root_1 (by decide) ?_
  refine lv_icmp_lt hx hb d_Mod_root_2 rfl (fun h => absurd h (nI_nlt (a := r) (b := 1) h1 (by omega))) (fun _ => ?_)
  refine lv_iload_n hx hb d_Mod_root_5 rfl (lv_at hl 1 rfl) ?_
  refine lv_bipush (v := 37) hx hb d_Mod_root_6 (by decide) ?_
  refine lv_icmp_lt hx hb d_Mod_root_8 rfl (fun _ => ?_) (fun h => absurd h (not_not_intro (nI_lt (a := r) (b := 37) h37 (by decide))))
  refine lv_iload_n hx hb d_Mod_root_17 rfl (lv_at hl 3 rfl) ?_
  refine lv_if_lt hx hb d_Mod_root_18 rfl (fun h => absurd h (fun q => (fit_t hf).1 ((i_l0 n).mpr q))) (fun _ => ?_)
  refine lv_iload_n hx hb d_Mod_root_21 rfl (lv_at hl 2 rfl) ?_
  refine q_cr (q_runS (As := [.int b]) (rest := []) S ((c_Mod_low l D (ty4 ti) b).nil _) (cw_s hts tb_5_118 k_Mod_low rfl rfl ⟨by decide, by decide⟩) hw rfl hl.1 rfl (Nat.le_of_ble_eq_true rfl) d_Mod_root_22 ⟨Nat.zero_le _, Nat.zero_le _⟩) ?_
  refine W.eq (g2 := F0 m9 25 ls [.long (cLow b)]) rfl ?_
  refine lv_iload_n hx hb d_Mod_root_25 rfl (lv_at hl 3 rfl) ?_
  refine lv_i2l (v := (n.toInt64)) hx hb d_Mod_root_26 rfl ?_
  refine lv_ladd hx hb d_Mod_root_27 ?_
  refine lv_ldc2 (v := 4294967296) hx hb hown (hts _ tb_5_122) d_Mod_root_28 ?_
  refine q_lc_gt S d_Mod_root_31 d_Mod_root_32 rfl (fun h32 => ?_) (fun h32 => ?_)
  · exact absurd h32 (fit_t hf).2.1
  · refine lv_iload hx hb d_Mod_root_35 (lv_at hl 4 rfl) ?_
    refine lv_if_lt hx hb d_Mod_root_37 rfl (fun h => absurd h (hp0)) (fun _ => ?_)
    refine lv_iload hx hb d_Mod_root_40 (lv_at hl 4 rfl) ?_
    refine lv_sipush (v := 4095) hx hb d_Mod_root_42 (by decide) ?_
    refine lv_icmp_le hx hb d_Mod_root_45 rfl (fun _ => ?_) (fun h => absurd h (not_not_intro hp1))
    refine lv_aload_n hx hb d_Mod_root_54 rfl (lv_at hl 0 rfl) ?_
    refine q_get S hw ly_Mod 0 rfl rfl 8 (by decide) tb_5_51 rfl rfl d_Mod_root_55 ?_
    refine lv_bipush (v := 8) hx hb d_Mod_root_58 (by decide) ?_
    refine lv_icmp_ne hx hb d_Mod_root_60 rfl (fun h60 => ?_) (fun h60 => ?_)
    · exact absurd rfl h60
    · refine lv_aload_n hx hb d_Mod_root_63 rfl (lv_at hl 0 rfl) ?_
      refine lv_iconst (v := 3) hx hb d_Mod_root_64 (by decide) ?_
      refine q_cg (q_runV (As := [.int (3 : Int32)]) (rest := []) S (c_Mod_fail l D ti mo am Q w g rb rt rp (nI 8) ca va st tr th ha pk xx rd to (3 : Int32)) (cw_v hts tb_5_110 k_Mod_fail rfl rfl ⟨by decide, by decide⟩) hw 0 rfl rfl rfl hl.1 rfl (Nat.le_of_ble_eq_true rfl) d_Mod_root_65 ⟨Nat.zero_le _, Nat.zero_le _⟩) hw (fun z hD => qD_same hD rfl) (fun z9 H locs hp9 hw => ?_)
      refine W.eq (g2 := F0 m9 68 ls [.int (0 : Int32)]) rfl ?_
      have hw : Lv _ _ _ _ _ (RMW mo am ti Q w g rb rt rp (nI 8) ca va st tr (3 : Int32) ha pk xx rd to) _ _ _ := hw
      exact hw.riz S hr hlk (rfl) d_Mod_root_68 () (rfl) (trivial) (rfl)
set_option maxHeartbeats 4000000 in
set_option maxRecDepth 100000 in
theorem c_Mod_runX (l : Launch) (D : va_G) (ti : Nat → ClassId) (mo : Nat) (am : Nat → Nat) (Q : Nat → Cap) (w g : Nat → Int32) (rb rt : Nat → Int64) (rp : Nat → Int32) (ro ca va st tr th : Int32) (ha : Bool) (pk : Int32) (xx : Bool) (rd : Int64) (to : Int32) (n : Int32) (hbd : n < 1 ∨ 10000 < n) : Cg l y_Mod_run (wl y_Mod_run b_Mod_run 3 (some .int)) (rmL 14) D clz (ty4 ti) [.ref mo, .int n] (RMW mo am ti Q w g rb rt rp ro ca va st tr th ha pk xx rd to) (fun _ : Unit => some (.int 0)) (fun _ => (RMW mo am ti Q w g rb rt rp ro ca va st tr 1 ha pk xx rd to)) (fun _ => True) := by
  refine Cg.ofF (plainFor_of_name (by decide)) (Nat.le_of_ble_eq_true rfl) ?_
  intro p9 e9 s9 m9 b9 me9 c9 ls S hr hlk hl hw
  obtain ⟨hx, hb, hml, hown, hts⟩ := id S
  have hl : lv_has ls 3 [(0, .ref mo), (1, .int n)] := hl
  refine lv_iload_n hx hb d_Mod_run_0 rfl (lv_at hl 1 rfl) ?_
  refine lv_iconst (v := 1) hx hb d_Mod_run_1 (by decide) ?_
  refine lv_icmp_lt hx hb d_Mod_run_2 rfl (fun h2 => ?_) (fun h2 => ?_)
  · refine lv_aload_n hx hb d_Mod_run_12 rfl (lv_at hl 0 rfl) ?_
    refine lv_iconst (v := 1) hx hb d_Mod_run_13 (by decide) ?_
    refine q_cg (q_runV (As := [.int (1 : Int32)]) (rest := []) S (c_Mod_fail l D ti mo am Q w g rb rt rp ro ca va st tr th ha pk xx rd to (1 : Int32)) (cw_v hts tb_5_110 k_Mod_fail rfl rfl ⟨by decide, by decide⟩) hw 0 rfl rfl rfl hl.1 rfl (Nat.le_of_ble_eq_true rfl) d_Mod_run_14 ⟨Nat.zero_le _, Nat.zero_le _⟩) hw (fun z hD => qD_same hD rfl) (fun z9 H locs hp9 hw => ?_)
    refine W.eq (g2 := F0 m9 17 ls [.int (0 : Int32)]) rfl ?_
    have hw : Lv _ _ _ _ _ (RMW mo am ti Q w g rb rt rp ro ca va st tr (1 : Int32) ha pk xx rd to) _ _ _ := hw
    exact hw.riz S hr hlk (rfl) d_Mod_run_17 () (rfl) (trivial) (rfl)
  · refine lv_iload_n hx hb d_Mod_run_5 rfl (lv_at hl 1 rfl) ?_
    refine lv_sipush (v := 10000) hx hb d_Mod_run_6 (by decide) ?_
    refine lv_icmp_le hx hb d_Mod_run_9 rfl (fun h9 => ?_) (fun h9 => ?_)
    · exact (hbd.elim h2 (Int32.not_lt.mpr h9)).elim
    · refine lv_aload_n hx hb d_Mod_run_12 rfl (lv_at hl 0 rfl) ?_
      refine lv_iconst (v := 1) hx hb d_Mod_run_13 (by decide) ?_
      refine q_cg (q_runV (As := [.int (1 : Int32)]) (rest := []) S (c_Mod_fail l D ti mo am Q w g rb rt rp ro ca va st tr th ha pk xx rd to (1 : Int32)) (cw_v hts tb_5_110 k_Mod_fail rfl rfl ⟨by decide, by decide⟩) hw 0 rfl rfl rfl hl.1 rfl (Nat.le_of_ble_eq_true rfl) d_Mod_run_14 ⟨Nat.zero_le _, Nat.zero_le _⟩) hw (fun z hD => qD_same hD rfl) (fun z9 H locs hp9 hw => ?_)
      refine W.eq (g2 := F0 m9 17 ls [.int (0 : Int32)]) rfl ?_
      have hw : Lv _ _ _ _ _ (RMW mo am ti Q w g rb rt rp ro ca va st tr (1 : Int32) ha pk xx rd to) _ _ _ := hw
      exact hw.riz S hr hlk (rfl) d_Mod_run_17 () (rfl) (trivial) (rfl)
set_option maxHeartbeats 4000000 in
set_option maxRecDepth 100000 in
theorem c_Mod_runY (l : Launch) (D : va_G) (ti : Nat → ClassId) (mo : Nat) (am : Nat → Nat) (Q : Nat → Cap) (w g : Nat → Int32) (rb rt : Nat → Int64) (rp : Nat → Int32) (ro ca va st tr th : Int32) (pk : Int32) (xx : Bool) (rd : Int64) (to : Int32) (n : Nat) (h1 : 1 ≤ n) (h2 : n ≤ 10000) : Cg l y_Mod_run (wl y_Mod_run b_Mod_run 3 (some .int)) (rmL 14) D clz (ty4 ti) [.ref mo, .int (nI n)] (RMW mo am ti Q w g rb rt rp ro ca va st tr th true pk xx rd to) (fun _ : Unit => some (.int 0)) (fun _ => (RMW mo am ti Q w g rb rt rp ro ca va st tr 2 true pk xx rd to)) (fun _ => True) := by
  refine Cg.ofF (plainFor_of_name (by decide)) (Nat.le_of_ble_eq_true rfl) ?_
  intro p9 e9 s9 m9 b9 me9 c9 ls S hr hlk hl hw
  obtain ⟨hx, hb, hml, hown, hts⟩ := id S
  have hl : lv_has ls 3 [(0, .ref mo), (1, .int (nI n))] := hl
  refine lv_iload_n hx hb d_Mod_run_0 rfl (lv_at hl 1 rfl) ?_
  refine lv_iconst (v := 1) hx hb d_Mod_run_1 (by decide) ?_
  refine lv_icmp_lt hx hb d_Mod_run_2 rfl (fun h => absurd h (nI_nlt (a := n) (b := 1) h1 (by omega))) (fun _ => ?_)
  refine lv_iload_n hx hb d_Mod_run_5 rfl (lv_at hl 1 rfl) ?_
  refine lv_sipush (v := 10000) hx hb d_Mod_run_6 (by decide) ?_
  refine lv_icmp_le hx hb d_Mod_run_9 rfl (fun _ => ?_) (fun h => absurd h (not_not_intro (nI_le (a := n) (b := 10000) h2 (by decide))))
  refine lv_aload_n hx hb d_Mod_run_18 rfl (lv_at hl 0 rfl) ?_
  refine q_get S hw ly_Mod 0 rfl rfl 14 (by decide) tb_5_57 rfl rfl d_Mod_run_19 ?_
  refine lv_if_eq hx hb d_Mod_run_22 rfl (fun h => absurd h (by decide)) (fun _ => ?_)
  refine lv_aload_n hx hb d_Mod_run_25 rfl (lv_at hl 0 rfl) ?_
  refine lv_iconst (v := 2) hx hb d_Mod_run_26 (by decide) ?_
  refine q_cg (q_runV (As := [.int (2 : Int32)]) (rest := []) S (c_Mod_fail l D ti mo am Q w g rb rt rp ro ca va st tr th true pk xx rd to (2 : Int32)) (cw_v hts tb_5_110 k_Mod_fail rfl rfl ⟨by decide, by decide⟩) hw 0 rfl rfl rfl hl.1 rfl (Nat.le_of_ble_eq_true rfl) d_Mod_run_27 ⟨Nat.zero_le _, Nat.zero_le _⟩) hw (fun z hD => qD_same hD rfl) (fun z9 H locs hp9 hw => ?_)
  refine W.eq (g2 := F0 m9 30 ls [.int (0 : Int32)]) rfl ?_
  have hw : Lv _ _ _ _ _ (RMW mo am ti Q w g rb rt rp ro ca va st tr (2 : Int32) true pk xx rd to) _ _ _ := hw
  exact hw.riz S hr hlk (rfl) d_Mod_run_30 () (rfl) (trivial) (rfl)
