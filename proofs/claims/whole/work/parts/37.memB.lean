set_option maxHeartbeats 4000000 in
set_option maxRecDepth 100000 in
theorem c_Mem_tagBit (l : Launch) (D : va_G) (tys : List (ClassId × FieldType)) (i : Nat) (hi : i < 4096) : Cr l y_Mem_tagBit (wl y_Mem_tagBit b_Mem_tagBit 1 (some .int)) (rmL 0) D clz tys [.int (nI i)] [] (some (.int (tBit i))) := by
  refine Cr.ofF (plainFor_of_name (by decide)) (Nat.le_of_ble_eq_true rfl) ?_
  intro p9 e9 s9 m9 b9 me9 c9 ls S hr hlk hl hw
  obtain ⟨hx, hb, hml, hown, hts⟩ := id S
  have hl : lv_has ls 1 [(0, .int (nI i))] := hl
  refine lv_iconst (v := 1) hx hb d_Mem_tagBit_0 (by decide) ?_
  refine lv_iload_n hx hb d_Mem_tagBit_1 rfl (lv_at hl 0 rfl) ?_
  refine lv_bipush (v := 8) hx hb d_Mem_tagBit_2 (by decide) ?_
  refine lv_irem hx hb d_Mem_tagBit_4 (by decide) ?_
  refine q_topi (z := nI (i % 8)) (pk_rem (a := i) (d := 8) (by omega) (by decide) (by decide)) ?_
  refine lv_iconst (v := 2) hx hb d_Mem_tagBit_5 (by decide) ?_
  refine lv_idiv hx hb d_Mem_tagBit_6 (by decide) ?_
  refine q_topi (z := nI ((i % 8) / 2)) (pk_div (a := i % 8) (d := 2) (by omega) (by decide) (by decide)) ?_
  refine lv_ishl hx hb d_Mem_tagBit_7 ?_
  exact rd_i S hr hlk rfl d_Mem_tagBit_8 (rfl)
set_option maxHeartbeats 4000000 in
set_option maxRecDepth 100000 in
theorem c_Mem_readWord (l : Launch) (D : va_G) (ti : Nat → ClassId) (ad : Nat → Nat) (words mc mt : Nat → Int32) (mw : Nat → Bool) (rows held tc : Nat → Int32) (tw : Nat → Bool) (lines nx : Nat → Int32) (w g : Nat → Int32) (hM : MI words mc mt mw rows held tc tw lines nx w g) (i : Nat) (hi : i < 4096) : Cg l y_Mem_readWord (wl y_Mem_readWord b_Mem_readWord 2 (some .int)) (rmL 2) D clz (ty4 ti) [.ref (ad 0), .int (nI i)] (MW ad ti words mc mt mw rows held tc tw lines nx) (fun z : MT => some (.int (w i))) (fun z => MWt ad ti z) (fun z => MIt z w g) := by
  refine Cg.ofF (plainFor_of_name (by decide)) (Nat.le_of_ble_eq_true rfl) ?_
  intro p9 e9 s9 m9 b9 me9 c9 ls S hr hlk hl hw
  obtain ⟨hx, hb, hml, hown, hts⟩ := id S
  have hl : lv_has ls 2 [(0, .ref (ad 0)), (1, .int (nI i))] := hl
  refine lv_aload_n hx hb d_Mem_readWord_0 rfl (lv_at hl 0 rfl) ?_
  refine q_get S hw ly_Mem 0 rfl rfl 3 (by decide) tb_1_117 rfl rfl d_Mem_readWord_1 ?_
  refine lv_aload_n hx hb d_Mem_readWord_4 rfl (lv_at hl 0 rfl) ?_
  refine lv_iload_n hx hb d_Mem_readWord_5 rfl (lv_at hl 1 rfl) ?_
  refine lv_bipush (v := 8) hx hb d_Mem_readWord_6 (by decide) ?_
  refine lv_idiv hx hb d_Mem_readWord_8 (by decide) ?_
  refine q_topi (z := nI (i / 8)) (pk_div (a := i) (d := 8) (by omega) (by decide) (by decide)) ?_
  refine q_cg (q_runV (As := [.int (nI (i / 8))]) (rest := [.ref (ad 4)]) S (c_Mem_slotOf l D ti ad words mc mt mw rows held tc tw lines nx w g hM (i / 8) (by first | assumption | omega)) (cw_v hts tb_3_29 k_Mem_slotOf rfl rfl ⟨by decide, by decide⟩) hw 0 rfl rfl rfl hl.1 rfl (Nat.le_of_ble_eq_true rfl) d_Mem_readWord_9 ⟨Nat.zero_le _, Nat.zero_le _⟩) hw (fun u hD => qD_same hD rfl) (fun z H locs hp hw => ?_)
  obtain ⟨v, words, mc, mt, mw, rows, held, tc, tw, lines, nx⟩ := z
  obtain ⟨hv, hv0, hM⟩ : v < 32 ∧ lines v = nI (i / 8) ∧ MI words mc mt mw rows held tc tw lines nx w g := hp
  refine W.eq (g2 := F0 m9 12 ls [.int (nI v), .ref (ad 4)]) rfl ?_
  have hw : Lv _ _ _ _ _ (MW ad ti words mc mt mw rows held tc tw lines nx) _ _ _ := hw
  refine lv_bipush (v := 8) hx hb d_Mem_readWord_12 (by decide) ?_
  refine lv_imul hx hb d_Mem_readWord_14 ?_
  refine q_topi (z := nI (v * 8)) (pk_mul v 8) ?_
  refine lv_iload_n hx hb d_Mem_readWord_15 rfl (lv_at hl 1 rfl) ?_
  refine lv_bipush (v := 8) hx hb d_Mem_readWord_16 (by decide) ?_
  refine lv_irem hx hb d_Mem_readWord_18 (by decide) ?_
  refine q_topi (z := nI (i % 8)) (pk_rem (a := i) (d := 8) (by omega) (by decide) (by decide)) ?_
  refine lv_iadd hx hb d_Mem_readWord_19 ?_
  refine q_topi (z := nI ((v * 8) + (i % 8))) (nI_add (v * 8) (i % 8)) ?_
  refine q_ialdN (k := (v * 8) + (i % 8)) S hw 4 0 rfl rfl (by first | assumption | omega) (by decide) d_Mem_readWord_20 ?_
  exact hw.riz S hr hlk (rfl) d_Mem_readWord_21 (words, mc, mt, mw, rows, held, tc, tw, lines, nx) (by rw [(hM.2.2.2.2.2.2.1 v (i / 8) hv (by omega) hv0).1 (i % 8) (by omega)]; have q : i / 8 * 8 + i % 8 = i := (by omega); rw [q]) (hM) (rfl)
set_option maxHeartbeats 4000000 in
set_option maxRecDepth 100000 in
theorem c_Mem_readTag (l : Launch) (D : va_G) (ti : Nat → ClassId) (ad : Nat → Nat) (words mc mt : Nat → Int32) (mw : Nat → Bool) (rows held tc : Nat → Int32) (tw : Nat → Bool) (lines nx : Nat → Int32) (w g : Nat → Int32) (hM : MI words mc mt mw rows held tc tw lines nx w g) (i : Nat) (hi : i < 4096) : Cg l y_Mem_readTag (wl y_Mem_readTag b_Mem_readTag 2 (some .boolean)) (rmL 2) D clz (ty4 ti) [.ref (ad 0), .int (nI i)] (MW ad ti words mc mt mw rows held tc tw lines nx) (fun z : MT => some (.int (jb (gTag g i)))) (fun z => MWt ad ti z) (fun z => MIt z w g) := by
  refine Cg.ofF (plainFor_of_name (by decide)) (Nat.le_of_ble_eq_true rfl) ?_
  intro p9 e9 s9 m9 b9 me9 c9 ls S hr hlk hl hw
  obtain ⟨hx, hb, hml, hown, hts⟩ := id S
  have hl : lv_has ls 2 [(0, .ref (ad 0)), (1, .int (nI i))] := hl
  refine lv_aload_n hx hb d_Mem_readTag_0 rfl (lv_at hl 0 rfl) ?_
  refine q_get S hw ly_Mem 0 rfl rfl 4 (by decide) tb_1_118 rfl rfl d_Mem_readTag_1 ?_
  refine lv_aload_n hx hb d_Mem_readTag_4 rfl (lv_at hl 0 rfl) ?_
  refine lv_iload_n hx hb d_Mem_readTag_5 rfl (lv_at hl 1 rfl) ?_
  refine lv_bipush (v := 8) hx hb d_Mem_readTag_6 (by decide) ?_
  refine lv_idiv hx hb d_Mem_readTag_8 (by decide) ?_
  refine q_topi (z := nI (i / 8)) (pk_div (a := i) (d := 8) (by omega) (by decide) (by decide)) ?_
  refine q_cg (q_runV (As := [.int (nI (i / 8))]) (rest := [.ref (ad 5)]) S (c_Mem_slotOf l D ti ad words mc mt mw rows held tc tw lines nx w g hM (i / 8) (by first | assumption | omega)) (cw_v hts tb_3_29 k_Mem_slotOf rfl rfl ⟨by decide, by decide⟩) hw 0 rfl rfl rfl hl.1 rfl (Nat.le_of_ble_eq_true rfl) d_Mem_readTag_9 ⟨Nat.zero_le _, Nat.zero_le _⟩) hw (fun u hD => qD_same hD rfl) (fun z H locs hp hw => ?_)
  obtain ⟨v, words, mc, mt, mw, rows, held, tc, tw, lines, nx⟩ := z
  obtain ⟨hv, hv0, hM⟩ : v < 32 ∧ lines v = nI (i / 8) ∧ MI words mc mt mw rows held tc tw lines nx w g := hp
  refine W.eq (g2 := F0 m9 12 ls [.int (nI v), .ref (ad 5)]) rfl ?_
  have hw : Lv _ _ _ _ _ (MW ad ti words mc mt mw rows held tc tw lines nx) _ _ _ := hw
  refine q_ialdN (k := v) S hw 5 0 rfl rfl (by first | assumption | omega) (by decide) d_Mem_readTag_12 ?_
  refine lv_iload_n hx hb d_Mem_readTag_13 rfl (lv_at hl 1 rfl) ?_
  refine q_cr (q_runS (As := [.int (nI i)]) (rest := [.int (mt v)]) S ((c_Mem_tagBit l D (ty4 ti) i (by first | assumption | omega)).nil _) (cw_s hts tb_2_151 k_Mem_tagBit rfl rfl ⟨by decide, by decide⟩) hw rfl hl.1 rfl (Nat.le_of_ble_eq_true rfl) d_Mem_readTag_14 ⟨Nat.zero_le _, Nat.zero_le _⟩) ?_
  refine W.eq (g2 := F0 m9 17 ls [.int (tBit i), .int (mt v)]) rfl ?_
  refine lv_iand hx hb d_Mem_readTag_17 ?_
  refine lv_if_eq hx hb d_Mem_readTag_18 rfl (fun h18 => ?_) (fun h18 => ?_)
  · refine lv_iconst (v := 0) hx hb d_Mem_readTag_25 (by decide) ?_
    exact hw.riz S hr hlk (rfl) d_Mem_readTag_26 (words, mc, mt, mw, rows, held, tc, tw, lines, nx) (by rw [(hM.2.2.2.2.2.2.1 v (i / 8) hv (by omega) hv0).2.1] at h18; simp only [gTag, h18, ↓reduceIte] <;> rfl) (hM) (rfl)
  · refine lv_iconst (v := 1) hx hb d_Mem_readTag_21 (by decide) ?_
    refine lv_goto hx hb d_Mem_readTag_22 rfl ?_
    exact hw.riz S hr hlk (rfl) d_Mem_readTag_26 (words, mc, mt, mw, rows, held, tc, tw, lines, nx) (by rw [(hM.2.2.2.2.2.2.1 v (i / 8) hv (by omega) hv0).2.1] at h18; simp only [gTag, h18, ↓reduceIte] <;> rfl) (hM) (rfl)
set_option maxHeartbeats 4000000 in
set_option maxRecDepth 100000 in
theorem c_Mem_writeWord (l : Launch) (D : va_G) (ti : Nat → ClassId) (ad : Nat → Nat) (words mc mt : Nat → Int32) (mw : Nat → Bool) (rows held tc : Nat → Int32) (tw : Nat → Bool) (lines nx : Nat → Int32) (w g : Nat → Int32) (hM : MI words mc mt mw rows held tc tw lines nx w g) (i : Nat) (hi : i < 4096) (x : Int32) : Cg l y_Mem_writeWord (wl y_Mem_writeWord b_Mem_writeWord 4 none) (rmL 2) D clz (ty4 ti) [.ref (ad 0), .int (nI i), .int x] (MW ad ti words mc mt mw rows held tc tw lines nx) (fun z : MT => none) (fun z => MWt ad ti z) (fun z => MIt z (upd w i x) (gOff g i)) := by
  refine Cg.ofF (plainFor_of_name (by decide)) (Nat.le_of_ble_eq_true rfl) ?_
  intro p9 e9 s9 m9 b9 me9 c9 ls S hr hlk hl hw
  obtain ⟨hx, hb, hml, hown, hts⟩ := id S
  have hl : lv_has ls 4 [(0, .ref (ad 0)), (1, .int (nI i)), (2, .int x)] := hl
  refine lv_aload_n hx hb d_Mem_writeWord_0 rfl (lv_at hl 0 rfl) ?_
  refine lv_iload_n hx hb d_Mem_writeWord_1 rfl (lv_at hl 1 rfl) ?_
  refine lv_bipush (v := 8) hx hb d_Mem_writeWord_2 (by decide) ?_
  refine lv_idiv hx hb d_Mem_writeWord_4 (by decide) ?_
  refine q_topi (z := nI (i / 8)) (pk_div (a := i) (d := 8) (by omega) (by decide) (by decide)) ?_
  refine q_cg (q_runV (As := [.int (nI (i / 8))]) (rest := []) S (c_Mem_slotOf l D ti ad words mc mt mw rows held tc tw lines nx w g hM (i / 8) (by first | assumption | omega)) (cw_v hts tb_3_29 k_Mem_slotOf rfl rfl ⟨by decide, by decide⟩) hw 0 rfl rfl rfl hl.1 rfl (Nat.le_of_ble_eq_true rfl) d_Mem_writeWord_5 ⟨Nat.zero_le _, Nat.zero_le _⟩) hw (fun u hD => qD_same hD rfl) (fun z H locs hp hw => ?_)
  obtain ⟨v, words, mc, mt, mw, rows, held, tc, tw, lines, nx⟩ := z
  obtain ⟨hv, hv0, hM⟩ : v < 32 ∧ lines v = nI (i / 8) ∧ MI words mc mt mw rows held tc tw lines nx w g := hp
  refine W.eq (g2 := F0 m9 8 ls [.int (nI v)]) rfl ?_
  have hw : Lv _ _ _ _ _ (MW ad ti words mc mt mw rows held tc tw lines nx) _ _ _ := hw
  refine lv_istore_n (lv' := [(3, .int (nI v)), (0, .ref (ad 0)), (1, .int (nI i)), (2, .int x)]) hx hb d_Mem_writeWord_8 rfl hl (by decide) rfl (fun ls hl => ?_)
  refine lv_aload_n hx hb d_Mem_writeWord_9 rfl (lv_at hl 1 rfl) ?_
  refine q_get S hw ly_Mem 0 rfl rfl 3 (by decide) tb_1_117 rfl rfl d_Mem_writeWord_10 ?_
  refine lv_iload_n hx hb d_Mem_writeWord_13 rfl (lv_at hl 0 rfl) ?_
  refine lv_bipush (v := 8) hx hb d_Mem_writeWord_14 (by decide) ?_
  refine lv_imul hx hb d_Mem_writeWord_16 ?_
  refine q_topi (z := nI (v * 8)) (pk_mul v 8) ?_
  refine lv_iload_n hx hb d_Mem_writeWord_17 rfl (lv_at hl 2 rfl) ?_
  refine lv_bipush (v := 8) hx hb d_Mem_writeWord_18 (by decide) ?_
  refine lv_irem hx hb d_Mem_writeWord_20 (by decide) ?_
  refine q_topi (z := nI (i % 8)) (pk_rem (a := i) (d := 8) (by omega) (by decide) (by decide)) ?_
  refine lv_iadd hx hb d_Mem_writeWord_21 ?_
  refine q_topi (z := nI ((v * 8) + (i % 8))) (nI_add (v * 8) (i % 8)) ?_
  refine lv_iload_n hx hb d_Mem_writeWord_22 rfl (lv_at hl 3 rfl) ?_
  refine q_iastN (k := (v * 8) + (i % 8)) S hw 4 0 rfl rfl (by first | assumption | omega) (by decide) d_Mem_writeWord_23 (fun H locs hw => ?_)
  have hw : Lv _ _ _ _ _ (MW ad ti words (upd mc ((v * 8) + (i % 8)) x) mt mw rows held tc tw lines nx) _ _ _ := hw
  refine lv_aload_n hx hb d_Mem_writeWord_24 rfl (lv_at hl 1 rfl) ?_
  refine q_get S hw ly_Mem 0 rfl rfl 4 (by decide) tb_1_118 rfl rfl d_Mem_writeWord_25 ?_
  refine lv_iload_n hx hb d_Mem_writeWord_28 rfl (lv_at hl 0 rfl) ?_
  refine lv_dup2_11 hx hb d_Mem_writeWord_29 rfl rfl ?_
  refine q_ialdN (k := v) S hw 5 0 rfl rfl (by first | assumption | omega) (by decide) d_Mem_writeWord_30 ?_
  refine lv_iload_n hx hb d_Mem_writeWord_31 rfl (lv_at hl 2 rfl) ?_
  refine q_cr (q_runS (As := [.int (nI i)]) (rest := [.int (mt v), .int (nI v), .ref (ad 5)]) S ((c_Mem_tagBit l D (ty4 ti) i (by first | assumption | omega)).nil _) (cw_s hts tb_2_151 k_Mem_tagBit rfl rfl ⟨by decide, by decide⟩) hw rfl hl.1 rfl (Nat.le_of_ble_eq_true rfl) d_Mem_writeWord_32 ⟨Nat.zero_le _, Nat.zero_le _⟩) ?_
  refine W.eq (g2 := F0 m9 35 ls [.int (tBit i), .int (mt v), .int (nI v), .ref (ad 5)]) rfl ?_
  refine lv_iconst (v := -1) hx hb d_Mem_writeWord_35 (by decide) ?_
  refine lv_ixor hx hb d_Mem_writeWord_36 ?_
  refine lv_iand hx hb d_Mem_writeWord_37 ?_
  refine q_iastN (k := v) S hw 5 0 rfl rfl (by first | assumption | omega) (by decide) d_Mem_writeWord_38 (fun H locs hw => ?_)
  have hw : Lv _ _ _ _ _ (MW ad ti words (upd mc ((v * 8) + (i % 8)) x) (upd mt v ((mt v) &&& ((tBit i) ^^^ (-1 : Int32)))) mw rows held tc tw lines nx) _ _ _ := hw
  obtain ⟨k1, hk1, ek1⟩ := hM.2.2.2.2.1 (i / 8) (by omega)
  obtain ⟨k2, hk2, ek2⟩ := tBit_k i
  have em : mt v = g (i / 8) := (hM.2.2.2.2.2.2.1 v (i / 8) hv (by omega) hv0).2.1
  have hM := hM.write hi hv hv0 x (mt v &&& (tBit i ^^^ (-1))) ⟨k1 &&& (15 - k2), (nib_lt k1 hk1 k2 hk2).1, by rw [em, ek1, ek2]; exact (nib_op k1 hk1 k2 hk2).1⟩ (upd w i x) (gOff g i) (Or.inl rfl) (by rw [em]; rfl)
  refine lv_aload_n hx hb d_Mem_writeWord_39 rfl (lv_at hl 1 rfl) ?_
  refine q_get S hw ly_Mem 0 rfl rfl 5 (by decide) tb_1_119 rfl rfl d_Mem_writeWord_40 ?_
  refine lv_iload_n hx hb d_Mem_writeWord_43 rfl (lv_at hl 0 rfl) ?_
  refine lv_iconst (v := 1) hx hb d_Mem_writeWord_44 (by decide) ?_
  refine q_zastN (k := v) S hw 6 1 rfl rfl true (by first | assumption | omega) (by decide) d_Mem_writeWord_45 (fun H locs hw => ?_)
  have hw : Lv _ _ _ _ _ (MW ad ti words (upd mc ((v * 8) + (i % 8)) x) (upd mt v ((mt v) &&& ((tBit i) ^^^ (-1 : Int32)))) (va_up mw v true) rows held tc tw lines nx) _ _ _ := hw
  exact hw.rv S hr hlk d_Mem_writeWord_46 (words, (upd mc ((v * 8) + (i % 8)) x), (upd mt v ((mt v) &&& ((tBit i) ^^^ (-1 : Int32)))), (va_up mw v true), rows, held, tc, tw, lines, nx) (rfl) (hM) (rfl)
set_option maxHeartbeats 4000000 in
set_option maxRecDepth 100000 in
theorem c_Mem_writeTag (l : Launch) (D : va_G) (ti : Nat → ClassId) (ad : Nat → Nat) (words mc mt : Nat → Int32) (mw : Nat → Bool) (rows held tc : Nat → Int32) (tw : Nat → Bool) (lines nx : Nat → Int32) (w g : Nat → Int32) (hM : MI words mc mt mw rows held tc tw lines nx w g) (i : Nat) (hi : i < 4096) : Cg l y_Mem_writeTag (wl y_Mem_writeTag b_Mem_writeTag 3 none) (rmL 2) D clz (ty4 ti) [.ref (ad 0), .int (nI i)] (MW ad ti words mc mt mw rows held tc tw lines nx) (fun z : MT => none) (fun z => MWt ad ti z) (fun z => MIt z w (gOn g i)) := by
  refine Cg.ofF (plainFor_of_name (by decide)) (Nat.le_of_ble_eq_true rfl) ?_
  intro p9 e9 s9 m9 b9 me9 c9 ls S hr hlk hl hw
  obtain ⟨hx, hb, hml, hown, hts⟩ := id S
  have hl : lv_has ls 3 [(0, .ref (ad 0)), (1, .int (nI i))] := hl
  refine lv_aload_n hx hb d_Mem_writeTag_0 rfl (lv_at hl 0 rfl) ?_
  refine lv_iload_n hx hb d_Mem_writeTag_1 rfl (lv_at hl 1 rfl) ?_
  refine lv_bipush (v := 8) hx hb d_Mem_writeTag_2 (by decide) ?_
  refine lv_idiv hx hb d_Mem_writeTag_4 (by decide) ?_
  refine q_topi (z := nI (i / 8)) (pk_div (a := i) (d := 8) (by omega) (by decide) (by decide)) ?_
  refine q_cg (q_runV (As := [.int (nI (i / 8))]) (rest := []) S (c_Mem_slotOf l D ti ad words mc mt mw rows held tc tw lines nx w g hM (i / 8) (by first | assumption | omega)) (cw_v hts tb_3_29 k_Mem_slotOf rfl rfl ⟨by decide, by decide⟩) hw 0 rfl rfl rfl hl.1 rfl (Nat.le_of_ble_eq_true rfl) d_Mem_writeTag_5 ⟨Nat.zero_le _, Nat.zero_le _⟩) hw (fun u hD => qD_same hD rfl) (fun z H locs hp hw => ?_)
  obtain ⟨v, words, mc, mt, mw, rows, held, tc, tw, lines, nx⟩ := z
  obtain ⟨hv, hv0, hM⟩ : v < 32 ∧ lines v = nI (i / 8) ∧ MI words mc mt mw rows held tc tw lines nx w g := hp
  refine W.eq (g2 := F0 m9 8 ls [.int (nI v)]) rfl ?_
  have hw : Lv _ _ _ _ _ (MW ad ti words mc mt mw rows held tc tw lines nx) _ _ _ := hw
  refine lv_istore_n (lv' := [(2, .int (nI v)), (0, .ref (ad 0)), (1, .int (nI i))]) hx hb d_Mem_writeTag_8 rfl hl (by decide) rfl (fun ls hl => ?_)
  refine lv_aload_n hx hb d_Mem_writeTag_9 rfl (lv_at hl 1 rfl) ?_
  refine q_get S hw ly_Mem 0 rfl rfl 4 (by decide) tb_1_118 rfl rfl d_Mem_writeTag_10 ?_
  refine lv_iload_n hx hb d_Mem_writeTag_13 rfl (lv_at hl 0 rfl) ?_
  refine lv_dup2_11 hx hb d_Mem_writeTag_14 rfl rfl ?_
  refine q_ialdN (k := v) S hw 5 0 rfl rfl (by first | assumption | omega) (by decide) d_Mem_writeTag_15 ?_
  refine lv_iload_n hx hb d_Mem_writeTag_16 rfl (lv_at hl 2 rfl) ?_
  refine q_cr (q_runS (As := [.int (nI i)]) (rest := [.int (mt v), .int (nI v), .ref (ad 5)]) S ((c_Mem_tagBit l D (ty4 ti) i (by first | assumption | omega)).nil _) (cw_s hts tb_2_151 k_Mem_tagBit rfl rfl ⟨by decide, by decide⟩) hw rfl hl.1 rfl (Nat.le_of_ble_eq_true rfl) d_Mem_writeTag_17 ⟨Nat.zero_le _, Nat.zero_le _⟩) ?_
  refine W.eq (g2 := F0 m9 20 ls [.int (tBit i), .int (mt v), .int (nI v), .ref (ad 5)]) rfl ?_
  refine lv_ior hx hb d_Mem_writeTag_20 ?_
  refine q_iastN (k := v) S hw 5 0 rfl rfl (by first | assumption | omega) (by decide) d_Mem_writeTag_21 (fun H locs hw => ?_)
  have hw : Lv _ _ _ _ _ (MW ad ti words mc (upd mt v ((mt v) ||| (tBit i))) mw rows held tc tw lines nx) _ _ _ := hw
  obtain ⟨k1, hk1, ek1⟩ := hM.2.2.2.2.1 (i / 8) (by omega)
  obtain ⟨k2, hk2, ek2⟩ := tBit_k i
  have em : mt v = g (i / 8) := (hM.2.2.2.2.2.2.1 v (i / 8) hv (by omega) hv0).2.1
  have hM := hM.write hi hv hv0 (mc (v * 8 + i % 8)) (mt v ||| tBit i) ⟨k1 ||| k2, (nib_lt k1 hk1 k2 hk2).2, by rw [em, ek1, ek2]; exact (nib_op k1 hk1 k2 hk2).2⟩ w (gOn g i) (Or.inr ⟨rfl, by rw [(hM.2.2.2.2.2.2.1 v (i / 8) hv (by omega) hv0).1 (i % 8) (by omega)]; have q : i / 8 * 8 + i % 8 = i := (by omega); rw [q]⟩) (by rw [em]; rfl)
  rw [upd_same] at hM
  refine lv_aload_n hx hb d_Mem_writeTag_22 rfl (lv_at hl 1 rfl) ?_
  refine q_get S hw ly_Mem 0 rfl rfl 5 (by decide) tb_1_119 rfl rfl d_Mem_writeTag_23 ?_
  refine lv_iload_n hx hb d_Mem_writeTag_26 rfl (lv_at hl 0 rfl) ?_
  refine lv_iconst (v := 1) hx hb d_Mem_writeTag_27 (by decide) ?_
  refine q_zastN (k := v) S hw 6 1 rfl rfl true (by first | assumption | omega) (by decide) d_Mem_writeTag_28 (fun H locs hw => ?_)
  have hw : Lv _ _ _ _ _ (MW ad ti words mc (upd mt v ((mt v) ||| (tBit i))) (va_up mw v true) rows held tc tw lines nx) _ _ _ := hw
  exact hw.rv S hr hlk d_Mem_writeTag_29 (words, mc, (upd mt v ((mt v) ||| (tBit i))), (va_up mw v true), rows, held, tc, tw, lines, nx) (rfl) (hM) (rfl)
set_option maxHeartbeats 4000000 in
set_option maxRecDepth 100000 in
theorem c_Mem_seenWord (l : Launch) (D : va_G) (ti : Nat → ClassId) (ad : Nat → Nat) (words mc mt : Nat → Int32) (mw : Nat → Bool) (rows held tc : Nat → Int32) (tw : Nat → Bool) (lines nx : Nat → Int32) (w g : Nat → Int32) (hM : MI words mc mt mw rows held tc tw lines nx w g) (i : Nat) (hi : i < 4096) : Cr l y_Mem_seenWord (wl y_Mem_seenWord b_Mem_seenWord 3 (some .int)) (rmL 1) D clz (ty4 ti) [.ref (ad 0), .int (nI i)] (MW ad ti words mc mt mw rows held tc tw lines nx) (some (.int (w i))) := by
  refine Cr.ofF (plainFor_of_name (by decide)) (Nat.le_of_ble_eq_true rfl) ?_
  intro p9 e9 s9 m9 b9 me9 c9 ls S hr hlk hl hw
  obtain ⟨hx, hb, hml, hown, hts⟩ := id S
  have hl : lv_has ls 3 [(0, .ref (ad 0)), (1, .int (nI i))] := hl
  refine lv_aload_n hx hb d_Mem_seenWord_0 rfl (lv_at hl 0 rfl) ?_
  refine q_get S hw ly_Mem 0 rfl rfl 2 (by decide) tb_1_116 rfl rfl d_Mem_seenWord_1 ?_
  refine lv_iload_n hx hb d_Mem_seenWord_4 rfl (lv_at hl 1 rfl) ?_
  refine lv_bipush (v := 8) hx hb d_Mem_seenWord_5 (by decide) ?_
  refine lv_idiv hx hb d_Mem_seenWord_7 (by decide) ?_
  refine q_topi (z := nI (i / 8)) (pk_div (a := i) (d := 8) (by omega) (by decide) (by decide)) ?_
  refine q_cr (q_runV (As := [.int (nI (i / 8))]) (rest := []) S (c_Dir_find l D ti ad words mc mt mw rows held tc tw lines nx (i / 8) (by first | assumption | omega)) (cw_v hts tb_2_143 k_Dir_find rfl rfl ⟨by decide, by decide⟩) hw 3 rfl rfl rfl hl.1 rfl (Nat.le_of_ble_eq_true rfl) d_Mem_seenWord_8 ⟨Nat.zero_le _, Nat.zero_le _⟩) ?_
  refine W.eq (g2 := F0 m9 11 ls [.int (mFind lines (i / 8))]) rfl ?_
  refine lv_istore_n (lv' := [(2, .int (mFind lines (i / 8))), (0, .ref (ad 0)), (1, .int (nI i))]) hx hb d_Mem_seenWord_11 rfl hl (by decide) rfl (fun ls hl => ?_)
  refine lv_iload_n hx hb d_Mem_seenWord_12 rfl (lv_at hl 0 rfl) ?_
  refine lv_iconst (v := -1) hx hb d_Mem_seenWord_13 (by decide) ?_
  refine lv_icmp_ne hx hb d_Mem_seenWord_14 rfl (fun h14 => ?_) (fun h14 => ?_)
  · obtain ⟨v, hv, hf0, hl0⟩ := mFind_some hM.1 (n := i / 8) (by omega) h14
    have hl : lv_has ls 3 [(2, .int (nI v)), (0, .ref (ad 0)), (1, .int (nI i))] := q_loc hl (by rw [hf0])
    refine lv_aload_n hx hb d_Mem_seenWord_26 rfl (lv_at hl 1 rfl) ?_
    refine q_get S hw ly_Mem 0 rfl rfl 3 (by decide) tb_1_117 rfl rfl d_Mem_seenWord_27 ?_
    refine lv_iload_n hx hb d_Mem_seenWord_30 rfl (lv_at hl 0 rfl) ?_
    refine lv_bipush (v := 8) hx hb d_Mem_seenWord_31 (by decide) ?_
    refine lv_imul hx hb d_Mem_seenWord_33 ?_
    refine q_topi (z := nI (v * 8)) (pk_mul v 8) ?_
    refine lv_iload_n hx hb d_Mem_seenWord_34 rfl (lv_at hl 2 rfl) ?_
    refine lv_bipush (v := 8) hx hb d_Mem_seenWord_35 (by decide) ?_
    refine lv_irem hx hb d_Mem_seenWord_37 (by decide) ?_
    refine q_topi (z := nI (i % 8)) (pk_rem (a := i) (d := 8) (by omega) (by decide) (by decide)) ?_
    refine lv_iadd hx hb d_Mem_seenWord_38 ?_
    refine q_topi (z := nI ((v * 8) + (i % 8))) (nI_add (v * 8) (i % 8)) ?_
    refine q_ialdN (k := (v * 8) + (i % 8)) S hw 4 0 rfl rfl (by first | assumption | omega) (by decide) d_Mem_seenWord_39 ?_
    exact rd_i S hr hlk rfl d_Mem_seenWord_40 (by have q : i / 8 * 8 + i % 8 = i := (by omega); have h9 := (hM.2.2.2.2.2.2.1 v (i / 8) hv (by omega) hl0).1 (i % 8) (by omega); rw [h9, q])
  · refine lv_aload_n hx hb d_Mem_seenWord_17 rfl (lv_at hl 1 rfl) ?_
    refine q_get S hw ly_Mem 0 rfl rfl 0 (by decide) tb_1_114 rfl rfl d_Mem_seenWord_18 ?_
    refine lv_iload_n hx hb d_Mem_seenWord_21 rfl (lv_at hl 2 rfl) ?_
    refine q_ialdN (k := i) S hw 1 0 rfl rfl (by first | assumption | omega) (by decide) d_Mem_seenWord_22 ?_
    refine lv_goto hx hb d_Mem_seenWord_23 rfl ?_
    exact rd_i S hr hlk rfl d_Mem_seenWord_40 (by have q : i / 8 * 8 + i % 8 = i := (by omega); have h9 := (hM.2.2.2.2.2.2.2 (i / 8) (by omega) (mFind_none hM.1 (by omega) h14)).1 (i % 8) (by omega); rw [q] at h9; exact h9)
set_option maxHeartbeats 4000000 in
set_option maxRecDepth 100000 in
theorem c_Mem_seenTags (l : Launch) (D : va_G) (ti : Nat → ClassId) (ad : Nat → Nat) (words mc mt : Nat → Int32) (mw : Nat → Bool) (rows held tc : Nat → Int32) (tw : Nat → Bool) (lines nx : Nat → Int32) (w g : Nat → Int32) (hM : MI words mc mt mw rows held tc tw lines nx w g) (n : Nat) (hn : n < 512) : Cr l y_Mem_seenTags (wl y_Mem_seenTags b_Mem_seenTags 3 (some .int)) (rmL 1) D clz (ty4 ti) [.ref (ad 0), .int (nI n)] (MW ad ti words mc mt mw rows held tc tw lines nx) (some (.int (g n))) := by
  refine Cr.ofF (plainFor_of_name (by decide)) (Nat.le_of_ble_eq_true rfl) ?_
  intro p9 e9 s9 m9 b9 me9 c9 ls S hr hlk hl hw
  obtain ⟨hx, hb, hml, hown, hts⟩ := id S
  have hl : lv_has ls 3 [(0, .ref (ad 0)), (1, .int (nI n))] := hl
  refine lv_aload_n hx hb d_Mem_seenTags_0 rfl (lv_at hl 0 rfl) ?_
  refine q_get S hw ly_Mem 0 rfl rfl 2 (by decide) tb_1_116 rfl rfl d_Mem_seenTags_1 ?_
  refine lv_iload_n hx hb d_Mem_seenTags_4 rfl (lv_at hl 1 rfl) ?_
  refine q_cr (q_runV (As := [.int (nI n)]) (rest := []) S (c_Dir_find l D ti ad words mc mt mw rows held tc tw lines nx n (by first | assumption | omega)) (cw_v hts tb_2_143 k_Dir_find rfl rfl ⟨by decide, by decide⟩) hw 3 rfl rfl rfl hl.1 rfl (Nat.le_of_ble_eq_true rfl) d_Mem_seenTags_5 ⟨Nat.zero_le _, Nat.zero_le _⟩) ?_
  refine W.eq (g2 := F0 m9 8 ls [.int (mFind lines n)]) rfl ?_
  refine lv_istore_n (lv' := [(2, .int (mFind lines n)), (0, .ref (ad 0)), (1, .int (nI n))]) hx hb d_Mem_seenTags_8 rfl hl (by decide) rfl (fun ls hl => ?_)
  refine lv_iload_n hx hb d_Mem_seenTags_9 rfl (lv_at hl 0 rfl) ?_
  refine lv_iconst (v := -1) hx hb d_Mem_seenTags_10 (by decide) ?_
  refine lv_icmp_ne hx hb d_Mem_seenTags_11 rfl (fun h11 => ?_) (fun h11 => ?_)
  · obtain ⟨v, hv, hf0, hl0⟩ := mFind_some hM.1 hn h11
    have hl : lv_has ls 3 [(2, .int (nI v)), (0, .ref (ad 0)), (1, .int (nI n))] := q_loc hl (by rw [hf0])
    refine lv_aload_n hx hb d_Mem_seenTags_25 rfl (lv_at hl 1 rfl) ?_
    refine q_get S hw ly_Mem 0 rfl rfl 4 (by decide) tb_1_118 rfl rfl d_Mem_seenTags_26 ?_
    refine lv_iload_n hx hb d_Mem_seenTags_29 rfl (lv_at hl 0 rfl) ?_
    refine q_ialdN (k := v) S hw 5 0 rfl rfl (by first | assumption | omega) (by decide) d_Mem_seenTags_30 ?_
    exact rd_i S hr hlk rfl d_Mem_seenTags_31 ((hM.2.2.2.2.2.2.1 v n hv hn hl0).2.1)
  · refine lv_aload_n hx hb d_Mem_seenTags_14 rfl (lv_at hl 1 rfl) ?_
    refine q_get S hw ly_Mem 0 rfl rfl 1 (by decide) tb_1_115 rfl rfl d_Mem_seenTags_15 ?_
    refine lv_iload_n hx hb d_Mem_seenTags_18 rfl (lv_at hl 2 rfl) ?_
    refine q_cr (q_runV (As := [.int (nI n)]) (rest := []) S (c_Tag_seenOfLine l D ti ad words mc mt mw rows held tc tw lines nx n (by first | assumption | omega)) (cw_v hts tb_2_147 k_Tag_seenOfLine rfl rfl ⟨by decide, by decide⟩) hw 2 rfl rfl rfl hl.1 rfl (Nat.le_of_ble_eq_true rfl) d_Mem_seenTags_19 ⟨Nat.zero_le _, Nat.zero_le _⟩) ?_
    refine W.eq (g2 := F0 m9 22 ls [.int (tSeen rows held tc n)]) rfl ?_
    refine lv_goto hx hb d_Mem_seenTags_22 rfl ?_
    exact rd_i S hr hlk rfl d_Mem_seenTags_31 ((hM.2.2.2.2.2.2.2 n hn (mFind_none hM.1 hn h11)).2)
set_option maxHeartbeats 4000000 in
set_option maxRecDepth 100000 in
theorem c_Mem_seenTag (l : Launch) (D : va_G) (ti : Nat → ClassId) (ad : Nat → Nat) (words mc mt : Nat → Int32) (mw : Nat → Bool) (rows held tc : Nat → Int32) (tw : Nat → Bool) (lines nx : Nat → Int32) (w g : Nat → Int32) (hM : MI words mc mt mw rows held tc tw lines nx w g) (i : Nat) (hi : i < 4096) : Cr l y_Mem_seenTag (wl y_Mem_seenTag b_Mem_seenTag 2 (some .boolean)) (rmL 2) D clz (ty4 ti) [.ref (ad 0), .int (nI i)] (MW ad ti words mc mt mw rows held tc tw lines nx) (some (.int (jb (gTag g i)))) := by
  refine Cr.ofF (plainFor_of_name (by decide)) (Nat.le_of_ble_eq_true rfl) ?_
  intro p9 e9 s9 m9 b9 me9 c9 ls S hr hlk hl hw
  obtain ⟨hx, hb, hml, hown, hts⟩ := id S
  have hl : lv_has ls 2 [(0, .ref (ad 0)), (1, .int (nI i))] := hl
  refine lv_aload_n hx hb d_Mem_seenTag_0 rfl (lv_at hl 0 rfl) ?_
  refine lv_iload_n hx hb d_Mem_seenTag_1 rfl (lv_at hl 1 rfl) ?_
  refine lv_bipush (v := 8) hx hb d_Mem_seenTag_2 (by decide) ?_
  refine lv_idiv hx hb d_Mem_seenTag_4 (by decide) ?_
  refine q_topi (z := nI (i / 8)) (pk_div (a := i) (d := 8) (by omega) (by decide) (by decide)) ?_
  refine q_cr (q_runV (As := [.int (nI (i / 8))]) (rest := []) S (c_Mem_seenTags l D ti ad words mc mt mw rows held tc tw lines nx w g hM (i / 8) (by first | assumption | omega)) (cw_v hts tb_2_139 k_Mem_seenTags rfl rfl ⟨by decide, by decide⟩) hw 0 rfl rfl rfl hl.1 rfl (Nat.le_of_ble_eq_true rfl) d_Mem_seenTag_5 ⟨Nat.zero_le _, Nat.zero_le _⟩) ?_
  refine W.eq (g2 := F0 m9 8 ls [.int (g (i / 8))]) rfl ?_
  refine lv_iload_n hx hb d_Mem_seenTag_8 rfl (lv_at hl 1 rfl) ?_
  refine q_cr (q_runS (As := [.int (nI i)]) (rest := [.int (g (i / 8))]) S ((c_Mem_tagBit l D (ty4 ti) i (by first | assumption | omega)).nil _) (cw_s hts tb_2_151 k_Mem_tagBit rfl rfl ⟨by decide, by decide⟩) hw rfl hl.1 rfl (Nat.le_of_ble_eq_true rfl) d_Mem_seenTag_9 ⟨Nat.zero_le _, Nat.zero_le _⟩) ?_
  refine W.eq (g2 := F0 m9 12 ls [.int (tBit i), .int (g (i / 8))]) rfl ?_
  refine lv_iand hx hb d_Mem_seenTag_12 ?_
  refine lv_if_eq hx hb d_Mem_seenTag_13 rfl (fun h13 => ?_) (fun h13 => ?_)
  · refine lv_iconst (v := 0) hx hb d_Mem_seenTag_20 (by decide) ?_
    exact rd_i S hr hlk rfl d_Mem_seenTag_21 (by simp only [gTag, h13, ↓reduceIte] <;> rfl)
  · refine lv_iconst (v := 1) hx hb d_Mem_seenTag_16 (by decide) ?_
    refine lv_goto hx hb d_Mem_seenTag_17 rfl ?_
    exact rd_i S hr hlk rfl d_Mem_seenTag_21 (by simp only [gTag, h13, ↓reduceIte] <;> rfl)
set_option maxHeartbeats 4000000 in
set_option maxRecDepth 100000 in
theorem c_Mem_tagsHeld (l : Launch) (D : va_G) (ti : Nat → ClassId) (ad : Nat → Nat) (words mc mt : Nat → Int32) (mw : Nat → Bool) (rows held tc : Nat → Int32) (tw : Nat → Bool) (lines nx : Nat → Int32) (w g : Nat → Int32) (hM : MI words mc mt mw rows held tc tw lines nx w g) : Cr l y_Mem_tagsHeld (wl y_Mem_tagsHeld b_Mem_tagsHeld 3 (some .int)) (rmL 2) D clz (ty4 ti) [.ref (ad 0)] (MW ad ti words mc mt mw rows held tc tw lines nx) (some (.int (gSum g 512))) := by
  refine Cr.ofF (plainFor_of_name (by decide)) (Nat.le_of_ble_eq_true rfl) ?_
  intro p9 e9 s9 m9 b9 me9 c9 ls S hr hlk hl hw
  obtain ⟨hx, hb, hml, hown, hts⟩ := id S
  have hl : lv_has ls 3 [(0, .ref (ad 0))] := hl
  refine lv_iconst (v := 0) hx hb d_Mem_tagsHeld_0 (by decide) ?_
  refine lv_istore_n (lv' := [(1, .int (0 : Int32)), (0, .ref (ad 0))]) hx hb d_Mem_tagsHeld_1 rfl hl (by decide) rfl (fun ls hl => ?_)
  refine lv_iconst (v := 0) hx hb d_Mem_tagsHeld_2 (by decide) ?_
  refine lv_istore_n (lv' := [(2, .int (0 : Int32)), (1, .int (0 : Int32)), (0, .ref (ad 0))]) hx hb d_Mem_tagsHeld_3 rfl hl (by decide) rfl (fun ls hl => ?_)
  refine q_loop (Z := Nat) (pcL := 4) (st := []) (nL := 3) (fun z => [(2, .int (nI z)), (1, .int (gSum g z)), (0, .ref (ad 0))]) (fun z => z ≤ 512) (fun z => 512 - z) (fun z ls hI4 hl IH4 => ?_) 0 (by omega) (q_loc (l' := [(2, .int (nI 0)), (1, .int (gSum g 0)), (0, .ref (ad 0))]) (lv_sub (l' := [(2, .int (0 : Int32)), (1, .int (0 : Int32)), (0, .ref (ad 0))]) hl [0, 1, 2] rfl) (rfl))
  have hl : lv_has ls 3 [(2, .int (nI z)), (1, .int (gSum g z)), (0, .ref (ad 0))] := hl
  refine lv_iload_n hx hb d_Mem_tagsHeld_4 rfl (lv_at hl 0 rfl) ?_
  refine lv_sipush (v := 512) hx hb d_Mem_tagsHeld_5 (by decide) ?_
  refine lv_icmp_ge hx hb d_Mem_tagsHeld_8 rfl (fun h8 => ?_) (fun h8 => ?_)
  · refine lv_iload_n hx hb d_Mem_tagsHeld_28 rfl (lv_at hl 1 rfl) ?_
    exact rd_i S hr hlk rfl d_Mem_tagsHeld_29 (by have h9 : z = 512 := (by rcases Nat.lt_or_ge z 512 with h | h; exact absurd h8 (nI_ge h (by decide)); omega); rw [h9])
  · have hz := lt_nge (c := 512) (by decide) hI4 h8
    refine lv_iload_n hx hb d_Mem_tagsHeld_11 rfl (lv_at hl 1 rfl) ?_
    refine lv_aload_n hx hb d_Mem_tagsHeld_12 rfl (lv_at hl 2 rfl) ?_
    refine lv_iload_n hx hb d_Mem_tagsHeld_13 rfl (lv_at hl 0 rfl) ?_
    refine q_cr (q_runV (As := [.int (nI z)]) (rest := [.int (gSum g z)]) S (c_Mem_seenTags l D ti ad words mc mt mw rows held tc tw lines nx w g hM z (by first | assumption | omega)) (cw_v hts tb_2_139 k_Mem_seenTags rfl rfl ⟨by decide, by decide⟩) hw 0 rfl rfl rfl hl.1 rfl (Nat.le_of_ble_eq_true rfl) d_Mem_tagsHeld_14 ⟨Nat.zero_le _, Nat.zero_le _⟩) ?_
    refine W.eq (g2 := F0 m9 17 ls [.int (g z), .int (gSum g z)]) rfl ?_
    refine q_cr (q_runS (As := [.int (g z)]) (rest := [.int (gSum g z)]) S ((c_Int_bitCount l D (ty4 ti) (g z)).nil _) (cw_s hts tb_2_181 k_Int_bitCount rfl rfl ⟨by decide, by decide⟩) hw rfl hl.1 rfl (Nat.le_of_ble_eq_true rfl) d_Mem_tagsHeld_17 ⟨Nat.zero_le _, Nat.zero_le _⟩) ?_
    refine W.eq (g2 := F0 m9 20 ls [.int (jpop (g z)), .int (gSum g z)]) rfl ?_
    refine lv_iadd hx hb d_Mem_tagsHeld_20 ?_
    refine lv_istore_n (lv' := [(1, .int ((gSum g z) + (jpop (g z)))), (2, .int (nI z)), (0, .ref (ad 0))]) hx hb d_Mem_tagsHeld_21 rfl hl (by decide) rfl (fun ls hl => ?_)
    refine lv_iinc (k := 1) (v := (nI (z + 1))) (lv' := [(2, .int (nI (z + 1))), (1, .int ((gSum g z) + (jpop (g z)))), (0, .ref (ad 0))]) hx hb d_Mem_tagsHeld_22 hl rfl (iinc1 z) (by decide) rfl (fun ls hl => ?_)
    refine lv_goto hx hb d_Mem_tagsHeld_25 rfl ?_
    exact IH4 (z + 1) _ (by omega) (by omega) (q_loc (l' := [(2, .int (nI (z + 1))), (1, .int (gSum g (z + 1))), (0, .ref (ad 0))]) (lv_sub (l' := [(2, .int (nI (z + 1))), (1, .int ((gSum g z) + (jpop (g z)))), (0, .ref (ad 0))]) hl [0, 1, 2] rfl) (rfl))
set_option maxHeartbeats 4000000 in
set_option maxRecDepth 100000 in
theorem c_Mem_wordsUnlikeMemory (l : Launch) (D : va_G) (ti : Nat → ClassId) (ad : Nat → Nat) (words mc mt : Nat → Int32) (mw : Nat → Bool) (rows held tc : Nat → Int32) (tw : Nat → Bool) (lines nx : Nat → Int32) (v n : Nat) (hv : v < 32) (hn : n < 512) (hq : ∀ j, j < 8 → mc (v * 8 + j) = words (n * 8 + j)) : Cr l y_Mem_wordsUnlikeMemory (wl y_Mem_wordsUnlikeMemory b_Mem_wordsUnlikeMemory 5 (some .int)) (rmL 0) D clz (ty4 ti) [.ref (ad 0), .int (nI v), .int (nI n)] (MW ad ti words mc mt mw rows held tc tw lines nx) (some (.int 0)) := by
  refine Cr.ofF (plainFor_of_name (by decide)) (Nat.le_of_ble_eq_true rfl) ?_
  intro p9 e9 s9 m9 b9 me9 c9 ls S hr hlk hl hw
  obtain ⟨hx, hb, hml, hown, hts⟩ := id S
  have hl : lv_has ls 5 [(0, .ref (ad 0)), (1, .int (nI v)), (2, .int (nI n))] := hl
  refine lv_iconst (v := 0) hx hb d_Mem_wordsUnlikeMemory_0 (by decide) ?_
  refine lv_istore_n (lv' := [(3, .int (0 : Int32)), (0, .ref (ad 0)), (1, .int (nI v)), (2, .int (nI n))]) hx hb d_Mem_wordsUnlikeMemory_1 rfl hl (by decide) rfl (fun ls hl => ?_)
  refine lv_iconst (v := 0) hx hb d_Mem_wordsUnlikeMemory_2 (by decide) ?_
  refine lv_istore (lv' := [(4, .int (0 : Int32)), (3, .int (0 : Int32)), (0, .ref (ad 0)), (1, .int (nI v)), (2, .int (nI n))]) hx hb d_Mem_wordsUnlikeMemory_3 hl (by decide) rfl (fun ls hl => ?_)
  refine q_loop (Z := Nat) (pcL := 5) (st := []) (nL := 5) (fun z => [(4, .int (nI z)), (3, .int (0 : Int32)), (2, .int (nI n)), (1, .int (nI v)), (0, .ref (ad 0))]) (fun z => z ≤ 8) (fun z => 8 - z) (fun z ls hI5 hl IH5 => ?_) 0 (by omega) (q_loc (l' := [(4, .int (nI 0)), (3, .int (0 : Int32)), (2, .int (nI n)), (1, .int (nI v)), (0, .ref (ad 0))]) (lv_sub (l' := [(4, .int (0 : Int32)), (3, .int (0 : Int32)), (2, .int (nI n)), (1, .int (nI v)), (0, .ref (ad 0))]) hl [0, 1, 4, 3, 2] rfl) (rfl))
  have hl : lv_has ls 5 [(4, .int (nI z)), (3, .int (0 : Int32)), (2, .int (nI n)), (1, .int (nI v)), (0, .ref (ad 0))] := hl
  refine lv_iload hx hb d_Mem_wordsUnlikeMemory_5 (lv_at hl 0 rfl) ?_
  refine lv_bipush (v := 8) hx hb d_Mem_wordsUnlikeMemory_7 (by decide) ?_
  refine lv_icmp_ge hx hb d_Mem_wordsUnlikeMemory_9 rfl (fun h9 => ?_) (fun h9 => ?_)
  · refine lv_iload_n hx hb d_Mem_wordsUnlikeMemory_53 rfl (lv_at hl 1 rfl) ?_
    exact rd_i S hr hlk rfl d_Mem_wordsUnlikeMemory_54 (rfl)
  · have hz := lt_nge (c := 8) (by decide) hI5 h9
    refine lv_iload_n hx hb d_Mem_wordsUnlikeMemory_12 rfl (lv_at hl 1 rfl) ?_
    refine lv_aload_n hx hb d_Mem_wordsUnlikeMemory_13 rfl (lv_at hl 4 rfl) ?_
    refine q_get S hw ly_Mem 0 rfl rfl 3 (by decide) tb_1_117 rfl rfl d_Mem_wordsUnlikeMemory_14 ?_
    refine lv_iload_n hx hb d_Mem_wordsUnlikeMemory_17 rfl (lv_at hl 3 rfl) ?_
    refine lv_bipush (v := 8) hx hb d_Mem_wordsUnlikeMemory_18 (by decide) ?_
    refine lv_imul hx hb d_Mem_wordsUnlikeMemory_20 ?_
    refine q_topi (z := nI (v * 8)) (pk_mul v 8) ?_
    refine lv_iload hx hb d_Mem_wordsUnlikeMemory_21 (lv_at hl 0 rfl) ?_
    refine lv_iadd hx hb d_Mem_wordsUnlikeMemory_23 ?_
    refine q_topi (z := nI ((v * 8) + z)) (nI_add (v * 8) z) ?_
    refine q_ialdN (k := (v * 8) + z) S hw 4 0 rfl rfl (by first | assumption | omega) (by decide) d_Mem_wordsUnlikeMemory_24 ?_
    refine lv_aload_n hx hb d_Mem_wordsUnlikeMemory_25 rfl (lv_at hl 4 rfl) ?_
    refine q_get S hw ly_Mem 0 rfl rfl 0 (by decide) tb_1_114 rfl rfl d_Mem_wordsUnlikeMemory_26 ?_
    refine lv_iload_n hx hb d_Mem_wordsUnlikeMemory_29 rfl (lv_at hl 2 rfl) ?_
    refine lv_bipush (v := 8) hx hb d_Mem_wordsUnlikeMemory_30 (by decide) ?_
    refine lv_imul hx hb d_Mem_wordsUnlikeMemory_32 ?_
    refine q_topi (z := nI (n * 8)) (pk_mul n 8) ?_
    refine lv_iload hx hb d_Mem_wordsUnlikeMemory_33 (lv_at hl 0 rfl) ?_
    refine lv_iadd hx hb d_Mem_wordsUnlikeMemory_35 ?_
    refine q_topi (z := nI ((n * 8) + z)) (nI_add (n * 8) z) ?_
    refine q_ialdN (k := (n * 8) + z) S hw 1 0 rfl rfl (by first | assumption | omega) (by decide) d_Mem_wordsUnlikeMemory_36 ?_
    refine lv_icmp_eq hx hb d_Mem_wordsUnlikeMemory_37 rfl (fun h37 => ?_) (fun h37 => ?_)
    · refine lv_iconst (v := 0) hx hb d_Mem_wordsUnlikeMemory_44 (by decide) ?_
      refine lv_iadd hx hb d_Mem_wordsUnlikeMemory_45 ?_
      refine lv_istore_n (lv' := [(3, .int ((0 : Int32) + (0 : Int32))), (4, .int (nI z)), (2, .int (nI n)), (1, .int (nI v)), (0, .ref (ad 0))]) hx hb d_Mem_wordsUnlikeMemory_46 rfl hl (by decide) rfl (fun ls hl => ?_)
      have hl : lv_has ls 5 [(3, .int (0 : Int32)), (4, .int (nI z)), (2, .int (nI n)), (1, .int (nI v)), (0, .ref (ad 0))] := q_loc hl (by rfl)
      refine lv_iinc (k := 1) (v := (nI (z + 1))) (lv' := [(4, .int (nI (z + 1))), (3, .int (0 : Int32)), (2, .int (nI n)), (1, .int (nI v)), (0, .ref (ad 0))]) hx hb d_Mem_wordsUnlikeMemory_47 hl rfl (iinc1 z) (by decide) rfl (fun ls hl => ?_)
      refine lv_goto hx hb d_Mem_wordsUnlikeMemory_50 rfl ?_
      exact IH5 (z + 1) _ (by omega) (by omega) (lv_sub (l' := [(4, .int (nI (z + 1))), (3, .int (0 : Int32)), (2, .int (nI n)), (1, .int (nI v)), (0, .ref (ad 0))]) hl [0, 1, 2, 3, 4] rfl)
    · exact absurd (hq z hz) h37
set_option maxHeartbeats 4000000 in
set_option maxRecDepth 100000 in
theorem c_Mem_wrongs (l : Launch) (D : va_G) (ti : Nat → ClassId) (ad : Nat → Nat) (words mc mt : Nat → Int32) (mw : Nat → Bool) (rows held tc : Nat → Int32) (tw : Nat → Bool) (lines nx : Nat → Int32) (w g : Nat → Int32) (hM : MI words mc mt mw rows held tc tw lines nx w g) : Cr l y_Mem_wrongs (wl y_Mem_wrongs b_Mem_wrongs 4 (some .int)) (rmL 2) D clz (ty4 ti) [.ref (ad 0)] (MW ad ti words mc mt mw rows held tc tw lines nx) (some (.int 0)) := by
  refine Cr.ofF (plainFor_of_name (by decide)) (Nat.le_of_ble_eq_true rfl) ?_
  intro p9 e9 s9 m9 b9 me9 c9 ls S hr hlk hl hw
  obtain ⟨hx, hb, hml, hown, hts⟩ := id S
  have hl : lv_has ls 4 [(0, .ref (ad 0))] := hl
  refine lv_aload_n hx hb d_Mem_wrongs_0 rfl (lv_at hl 0 rfl) ?_
  refine q_get S hw ly_Mem 0 rfl rfl 2 (by decide) tb_1_116 rfl rfl d_Mem_wrongs_1 ?_
  refine q_cr (q_runV (As := []) (rest := []) S (c_Dir_doubles l D ti ad words mc mt mw rows held tc tw lines nx hM.2.1) (cw_v hts tb_2_167 k_Dir_doubles rfl rfl ⟨by decide, by decide⟩) hw 3 rfl rfl rfl hl.1 rfl (Nat.le_of_ble_eq_true rfl) d_Mem_wrongs_4 ⟨Nat.zero_le _, Nat.zero_le _⟩) ?_
  refine W.eq (g2 := F0 m9 7 ls [.int (0 : Int32)]) rfl ?_
  refine lv_aload_n hx hb d_Mem_wrongs_7 rfl (lv_at hl 0 rfl) ?_
  refine q_get S hw ly_Mem 0 rfl rfl 1 (by decide) tb_1_115 rfl rfl d_Mem_wrongs_8 ?_
  refine q_cr (q_runV (As := []) (rest := [.int (0 : Int32)]) S (c_Tag_wrongs l D ti ad words mc mt mw rows held tc tw lines nx hM.2.2.2.1) (cw_v hts tb_2_171 k_Tag_wrongs rfl rfl ⟨by decide, by decide⟩) hw 2 rfl rfl rfl hl.1 rfl (Nat.le_of_ble_eq_true rfl) d_Mem_wrongs_11 ⟨Nat.zero_le _, Nat.zero_le _⟩) ?_
  refine W.eq (g2 := F0 m9 14 ls [.int (0 : Int32), .int (0 : Int32)]) rfl ?_
  refine lv_iadd hx hb d_Mem_wrongs_14 ?_
  refine q_topi (z := (0 : Int32)) (by decide) ?_
  refine lv_istore_n (lv' := [(1, .int (0 : Int32)), (0, .ref (ad 0))]) hx hb d_Mem_wrongs_15 rfl hl (by decide) rfl (fun ls hl => ?_)
  refine lv_iconst (v := 0) hx hb d_Mem_wrongs_16 (by decide) ?_
  refine lv_istore_n (lv' := [(2, .int (0 : Int32)), (1, .int (0 : Int32)), (0, .ref (ad 0))]) hx hb d_Mem_wrongs_17 rfl hl (by decide) rfl (fun ls hl => ?_)
  refine q_loop (Z := Nat) (pcL := 18) (st := []) (nL := 4) (fun z => [(2, .int (nI z)), (1, .int (0 : Int32)), (0, .ref (ad 0))]) (fun z => z ≤ 32) (fun z => 32 - z) (fun z ls hI18 hl IH18 => ?_) 0 (by omega) (q_loc (l' := [(2, .int (nI 0)), (1, .int (0 : Int32)), (0, .ref (ad 0))]) (lv_sub (l' := [(2, .int (0 : Int32)), (1, .int (0 : Int32)), (0, .ref (ad 0))]) hl [0, 1, 2] rfl) (rfl))
  have hl : lv_has ls 4 [(2, .int (nI z)), (1, .int (0 : Int32)), (0, .ref (ad 0))] := hl
  refine lv_iload_n hx hb d_Mem_wrongs_18 rfl (lv_at hl 0 rfl) ?_
  refine lv_bipush (v := 32) hx hb d_Mem_wrongs_19 (by decide) ?_
  refine lv_icmp_ge hx hb d_Mem_wrongs_21 rfl (fun h21 => ?_) (fun h21 => ?_)
  · refine lv_iload_n hx hb d_Mem_wrongs_99 rfl (lv_at hl 1 rfl) ?_
    exact rd_i S hr hlk rfl d_Mem_wrongs_100 (rfl)
  · have hz := lt_nge (c := 32) (by decide) hI18 h21
    refine lv_aload_n hx hb d_Mem_wrongs_24 rfl (lv_at hl 2 rfl) ?_
    refine q_get S hw ly_Mem 0 rfl rfl 2 (by decide) tb_1_116 rfl rfl d_Mem_wrongs_25 ?_
    refine q_get S hw ly_Dir 3 rfl rfl 0 (by decide) tb_1_107 rfl rfl d_Mem_wrongs_28 ?_
    refine lv_iload_n hx hb d_Mem_wrongs_31 rfl (lv_at hl 0 rfl) ?_
    refine q_ialdN (k := z) S hw 11 0 rfl rfl (by first | assumption | omega) (by decide) d_Mem_wrongs_32 ?_
    refine lv_istore_n (lv' := [(3, .int (lines z)), (2, .int (nI z)), (1, .int (0 : Int32)), (0, .ref (ad 0))]) hx hb d_Mem_wrongs_33 rfl hl (by decide) rfl (fun ls hl => ?_)
    refine lv_iload_n hx hb d_Mem_wrongs_34 rfl (lv_at hl 0 rfl) ?_
    refine lv_iconst (v := -1) hx hb d_Mem_wrongs_35 (by decide) ?_
    refine lv_icmp_ne hx hb d_Mem_wrongs_36 rfl (fun h36 => ?_) (fun h36 => ?_)
    · refine lv_aload_n hx hb d_Mem_wrongs_54 rfl (lv_at hl 3 rfl) ?_
      refine q_get S hw ly_Mem 0 rfl rfl 5 (by decide) tb_1_119 rfl rfl d_Mem_wrongs_55 ?_
      refine lv_iload_n hx hb d_Mem_wrongs_58 rfl (lv_at hl 1 rfl) ?_
      refine q_zaldN (k := z) S hw 6 1 rfl rfl (by first | assumption | omega) (by decide) d_Mem_wrongs_59 ?_
      refine q_ifz_ne S d_Mem_wrongs_60 rfl (fun h60 => ?_) (fun h60 => ?_)
      · refine lv_iinc (k := 1) (v := (nI (z + 1))) (lv' := [(2, .int (nI (z + 1))), (3, .int (lines z)), (1, .int (0 : Int32)), (0, .ref (ad 0))]) hx hb d_Mem_wrongs_93 hl rfl (iinc1 z) (by decide) rfl (fun ls hl => ?_)
        refine lv_goto hx hb d_Mem_wrongs_96 rfl ?_
        exact IH18 (z + 1) _ (by omega) (by omega) (lv_sub (l' := [(2, .int (nI (z + 1))), (1, .int (0 : Int32)), (0, .ref (ad 0))]) hl [0, 2, 3] rfl)
      · obtain ⟨o, ho, ho2, hvo⟩ : ∃ o, o < 512 ∧ o % 16 = z / 2 ∧ lines z = nI o := (hM.1 z hz).resolve_left h36
        have hl : lv_has ls 4 [(3, .int (nI o)), (2, .int (nI z)), (1, .int (0 : Int32)), (0, .ref (ad 0))] := q_loc hl (by rw [hvo])
        obtain ⟨r1, r2, r3⟩ := hM.2.2.2.2.2.2.1 z o hz ho hvo
        have hq : ∀ j, j < 8 → mc (z * 8 + j) = words (o * 8 + j) := fun j hj => by rw [r1 j hj, (r3 h60).1 j hj]
        refine lv_iload_n hx hb d_Mem_wrongs_63 rfl (lv_at hl 2 rfl) ?_
        refine lv_aload_n hx hb d_Mem_wrongs_64 rfl (lv_at hl 3 rfl) ?_
        refine lv_iload_n hx hb d_Mem_wrongs_65 rfl (lv_at hl 1 rfl) ?_
        refine lv_iload_n hx hb d_Mem_wrongs_66 rfl (lv_at hl 0 rfl) ?_
        refine q_cr (q_runV (As := [.int (nI z), .int (nI o)]) (rest := [.int (0 : Int32)]) S (c_Mem_wordsUnlikeMemory l D ti ad words mc mt mw rows held tc tw lines nx z o (by first | assumption | omega) (by omega) hq) (cw_v hts tb_2_182 k_Mem_wordsUnlikeMemory rfl rfl ⟨by decide, by decide⟩) hw 0 rfl rfl rfl hl.1 rfl (Nat.le_of_ble_eq_true rfl) d_Mem_wrongs_67 ⟨Nat.zero_le _, Nat.zero_le _⟩) ?_
        refine W.eq (g2 := F0 m9 70 ls [.int (0 : Int32), .int (0 : Int32)]) rfl ?_
        refine lv_iadd hx hb d_Mem_wrongs_70 ?_
        refine lv_istore_n (lv' := [(1, .int ((0 : Int32) + (0 : Int32))), (3, .int (nI o)), (2, .int (nI z)), (0, .ref (ad 0))]) hx hb d_Mem_wrongs_71 rfl hl (by decide) rfl (fun ls hl => ?_)
        have hl : lv_has ls 4 [(1, .int (0 : Int32)), (3, .int (nI o)), (2, .int (nI z)), (0, .ref (ad 0))] := q_loc hl (by rfl)
        refine lv_iload_n hx hb d_Mem_wrongs_72 rfl (lv_at hl 0 rfl) ?_
        refine lv_aload_n hx hb d_Mem_wrongs_73 rfl (lv_at hl 3 rfl) ?_
        refine q_get S hw ly_Mem 0 rfl rfl 4 (by decide) tb_1_118 rfl rfl d_Mem_wrongs_74 ?_
        refine lv_iload_n hx hb d_Mem_wrongs_77 rfl (lv_at hl 2 rfl) ?_
        refine q_ialdN (k := z) S hw 5 0 rfl rfl (by first | assumption | omega) (by decide) d_Mem_wrongs_78 ?_
        refine lv_aload_n hx hb d_Mem_wrongs_79 rfl (lv_at hl 3 rfl) ?_
        refine q_get S hw ly_Mem 0 rfl rfl 1 (by decide) tb_1_115 rfl rfl d_Mem_wrongs_80 ?_
        refine lv_iload_n hx hb d_Mem_wrongs_83 rfl (lv_at hl 1 rfl) ?_
        refine q_cr (q_runV (As := [.int (nI o)]) (rest := [.int (mt z), .int (0 : Int32)]) S (c_Tag_seenOfLine l D ti ad words mc mt mw rows held tc tw lines nx o (by first | assumption | omega)) (cw_v hts tb_2_147 k_Tag_seenOfLine rfl rfl ⟨by decide, by decide⟩) hw 2 rfl rfl rfl hl.1 rfl (Nat.le_of_ble_eq_true rfl) d_Mem_wrongs_84 ⟨Nat.zero_le _, Nat.zero_le _⟩) ?_
        refine W.eq (g2 := F0 m9 87 ls [.int (tSeen rows held tc o), .int (mt z), .int (0 : Int32)]) rfl ?_
        refine lv_ixor hx hb d_Mem_wrongs_87 ?_
        refine q_cr (q_runS (As := [.int ((mt z) ^^^ (tSeen rows held tc o))]) (rest := [.int (0 : Int32)]) S ((c_Int_bitCount l D (ty4 ti) ((mt z) ^^^ (tSeen rows held tc o))).nil _) (cw_s hts tb_2_181 k_Int_bitCount rfl rfl ⟨by decide, by decide⟩) hw rfl hl.1 rfl (Nat.le_of_ble_eq_true rfl) d_Mem_wrongs_88 ⟨Nat.zero_le _, Nat.zero_le _⟩) ?_
        refine W.eq (g2 := F0 m9 91 ls [.int (jpop ((mt z) ^^^ (tSeen rows held tc o))), .int (0 : Int32)]) rfl ?_
        refine lv_iadd hx hb d_Mem_wrongs_91 ?_
        refine lv_istore_n (lv' := [(1, .int ((0 : Int32) + (jpop ((mt z) ^^^ (tSeen rows held tc o))))), (3, .int (nI o)), (2, .int (nI z)), (0, .ref (ad 0))]) hx hb d_Mem_wrongs_92 rfl hl (by decide) rfl (fun ls hl => ?_)
        have hl : lv_has ls 4 [(1, .int (0 : Int32)), (3, .int (nI o)), (2, .int (nI z)), (0, .ref (ad 0))] := q_loc hl (by rw [r2, (r3 h60).2, Int32.xor_self, jpop_0]; rfl)
        refine lv_iinc (k := 2) (v := (nI (z + 1))) (lv' := [(2, .int (nI (z + 1))), (1, .int (0 : Int32)), (3, .int (nI o)), (0, .ref (ad 0))]) hx hb d_Mem_wrongs_93 hl rfl (iinc1 z) (by decide) rfl (fun ls hl => ?_)
        refine lv_goto hx hb d_Mem_wrongs_96 rfl ?_
        exact IH18 (z + 1) _ (by omega) (by omega) (lv_sub (l' := [(2, .int (nI (z + 1))), (1, .int (0 : Int32)), (0, .ref (ad 0))]) hl [0, 1, 3] rfl)
    · refine lv_iload_n hx hb d_Mem_wrongs_39 rfl (lv_at hl 2 rfl) ?_
      refine lv_aload_n hx hb d_Mem_wrongs_40 rfl (lv_at hl 3 rfl) ?_
      refine q_get S hw ly_Mem 0 rfl rfl 4 (by decide) tb_1_118 rfl rfl d_Mem_wrongs_41 ?_
      refine lv_iload_n hx hb d_Mem_wrongs_44 rfl (lv_at hl 1 rfl) ?_
      refine q_ialdN (k := z) S hw 5 0 rfl rfl (by first | assumption | omega) (by decide) d_Mem_wrongs_45 ?_
      refine q_cr (q_runS (As := [.int (mt z)]) (rest := [.int (0 : Int32)]) S ((c_Int_bitCount l D (ty4 ti) (mt z)).nil _) (cw_s hts tb_2_181 k_Int_bitCount rfl rfl ⟨by decide, by decide⟩) hw rfl hl.1 rfl (Nat.le_of_ble_eq_true rfl) d_Mem_wrongs_46 ⟨Nat.zero_le _, Nat.zero_le _⟩) ?_
      refine W.eq (g2 := F0 m9 49 ls [.int (jpop (mt z)), .int (0 : Int32)]) rfl ?_
      refine lv_iadd hx hb d_Mem_wrongs_49 ?_
      refine lv_istore_n (lv' := [(1, .int ((0 : Int32) + (jpop (mt z)))), (3, .int (lines z)), (2, .int (nI z)), (0, .ref (ad 0))]) hx hb d_Mem_wrongs_50 rfl hl (by decide) rfl (fun ls hl => ?_)
      have hl : lv_has ls 4 [(1, .int (0 : Int32)), (3, .int (lines z)), (2, .int (nI z)), (0, .ref (ad 0))] := q_loc hl (by rw [hM.2.2.2.2.2.1 z hz h36, jpop_0]; rfl)
      refine lv_goto hx hb d_Mem_wrongs_51 rfl ?_
      refine lv_iinc (k := 2) (v := (nI (z + 1))) (lv' := [(2, .int (nI (z + 1))), (1, .int (0 : Int32)), (3, .int (lines z)), (0, .ref (ad 0))]) hx hb d_Mem_wrongs_93 hl rfl (iinc1 z) (by decide) rfl (fun ls hl => ?_)
      refine lv_goto hx hb d_Mem_wrongs_96 rfl ?_
      exact IH18 (z + 1) _ (by omega) (by omega) (lv_sub (l' := [(2, .int (nI (z + 1))), (1, .int (0 : Int32)), (0, .ref (ad 0))]) hl [0, 1, 3] rfl)
