theorem upd_same (f : Nat → Int32) (k : Nat) : upd f k (f k) = f := by
  funext j
  unfold upd
  split
  · rename_i h; rw [h]
  · rfl
set_option maxHeartbeats 4000000 in
set_option maxRecDepth 100000 in
theorem c_Mem_slotOf (l : Launch) (D : va_G) (ti : Nat → ClassId) (ad : Nat → Nat) (words mc mt : Nat → Int32) (mw : Nat → Bool) (rows held tc : Nat → Int32) (tw : Nat → Bool) (lines nx : Nat → Int32) (w g : Nat → Int32) (hM : MI words mc mt mw rows held tc tw lines nx w g) (n : Nat) (hn : n < 512) : Cg l y_Mem_slotOf (wl y_Mem_slotOf b_Mem_slotOf 4 (some .int)) (rmL 1) D clz (ty4 ti) [.ref (ad 0), .int (nI n)] (MW ad ti words mc mt mw rows held tc tw lines nx) (fun z : Nat × MT => some (.int (nI z.1))) (fun z => MWt ad ti z.2) (fun z => z.1 < 32 ∧ MTl z.2 z.1 = nI n ∧ MIt z.2 w g) := by
  refine Cg.ofF (plainFor_of_name (by decide)) (Nat.le_of_ble_eq_true rfl) ?_
  intro p9 e9 s9 m9 b9 me9 c9 ls S hr hlk hl hw
  obtain ⟨hx, hb, hml, hown, hts⟩ := id S
  have hl : lv_has ls 4 [(0, .ref (ad 0)), (1, .int (nI n))] := hl
  refine lv_aload_n hx hb d_Mem_slotOf_0 rfl (lv_at hl 0 rfl) ?_
  refine q_get S hw ly_Mem 0 rfl rfl 2 (by decide) tb_1_116 rfl rfl d_Mem_slotOf_1 ?_
  refine lv_iload_n hx hb d_Mem_slotOf_4 rfl (lv_at hl 1 rfl) ?_
  refine q_cr (q_runV (As := [.int (nI n)]) (rest := []) S (c_Dir_find l D ti ad words mc mt mw rows held tc tw lines nx n (by first | assumption | omega)) (cw_v hts tb_2_143 k_Dir_find rfl rfl ⟨by decide, by decide⟩) hw 3 rfl rfl rfl hl.1 rfl (Nat.le_of_ble_eq_true rfl) d_Mem_slotOf_5 ⟨Nat.zero_le _, Nat.zero_le _⟩) ?_
  refine W.eq (g2 := F0 m9 8 ls [.int (mFind lines n)]) rfl ?_
  refine lv_istore_n (lv' := [(2, .int (mFind lines n)), (0, .ref (ad 0)), (1, .int (nI n))]) hx hb d_Mem_slotOf_8 rfl hl (by decide) rfl (fun ls hl => ?_)
  refine lv_iload_n hx hb d_Mem_slotOf_9 rfl (lv_at hl 0 rfl) ?_
  refine lv_iconst (v := -1) hx hb d_Mem_slotOf_10 (by decide) ?_
  refine lv_icmp_ne hx hb d_Mem_slotOf_11 rfl (fun h11 => ?_) (fun h11 => ?_)
  · obtain ⟨v, hv, hf0, hl0⟩ := mFind_some hM.1 hn h11
    have hl : lv_has ls 4 [(2, .int (nI v)), (0, .ref (ad 0)), (1, .int (nI n))] := q_loc hl (by rw [hf0])
    refine lv_aload_n hx hb d_Mem_slotOf_150 rfl (lv_at hl 1 rfl) ?_
    refine q_get S hw ly_Mem 0 rfl rfl 2 (by decide) tb_1_116 rfl rfl d_Mem_slotOf_151 ?_
    refine lv_iload_n hx hb d_Mem_slotOf_154 rfl (lv_at hl 0 rfl) ?_
    refine q_cg (q_runV (As := [.int (nI v)]) (rest := []) S (c_Dir_touch l D ti ad words mc mt mw rows held tc tw lines nx v (by first | assumption | omega)) (cw_v hts tb_3_52 k_Dir_touch rfl rfl ⟨by decide, by decide⟩) hw 3 rfl rfl rfl hl.1 rfl (Nat.le_of_ble_eq_true rfl) d_Mem_slotOf_155 ⟨Nat.zero_le _, Nat.zero_le _⟩) hw (fun u hD => qD_same hD rfl) (fun u H locs hp hw => ?_)
    refine W.eq (g2 := F0 m9 158 ls []) rfl ?_
    have hw : Lv _ _ _ _ _ (MW ad ti words mc mt mw rows held tc tw lines (upd nx (v / 2) (1 - nI (v % 2)))) _ _ _ := hw
    refine lv_iload_n hx hb d_Mem_slotOf_158 rfl (lv_at hl 0 rfl) ?_
    exact hw.riz S hr hlk (rfl) d_Mem_slotOf_159 (v, words, mc, mt, mw, rows, held, tc, tw, lines, (upd nx (v / 2) (1 - nI (v % 2)))) (rfl) (⟨hv, hl0, hM.touch v⟩) (rfl)
  · have hno := mFind_none hM.1 hn h11
    obtain ⟨v, hv, hvn, hvic⟩ := mVic_spec hM.2.2.1 n
    refine lv_aload_n hx hb d_Mem_slotOf_14 rfl (lv_at hl 1 rfl) ?_
    refine q_get S hw ly_Mem 0 rfl rfl 2 (by decide) tb_1_116 rfl rfl d_Mem_slotOf_15 ?_
    refine lv_iload_n hx hb d_Mem_slotOf_18 rfl (lv_at hl 2 rfl) ?_
    refine q_cr (q_runV (As := [.int (nI n)]) (rest := []) S (c_Dir_victim l D ti ad words mc mt mw rows held tc tw lines nx n (by first | assumption | omega)) (cw_v hts tb_3_33 k_Dir_victim rfl rfl ⟨by decide, by decide⟩) hw 3 rfl rfl rfl hl.1 rfl (Nat.le_of_ble_eq_true rfl) d_Mem_slotOf_19 ⟨Nat.zero_le _, Nat.zero_le _⟩) ?_
    refine W.eq (g2 := F0 m9 22 ls [.int (mVic nx n)]) rfl ?_
    refine lv_istore_n (lv' := [(2, .int (mVic nx n)), (0, .ref (ad 0)), (1, .int (nI n))]) hx hb d_Mem_slotOf_22 rfl hl (by decide) rfl (fun ls hl => ?_)
    have hl : lv_has ls 4 [(2, .int (nI v)), (0, .ref (ad 0)), (1, .int (nI n))] := q_loc hl (by rw [hvic])
    refine lv_aload_n hx hb d_Mem_slotOf_23 rfl (lv_at hl 1 rfl) ?_
    refine q_get S hw ly_Mem 0 rfl rfl 2 (by decide) tb_1_116 rfl rfl d_Mem_slotOf_24 ?_
    refine q_get S hw ly_Dir 3 rfl rfl 0 (by decide) tb_1_107 rfl rfl d_Mem_slotOf_27 ?_
    refine lv_iload_n hx hb d_Mem_slotOf_30 rfl (lv_at hl 0 rfl) ?_
    refine q_ialdN (k := v) S hw 11 0 rfl rfl (by first | assumption | omega) (by decide) d_Mem_slotOf_31 ?_
    refine lv_istore_n (lv' := [(3, .int (lines v)), (2, .int (nI v)), (0, .ref (ad 0)), (1, .int (nI n))]) hx hb d_Mem_slotOf_32 rfl hl (by decide) rfl (fun ls hl => ?_)
    refine q_joinG (Z := (Nat → Int32) × (Nat → Int32) × (Nat → Int32) × (Nat → Int32) × (Nat → Bool)) (pcJ := 90) (st := []) (nL := 4) (fun _ => [(2, .int (nI v)), (1, .int (nI n)), (0, .ref (ad 0))]) (fun z => (MW ad ti z.1 mc mt mw z.2.1 z.2.2.1 z.2.2.2.1 z.2.2.2.2 lines nx)) (fun z => MI z.1 mc mt mw z.2.1 z.2.2.1 z.2.2.2.1 z.2.2.2.2 lines nx w g ∧ (∀ o, o < 512 → lines v = nI o → (∀ j, j < 8 → z.1 (o * 8 + j) = w (o * 8 + j)) ∧ tSeen z.2.1 z.2.2.1 z.2.2.2.1 o = g o)) hw (fun z H locs ls hI90 hw hl => ?_) (fun J90 => ?_)
    · obtain ⟨words1, rows1, held1, tc1, tw1⟩ := z
      obtain ⟨hM, hC⟩ : MI words1 mc mt mw rows1 held1 tc1 tw1 lines nx w g ∧ (∀ o, o < 512 → lines v = nI o → (∀ j, j < 8 → words1 (o * 8 + j) = w (o * 8 + j)) ∧ tSeen rows1 held1 tc1 o = g o) := hI90
      have hw : Lv _ _ _ _ _ (MW ad ti words1 mc mt mw rows1 held1 tc1 tw1 lines nx) _ _ _ := hw
      have hl : lv_has ls 4 [(2, .int (nI v)), (1, .int (nI n)), (0, .ref (ad 0))] := hl
      refine lv_aload_n hx hb d_Mem_slotOf_90 rfl (lv_at hl 2 rfl) ?_
      refine q_get S hw ly_Mem 0 rfl rfl 0 (by decide) tb_1_114 rfl rfl d_Mem_slotOf_91 ?_
      refine lv_iload_n hx hb d_Mem_slotOf_94 rfl (lv_at hl 1 rfl) ?_
      refine lv_bipush (v := 8) hx hb d_Mem_slotOf_95 (by decide) ?_
      refine lv_imul hx hb d_Mem_slotOf_97 ?_
      refine q_topi (z := nI (n * 8)) (pk_mul n 8) ?_
      refine lv_aload_n hx hb d_Mem_slotOf_98 rfl (lv_at hl 2 rfl) ?_
      refine q_get S hw ly_Mem 0 rfl rfl 3 (by decide) tb_1_117 rfl rfl d_Mem_slotOf_99 ?_
      refine lv_iload_n hx hb d_Mem_slotOf_102 rfl (lv_at hl 0 rfl) ?_
      refine lv_bipush (v := 8) hx hb d_Mem_slotOf_103 (by decide) ?_
      refine lv_imul hx hb d_Mem_slotOf_105 ?_
      refine q_topi (z := nI (v * 8)) (pk_mul v 8) ?_
      refine lv_bipush (v := 8) hx hb d_Mem_slotOf_106 (by decide) ?_
      refine q_copyN (sp := (n * 8)) (dp := (v * 8)) (k := 8) S hl.1 hw tb_3_37 tb_3_39 tb_3_38 tb_1_17 1 4 0 rfl rfl rfl (by omega) (by omega) (by decide) (by decide) (Nat.le_of_ble_eq_true rfl) (Nat.le_of_ble_eq_true rfl) d_Mem_slotOf_108 (fun H locs hw => ?_)
      have hw : Lv _ _ _ _ _ (MW ad ti words1 (va_cpy words1 mc (n * 8) (v * 8) 8) mt mw rows1 held1 tc1 tw1 lines nx) _ _ _ := hw
      refine lv_aload_n hx hb d_Mem_slotOf_111 rfl (lv_at hl 2 rfl) ?_
      refine q_get S hw ly_Mem 0 rfl rfl 1 (by decide) tb_1_115 rfl rfl d_Mem_slotOf_112 ?_
      refine lv_iload_n hx hb d_Mem_slotOf_115 rfl (lv_at hl 1 rfl) ?_
      refine q_cg (q_runV (As := [.int (nI n)]) (rest := []) S (c_Tag_bring l D ti ad words1 (va_cpy words1 mc (n * 8) (v * 8) 8) mt mw rows1 held1 tc1 tw1 lines nx n (by first | assumption | omega) hM.2.2.2.1) (cw_v hts tb_3_40 k_Tag_bring rfl rfl ⟨by decide, by decide⟩) hw 2 rfl rfl rfl hl.1 rfl (Nat.le_of_ble_eq_true rfl) d_Mem_slotOf_116 ⟨Nat.zero_le _, Nat.zero_le _⟩) hw (fun u hD => qD_same hD rfl) (fun u H locs hp hw => ?_)
      refine W.eq (g2 := F0 m9 119 ls []) rfl ?_
      have hw : Lv _ _ _ _ _ (MW ad ti words1 (va_cpy words1 mc (n * 8) (v * 8) 8) mt mw (brRows rows1 held1 tc1 tw1 n) (brHeld held1 n) (brTc rows1 held1 tc1 tw1 n) (brTw held1 tw1 n) lines nx) _ _ _ := hw
      refine lv_aload_n hx hb d_Mem_slotOf_119 rfl (lv_at hl 2 rfl) ?_
      refine q_get S hw ly_Mem 0 rfl rfl 4 (by decide) tb_1_118 rfl rfl d_Mem_slotOf_120 ?_
      refine lv_iload_n hx hb d_Mem_slotOf_123 rfl (lv_at hl 0 rfl) ?_
      refine lv_aload_n hx hb d_Mem_slotOf_124 rfl (lv_at hl 2 rfl) ?_
      refine q_get S hw ly_Mem 0 rfl rfl 1 (by decide) tb_1_115 rfl rfl d_Mem_slotOf_125 ?_
      refine lv_iload_n hx hb d_Mem_slotOf_128 rfl (lv_at hl 1 rfl) ?_
      refine q_cr (q_runV (As := [.int (nI n)]) (rest := [.int (nI v), .ref (ad 5)]) S (c_Tag_ofLine l D ti ad words1 (va_cpy words1 mc (n * 8) (v * 8) 8) mt mw (brRows rows1 held1 tc1 tw1 n) (brHeld held1 n) (brTc rows1 held1 tc1 tw1 n) (brTw held1 tw1 n) lines nx n (by first | assumption | omega)) (cw_v hts tb_3_48 k_Tag_ofLine rfl rfl ⟨by decide, by decide⟩) hw 2 rfl rfl rfl hl.1 rfl (Nat.le_of_ble_eq_true rfl) d_Mem_slotOf_129 ⟨Nat.zero_le _, Nat.zero_le _⟩) ?_
      refine W.eq (g2 := F0 m9 132 ls [.int (tOf (brTc rows1 held1 tc1 tw1 n) n), .int (nI v), .ref (ad 5)]) rfl ?_
      refine q_iastN (k := v) S hw 5 0 rfl rfl (by first | assumption | omega) (by decide) d_Mem_slotOf_132 (fun H locs hw => ?_)
      have hw : Lv _ _ _ _ _ (MW ad ti words1 (va_cpy words1 mc (n * 8) (v * 8) 8) (upd mt v (tOf (brTc rows1 held1 tc1 tw1 n) n)) mw (brRows rows1 held1 tc1 tw1 n) (brHeld held1 n) (brTc rows1 held1 tc1 tw1 n) (brTw held1 tw1 n) lines nx) _ _ _ := hw
      refine lv_aload_n hx hb d_Mem_slotOf_133 rfl (lv_at hl 2 rfl) ?_
      refine q_get S hw ly_Mem 0 rfl rfl 5 (by decide) tb_1_119 rfl rfl d_Mem_slotOf_134 ?_
      refine lv_iload_n hx hb d_Mem_slotOf_137 rfl (lv_at hl 0 rfl) ?_
      refine lv_iconst (v := 0) hx hb d_Mem_slotOf_138 (by decide) ?_
      refine q_zastN (k := v) S hw 6 1 rfl rfl false (by first | assumption | omega) (by decide) d_Mem_slotOf_139 (fun H locs hw => ?_)
      have hw : Lv _ _ _ _ _ (MW ad ti words1 (va_cpy words1 mc (n * 8) (v * 8) 8) (upd mt v (tOf (brTc rows1 held1 tc1 tw1 n) n)) (va_up mw v false) (brRows rows1 held1 tc1 tw1 n) (brHeld held1 n) (brTc rows1 held1 tc1 tw1 n) (brTw held1 tw1 n) lines nx) _ _ _ := hw
      refine lv_aload_n hx hb d_Mem_slotOf_140 rfl (lv_at hl 2 rfl) ?_
      refine q_get S hw ly_Mem 0 rfl rfl 2 (by decide) tb_1_116 rfl rfl d_Mem_slotOf_141 ?_
      refine q_get S hw ly_Dir 3 rfl rfl 0 (by decide) tb_1_107 rfl rfl d_Mem_slotOf_144 ?_
      refine lv_iload_n hx hb d_Mem_slotOf_147 rfl (lv_at hl 0 rfl) ?_
      refine lv_iload_n hx hb d_Mem_slotOf_148 rfl (lv_at hl 1 rfl) ?_
      refine q_iastN (k := v) S hw 11 0 rfl rfl (by first | assumption | omega) (by decide) d_Mem_slotOf_149 (fun H locs hw => ?_)
      have hw : Lv _ _ _ _ _ (MW ad ti words1 (va_cpy words1 mc (n * 8) (v * 8) 8) (upd mt v (tOf (brTc rows1 held1 tc1 tw1 n) n)) (va_up mw v false) (brRows rows1 held1 tc1 tw1 n) (brHeld held1 n) (brTc rows1 held1 tc1 tw1 n) (brTw held1 tw1 n) (upd lines v (nI n)) nx) _ _ _ := hw
      have hM := hM.load hn hv hvn hno hC
      have hl0 : upd lines v (nI n) v = nI n := by simp [upd]
      refine lv_aload_n hx hb d_Mem_slotOf_150 rfl (lv_at hl 2 rfl) ?_
      refine q_get S hw ly_Mem 0 rfl rfl 2 (by decide) tb_1_116 rfl rfl d_Mem_slotOf_151 ?_
      refine lv_iload_n hx hb d_Mem_slotOf_154 rfl (lv_at hl 0 rfl) ?_
      refine q_cg (q_runV (As := [.int (nI v)]) (rest := []) S (c_Dir_touch l D ti ad words1 (va_cpy words1 mc (n * 8) (v * 8) 8) (upd mt v (tOf (brTc rows1 held1 tc1 tw1 n) n)) (va_up mw v false) (brRows rows1 held1 tc1 tw1 n) (brHeld held1 n) (brTc rows1 held1 tc1 tw1 n) (brTw held1 tw1 n) (upd lines v (nI n)) nx v (by first | assumption | omega)) (cw_v hts tb_3_52 k_Dir_touch rfl rfl ⟨by decide, by decide⟩) hw 3 rfl rfl rfl hl.1 rfl (Nat.le_of_ble_eq_true rfl) d_Mem_slotOf_155 ⟨Nat.zero_le _, Nat.zero_le _⟩) hw (fun u hD => qD_same hD rfl) (fun u H locs hp hw => ?_)
      refine W.eq (g2 := F0 m9 158 ls []) rfl ?_
      have hw : Lv _ _ _ _ _ (MW ad ti words1 (va_cpy words1 mc (n * 8) (v * 8) 8) (upd mt v (tOf (brTc rows1 held1 tc1 tw1 n) n)) (va_up mw v false) (brRows rows1 held1 tc1 tw1 n) (brHeld held1 n) (brTc rows1 held1 tc1 tw1 n) (brTw held1 tw1 n) (upd lines v (nI n)) (upd nx (v / 2) (1 - nI (v % 2)))) _ _ _ := hw
      refine lv_iload_n hx hb d_Mem_slotOf_158 rfl (lv_at hl 0 rfl) ?_
      exact hw.riz S hr hlk (rfl) d_Mem_slotOf_159 (v, words1, (va_cpy words1 mc (n * 8) (v * 8) 8), (upd mt v (tOf (brTc rows1 held1 tc1 tw1 n) n)), (va_up mw v false), (brRows rows1 held1 tc1 tw1 n), (brHeld held1 n), (brTc rows1 held1 tc1 tw1 n), (brTw held1 tw1 n), (upd lines v (nI n)), (upd nx (v / 2) (1 - nI (v % 2)))) (rfl) (⟨hv, hl0, hM.touch v⟩) (rfl)
    · refine lv_iload_n hx hb d_Mem_slotOf_33 rfl (lv_at hl 0 rfl) ?_
      refine lv_iconst (v := -1) hx hb d_Mem_slotOf_34 (by decide) ?_
      refine lv_icmp_eq hx hb d_Mem_slotOf_35 rfl (fun h35 => ?_) (fun h35 => ?_)
      · exact J90 (words, rows, held, tc, tw) _ _ _ (⟨hM, fun o ho e => absurd (e.symm.trans h35) (nI_neg (by omega))⟩) hw (lv_sub (l' := [(2, .int (nI v)), (1, .int (nI n)), (0, .ref (ad 0))]) hl [1, 3, 2] rfl)
      · refine lv_aload_n hx hb d_Mem_slotOf_38 rfl (lv_at hl 2 rfl) ?_
        refine q_get S hw ly_Mem 0 rfl rfl 5 (by decide) tb_1_119 rfl rfl d_Mem_slotOf_39 ?_
        refine lv_iload_n hx hb d_Mem_slotOf_42 rfl (lv_at hl 1 rfl) ?_
        refine q_zaldN (k := v) S hw 6 1 rfl rfl (by first | assumption | omega) (by decide) d_Mem_slotOf_43 ?_
        refine q_ifz_eq S d_Mem_slotOf_44 rfl (fun h44 => ?_) (fun h44 => ?_)
        · exact J90 (words, rows, held, tc, tw) _ _ _ (⟨hM, fun o ho e => (hM.2.2.2.2.2.2.1 v o hv ho e).2.2 h44⟩) hw (lv_sub (l' := [(2, .int (nI v)), (1, .int (nI n)), (0, .ref (ad 0))]) hl [1, 3, 2] rfl)
        · obtain ⟨o, ho, ho2, hvo⟩ : ∃ o, o < 512 ∧ o % 16 = v / 2 ∧ lines v = nI o := (hM.1 v hv).resolve_left h35
          have hl : lv_has ls 4 [(3, .int (nI o)), (2, .int (nI v)), (0, .ref (ad 0)), (1, .int (nI n))] := q_loc hl (by rw [hvo])
          refine lv_aload_n hx hb d_Mem_slotOf_47 rfl (lv_at hl 2 rfl) ?_
          refine q_get S hw ly_Mem 0 rfl rfl 3 (by decide) tb_1_117 rfl rfl d_Mem_slotOf_48 ?_
          refine lv_iload_n hx hb d_Mem_slotOf_51 rfl (lv_at hl 1 rfl) ?_
          refine lv_bipush (v := 8) hx hb d_Mem_slotOf_52 (by decide) ?_
          refine lv_imul hx hb d_Mem_slotOf_54 ?_
          refine q_topi (z := nI (v * 8)) (pk_mul v 8) ?_
          refine lv_aload_n hx hb d_Mem_slotOf_55 rfl (lv_at hl 2 rfl) ?_
          refine q_get S hw ly_Mem 0 rfl rfl 0 (by decide) tb_1_114 rfl rfl d_Mem_slotOf_56 ?_
          refine lv_iload_n hx hb d_Mem_slotOf_59 rfl (lv_at hl 0 rfl) ?_
          refine lv_bipush (v := 8) hx hb d_Mem_slotOf_60 (by decide) ?_
          refine lv_imul hx hb d_Mem_slotOf_62 ?_
          refine q_topi (z := nI (o * 8)) (pk_mul o 8) ?_
          refine lv_bipush (v := 8) hx hb d_Mem_slotOf_63 (by decide) ?_
          refine q_copyN (sp := (v * 8)) (dp := (o * 8)) (k := 8) S hl.1 hw tb_3_37 tb_3_39 tb_3_38 tb_1_17 4 1 0 rfl rfl rfl (by omega) (by omega) (by decide) (by decide) (Nat.le_of_ble_eq_true rfl) (Nat.le_of_ble_eq_true rfl) d_Mem_slotOf_65 (fun H locs hw => ?_)
          have hw : Lv _ _ _ _ _ (MW ad ti (va_cpy mc words (v * 8) (o * 8) 8) mc mt mw rows held tc tw lines nx) _ _ _ := hw
          refine lv_aload_n hx hb d_Mem_slotOf_68 rfl (lv_at hl 2 rfl) ?_
          refine q_get S hw ly_Mem 0 rfl rfl 1 (by decide) tb_1_115 rfl rfl d_Mem_slotOf_69 ?_
          refine lv_iload_n hx hb d_Mem_slotOf_72 rfl (lv_at hl 0 rfl) ?_
          refine q_cg (q_runV (As := [.int (nI o)]) (rest := []) S (c_Tag_bring l D ti ad (va_cpy mc words (v * 8) (o * 8) 8) mc mt mw rows held tc tw lines nx o (by first | assumption | omega) hM.2.2.2.1) (cw_v hts tb_3_40 k_Tag_bring rfl rfl ⟨by decide, by decide⟩) hw 2 rfl rfl rfl hl.1 rfl (Nat.le_of_ble_eq_true rfl) d_Mem_slotOf_73 ⟨Nat.zero_le _, Nat.zero_le _⟩) hw (fun u hD => qD_same hD rfl) (fun u H locs hp hw => ?_)
          refine W.eq (g2 := F0 m9 76 ls []) rfl ?_
          have hw : Lv _ _ _ _ _ (MW ad ti (va_cpy mc words (v * 8) (o * 8) 8) mc mt mw (brRows rows held tc tw o) (brHeld held o) (brTc rows held tc tw o) (brTw held tw o) lines nx) _ _ _ := hw
          refine lv_aload_n hx hb d_Mem_slotOf_76 rfl (lv_at hl 2 rfl) ?_
          refine q_get S hw ly_Mem 0 rfl rfl 1 (by decide) tb_1_115 rfl rfl d_Mem_slotOf_77 ?_
          refine lv_iload_n hx hb d_Mem_slotOf_80 rfl (lv_at hl 0 rfl) ?_
          refine lv_aload_n hx hb d_Mem_slotOf_81 rfl (lv_at hl 2 rfl) ?_
          refine q_get S hw ly_Mem 0 rfl rfl 4 (by decide) tb_1_118 rfl rfl d_Mem_slotOf_82 ?_
          refine lv_iload_n hx hb d_Mem_slotOf_85 rfl (lv_at hl 1 rfl) ?_
          refine q_ialdN (k := v) S hw 5 0 rfl rfl (by first | assumption | omega) (by decide) d_Mem_slotOf_86 ?_
          refine q_cg (q_runV (As := [.int (nI o), .int (mt v)]) (rest := []) S (c_Tag_keep l D ti ad (va_cpy mc words (v * 8) (o * 8) 8) mc mt mw (brRows rows held tc tw o) (brHeld held o) (brTc rows held tc tw o) (brTw held tw o) lines nx o (by first | assumption | omega) (mt v)) (cw_v hts tb_3_44 k_Tag_keep rfl rfl ⟨by decide, by decide⟩) hw 2 rfl rfl rfl hl.1 rfl (Nat.le_of_ble_eq_true rfl) d_Mem_slotOf_87 ⟨Nat.zero_le _, Nat.zero_le _⟩) hw (fun u hD => qD_same hD rfl) (fun u H locs hp hw => ?_)
          refine W.eq (g2 := F0 m9 90 ls []) rfl ?_
          have hw : Lv _ _ _ _ _ (MW ad ti (va_cpy mc words (v * 8) (o * 8) 8) mc mt mw (brRows rows held tc tw o) (brHeld held o) (kpTc (brTc rows held tc tw o) o (mt v)) (va_up (brTw held tw o) (o / 8 % 8) true) lines nx) _ _ _ := hw
          exact J90 ((va_cpy mc words (v * 8) (o * 8) 8), (brRows rows held tc tw o), (brHeld held o), (kpTc (brTc rows held tc tw o) o (mt v)), (va_up (brTw held tw o) (o / 8 % 8) true)) _ _ _ (⟨(hM.back ho hv hvo).1, fun o2 ho2 e2 => by have q : o2 = o := nI_inj (by omega) (by omega) (e2.symm.trans hvo); subst q; exact (hM.back ho hv hvo).2⟩) hw (lv_sub (l' := [(2, .int (nI v)), (1, .int (nI n)), (0, .ref (ad 0))]) hl [1, 3, 2] rfl)
