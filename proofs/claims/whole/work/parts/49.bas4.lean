set_option maxHeartbeats 4000000 in
set_option maxRecDepth 100000 in
theorem c_Bas_execute (l : Launch) (D : va_G) (ti : Nat → ClassId) (ad : Nat → Nat) (u : MT) (pi ex de : Nat) (xi xb di db fi fb : Int32) (ob reg : Nat → Nat) (kq : Int32 × Bool × Bool × Int32 × Int64) (ca va fv : Int32) (R : Nat → Cap) (w g : Nat → Int32) (hM : MIt u w g) (hD : PF di db w) (hF : PF fi fb w) : Cg l y_Bas_execute (wl y_Bas_execute b_Bas_execute 2 (some .int)) (rmL 5) D clz (ty4 ti) [.ref (ob 2), .ref ex] (CW ad ti u pi ex de xi xb di db fi fb ob reg kq ca va fv R) (fun z : MT × Int32 × Int32 => some (.int (xB fv ca va R w g xb).1)) (fun z => (CW ad ti z.1 pi ex de xi xb z.2.1 db z.2.2 fb ob reg kq ((xB fv ca va R w g xb).2.2.2.1) ((xB fv ca va R w g xb).2.2.2.2.1) ((xB fv ca va R w g xb).2.1) ((xB fv ca va R w g xb).2.2.1))) (fun z => MIt z.1 (xB fv ca va R w g xb).2.2.2.2.2.1 (xB fv ca va R w g xb).2.2.2.2.2.2 ∧ PF z.2.1 db (xB fv ca va R w g xb).2.2.2.2.2.1 ∧ PF z.2.2 fb (xB fv ca va R w g xb).2.2.2.2.2.1) := by
  refine Cg.ofF (plainFor_of_name (by decide)) (Nat.le_of_ble_eq_true rfl) ?_
  intro p9 e9 s9 m9 b9 me9 c9 ls S hr hlk hl hw
  obtain ⟨hx, hb, hml, hown, hts⟩ := id S
  have hl : lv_has ls 2 [(0, .ref (ob 2)), (1, .ref ex)] := hl
  have hr1 := nR1_lt xb
  have hr2 := nR2_lt xb
  have hrd := nRd_lt xb
  refine lv_aload_n hx hb d_Bas_execute_0 rfl (lv_at hl 1 rfl) ?_
  refine q_get S hw ly_Ins 14 rfl rfl 2 (by decide) tb_1_150 rfl rfl d_Bas_execute_1 ?_
  refine q_topi (z := (nI (nOp xb))) rfl ?_
  by_cases hc4_3 : (nI (nOp xb)) = (3 : Int32)
  · refine lv_lookup (off := 100) (tgt := 104) hx hb d_Bas_execute_4 (by decide) (by rw [hc4_3] <;> rfl) rfl ?_
    refine lv_aload_n hx hb d_Bas_execute_104 rfl (lv_at hl 0 rfl) ?_
    refine lv_aload_n hx hb d_Bas_execute_105 rfl (lv_at hl 1 rfl) ?_
    refine q_cg (q_runV (As := [.ref ex]) (rest := []) S (c_Bas_load l D ti ad u pi ex de xi xb di db fi fb ob reg kq ca va fv R w g hM) (cw_v hts tb_4_102 k_Bas_load rfl rfl ⟨by decide, by decide⟩) hw 18 rfl rfl rfl hl.1 rfl (Nat.le_of_ble_eq_true rfl) d_Bas_execute_106 ⟨Nat.zero_le _, Nat.zero_le _⟩) hw (fun z hD => CW_D (qD_same hD rfl)) (fun z46 H locs hp47 hw => ?_)
    obtain ⟨u48, rfl⟩ : ∃ y, y = z46 := ⟨_, rfl⟩
    have hM45 : MIt u48 w g := hp47
    refine W.eq (g2 := F0 m9 109 ls [.int ((xLd fv R w g xb).1)]) rfl ?_
    have hw : Lv _ _ _ _ _ (CW ad ti u48 pi ex de xi xb di db fi fb ob reg kq ca va ((xLd fv R w g xb).2.1) ((xLd fv R w g xb).2.2)) _ _ _ := hw
    exact hw.riz S hr hlk (rfl) d_Bas_execute_109 (u48, di, fi) (by unfold xB; rw [if_pos hc4_3]; (try unfold xoc); first | done | rfl) (by unfold xB; rw [if_pos hc4_3]; (try unfold xoc); exact ⟨hM45, hD, hF⟩) (by unfold xB; rw [if_pos hc4_3]; (try unfold xoc); first | done | rfl)
  by_cases hc4_15 : (nI (nOp xb)) = (15 : Int32)
  · refine lv_lookup (off := 106) (tgt := 110) hx hb d_Bas_execute_4 (by decide) (by rw [hc4_15] <;> rfl) rfl ?_
    refine lv_aload_n hx hb d_Bas_execute_110 rfl (lv_at hl 1 rfl) ?_
    refine q_get S hw ly_Ins 14 rfl rfl 4 (by decide) tb_1_158 rfl rfl d_Bas_execute_111 ?_
    refine lv_if_ne hx hb d_Bas_execute_114 rfl (fun h114 => ?_) (fun h114 => ?_)
    · refine lv_aload_n hx hb d_Bas_execute_121 rfl (lv_at hl 0 rfl) ?_
      refine q_get S hw ly_Bas 18 rfl rfl 0 (by decide) tb_2_14 rfl rfl d_Bas_execute_122 ?_
      refine lv_aload_n hx hb d_Bas_execute_125 rfl (lv_at hl 1 rfl) ?_
      refine q_cg (q_runV (As := [.ref ex]) (rest := []) S (c_Sta_illegal l D ti ad u pi ex de xi xb di db fi fb ob reg kq ca va fv R) (cw_v hts tb_4_106 k_Sta_illegal rfl rfl ⟨by decide, by decide⟩) hw 16 rfl rfl rfl hl.1 rfl (Nat.le_of_ble_eq_true rfl) d_Bas_execute_126 ⟨Nat.zero_le _, Nat.zero_le _⟩) hw (fun z hD => qD_same hD rfl) (fun z9 H locs hp9 hw => ?_)
      refine W.eq (g2 := F0 m9 129 ls [.int (2 : Int32)]) rfl ?_
      have hw : Lv _ _ _ _ _ (CW ad ti u pi ex de xi xb di db fi fb ob reg kq ca va xb R) _ _ _ := hw
      exact hw.riz S hr hlk (rfl) d_Bas_execute_129 (u, di, fi) (by unfold xB; rw [if_neg hc4_3, if_pos hc4_15, if_neg h114]; (try unfold xoc); first | done | rfl) (by unfold xB; rw [if_neg hc4_3, if_pos hc4_15, if_neg h114]; (try unfold xoc); exact ⟨hM, hD, hF⟩) (by unfold xB; rw [if_neg hc4_3, if_pos hc4_15, if_neg h114]; (try unfold xoc); first | done | rfl)
    · refine lv_iconst (v := -1) hx hb d_Bas_execute_117 (by decide) ?_
      refine lv_goto hx hb d_Bas_execute_118 rfl ?_
      exact hw.riz S hr hlk (rfl) d_Bas_execute_129 (u, di, fi) (by unfold xB; rw [if_neg hc4_3, if_pos hc4_15, if_pos h114]; (try unfold xoc); first | done | rfl) (by unfold xB; rw [if_neg hc4_3, if_pos hc4_15, if_pos h114]; (try unfold xoc); exact ⟨hM, hD, hF⟩) (by unfold xB; rw [if_neg hc4_3, if_pos hc4_15, if_pos h114]; (try unfold xoc); first | done | rfl)
  by_cases hc4_19 : (nI (nOp xb)) = (19 : Int32)
  · refine lv_lookup (off := 126) (tgt := 130) hx hb d_Bas_execute_4 (by decide) (by rw [hc4_19] <;> rfl) rfl ?_
    refine lv_aload_n hx hb d_Bas_execute_130 rfl (lv_at hl 0 rfl) ?_
    refine lv_aload_n hx hb d_Bas_execute_131 rfl (lv_at hl 1 rfl) ?_
    refine q_cg (q_runV (As := [.ref ex]) (rest := []) S (c_Bas_operateImmediate l D ti ad u pi ex de xi xb di db fi fb ob reg kq ca va fv R) (cw_v hts tb_4_128 k_Bas_operateImmediate rfl rfl ⟨by decide, by decide⟩) hw 18 rfl rfl rfl hl.1 rfl (Nat.le_of_ble_eq_true rfl) d_Bas_execute_132 ⟨Nat.zero_le _, Nat.zero_le _⟩) hw (fun z hD => CW_D (qD_same hD rfl)) (fun z9 H locs hp9 hw => ?_)
    refine W.eq (g2 := F0 m9 135 ls [.int ((xOi fv R xb).1)]) rfl ?_
    have hw : Lv _ _ _ _ _ (CW ad ti u pi ex de xi xb di db fi fb ob reg kq ca va ((xOi fv R xb).2.1) ((xOi fv R xb).2.2)) _ _ _ := hw
    exact hw.riz S hr hlk (rfl) d_Bas_execute_135 (u, di, fi) (by unfold xB; rw [if_neg hc4_3, if_neg hc4_15, if_pos hc4_19]; (try unfold xoc); first | done | rfl) (by unfold xB; rw [if_neg hc4_3, if_neg hc4_15, if_pos hc4_19]; (try unfold xoc); exact ⟨hM, hD, hF⟩) (by unfold xB; rw [if_neg hc4_3, if_neg hc4_15, if_pos hc4_19]; (try unfold xoc); first | done | rfl)
  by_cases hc4_23 : (nI (nOp xb)) = (23 : Int32)
  · refine lv_lookup (off := 132) (tgt := 136) hx hb d_Bas_execute_4 (by decide) (by rw [hc4_23] <;> rfl) rfl ?_
    refine lv_aload_n hx hb d_Bas_execute_136 rfl (lv_at hl 0 rfl) ?_
    refine lv_aload_n hx hb d_Bas_execute_137 rfl (lv_at hl 1 rfl) ?_
    refine q_cg (q_runV (As := [.ref ex]) (rest := []) S (c_Bas_addToPcc l D ti ad u pi ex de xi xb di db fi fb ob reg kq ca va fv R) (cw_v hts tb_4_142 k_Bas_addToPcc rfl rfl ⟨by decide, by decide⟩) hw 18 rfl rfl rfl hl.1 rfl (Nat.le_of_ble_eq_true rfl) d_Bas_execute_138 ⟨Nat.zero_le _, Nat.zero_le _⟩) hw (fun z hD => CW_D (qD_same hD rfl)) (fun z9 H locs hp9 hw => ?_)
    refine W.eq (g2 := F0 m9 141 ls [.int ((xAdd fv R xb).1)]) rfl ?_
    have hw : Lv _ _ _ _ _ (CW ad ti u pi ex de xi xb di db fi fb ob reg kq ca va ((xAdd fv R xb).2.1) ((xAdd fv R xb).2.2)) _ _ _ := hw
    exact hw.riz S hr hlk (rfl) d_Bas_execute_141 (u, di, fi) (by unfold xB; rw [if_neg hc4_3, if_neg hc4_15, if_neg hc4_19, if_pos hc4_23]; (try unfold xoc); first | done | rfl) (by unfold xB; rw [if_neg hc4_3, if_neg hc4_15, if_neg hc4_19, if_pos hc4_23]; (try unfold xoc); exact ⟨hM, hD, hF⟩) (by unfold xB; rw [if_neg hc4_3, if_neg hc4_15, if_neg hc4_19, if_pos hc4_23]; (try unfold xoc); first | done | rfl)
  by_cases hc4_35 : (nI (nOp xb)) = (35 : Int32)
  · refine lv_lookup (off := 138) (tgt := 142) hx hb d_Bas_execute_4 (by decide) (by rw [hc4_35] <;> rfl) rfl ?_
    refine lv_aload_n hx hb d_Bas_execute_142 rfl (lv_at hl 0 rfl) ?_
    refine lv_aload_n hx hb d_Bas_execute_143 rfl (lv_at hl 1 rfl) ?_
    refine q_cg (q_runV (As := [.ref ex]) (rest := []) S (c_Bas_store l D ti ad u pi ex de xi xb di db fi fb ob reg kq ca va fv R w g hM hD hF) (cw_v hts tb_4_148 k_Bas_store rfl rfl ⟨by decide, by decide⟩) hw 18 rfl rfl rfl hl.1 rfl (Nat.le_of_ble_eq_true rfl) d_Bas_execute_144 ⟨Nat.zero_le _, Nat.zero_le _⟩) hw (fun z hD => CW_D (qD_same hD rfl)) (fun z52 H locs hp53 hw => ?_)
    obtain ⟨u54, di55, fi56⟩ := z52
    obtain ⟨hM49, hD50, hF51⟩ : MIt u54 ((xSt fv R w g xb).2.2.1) ((xSt fv R w g xb).2.2.2) ∧ PF di55 db ((xSt fv R w g xb).2.2.1) ∧ PF fi56 fb ((xSt fv R w g xb).2.2.1) := hp53
    refine W.eq (g2 := F0 m9 147 ls [.int ((xSt fv R w g xb).1)]) rfl ?_
    have hw : Lv _ _ _ _ _ (CW ad ti u54 pi ex de xi xb di55 db fi56 fb ob reg kq ca va ((xSt fv R w g xb).2.1) R) _ _ _ := hw
    exact hw.riz S hr hlk (rfl) d_Bas_execute_147 (u54, di55, fi56) (by unfold xB; rw [if_neg hc4_3, if_neg hc4_15, if_neg hc4_19, if_neg hc4_23, if_pos hc4_35]; (try unfold xoc); first | done | rfl) (by unfold xB; rw [if_neg hc4_3, if_neg hc4_15, if_neg hc4_19, if_neg hc4_23, if_pos hc4_35]; (try unfold xoc); exact ⟨hM49, hD50, hF51⟩) (by unfold xB; rw [if_neg hc4_3, if_neg hc4_15, if_neg hc4_19, if_neg hc4_23, if_pos hc4_35]; (try unfold xoc); first | done | rfl)
  by_cases hc4_51 : (nI (nOp xb)) = (51 : Int32)
  · refine lv_lookup (off := 144) (tgt := 148) hx hb d_Bas_execute_4 (by decide) (by rw [hc4_51] <;> rfl) rfl ?_
    refine lv_aload_n hx hb d_Bas_execute_148 rfl (lv_at hl 0 rfl) ?_
    refine lv_aload_n hx hb d_Bas_execute_149 rfl (lv_at hl 1 rfl) ?_
    refine q_cg (q_runV (As := [.ref ex]) (rest := []) S (c_Bas_operate l D ti ad u pi ex de xi xb di db fi fb ob reg kq ca va fv R) (cw_v hts tb_4_172 k_Bas_operate rfl rfl ⟨by decide, by decide⟩) hw 18 rfl rfl rfl hl.1 rfl (Nat.le_of_ble_eq_true rfl) d_Bas_execute_150 ⟨Nat.zero_le _, Nat.zero_le _⟩) hw (fun z hD => CW_D (qD_same hD rfl)) (fun z9 H locs hp9 hw => ?_)
    refine W.eq (g2 := F0 m9 153 ls [.int ((xOp fv R xb).1)]) rfl ?_
    have hw : Lv _ _ _ _ _ (CW ad ti u pi ex de xi xb di db fi fb ob reg kq ca va ((xOp fv R xb).2.1) ((xOp fv R xb).2.2)) _ _ _ := hw
    exact hw.riz S hr hlk (rfl) d_Bas_execute_153 (u, di, fi) (by unfold xB; rw [if_neg hc4_3, if_neg hc4_15, if_neg hc4_19, if_neg hc4_23, if_neg hc4_35, if_pos hc4_51]; (try unfold xoc); first | done | rfl) (by unfold xB; rw [if_neg hc4_3, if_neg hc4_15, if_neg hc4_19, if_neg hc4_23, if_neg hc4_35, if_pos hc4_51]; (try unfold xoc); exact ⟨hM, hD, hF⟩) (by unfold xB; rw [if_neg hc4_3, if_neg hc4_15, if_neg hc4_19, if_neg hc4_23, if_neg hc4_35, if_pos hc4_51]; (try unfold xoc); first | done | rfl)
  by_cases hc4_55 : (nI (nOp xb)) = (55 : Int32)
  · refine lv_lookup (off := 150) (tgt := 154) hx hb d_Bas_execute_4 (by decide) (by rw [hc4_55] <;> rfl) rfl ?_
    refine lv_aload_n hx hb d_Bas_execute_154 rfl (lv_at hl 0 rfl) ?_
    refine q_get S hw ly_Bas 18 rfl rfl 0 (by decide) tb_2_14 rfl rfl d_Bas_execute_155 ?_
    refine lv_aload_n hx hb d_Bas_execute_158 rfl (lv_at hl 1 rfl) ?_
    refine q_get S hw ly_Ins 14 rfl rfl 3 (by decide) tb_1_154 rfl rfl d_Bas_execute_159 ?_
    refine lv_aload_n hx hb d_Bas_execute_162 rfl (lv_at hl 1 rfl) ?_
    refine q_get S hw ly_Ins 14 rfl rfl 8 (by decide) tb_1_170 rfl rfl d_Bas_execute_163 ?_
    refine q_cg (q_runV (As := [.int (nI (nRd xb)), .int (iIm xb)]) (rest := []) S (c_Sta_answerNumber l D ti ad u pi ex de xi xb di db fi fb ob reg kq ca va fv R (nRd xb) (by first | decide | omega) (iIm xb)) (cw_v hts tb_4_127 k_Sta_answerNumber rfl rfl ⟨by decide, by decide⟩) hw 16 rfl rfl rfl hl.1 rfl (Nat.le_of_ble_eq_true rfl) d_Bas_execute_166 ⟨Nat.zero_le _, Nat.zero_le _⟩) hw (fun z hD => CW_D (qD_same hD rfl)) (fun z9 H locs hp9 hw => ?_)
    refine W.eq (g2 := F0 m9 169 ls [.int (-1 : Int32)]) rfl ?_
    have hw : Lv _ _ _ _ _ (CW ad ti u pi ex de xi xb di db fi fb ob reg kq ca va fv (nR R (nRd xb) (iIm xb))) _ _ _ := hw
    exact hw.riz S hr hlk (rfl) d_Bas_execute_169 (u, di, fi) (by unfold xB; rw [if_neg hc4_3, if_neg hc4_15, if_neg hc4_19, if_neg hc4_23, if_neg hc4_35, if_neg hc4_51, if_pos hc4_55]; (try unfold xoc); first | done | rfl) (by unfold xB; rw [if_neg hc4_3, if_neg hc4_15, if_neg hc4_19, if_neg hc4_23, if_neg hc4_35, if_neg hc4_51, if_pos hc4_55]; (try unfold xoc); exact ⟨hM, hD, hF⟩) (by unfold xB; rw [if_neg hc4_3, if_neg hc4_15, if_neg hc4_19, if_neg hc4_23, if_neg hc4_35, if_neg hc4_51, if_pos hc4_55]; (try unfold xoc); first | done | rfl)
  by_cases hc4_99 : (nI (nOp xb)) = (99 : Int32)
  · refine lv_lookup (off := 166) (tgt := 170) hx hb d_Bas_execute_4 (by decide) (by rw [hc4_99] <;> rfl) rfl ?_
    refine lv_aload_n hx hb d_Bas_execute_170 rfl (lv_at hl 0 rfl) ?_
    refine lv_aload_n hx hb d_Bas_execute_171 rfl (lv_at hl 1 rfl) ?_
    refine q_cg (q_runV (As := [.ref ex]) (rest := []) S (c_Bas_branch l D ti ad u pi ex de xi xb di db fi fb ob reg kq ca va fv R) (cw_v hts tb_4_176 k_Bas_branch rfl rfl ⟨by decide, by decide⟩) hw 18 rfl rfl rfl hl.1 rfl (Nat.le_of_ble_eq_true rfl) d_Bas_execute_172 ⟨Nat.zero_le _, Nat.zero_le _⟩) hw (fun z hD => CW_D (qD_same hD rfl)) (fun z9 H locs hp9 hw => ?_)
    refine W.eq (g2 := F0 m9 175 ls [.int ((xBr fv R xb).1)]) rfl ?_
    have hw : Lv _ _ _ _ _ (CW ad ti u pi ex de xi xb di db fi fb ob reg kq ca va ((xBr fv R xb).2.1) ((xBr fv R xb).2.2)) _ _ _ := hw
    exact hw.riz S hr hlk (rfl) d_Bas_execute_175 (u, di, fi) (by unfold xB; rw [if_neg hc4_3, if_neg hc4_15, if_neg hc4_19, if_neg hc4_23, if_neg hc4_35, if_neg hc4_51, if_neg hc4_55, if_pos hc4_99]; (try unfold xoc); first | done | rfl) (by unfold xB; rw [if_neg hc4_3, if_neg hc4_15, if_neg hc4_19, if_neg hc4_23, if_neg hc4_35, if_neg hc4_51, if_neg hc4_55, if_pos hc4_99]; (try unfold xoc); exact ⟨hM, hD, hF⟩) (by unfold xB; rw [if_neg hc4_3, if_neg hc4_15, if_neg hc4_19, if_neg hc4_23, if_neg hc4_35, if_neg hc4_51, if_neg hc4_55, if_pos hc4_99]; (try unfold xoc); first | done | rfl)
  by_cases hc4_103 : (nI (nOp xb)) = (103 : Int32)
  · refine lv_lookup (off := 172) (tgt := 176) hx hb d_Bas_execute_4 (by decide) (by rw [hc4_103] <;> rfl) rfl ?_
    refine lv_aload_n hx hb d_Bas_execute_176 rfl (lv_at hl 0 rfl) ?_
    refine lv_aload_n hx hb d_Bas_execute_177 rfl (lv_at hl 1 rfl) ?_
    refine q_cg (q_runV (As := [.ref ex]) (rest := []) S (c_Bas_jumpByRegister l D ti ad u pi ex de xi xb di db fi fb ob reg kq ca va fv R) (cw_v hts tb_4_190 k_Bas_jumpByRegister rfl rfl ⟨by decide, by decide⟩) hw 18 rfl rfl rfl hl.1 rfl (Nat.le_of_ble_eq_true rfl) d_Bas_execute_178 ⟨Nat.zero_le _, Nat.zero_le _⟩) hw (fun z hD => CW_D (qD_same hD rfl)) (fun z9 H locs hp9 hw => ?_)
    refine W.eq (g2 := F0 m9 181 ls [.int ((xJr fv R xb).1)]) rfl ?_
    have hw : Lv _ _ _ _ _ (CW ad ti u pi ex de xi xb di db fi fb ob reg kq ca va ((xJr fv R xb).2.1) ((xJr fv R xb).2.2)) _ _ _ := hw
    exact hw.riz S hr hlk (rfl) d_Bas_execute_181 (u, di, fi) (by unfold xB; rw [if_neg hc4_3, if_neg hc4_15, if_neg hc4_19, if_neg hc4_23, if_neg hc4_35, if_neg hc4_51, if_neg hc4_55, if_neg hc4_99, if_pos hc4_103]; (try unfold xoc); first | done | rfl) (by unfold xB; rw [if_neg hc4_3, if_neg hc4_15, if_neg hc4_19, if_neg hc4_23, if_neg hc4_35, if_neg hc4_51, if_neg hc4_55, if_neg hc4_99, if_pos hc4_103]; (try unfold xoc); exact ⟨hM, hD, hF⟩) (by unfold xB; rw [if_neg hc4_3, if_neg hc4_15, if_neg hc4_19, if_neg hc4_23, if_neg hc4_35, if_neg hc4_51, if_neg hc4_55, if_neg hc4_99, if_pos hc4_103]; (try unfold xoc); first | done | rfl)
  by_cases hc4_111 : (nI (nOp xb)) = (111 : Int32)
  · refine lv_lookup (off := 178) (tgt := 182) hx hb d_Bas_execute_4 (by decide) (by rw [hc4_111] <;> rfl) rfl ?_
    refine lv_aload_n hx hb d_Bas_execute_182 rfl (lv_at hl 0 rfl) ?_
    refine lv_aload_n hx hb d_Bas_execute_183 rfl (lv_at hl 1 rfl) ?_
    refine q_cg (q_runV (As := [.ref ex]) (rest := []) S (c_Bas_jump l D ti ad u pi ex de xi xb di db fi fb ob reg kq ca va fv R) (cw_v hts tb_4_206 k_Bas_jump rfl rfl ⟨by decide, by decide⟩) hw 18 rfl rfl rfl hl.1 rfl (Nat.le_of_ble_eq_true rfl) d_Bas_execute_184 ⟨Nat.zero_le _, Nat.zero_le _⟩) hw (fun z hD => CW_D (qD_same hD rfl)) (fun z9 H locs hp9 hw => ?_)
    refine W.eq (g2 := F0 m9 187 ls [.int ((xJal fv R xb).1)]) rfl ?_
    have hw : Lv _ _ _ _ _ (CW ad ti u pi ex de xi xb di db fi fb ob reg kq ca va ((xJal fv R xb).2.1) ((xJal fv R xb).2.2)) _ _ _ := hw
    exact hw.riz S hr hlk (rfl) d_Bas_execute_187 (u, di, fi) (by unfold xB; rw [if_neg hc4_3, if_neg hc4_15, if_neg hc4_19, if_neg hc4_23, if_neg hc4_35, if_neg hc4_51, if_neg hc4_55, if_neg hc4_99, if_neg hc4_103, if_pos hc4_111]; (try unfold xoc); first | done | rfl) (by unfold xB; rw [if_neg hc4_3, if_neg hc4_15, if_neg hc4_19, if_neg hc4_23, if_neg hc4_35, if_neg hc4_51, if_neg hc4_55, if_neg hc4_99, if_neg hc4_103, if_pos hc4_111]; (try unfold xoc); exact ⟨hM, hD, hF⟩) (by unfold xB; rw [if_neg hc4_3, if_neg hc4_15, if_neg hc4_19, if_neg hc4_23, if_neg hc4_35, if_neg hc4_51, if_neg hc4_55, if_neg hc4_99, if_neg hc4_103, if_pos hc4_111]; (try unfold xoc); first | done | rfl)
  by_cases hc4_115 : (nI (nOp xb)) = (115 : Int32)
  · refine lv_lookup (off := 184) (tgt := 188) hx hb d_Bas_execute_4 (by decide) (by rw [hc4_115] <;> rfl) rfl ?_
    refine lv_aload_n hx hb d_Bas_execute_188 rfl (lv_at hl 0 rfl) ?_
    refine lv_aload_n hx hb d_Bas_execute_189 rfl (lv_at hl 1 rfl) ?_
    refine q_cg (q_runV (As := [.ref ex]) (rest := []) S (c_Bas_system l D ti ad u pi ex de xi xb di db fi fb ob reg kq ca va fv R) (cw_v hts tb_4_210 k_Bas_system rfl rfl ⟨by decide, by decide⟩) hw 18 rfl rfl rfl hl.1 rfl (Nat.le_of_ble_eq_true rfl) d_Bas_execute_190 ⟨Nat.zero_le _, Nat.zero_le _⟩) hw (fun z hD => CW_D (qD_same hD rfl)) (fun z9 H locs hp9 hw => ?_)
    refine W.eq (g2 := F0 m9 193 ls [.int ((xSys fv ca va R xb).1)]) rfl ?_
    have hw : Lv _ _ _ _ _ (CW ad ti u pi ex de xi xb di db fi fb ob reg kq ((xSys fv ca va R xb).2.2.2.1) ((xSys fv ca va R xb).2.2.2.2) ((xSys fv ca va R xb).2.1) ((xSys fv ca va R xb).2.2.1)) _ _ _ := hw
    exact hw.riz S hr hlk (rfl) d_Bas_execute_193 (u, di, fi) (by unfold xB; rw [if_neg hc4_3, if_neg hc4_15, if_neg hc4_19, if_neg hc4_23, if_neg hc4_35, if_neg hc4_51, if_neg hc4_55, if_neg hc4_99, if_neg hc4_103, if_neg hc4_111, if_pos hc4_115]; (try unfold xoc); first | done | rfl) (by unfold xB; rw [if_neg hc4_3, if_neg hc4_15, if_neg hc4_19, if_neg hc4_23, if_neg hc4_35, if_neg hc4_51, if_neg hc4_55, if_neg hc4_99, if_neg hc4_103, if_neg hc4_111, if_pos hc4_115]; (try unfold xoc); exact ⟨hM, hD, hF⟩) (by unfold xB; rw [if_neg hc4_3, if_neg hc4_15, if_neg hc4_19, if_neg hc4_23, if_neg hc4_35, if_neg hc4_51, if_neg hc4_55, if_neg hc4_99, if_neg hc4_103, if_neg hc4_111, if_pos hc4_115]; (try unfold xoc); first | done | rfl)
  refine lv_lookup (off := 190) (tgt := 194) hx hb d_Bas_execute_4 (by decide) (by show Op.lookupswitch.offset [(3, 100), (15, 106), (19, 126), (23, 132), (35, 138), (51, 144), (55, 150), (99, 166), (103, 172), (111, 178), (115, 184)] 190 (Int32.toInt (nI (nOp xb))) = 190; rw [lv_osw (a := 3) hc4_3 rfl, lv_osw (a := 15) hc4_15 rfl, lv_osw (a := 19) hc4_19 rfl, lv_osw (a := 23) hc4_23 rfl, lv_osw (a := 35) hc4_35 rfl, lv_osw (a := 51) hc4_51 rfl, lv_osw (a := 55) hc4_55 rfl, lv_osw (a := 99) hc4_99 rfl, lv_osw (a := 103) hc4_103 rfl, lv_osw (a := 111) hc4_111 rfl, lv_osw (a := 115) hc4_115 rfl] <;> rfl) rfl ?_
  refine lv_aload_n hx hb d_Bas_execute_194 rfl (lv_at hl 0 rfl) ?_
  refine q_get S hw ly_Bas 18 rfl rfl 0 (by decide) tb_2_14 rfl rfl d_Bas_execute_195 ?_
  refine lv_aload_n hx hb d_Bas_execute_198 rfl (lv_at hl 1 rfl) ?_
  refine q_cg (q_runV (As := [.ref ex]) (rest := []) S (c_Sta_illegal l D ti ad u pi ex de xi xb di db fi fb ob reg kq ca va fv R) (cw_v hts tb_4_106 k_Sta_illegal rfl rfl ⟨by decide, by decide⟩) hw 16 rfl rfl rfl hl.1 rfl (Nat.le_of_ble_eq_true rfl) d_Bas_execute_199 ⟨Nat.zero_le _, Nat.zero_le _⟩) hw (fun z hD => qD_same hD rfl) (fun z9 H locs hp9 hw => ?_)
  refine W.eq (g2 := F0 m9 202 ls [.int (2 : Int32)]) rfl ?_
  have hw : Lv _ _ _ _ _ (CW ad ti u pi ex de xi xb di db fi fb ob reg kq ca va xb R) _ _ _ := hw
  exact hw.riz S hr hlk (rfl) d_Bas_execute_202 (u, di, fi) (by unfold xB; rw [if_neg hc4_3, if_neg hc4_15, if_neg hc4_19, if_neg hc4_23, if_neg hc4_35, if_neg hc4_51, if_neg hc4_55, if_neg hc4_99, if_neg hc4_103, if_neg hc4_111, if_neg hc4_115]; (try unfold xoc); first | done | rfl) (by unfold xB; rw [if_neg hc4_3, if_neg hc4_15, if_neg hc4_19, if_neg hc4_23, if_neg hc4_35, if_neg hc4_51, if_neg hc4_55, if_neg hc4_99, if_neg hc4_103, if_neg hc4_111, if_neg hc4_115]; (try unfold xoc); exact ⟨hM, hD, hF⟩) (by unfold xB; rw [if_neg hc4_3, if_neg hc4_15, if_neg hc4_19, if_neg hc4_23, if_neg hc4_35, if_neg hc4_51, if_neg hc4_55, if_neg hc4_99, if_neg hc4_103, if_neg hc4_111, if_neg hc4_115]; (try unfold xoc); first | done | rfl)
