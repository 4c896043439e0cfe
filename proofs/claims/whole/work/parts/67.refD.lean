/-! The reference's instructions. -/
theorem ag_set (Q : Nat → Cap) (d : Nat) (c : Cap) : ag (rSet Q d c) (aR (va_up Q 37 c) d) := by
  intro k hk
  unfold rSet aR
  split
  · rw [va_up_ne Q c (show k ≠ 37 by omega)]
  · rw [va_up_self]
    by_cases h : k = d
    · subst h
      rw [va_up_self, va_up_self]
    · rw [va_up_ne _ _ h, va_up_ne _ _ h, va_up_ne Q c (show k ≠ 37 by omega)]
theorem ag_nR (Q : Nat → Cap) (d : Nat) (v : Int32) : ag (rSet Q d (false, v, 1000194)) (nR Q d v) := fun k _ => rfl
theorem ag_r (Q : Nat → Cap) : ag Q Q := fun _ _ => rfl
theorem wJ_e {c : Cap} {im y : Int32} (h1 : c.1 = true) (h : (¬ cType c.2.2 < 14) ∧ (cType c.2.2 = 14 → im = 0)) : wJ c im y = if cMay c.2.2 1 = false then 17 else if rHo c y 4 = false then 1 else 0 := by
  unfold wJ
  rw [if_neg (by rw [h1]; decide), if_neg h.1]
  by_cases h2 : cType c.2.2 = 14
  · rw [if_pos h2, if_pos (h.2 h2)]
    rfl
  · rw [if_neg h2]
    rfl
theorem wJ_2 {c : Cap} {im y : Int32} (h : c.1 = false) : wJ c im y = 2 := by unfold wJ; rw [if_pos h]
theorem wJ_3 {c : Cap} {im y : Int32} (h1 : c.1 = true) (h : cType c.2.2 < 14) : wJ c im y = 3 := by unfold wJ; rw [if_neg (by rw [h1]; decide), if_pos h]
theorem wJ_3' {c : Cap} {im y : Int32} (h1 : c.1 = true) (h : ¬ cType c.2.2 < 14) (h2 : cType c.2.2 = 14) (h3 : ¬ im = 0) : wJ c im y = 3 := by unfold wJ; rw [if_neg (by rw [h1]; decide), if_neg h, if_pos h2, if_neg h3]
def jA (Q Q2 : Nat → Cap) (x : Int32) : Prop := (∀ k, k < 37 → Q2 k = Q k) ∧ Q2 37 = cTyC (Q (nR1 x)) 15 ∧ Q2 38 = lkC (Q 32)
theorem jA_of (Q : Nat → Cap) (x : Int32) : jA Q (rSet (va_up Q 38 (lkC (Q 32))) 37 ((va_up Q 38 (lkC (Q 32)) (nR1 x)).1, (va_up Q 38 (lkC (Q 32)) (nR1 x)).2.1, cSetT (va_up Q 38 (lkC (Q 32)) (nR1 x)).2.2 15)) x := by
  have h1 := nR1_lt x
  rw [va_up_ne Q _ (show nR1 x ≠ 38 by omega), rS_c (r := 37) (by decide)]
  refine ⟨fun k hk => ?_, ?_, rfl⟩
  · rw [va_up_ne _ _ (show k ≠ 37 by omega), va_up_ne _ _ (show k ≠ 38 by omega)]
  · rw [va_up_self]
    rfl
theorem ag_jr2 {Q Q2 : Nat → Cap} {x : Int32} (h : jA Q Q2 x) : ag (rSet (rSet Q2 32 (cMvC (Q2 37) (jrX Q x))) (nRd x) (rSet Q2 32 (cMvC (Q2 37) (jrX Q x)) 38)) (va_up (jr4 Q x) 32 (jr4 Q x 38)) := by
  obtain ⟨a1, a2, a3⟩ := h
  intro k hk
  have hd := nRd_lt x
  have h0 := ag_jr Q x k hk
  rw [← h0, va_up_ne Q _ (show nR1 x ≠ 38 by have := nR1_lt x; omega)]
  rw [rS_c (r := 37) (by decide), rS_c (r := 32) (by decide), rS_c (r := 32) (by decide), va_up_self, a2]
  have e1 : va_up Q2 32 (cMvC (cTyC (Q (nR1 x)) 15) (jrX Q x)) 38 = lkC (Q 32) := a3
  rw [e1]
  have e2 : va_up (va_up (va_up Q 38 (lkC (Q 32))) 37 ((Q (nR1 x)).1, (Q (nR1 x)).2.1, cSetT (Q (nR1 x)).2.2 15)) 32 (cMvC ((Q (nR1 x)).1, (Q (nR1 x)).2.1, cSetT (Q (nR1 x)).2.2 15) (jrX Q x)) 38 = lkC (Q 32) := rfl
  rw [e2]
  unfold rSet
  have e3 : va_up Q2 32 (cMvC (cTyC (Q (nR1 x)) 15) (jrX Q x)) k = va_up (va_up (va_up Q 38 (lkC (Q 32))) 37 ((Q (nR1 x)).1, (Q (nR1 x)).2.1, cSetT (Q (nR1 x)).2.2 15)) 32 (cMvC ((Q (nR1 x)).1, (Q (nR1 x)).2.1, cSetT (Q (nR1 x)).2.2 15) (jrX Q x)) k := by
    by_cases k32 : k = 32
    · subst k32
      rw [va_up_self, va_up_self]
      rfl
    · rw [va_up_ne _ _ k32, va_up_ne _ _ k32, va_up_ne _ _ (show k ≠ 37 by omega), va_up_ne _ _ (show k ≠ 38 by omega), a1 k hk]
  split
  · exact e3
  · by_cases kd : k = nRd x
    · subst kd
      rw [va_up_self, va_up_self]
    · rw [va_up_ne _ _ kd, va_up_ne _ _ kd, e3]
set_option maxHeartbeats 4000000 in
set_option maxRecDepth 100000 in
theorem c_Mod_load (l : Launch) (D : va_G) (ti : Nat → ClassId) (mo : Nat) (am : Nat → Nat) (Q : Nat → Cap) (w g : Nat → Int32) (rb rt : Nat → Int64) (rp : Nat → Int32) (ro ca va st tr th : Int32) (pk : Int32) (xx : Bool) (rd : Int64) (to : Int32) (fv x : Int32) (h5 : nI (nFn x) ≤ 5) : Cg l y_Mod_load (wl y_Mod_load b_Mod_load 8 (some .boolean)) (rmL 10) D clz (ty4 ti) [.ref mo, .int (nI (nRd x)), .int (nI (nFn x)), .int (nI (nR1 x)), .int (ldX Q x)] (RMW mo am ti Q w g rb rt rp ro ca va st tr th false pk xx rd to) (fun z : (Nat → Cap) × Int32 × Bool × Int64 × Int32 => some (.int (jb (goB (xoc (xLd fv Q w g x) ca va w g).1)))) (fun z => (RMW mo am ti z.1 ((rE (xoc (xLd fv Q w g x) ca va w g) tr).w) ((rE (xoc (xLd fv Q w g x) ca va w g) tr).g) rb rt rp ro ((rE (xoc (xLd fv Q w g x) ca va w g) tr).ca) ((rE (xoc (xLd fv Q w g x) ca va w g) tr).va) st ((rE (xoc (xLd fv Q w g x) ca va w g) tr).tr) th ((rE (xoc (xLd fv Q w g x) ca va w g) tr).ha) z.2.1 z.2.2.1 z.2.2.2.1 z.2.2.2.2)) (fun z => RPo Q z.1 (xoc (xLd fv Q w g x) ca va w g) tr) := by
  refine Cg.ofF (plainFor_of_name (by decide)) (Nat.le_of_ble_eq_true rfl) ?_
  intro p9 e9 s9 m9 b9 me9 c9 ls S hr hlk hl hw
  obtain ⟨hx, hb, hml, hown, hts⟩ := id S
  have hl : lv_has ls 8 [(0, .ref mo), (1, .int (nI (nRd x))), (2, .int (nI (nFn x))), (3, .int (nI (nR1 x))), (4, .int (ldX Q x))] := hl
  have hr1 := nR1_lt x
  have hr2 := nR2_lt x
  have hrd := nRd_lt x
  have hfn := nFn_lt x
  refine q_join (pcJ := 15) (st := [.int (ldN x)]) (lv' := [(0, .ref mo), (1, .int (nI (nRd x))), (2, .int (nI (nFn x))), (3, .int (nI (nR1 x))), (4, .int (ldX Q x))]) (nL := 8) (fun ls hl => ?_) (fun J15 => ?_)
  · refine lv_istore (lv' := [(5, .int (ldN x)), (0, .ref mo), (1, .int (nI (nRd x))), (2, .int (nI (nFn x))), (3, .int (nI (nR1 x))), (4, .int (ldX Q x))]) hx hb d_Mod_load_15 hl (by decide) rfl (fun ls hl => ?_)
    refine lv_aload_n hx hb d_Mod_load_17 rfl (lv_at hl 1 rfl) ?_
    refine lv_iload_n hx hb d_Mod_load_18 rfl (lv_at hl 4 rfl) ?_
    refine lv_iload hx hb d_Mod_load_19 (lv_at hl 5 rfl) ?_
    refine q_cr (q_runS (As := [.int (ldX Q x)]) (rest := [.int (nI (nR1 x)), .ref mo]) S ((c_Mod_low l D (ty4 ti) (ldX Q x)).nil _) (cw_s hts tb_5_118 k_Mod_low rfl rfl ⟨by decide, by decide⟩) hw rfl hl.1 rfl (Nat.le_of_ble_eq_true rfl) d_Mod_load_21 ⟨Nat.zero_le _, Nat.zero_le _⟩) ?_
    refine W.eq (g2 := F0 m9 24 ls [.long (cLow (ldX Q x)), .int (nI (nR1 x)), .ref mo]) rfl ?_
    refine lv_iload hx hb d_Mod_load_24 (lv_at hl 0 rfl) ?_
    refine lv_iconst (v := 2) hx hb d_Mod_load_26 (by decide) ?_
    refine lv_iconst (v := 0) hx hb d_Mod_load_27 (by decide) ?_
    refine q_cr (q_runV (As := [.int (nI (nR1 x)), .long (cLow (ldX Q x)), .int (ldN x), .int (2 : Int32), .int (0 : Int32)]) (rest := []) S (c_Mod_reach l D ti mo am Q w g rb rt rp ro ca va st tr th false pk xx rd to (nR1 x) (by first | decide | omega) (ldX Q x) (ldN x) 2 (by first | decide | omega) (by decide) 0 (by first | decide | omega)) (cw_v hts tb_5_176 k_Mod_reach rfl rfl ⟨by decide, by decide⟩) hw 0 rfl rfl rfl hl.1 rfl (Nat.le_of_ble_eq_true rfl) d_Mod_load_28 ⟨Nat.zero_le _, Nat.zero_le _⟩) ?_
    refine W.eq (g2 := F0 m9 31 ls [.int (rRe Q (nR1 x) (ldX Q x) (ldN x) 2 0)]) rfl ?_
    refine lv_istore (lv' := [(6, .int (rRe Q (nR1 x) (ldX Q x) (ldN x) 2 0)), (5, .int (ldN x)), (0, .ref mo), (1, .int (nI (nRd x))), (2, .int (nI (nFn x))), (3, .int (nI (nR1 x))), (4, .int (ldX Q x))]) hx hb d_Mod_load_31 hl (by decide) rfl (fun ls hl => ?_)
    refine lv_iload hx hb d_Mod_load_33 (lv_at hl 0 rfl) ?_
    refine lv_if_le hx hb d_Mod_load_35 rfl (fun h35 => ?_) (fun h35 => ?_)
    · refine lv_iload hx hb d_Mod_load_46 (lv_at hl 6 rfl) ?_
      refine lv_iload hx hb d_Mod_load_48 (lv_at hl 1 rfl) ?_
      refine lv_irem hx hb d_Mod_load_50 (ldN0 x) ?_
      refine lv_if_eq hx hb d_Mod_load_51 rfl (fun h51 => ?_) (fun h51 => ?_)
      · refine lv_iload hx hb d_Mod_load_62 (lv_at hl 6 rfl) ?_
        refine q_cr (q_runS (As := [.int (ldX Q x)]) (rest := []) S ((c_Mod_low l D (ty4 ti) (ldX Q x)).nil _) (cw_s hts tb_5_118 k_Mod_low rfl rfl ⟨by decide, by decide⟩) hw rfl hl.1 rfl (Nat.le_of_ble_eq_true rfl) d_Mod_load_64 ⟨Nat.zero_le _, Nat.zero_le _⟩) ?_
        refine W.eq (g2 := F0 m9 67 ls [.long (cLow (ldX Q x))]) rfl ?_
        refine lv_ldc2 (v := 16384) hx hb hown (hts _ tb_5_201) d_Mod_load_67 ?_
        refine q_lc_lt S d_Mod_load_70 d_Mod_load_71 rfl (fun h71 => ?_) (fun h71 => ?_)
        · obtain ⟨X, hX, eX⟩ := lowX h71
          have hl : lv_has ls 8 [(6, .int (rRe Q (nR1 x) (ldX Q x) (ldN x) 2 0)), (5, .int (ldN x)), (0, .ref mo), (1, .int (nI (nRd x))), (2, .int (nI (nFn x))), (3, .int (nI (nR1 x))), (4, .int (nI X))] := q_loc hl (by rw [eX])
          refine lv_iload_n hx hb d_Mod_load_82 rfl (lv_at hl 4 rfl) ?_
          refine lv_iconst (v := 3) hx hb d_Mod_load_83 (by decide) ?_
          refine lv_icmp_ne hx hb d_Mod_load_84 rfl (fun h84 => ?_) (fun h84 => ?_)
          · refine lv_aload_n hx hb d_Mod_load_144 rfl (lv_at hl 2 rfl) ?_
            refine q_get S hw ly_Mod 0 rfl rfl 3 (by decide) tb_5_46 rfl rfl d_Mod_load_145 ?_
            refine lv_iload hx hb d_Mod_load_148 (lv_at hl 6 rfl) ?_
            refine lv_iconst (v := 4) hx hb d_Mod_load_150 (by decide) ?_
            refine lv_idiv hx hb d_Mod_load_151 (by decide) ?_
            refine q_topi (z := nI (X / 4)) (pk_div (a := X) (d := 4) (by omega) (by decide) (by decide)) ?_
            refine q_ialdN (k := X / 4) S hw 4 0 rfl rfl (by first | assumption | omega) (by decide) d_Mod_load_152 ?_
            refine lv_bipush (v := 8) hx hb d_Mod_load_153 (by decide) ?_
            refine lv_iload hx hb d_Mod_load_155 (lv_at hl 6 rfl) ?_
            refine lv_iconst (v := 3) hx hb d_Mod_load_157 (by decide) ?_
            refine lv_iand hx hb d_Mod_load_158 ?_
            refine q_topi (z := (nI (X % 4))) (and3 hX) ?_
            refine lv_imul hx hb d_Mod_load_159 ?_
            refine q_topi (z := nI (8 * (X % 4))) (pk_mul 8 (X % 4)) ?_
            refine lv_iushr (v := (jus (w (X / 4)) (nI (8 * (X % 4))))) hx hb d_Mod_load_160 rfl ?_
            refine lv_istore (lv' := [(7, .int (jus (w (X / 4)) (nI (8 * (X % 4))))), (6, .int (rRe Q (nR1 x) (ldX Q x) (ldN x) 2 0)), (5, .int (ldN x)), (0, .ref mo), (1, .int (nI (nRd x))), (2, .int (nI (nFn x))), (3, .int (nI (nR1 x))), (4, .int (nI X))]) hx hb d_Mod_load_161 hl (by decide) rfl (fun ls hl => ?_)
            refine lv_aload_n hx hb d_Mod_load_163 rfl (lv_at hl 3 rfl) ?_
            refine lv_iload_n hx hb d_Mod_load_164 rfl (lv_at hl 4 rfl) ?_
            refine q_join (pcJ := 216) (st := [.int (ldV (nI (nFn x)) (ldW w X)), .int (nI (nRd x)), .ref mo]) (lv' := [(7, .int (jus (w (X / 4)) (nI (8 * (X % 4))))), (6, .int (rRe Q (nR1 x) (ldX Q x) (ldN x) 2 0)), (5, .int (ldN x)), (0, .ref mo), (1, .int (nI (nRd x))), (2, .int (nI (nFn x))), (3, .int (nI (nR1 x))), (4, .int (nI X))]) (nL := 8) (fun ls hl => ?_) (fun J216 => ?_)
            · refine q_cg (q_runV (As := [.int (nI (nRd x)), .int (ldV (nI (nFn x)) (ldW w X))]) (rest := []) S (c_Mod_number l D ti mo am Q w g rb rt rp ro ca va st tr th false pk xx rd to (nRd x) (by first | decide | omega) (ldV (nI (nFn x)) (ldW w X))) (cw_v hts tb_5_214 k_Mod_number rfl rfl ⟨by decide, by decide⟩) hw 0 rfl rfl rfl hl.1 rfl (Nat.le_of_ble_eq_true rfl) d_Mod_load_216 ⟨Nat.zero_le _, Nat.zero_le _⟩) hw (fun z hD => qD_same hD rfl) (fun z9 H locs hp9 hw => ?_)
              refine W.eq (g2 := F0 m9 219 ls []) rfl ?_
              have hw : Lv _ _ _ _ _ (RMW mo am ti (rSet Q (nRd x) (false, (ldV (nI (nFn x)) (ldW w X)), 1000194)) w g rb rt rp ro ca va st tr th false pk xx rd to) _ _ _ := hw
              refine lv_iconst (v := 1) hx hb d_Mod_load_219 (by decide) ?_
              have ho : xoc (xLd fv Q w g x) ca va w g = ((-1 : Int32), fv, nR Q (nRd x) (ldV (nI (nFn x)) (ldW w X)), ca, va, w, g) := by rw [xLd_p h5 h35, if_pos (ldR.mp h51), if_pos h71, if_neg (fun q => h84 ((ldN8 h5).mp q)), eX, nI_clamp (show X < 2 ^ 31 by omega)]; rfl
              exact hw.riz S hr hlk (rfl) d_Mod_load_220 ((rSet Q (nRd x) (false, (ldV (nI (nFn x)) (ldW w X)), 1000194)), pk, xx, rd, to) (by rw [ho]; rfl) (by rw [ho]; exact ⟨by rw [rE_n (by decide)]; exact ag_nR _ _ _, rS0 _ _ _, Or.inl rfl⟩) (by rw [ho, rE_n (by decide)]; first | done | rfl)
            · refine lv_iload hx hb d_Mod_load_165 (lv_at hl 2 rfl) ?_
              refine lv_iconst (v := 4) hx hb d_Mod_load_167 (by decide) ?_
              refine lv_icmp_ne hx hb d_Mod_load_168 rfl (fun h168 => ?_) (fun h168 => ?_)
              · refine lv_iload_n hx hb d_Mod_load_176 rfl (lv_at hl 5 rfl) ?_
                refine lv_iconst (v := 3) hx hb d_Mod_load_177 (by decide) ?_
                refine lv_icmp_le hx hb d_Mod_load_178 rfl (fun h178 => ?_) (fun h178 => ?_)
                · refine lv_iload hx hb d_Mod_load_196 (lv_at hl 0 rfl) ?_
                  refine lv_bipush (v := 32) hx hb d_Mod_load_198 (by decide) ?_
                  refine lv_bipush (v := 8) hx hb d_Mod_load_200 (by decide) ?_
                  refine lv_iload hx hb d_Mod_load_202 (lv_at hl 2 rfl) ?_
                  refine lv_imul hx hb d_Mod_load_204 ?_
                  refine lv_isub hx hb d_Mod_load_205 ?_
                  refine lv_ishl hx hb d_Mod_load_206 ?_
                  refine lv_bipush (v := 32) hx hb d_Mod_load_207 (by decide) ?_
                  refine lv_bipush (v := 8) hx hb d_Mod_load_209 (by decide) ?_
                  refine lv_iload hx hb d_Mod_load_211 (lv_at hl 2 rfl) ?_
                  refine lv_imul hx hb d_Mod_load_213 ?_
                  refine lv_isub hx hb d_Mod_load_214 ?_
                  refine lv_ishr hx hb d_Mod_load_215 ?_
                  refine q_topi (z := (ldV (nI (nFn x)) (ldW w X))) (by rw [← rLd_e (ldW w X) _ (nFn_lt x) h5 h84]; unfold rLd; rw [if_neg (show ¬ (1 : Int32) <<< ((nI (nFn x) &&& 3) &&& 31) = 4 from h168), if_pos h178]; rfl) ?_
                  exact J216 _ (lv_sub (l' := [(7, .int (jus (w (X / 4)) (nI (8 * (X % 4))))), (6, .int (rRe Q (nR1 x) (ldX Q x) (ldN x) 2 0)), (5, .int (ldN x)), (0, .ref mo), (1, .int (nI (nRd x))), (2, .int (nI (nFn x))), (3, .int (nI (nR1 x))), (4, .int (nI X))]) hl [0, 1, 2, 3, 4, 5, 6, 7] rfl)
                · refine lv_iload hx hb d_Mod_load_181 (lv_at hl 0 rfl) ?_
                  refine lv_iconst (v := 1) hx hb d_Mod_load_183 (by decide) ?_
                  refine lv_bipush (v := 8) hx hb d_Mod_load_184 (by decide) ?_
                  refine lv_iload hx hb d_Mod_load_186 (lv_at hl 2 rfl) ?_
                  refine lv_imul hx hb d_Mod_load_188 ?_
                  refine lv_ishl hx hb d_Mod_load_189 ?_
                  refine lv_iconst (v := 1) hx hb d_Mod_load_190 (by decide) ?_
                  refine lv_isub hx hb d_Mod_load_191 ?_
                  refine lv_iand hx hb d_Mod_load_192 ?_
                  refine lv_goto hx hb d_Mod_load_193 rfl ?_
                  refine q_topi (z := (ldV (nI (nFn x)) (ldW w X))) (by rw [← rLd_e (ldW w X) _ (nFn_lt x) h5 h84]; unfold rLd; rw [if_neg (show ¬ (1 : Int32) <<< ((nI (nFn x) &&& 3) &&& 31) = 4 from h168), if_neg h178]; rfl) ?_
                  exact J216 _ (lv_sub (l' := [(7, .int (jus (w (X / 4)) (nI (8 * (X % 4))))), (6, .int (rRe Q (nR1 x) (ldX Q x) (ldN x) 2 0)), (5, .int (ldN x)), (0, .ref mo), (1, .int (nI (nRd x))), (2, .int (nI (nFn x))), (3, .int (nI (nR1 x))), (4, .int (nI X))]) hl [0, 1, 2, 3, 4, 5, 6, 7] rfl)
              · refine lv_iload hx hb d_Mod_load_171 (lv_at hl 0 rfl) ?_
                refine lv_goto hx hb d_Mod_load_173 rfl ?_
                refine q_topi (z := (ldV (nI (nFn x)) (ldW w X))) (by rw [← rLd_e (ldW w X) _ (nFn_lt x) h5 h84]; unfold rLd; rw [if_pos (show (1 : Int32) <<< ((nI (nFn x) &&& 3) &&& 31) = 4 from h168)]; rfl) ?_
                exact J216 _ (lv_sub (l' := [(7, .int (jus (w (X / 4)) (nI (8 * (X % 4))))), (6, .int (rRe Q (nR1 x) (ldX Q x) (ldN x) 2 0)), (5, .int (ldN x)), (0, .ref mo), (1, .int (nI (nRd x))), (2, .int (nI (nFn x))), (3, .int (nI (nR1 x))), (4, .int (nI X))]) hl [0, 1, 2, 3, 4, 5, 6, 7] rfl)
          · have hX8 : X % 8 = 0 := by have h9 := ldR.mp h51; rw [eX, (ldN8 h5).mpr h84] at h9; exact al8 hX h9
            have e8 : 2 * (X / 8) = X / 4 := by omega
            refine lv_aload_n hx hb d_Mod_load_87 rfl (lv_at hl 2 rfl) ?_
            refine lv_iload_n hx hb d_Mod_load_88 rfl (lv_at hl 3 rfl) ?_
            refine q_join (pcJ := 116) (st := [.int (jb (lcT Q x g (X / 4))), .int (nI (nRd x)), .ref mo]) (lv' := [(6, .int (rRe Q (nR1 x) (ldX Q x) (ldN x) 2 0)), (5, .int (ldN x)), (0, .ref mo), (1, .int (nI (nRd x))), (2, .int (nI (nFn x))), (3, .int (nI (nR1 x))), (4, .int (nI X))]) (nL := 8) (fun ls hl => ?_) (fun J116 => ?_)
            · refine lv_aload_n hx hb d_Mod_load_116 rfl (lv_at hl 2 rfl) ?_
              refine q_get S hw ly_Mod 0 rfl rfl 3 (by decide) tb_5_46 rfl rfl d_Mod_load_117 ?_
              refine lv_iload hx hb d_Mod_load_120 (lv_at hl 6 rfl) ?_
              refine lv_iconst (v := 4) hx hb d_Mod_load_122 (by decide) ?_
              refine lv_idiv hx hb d_Mod_load_123 (by decide) ?_
              refine q_topi (z := nI (X / 4)) (pk_div (a := X) (d := 4) (by omega) (by decide) (by decide)) ?_
              refine q_ialdN (k := X / 4) S hw 4 0 rfl rfl (by first | assumption | omega) (by decide) d_Mod_load_124 ?_
              refine lv_aload_n hx hb d_Mod_load_125 rfl (lv_at hl 2 rfl) ?_
              refine q_get S hw ly_Mod 0 rfl rfl 3 (by decide) tb_5_46 rfl rfl d_Mod_load_126 ?_
              refine lv_iload hx hb d_Mod_load_129 (lv_at hl 6 rfl) ?_
              refine lv_iconst (v := 4) hx hb d_Mod_load_131 (by decide) ?_
              refine lv_idiv hx hb d_Mod_load_132 (by decide) ?_
              refine q_topi (z := nI (X / 4)) (pk_div (a := X) (d := 4) (by omega) (by decide) (by decide)) ?_
              refine lv_iconst (v := 1) hx hb d_Mod_load_133 (by decide) ?_
              refine lv_iadd hx hb d_Mod_load_134 ?_
              refine q_topi (z := nI ((X / 4) + 1)) (nI_add (X / 4) 1) ?_
              refine q_ialdN (k := (X / 4) + 1) S hw 4 0 rfl rfl (by first | assumption | omega) (by decide) d_Mod_load_135 ?_
              refine lv_ldc (v := 1000194) hx hb hown (hts _ tb_5_42) d_Mod_load_136 ?_
              refine lv_ixor hx hb d_Mod_load_138 ?_
              refine q_cg (q_runV (As := [.int (nI (nRd x)), .int (jb (lcT Q x g (X / 4))), .int (w (X / 4)), .int ((w ((X / 4) + 1)) ^^^ (1000194 : Int32))]) (rest := []) S (c_Mod_set l D ti mo am Q w g rb rt rp ro ca va st tr th false pk xx rd to (nRd x) (by first | decide | omega) (lcT Q x g (X / 4)) (w (X / 4)) ((w ((X / 4) + 1)) ^^^ (1000194 : Int32))) (cw_v hts tb_5_131 k_Mod_set rfl rfl ⟨by decide, by decide⟩) hw 0 rfl rfl rfl hl.1 rfl (Nat.le_of_ble_eq_true rfl) d_Mod_load_139 ⟨Nat.zero_le _, Nat.zero_le _⟩) hw (fun z hD => qD_same hD rfl) (fun z9 H locs hp9 hw => ?_)
              refine W.eq (g2 := F0 m9 142 ls []) rfl ?_
              have hw : Lv _ _ _ _ _ (RMW mo am ti (rSet Q (nRd x) ((lcT Q x g (X / 4)), (w (X / 4)), ((w ((X / 4) + 1)) ^^^ (1000194 : Int32)))) w g rb rt rp ro ca va st tr th false pk xx rd to) _ _ _ := hw
              refine lv_iconst (v := 1) hx hb d_Mod_load_142 (by decide) ?_
              have ho : xoc (xLd fv Q w g x) ca va w g = ((-1 : Int32), fv, lcR Q x w g (X / 4), ca, va, w, g) := by rw [xLd_p h5 h35, if_pos (ldR.mp h51), if_pos h71, if_pos ((ldN8 h5).mpr h84), eX, nI_clamp (show X < 2 ^ 31 by omega)]; rfl
              exact hw.riz S hr hlk (rfl) d_Mod_load_143 ((rSet Q (nRd x) ((lcT Q x g (X / 4)), (w (X / 4)), ((w ((X / 4) + 1)) ^^^ (1000194 : Int32)))), pk, xx, rd, to) (by rw [ho]; rfl) (by rw [ho]; exact ⟨by rw [rE_n (by decide)]; exact ag_set _ _ _, rS0 _ _ _, Or.inl rfl⟩) (by rw [ho, rE_n (by decide)]; first | done | rfl)
            · refine lv_aload_n hx hb d_Mod_load_89 rfl (lv_at hl 2 rfl) ?_
              refine q_get S hw ly_Mod 0 rfl rfl 4 (by decide) tb_5_47 rfl rfl d_Mod_load_90 ?_
              refine lv_iload hx hb d_Mod_load_93 (lv_at hl 6 rfl) ?_
              refine lv_bipush (v := 8) hx hb d_Mod_load_95 (by decide) ?_
              refine lv_idiv hx hb d_Mod_load_97 (by decide) ?_
              refine q_topi (z := nI (X / 8)) (pk_div (a := X) (d := 8) (by omega) (by decide) (by decide)) ?_
              refine q_zaldN (k := X / 8) S hw 5 1 rfl rfl (by first | assumption | omega) (by decide) d_Mod_load_98 ?_
              refine q_ifz_eq S d_Mod_load_99 rfl (fun h99 => ?_) (fun h99 => ?_)
              · refine lv_iconst (v := 0) hx hb d_Mod_load_115 (by decide) ?_
                refine q_topi (z := (jb (lcT Q x g (X / 4)))) (by rw [e8] at h99; simp [lcT, jb, h99]) ?_
                exact J116 _ (lv_sub (l' := [(6, .int (rRe Q (nR1 x) (ldX Q x) (ldN x) 2 0)), (5, .int (ldN x)), (0, .ref mo), (1, .int (nI (nRd x))), (2, .int (nI (nFn x))), (3, .int (nI (nR1 x))), (4, .int (nI X))]) hl [0, 1, 2, 3, 4, 5, 6] rfl)
              · refine lv_aload_n hx hb d_Mod_load_102 rfl (lv_at hl 2 rfl) ?_
                refine lv_iload_n hx hb d_Mod_load_103 rfl (lv_at hl 5 rfl) ?_
                refine lv_iconst (v := 4) hx hb d_Mod_load_104 (by decide) ?_
                refine q_cr (q_runV (As := [.int (nI (nR1 x)), .int (4 : Int32)]) (rest := [.int (nI (nRd x)), .ref mo]) S (c_Mod_has l D ti mo am Q w g rb rt rp ro ca va st tr th false pk xx rd to (nR1 x) (by first | decide | omega) 4 (by first | decide | omega)) (cw_v hts tb_5_187 k_Mod_has rfl rfl ⟨by decide, by decide⟩) hw 0 rfl rfl rfl hl.1 rfl (Nat.le_of_ble_eq_true rfl) d_Mod_load_105 ⟨Nat.zero_le _, Nat.zero_le _⟩) ?_
                refine W.eq (g2 := F0 m9 108 ls [.int (jb (cMay (Q (nR1 x)).2.2 (4 : Int32))), .int (nI (nRd x)), .ref mo]) rfl ?_
                refine q_ifz_eq S d_Mod_load_108 rfl (fun h108 => ?_) (fun h108 => ?_)
                · refine lv_iconst (v := 0) hx hb d_Mod_load_115 (by decide) ?_
                  refine q_topi (z := (jb (lcT Q x g (X / 4)))) (by rw [e8] at h99; simp [lcT, jb, h99, h108]) ?_
                  exact J116 _ (lv_sub (l' := [(6, .int (rRe Q (nR1 x) (ldX Q x) (ldN x) 2 0)), (5, .int (ldN x)), (0, .ref mo), (1, .int (nI (nRd x))), (2, .int (nI (nFn x))), (3, .int (nI (nR1 x))), (4, .int (nI X))]) hl [0, 1, 2, 3, 4, 5, 6] rfl)
                · refine lv_iconst (v := 1) hx hb d_Mod_load_111 (by decide) ?_
                  refine lv_goto hx hb d_Mod_load_112 rfl ?_
                  refine q_topi (z := (jb (lcT Q x g (X / 4)))) (by rw [e8] at h99; simp [lcT, jb, h99, h108]) ?_
                  exact J116 _ (lv_sub (l' := [(6, .int (rRe Q (nR1 x) (ldX Q x) (ldN x) 2 0)), (5, .int (ldN x)), (0, .ref mo), (1, .int (nI (nRd x))), (2, .int (nI (nFn x))), (3, .int (nI (nR1 x))), (4, .int (nI X))]) hl [0, 1, 2, 3, 4, 5, 6] rfl)
        · refine lv_aload_n hx hb d_Mod_load_74 rfl (lv_at hl 2 rfl) ?_
          refine lv_iconst (v := 5) hx hb d_Mod_load_75 (by decide) ?_
          refine lv_iload hx hb d_Mod_load_76 (lv_at hl 6 rfl) ?_
          refine q_cg (q_runV (As := [.int (5 : Int32), .int (ldX Q x)]) (rest := []) S (c_Mod_trap l D ti mo am Q w g rb rt rp ro ca va st tr th pk xx rd to (5 : Int32) (ldX Q x)) (cw_v hts tb_5_202 k_Mod_trap rfl rfl ⟨by decide, by decide⟩) hw 0 rfl rfl rfl hl.1 rfl (Nat.le_of_ble_eq_true rfl) d_Mod_load_78 ⟨Nat.zero_le _, Nat.zero_le _⟩) hw (fun z hD => qD_same hD rfl) (fun z9 H locs hp9 hw => ?_)
          refine W.eq (g2 := F0 m9 81 ls [.int (jb false)]) rfl ?_
          have hw : Lv _ _ _ _ _ (RMW mo am ti (kTR Q) w g rb rt rp ro (5 : Int32) (ldX Q x) st (tr + 1) th (kHa (ldX Q x) Q) pk xx rd (rTo (kTR Q 32))) _ _ _ := hw
          have ho : xoc (xLd fv Q w g x) ca va w g = ((5 : Int32), (ldX Q x), Q, ca, va, w, g) := by rw [xLd_p h5 h35, if_pos (ldR.mp h51), if_neg h71]; rfl
          exact hw.riz S hr hlk (rfl) d_Mod_load_81 ((kTR Q), pk, xx, rd, (rTo (kTR Q 32))) (by rw [ho]; rfl) (by rw [ho]; exact ⟨by rw [rE_t (by decide)]; exact fun k _ => rfl, rfl, Or.inr (Or.inr (show ¬ (5 : Int32) < 0 by decide))⟩) (by rw [ho, rE_t (by decide)]; first | done | rfl)
      · refine lv_aload_n hx hb d_Mod_load_54 rfl (lv_at hl 2 rfl) ?_
        refine lv_iconst (v := 4) hx hb d_Mod_load_55 (by decide) ?_
        refine lv_iload hx hb d_Mod_load_56 (lv_at hl 6 rfl) ?_
        refine q_cg (q_runV (As := [.int (4 : Int32), .int (ldX Q x)]) (rest := []) S (c_Mod_trap l D ti mo am Q w g rb rt rp ro ca va st tr th pk xx rd to (4 : Int32) (ldX Q x)) (cw_v hts tb_5_202 k_Mod_trap rfl rfl ⟨by decide, by decide⟩) hw 0 rfl rfl rfl hl.1 rfl (Nat.le_of_ble_eq_true rfl) d_Mod_load_58 ⟨Nat.zero_le _, Nat.zero_le _⟩) hw (fun z hD => qD_same hD rfl) (fun z9 H locs hp9 hw => ?_)
        refine W.eq (g2 := F0 m9 61 ls [.int (jb false)]) rfl ?_
        have hw : Lv _ _ _ _ _ (RMW mo am ti (kTR Q) w g rb rt rp ro (4 : Int32) (ldX Q x) st (tr + 1) th (kHa (ldX Q x) Q) pk xx rd (rTo (kTR Q 32))) _ _ _ := hw
        have ho : xoc (xLd fv Q w g x) ca va w g = ((4 : Int32), (ldX Q x), Q, ca, va, w, g) := by rw [xLd_p h5 h35, if_neg (fun q => h51 (ldR.mpr q))]; rfl
        exact hw.riz S hr hlk (rfl) d_Mod_load_61 ((kTR Q), pk, xx, rd, (rTo (kTR Q 32))) (by rw [ho]; rfl) (by rw [ho]; exact ⟨by rw [rE_t (by decide)]; exact fun k _ => rfl, rfl, Or.inr (Or.inr (show ¬ (4 : Int32) < 0 by decide))⟩) (by rw [ho, rE_t (by decide)]; first | done | rfl)
    · refine lv_aload_n hx hb d_Mod_load_38 rfl (lv_at hl 2 rfl) ?_
      refine lv_iload_n hx hb d_Mod_load_39 rfl (lv_at hl 5 rfl) ?_
      refine lv_iload hx hb d_Mod_load_40 (lv_at hl 0 rfl) ?_
      refine q_cg (q_runV (As := [.int (nI (nR1 x)), .int (rRe Q (nR1 x) (ldX Q x) (ldN x) 2 0)]) (rest := []) S (c_Mod_broken l D ti mo am Q w g rb rt rp ro ca va st tr th pk xx rd to (nR1 x) (rRe Q (nR1 x) (ldX Q x) (ldN x) 2 0)) (cw_v hts tb_6_3 k_Mod_broken rfl rfl ⟨by decide, by decide⟩) hw 0 rfl rfl rfl hl.1 rfl (Nat.le_of_ble_eq_true rfl) d_Mod_load_42 ⟨Nat.zero_le _, Nat.zero_le _⟩) hw (fun z hD => qD_same hD rfl) (fun z9 H locs hp9 hw => ?_)
      refine W.eq (g2 := F0 m9 45 ls [.int (jb false)]) rfl ?_
      have hw : Lv _ _ _ _ _ (RMW mo am ti (kTR Q) w g rb rt rp ro 28 (32 * nI (nR1 x) + (rRe Q (nR1 x) (ldX Q x) (ldN x) 2 0)) st (tr + 1) th (kHa (32 * nI (nR1 x) + (rRe Q (nR1 x) (ldX Q x) (ldN x) 2 0)) Q) pk xx rd (rTo (kTR Q 32))) _ _ _ := hw
      have ho : xoc (xLd fv Q w g x) ca va w g = ((28 : Int32), (32 * nI (nR1 x) + (rRe Q (nR1 x) (ldX Q x) (ldN x) 2 0)), Q, ca, va, w, g) := by rw [xLd_w h5 h35]; rfl
      exact hw.riz S hr hlk (rfl) d_Mod_load_45 ((kTR Q), pk, xx, rd, (rTo (kTR Q 32))) (by rw [ho]; rfl) (by rw [ho]; exact ⟨by rw [rE_t (by decide)]; exact fun k _ => rfl, rfl, Or.inr (Or.inr (show ¬ (28 : Int32) < 0 by decide))⟩) (by rw [ho, rE_t (by decide)]; first | done | rfl)
  · refine lv_iload_n hx hb d_Mod_load_0 rfl (lv_at hl 2 rfl) ?_
    refine lv_iconst (v := 3) hx hb d_Mod_load_1 (by decide) ?_
    refine lv_icmp_ne hx hb d_Mod_load_2 rfl (fun h2 => ?_) (fun h2 => ?_)
    · refine lv_iconst (v := 1) hx hb d_Mod_load_10 (by decide) ?_
      refine lv_iload_n hx hb d_Mod_load_11 rfl (lv_at hl 2 rfl) ?_
      refine lv_iconst (v := 3) hx hb d_Mod_load_12 (by decide) ?_
      refine lv_iand hx hb d_Mod_load_13 ?_
      refine lv_ishl hx hb d_Mod_load_14 ?_
      refine q_topi (z := (ldN x)) (rfl) ?_
      exact J15 _ (lv_sub (l' := [(0, .ref mo), (1, .int (nI (nRd x))), (2, .int (nI (nFn x))), (3, .int (nI (nR1 x))), (4, .int (ldX Q x))]) hl [0, 1, 2, 3, 4] rfl)
    · refine lv_bipush (v := 8) hx hb d_Mod_load_5 (by decide) ?_
      refine lv_goto hx hb d_Mod_load_7 rfl ?_
      refine q_topi (z := (ldN x)) (by unfold ldN; rw [h2]; decide) ?_
      exact J15 _ (lv_sub (l' := [(0, .ref mo), (1, .int (nI (nRd x))), (2, .int (nI (nFn x))), (3, .int (nI (nR1 x))), (4, .int (ldX Q x))]) hl [0, 1, 2, 3, 4] rfl)
set_option maxHeartbeats 4000000 in
set_option maxRecDepth 100000 in
theorem c_Mod_store (l : Launch) (D : va_G) (ti : Nat → ClassId) (mo : Nat) (am : Nat → Nat) (Q : Nat → Cap) (w g : Nat → Int32) (rb rt : Nat → Int64) (rp : Nat → Int32) (ro ca va st tr th : Int32) (pk : Int32) (xx : Bool) (rd : Int64) (to : Int32) (fv x : Int32) (h0 : (Q 0).1 = false) (h3 : nI (nFn x) ≤ 3) : Cg l y_Mod_store (wl y_Mod_store b_Mod_store 9 (some .boolean)) (rmL 10) D clz (ty4 ti) [.ref mo, .int (nI (nFn x)), .int (nI (nR1 x)), .int (ldX Q x), .int (nI (nR2 x))] (RMW mo am ti Q w g rb rt rp ro ca va st tr th false pk xx rd to) (fun z : (Nat → Cap) × Int32 × Bool × Int64 × Int32 => some (.int (jb (goB (xSo fv ca va Q w g x).1)))) (fun z => (RMW mo am ti z.1 ((rE (xSo fv ca va Q w g x) tr).w) ((rE (xSo fv ca va Q w g x) tr).g) rb rt rp ro ((rE (xSo fv ca va Q w g x) tr).ca) ((rE (xSo fv ca va Q w g x) tr).va) st ((rE (xSo fv ca va Q w g x) tr).tr) th ((rE (xSo fv ca va Q w g x) tr).ha) z.2.1 z.2.2.1 z.2.2.2.1 z.2.2.2.2)) (fun z => RPo Q z.1 (xSo fv ca va Q w g x) tr) := by
  refine Cg.ofF (plainFor_of_name (by decide)) (Nat.le_of_ble_eq_true rfl) ?_
  intro p9 e9 s9 m9 b9 me9 c9 ls S hr hlk hl hw
  obtain ⟨hx, hb, hml, hown, hts⟩ := id S
  have hl : lv_has ls 9 [(0, .ref mo), (1, .int (nI (nFn x))), (2, .int (nI (nR1 x))), (3, .int (ldX Q x)), (4, .int (nI (nR2 x)))] := hl
  have hr1 := nR1_lt x
  have hr2 := nR2_lt x
  have hrd := nRd_lt x
  have hfn := nFn_lt x
  have hsb : stB x < 32 := by unfold stB; split <;> omega
  refine lv_iconst (v := 1) hx hb d_Mod_store_0 (by decide) ?_
  refine lv_iload_n hx hb d_Mod_store_1 rfl (lv_at hl 1 rfl) ?_
  refine lv_ishl hx hb d_Mod_store_2 ?_
  refine q_topi (z := (stN x)) (rfl) ?_
  refine lv_istore (lv' := [(5, .int (stN x)), (0, .ref mo), (1, .int (nI (nFn x))), (2, .int (nI (nR1 x))), (3, .int (ldX Q x)), (4, .int (nI (nR2 x)))]) hx hb d_Mod_store_3 hl (by decide) rfl (fun ls hl => ?_)
  refine lv_aload_n hx hb d_Mod_store_5 rfl (lv_at hl 1 rfl) ?_
  refine lv_iload_n hx hb d_Mod_store_6 rfl (lv_at hl 3 rfl) ?_
  refine lv_iload_n hx hb d_Mod_store_7 rfl (lv_at hl 4 rfl) ?_
  refine q_cr (q_runS (As := [.int (ldX Q x)]) (rest := [.int (nI (nR1 x)), .ref mo]) S ((c_Mod_low l D (ty4 ti) (ldX Q x)).nil _) (cw_s hts tb_5_118 k_Mod_low rfl rfl ⟨by decide, by decide⟩) hw rfl hl.1 rfl (Nat.le_of_ble_eq_true rfl) d_Mod_store_8 ⟨Nat.zero_le _, Nat.zero_le _⟩) ?_
  refine W.eq (g2 := F0 m9 11 ls [.long (cLow (ldX Q x)), .int (nI (nR1 x)), .ref mo]) rfl ?_
  refine lv_iload hx hb d_Mod_store_11 (lv_at hl 0 rfl) ?_
  refine lv_iconst (v := 3) hx hb d_Mod_store_13 (by decide) ?_
  refine q_join (pcJ := 25) (st := [.int (nI (stB x)), .int (3 : Int32), .int (stN x), .long (cLow (ldX Q x)), .int (nI (nR1 x)), .ref mo]) (lv' := [(5, .int (stN x)), (0, .ref mo), (1, .int (nI (nFn x))), (2, .int (nI (nR1 x))), (3, .int (ldX Q x)), (4, .int (nI (nR2 x)))]) (nL := 9) (fun ls hl => ?_) (fun J25 => ?_)
  · refine q_cr (q_runV (As := [.int (nI (nR1 x)), .long (cLow (ldX Q x)), .int (stN x), .int (3 : Int32), .int (nI (stB x))]) (rest := []) S (c_Mod_reach l D ti mo am Q w g rb rt rp ro ca va st tr th false pk xx rd to (nR1 x) (by first | decide | omega) (ldX Q x) (stN x) 3 (by first | decide | omega) (by decide) (stB x) (by first | decide | omega)) (cw_v hts tb_5_176 k_Mod_reach rfl rfl ⟨by decide, by decide⟩) hw 0 rfl rfl rfl hl.1 rfl (Nat.le_of_ble_eq_true rfl) d_Mod_store_25 ⟨Nat.zero_le _, Nat.zero_le _⟩) ?_
    refine W.eq (g2 := F0 m9 28 ls [.int (rRe Q (nR1 x) (ldX Q x) (stN x) 3 (stB x))]) rfl ?_
    refine lv_istore (lv' := [(6, .int (rRe Q (nR1 x) (ldX Q x) (stN x) 3 (stB x))), (5, .int (stN x)), (0, .ref mo), (1, .int (nI (nFn x))), (2, .int (nI (nR1 x))), (3, .int (ldX Q x)), (4, .int (nI (nR2 x)))]) hx hb d_Mod_store_28 hl (by decide) rfl (fun ls hl => ?_)
    refine lv_iload hx hb d_Mod_store_30 (lv_at hl 0 rfl) ?_
    refine lv_if_le hx hb d_Mod_store_32 rfl (fun h32 => ?_) (fun h32 => ?_)
    · refine lv_iload_n hx hb d_Mod_store_43 rfl (lv_at hl 5 rfl) ?_
      refine lv_iload hx hb d_Mod_store_44 (lv_at hl 1 rfl) ?_
      refine lv_irem hx hb d_Mod_store_46 (stN0 h3) ?_
      refine lv_if_eq hx hb d_Mod_store_47 rfl (fun h47 => ?_) (fun h47 => ?_)
      · refine lv_iload_n hx hb d_Mod_store_58 rfl (lv_at hl 5 rfl) ?_
        refine q_cr (q_runS (As := [.int (ldX Q x)]) (rest := []) S ((c_Mod_low l D (ty4 ti) (ldX Q x)).nil _) (cw_s hts tb_5_118 k_Mod_low rfl rfl ⟨by decide, by decide⟩) hw rfl hl.1 rfl (Nat.le_of_ble_eq_true rfl) d_Mod_store_59 ⟨Nat.zero_le _, Nat.zero_le _⟩) ?_
        refine W.eq (g2 := F0 m9 62 ls [.long (cLow (ldX Q x))]) rfl ?_
        refine lv_ldc2 (v := 16384) hx hb hown (hts _ tb_5_201) d_Mod_store_62 ?_
        refine q_lc_lt S d_Mod_store_65 d_Mod_store_66 rfl (fun h66 => ?_) (fun h66 => ?_)
        · obtain ⟨X, hX, eX⟩ := lowX h66
          have hl : lv_has ls 9 [(6, .int (rRe Q (nR1 x) (ldX Q x) (stN x) 3 (stB x))), (5, .int (stN x)), (0, .ref mo), (1, .int (nI (nFn x))), (2, .int (nI (nR1 x))), (3, .int (nI X)), (4, .int (nI (nR2 x)))] := q_loc hl (by rw [eX])
          refine lv_iload_n hx hb d_Mod_store_77 rfl (lv_at hl 5 rfl) ?_
          refine lv_iconst (v := 4) hx hb d_Mod_store_78 (by decide) ?_
          refine lv_idiv hx hb d_Mod_store_79 (by decide) ?_
          refine q_topi (z := nI (X / 4)) (pk_div (a := X) (d := 4) (by omega) (by decide) (by decide)) ?_
          refine lv_istore (lv' := [(7, .int (nI (X / 4))), (6, .int (rRe Q (nR1 x) (ldX Q x) (stN x) 3 (stB x))), (5, .int (stN x)), (0, .ref mo), (1, .int (nI (nFn x))), (2, .int (nI (nR1 x))), (3, .int (nI X)), (4, .int (nI (nR2 x)))]) hx hb d_Mod_store_80 hl (by decide) rfl (fun ls hl => ?_)
          refine lv_iload_n hx hb d_Mod_store_82 rfl (lv_at hl 4 rfl) ?_
          refine lv_iconst (v := 3) hx hb d_Mod_store_83 (by decide) ?_
          refine lv_icmp_ne hx hb d_Mod_store_84 rfl (fun h84 => ?_) (fun h84 => ?_)
          · refine lv_iload_n hx hb d_Mod_store_123 rfl (lv_at hl 4 rfl) ?_
            refine lv_iconst (v := 2) hx hb d_Mod_store_124 (by decide) ?_
            refine lv_icmp_ne hx hb d_Mod_store_125 rfl (fun h125 => ?_) (fun h125 => ?_)
            · refine lv_iconst (v := 1) hx hb d_Mod_store_145 (by decide) ?_
              refine lv_bipush (v := 8) hx hb d_Mod_store_146 (by decide) ?_
              refine lv_iload hx hb d_Mod_store_148 (lv_at hl 2 rfl) ?_
              refine lv_imul hx hb d_Mod_store_150 ?_
              refine lv_ishl hx hb d_Mod_store_151 ?_
              refine lv_iconst (v := 1) hx hb d_Mod_store_152 (by decide) ?_
              refine lv_isub hx hb d_Mod_store_153 ?_
              refine lv_bipush (v := 8) hx hb d_Mod_store_154 (by decide) ?_
              refine lv_iload_n hx hb d_Mod_store_156 rfl (lv_at hl 6 rfl) ?_
              refine lv_iconst (v := 3) hx hb d_Mod_store_157 (by decide) ?_
              refine lv_iand hx hb d_Mod_store_158 ?_
              refine q_topi (z := (nI (X % 4))) (and3 hX) ?_
              refine lv_imul hx hb d_Mod_store_159 ?_
              refine q_topi (z := nI (8 * (X % 4))) (pk_mul 8 (X % 4)) ?_
              refine lv_ishl hx hb d_Mod_store_160 ?_
              refine lv_istore (lv' := [(8, .int ((((1 : Int32) <<< (((8 : Int32) * (stN x)) &&& 31)) - (1 : Int32)) <<< ((nI (8 * (X % 4))) &&& 31))), (7, .int (nI (X / 4))), (6, .int (rRe Q (nR1 x) (ldX Q x) (stN x) 3 (stB x))), (5, .int (stN x)), (0, .ref mo), (1, .int (nI (nFn x))), (2, .int (nI (nR1 x))), (3, .int (nI X)), (4, .int (nI (nR2 x)))]) hx hb d_Mod_store_161 hl (by decide) rfl (fun ls hl => ?_)
              refine lv_aload_n hx hb d_Mod_store_163 rfl (lv_at hl 4 rfl) ?_
              refine q_get S hw ly_Mod 0 rfl rfl 3 (by decide) tb_5_46 rfl rfl d_Mod_store_164 ?_
              refine lv_iload hx hb d_Mod_store_167 (lv_at hl 1 rfl) ?_
              refine lv_aload_n hx hb d_Mod_store_169 rfl (lv_at hl 4 rfl) ?_
              refine q_get S hw ly_Mod 0 rfl rfl 3 (by decide) tb_5_46 rfl rfl d_Mod_store_170 ?_
              refine lv_iload hx hb d_Mod_store_173 (lv_at hl 1 rfl) ?_
              refine q_ialdN (k := X / 4) S hw 4 0 rfl rfl (by first | assumption | omega) (by decide) d_Mod_store_175 ?_
              refine lv_iload hx hb d_Mod_store_176 (lv_at hl 0 rfl) ?_
              refine lv_iconst (v := -1) hx hb d_Mod_store_178 (by decide) ?_
              refine lv_ixor hx hb d_Mod_store_179 ?_
              refine lv_iand hx hb d_Mod_store_180 ?_
              refine lv_aload_n hx hb d_Mod_store_181 rfl (lv_at hl 4 rfl) ?_
              refine q_get S hw ly_Mod 0 rfl rfl 1 (by decide) tb_5_44 rfl rfl d_Mod_store_182 ?_
              refine lv_iload hx hb d_Mod_store_185 (lv_at hl 8 rfl) ?_
              refine q_ialdN (k := nR2 x) S hw 2 0 rfl rfl (by first | assumption | omega) (by decide) d_Mod_store_187 ?_
              refine lv_bipush (v := 8) hx hb d_Mod_store_188 (by decide) ?_
              refine lv_iload_n hx hb d_Mod_store_190 rfl (lv_at hl 7 rfl) ?_
              refine lv_iconst (v := 3) hx hb d_Mod_store_191 (by decide) ?_
              refine lv_iand hx hb d_Mod_store_192 ?_
              refine q_topi (z := (nI (X % 4))) (and3 hX) ?_
              refine lv_imul hx hb d_Mod_store_193 ?_
              refine q_topi (z := nI (8 * (X % 4))) (pk_mul 8 (X % 4)) ?_
              refine lv_ishl hx hb d_Mod_store_194 ?_
              refine lv_iload hx hb d_Mod_store_195 (lv_at hl 0 rfl) ?_
              refine lv_iand hx hb d_Mod_store_197 ?_
              refine lv_ior hx hb d_Mod_store_198 ?_
              refine q_iastN (k := X / 4) S hw 4 0 rfl rfl (by first | assumption | omega) (by decide) d_Mod_store_199 (fun H locs hw => ?_)
              have hw : Lv _ _ _ _ _ (RMW mo am ti Q (upd w (X / 4) (((w (X / 4)) &&& (((((1 : Int32) <<< (((8 : Int32) * (stN x)) &&& 31)) - (1 : Int32)) <<< ((nI (8 * (X % 4))) &&& 31)) ^^^ (-1 : Int32))) ||| ((((Q (nR2 x)).2.1) <<< ((nI (8 * (X % 4))) &&& 31)) &&& ((((1 : Int32) <<< (((8 : Int32) * (stN x)) &&& 31)) - (1 : Int32)) <<< ((nI (8 * (X % 4))) &&& 31))))) g rb rt rp ro ca va st tr th false pk xx rd to) _ _ _ := hw
              refine lv_aload_n hx hb d_Mod_store_200 rfl (lv_at hl 4 rfl) ?_
              refine q_get S hw ly_Mod 0 rfl rfl 4 (by decide) tb_5_47 rfl rfl d_Mod_store_201 ?_
              refine lv_iload_n hx hb d_Mod_store_204 rfl (lv_at hl 7 rfl) ?_
              refine lv_bipush (v := 8) hx hb d_Mod_store_205 (by decide) ?_
              refine lv_idiv hx hb d_Mod_store_207 (by decide) ?_
              refine q_topi (z := nI (X / 8)) (pk_div (a := X) (d := 8) (by omega) (by decide) (by decide)) ?_
              refine q_join (pcJ := 228) (st := [.int (jb false), .int (nI (X / 8)), .ref (am 4)]) (lv' := [(8, .int ((((1 : Int32) <<< (((8 : Int32) * (stN x)) &&& 31)) - (1 : Int32)) <<< ((nI (8 * (X % 4))) &&& 31))), (7, .int (nI (X / 4))), (6, .int (rRe Q (nR1 x) (ldX Q x) (stN x) 3 (stB x))), (5, .int (stN x)), (0, .ref mo), (1, .int (nI (nFn x))), (2, .int (nI (nR1 x))), (3, .int (nI X)), (4, .int (nI (nR2 x)))]) (nL := 9) (fun ls hl => ?_) (fun J228 => ?_)
              · refine q_zastN (k := X / 8) S hw 5 1 rfl rfl false (by first | assumption | omega) (by decide) d_Mod_store_228 (fun H locs hw => ?_)
                have hw : Lv _ _ _ _ _ (RMW mo am ti Q (upd w (X / 4) (((w (X / 4)) &&& (((((1 : Int32) <<< (((8 : Int32) * (stN x)) &&& 31)) - (1 : Int32)) <<< ((nI (8 * (X % 4))) &&& 31)) ^^^ (-1 : Int32))) ||| ((((Q (nR2 x)).2.1) <<< ((nI (8 * (X % 4))) &&& 31)) &&& ((((1 : Int32) <<< (((8 : Int32) * (stN x)) &&& 31)) - (1 : Int32)) <<< ((nI (8 * (X % 4))) &&& 31))))) (gOff g (X / 4)) rb rt rp ro ca va st tr th false pk xx rd to) _ _ _ := hw.same (RMW_g (tg_off g (X / 4) (X / 8) (by omega)))
                refine lv_iconst (v := 1) hx hb d_Mod_store_229 (by decide) ?_
                have ho : xSo fv ca va Q w g x = ((-1 : Int32), fv, Q, ca, va, (upd w (X / 4) (((w (X / 4)) &&& (((((1 : Int32) <<< (((8 : Int32) * (stN x)) &&& 31)) - (1 : Int32)) <<< ((nI (8 * (X % 4))) &&& 31)) ^^^ (-1 : Int32))) ||| ((((Q (nR2 x)).2.1) <<< ((nI (8 * (X % 4))) &&& 31)) &&& ((((1 : Int32) <<< (((8 : Int32) * (stN x)) &&& 31)) - (1 : Int32)) <<< ((nI (8 * (X % 4))) &&& 31))))), (gOff g (X / 4))) := by unfold xSo; rw [xSt_p h0 h3 h32, if_pos ((stR h3).mp h47), if_pos h66, if_neg h84, eX, nI_clamp (show X < 2 ^ 31 by omega), sn12 _ _ _ _ (stN4' h3 h125)]; first | done | rfl
                exact hw.riz S hr hlk (rfl) d_Mod_store_230 (Q, pk, xx, rd, to) (by rw [ho]; rfl) (by rw [ho]; exact ⟨by rw [rE_n (by decide)]; exact ag_r _, rfl, Or.inl rfl⟩) (by rw [ho, rE_n (by decide)]; first | done | rfl)
              · refine lv_iload_n hx hb d_Mod_store_208 rfl (lv_at hl 5 rfl) ?_
                refine lv_iconst (v := 3) hx hb d_Mod_store_209 (by decide) ?_
                refine lv_icmp_ne hx hb d_Mod_store_210 rfl (fun _ => ?_) (fun h => absurd h (h84))
                refine lv_iconst (v := 0) hx hb d_Mod_store_227 (by decide) ?_
                refine q_topi (z := (jb false)) (rfl) ?_
                exact J228 _ (lv_sub (l' := [(8, .int ((((1 : Int32) <<< (((8 : Int32) * (stN x)) &&& 31)) - (1 : Int32)) <<< ((nI (8 * (X % 4))) &&& 31))), (7, .int (nI (X / 4))), (6, .int (rRe Q (nR1 x) (ldX Q x) (stN x) 3 (stB x))), (5, .int (stN x)), (0, .ref mo), (1, .int (nI (nFn x))), (2, .int (nI (nR1 x))), (3, .int (nI X)), (4, .int (nI (nR2 x)))]) hl [0, 1, 2, 3, 4, 5, 6, 7, 8] rfl)
            · have hX4 : X % 4 = 0 := by have h9 := (stR h3).mp h47; rw [eX, stN4 h125] at h9; exact alN hX (n := 4) (k := 2) rfl (by decide) h9
              refine lv_aload_n hx hb d_Mod_store_128 rfl (lv_at hl 3 rfl) ?_
              refine q_get S hw ly_Mod 0 rfl rfl 3 (by decide) tb_5_46 rfl rfl d_Mod_store_129 ?_
              refine lv_iload hx hb d_Mod_store_132 (lv_at hl 0 rfl) ?_
              refine lv_aload_n hx hb d_Mod_store_134 rfl (lv_at hl 3 rfl) ?_
              refine q_get S hw ly_Mod 0 rfl rfl 1 (by decide) tb_5_44 rfl rfl d_Mod_store_135 ?_
              refine lv_iload hx hb d_Mod_store_138 (lv_at hl 7 rfl) ?_
              refine q_ialdN (k := nR2 x) S hw 2 0 rfl rfl (by first | assumption | omega) (by decide) d_Mod_store_140 ?_
              refine q_iastN (k := X / 4) S hw 4 0 rfl rfl (by first | assumption | omega) (by decide) d_Mod_store_141 (fun H locs hw => ?_)
              have hw : Lv _ _ _ _ _ (RMW mo am ti Q (upd w (X / 4) ((Q (nR2 x)).2.1)) g rb rt rp ro ca va st tr th false pk xx rd to) _ _ _ := hw
              refine lv_goto hx hb d_Mod_store_142 rfl ?_
              refine lv_aload_n hx hb d_Mod_store_200 rfl (lv_at hl 3 rfl) ?_
              refine q_get S hw ly_Mod 0 rfl rfl 4 (by decide) tb_5_47 rfl rfl d_Mod_store_201 ?_
              refine lv_iload_n hx hb d_Mod_store_204 rfl (lv_at hl 6 rfl) ?_
              refine lv_bipush (v := 8) hx hb d_Mod_store_205 (by decide) ?_
              refine lv_idiv hx hb d_Mod_store_207 (by decide) ?_
              refine q_topi (z := nI (X / 8)) (pk_div (a := X) (d := 8) (by omega) (by decide) (by decide)) ?_
              refine q_join (pcJ := 228) (st := [.int (jb false), .int (nI (X / 8)), .ref (am 4)]) (lv' := [(7, .int (nI (X / 4))), (6, .int (rRe Q (nR1 x) (ldX Q x) (stN x) 3 (stB x))), (5, .int (stN x)), (0, .ref mo), (1, .int (nI (nFn x))), (2, .int (nI (nR1 x))), (3, .int (nI X)), (4, .int (nI (nR2 x)))]) (nL := 9) (fun ls hl => ?_) (fun J228 => ?_)
              · refine q_zastN (k := X / 8) S hw 5 1 rfl rfl false (by first | assumption | omega) (by decide) d_Mod_store_228 (fun H locs hw => ?_)
                have hw : Lv _ _ _ _ _ (RMW mo am ti Q (upd w (X / 4) ((Q (nR2 x)).2.1)) (gOff g (X / 4)) rb rt rp ro ca va st tr th false pk xx rd to) _ _ _ := hw.same (RMW_g (tg_off g (X / 4) (X / 8) (by omega)))
                refine lv_iconst (v := 1) hx hb d_Mod_store_229 (by decide) ?_
                have ho : xSo fv ca va Q w g x = ((-1 : Int32), fv, Q, ca, va, (upd w (X / 4) ((Q (nR2 x)).2.1)), (gOff g (X / 4))) := by unfold xSo; rw [xSt_p h0 h3 h32, if_pos ((stR h3).mp h47), if_pos h66, if_neg h84, eX, nI_clamp (show X < 2 ^ 31 by omega), stN4 h125, sn4 _ _ _ hX4]
                exact hw.riz S hr hlk (rfl) d_Mod_store_230 (Q, pk, xx, rd, to) (by rw [ho]; rfl) (by rw [ho]; exact ⟨by rw [rE_n (by decide)]; exact ag_r _, rfl, Or.inl rfl⟩) (by rw [ho, rE_n (by decide)]; first | done | rfl)
              · refine lv_iload_n hx hb d_Mod_store_208 rfl (lv_at hl 4 rfl) ?_
                refine lv_iconst (v := 3) hx hb d_Mod_store_209 (by decide) ?_
                refine lv_icmp_ne hx hb d_Mod_store_210 rfl (fun _ => ?_) (fun h => absurd h (h84))
                refine lv_iconst (v := 0) hx hb d_Mod_store_227 (by decide) ?_
                refine q_topi (z := (jb false)) (rfl) ?_
                exact J228 _ (lv_sub (l' := [(7, .int (nI (X / 4))), (6, .int (rRe Q (nR1 x) (ldX Q x) (stN x) 3 (stB x))), (5, .int (stN x)), (0, .ref mo), (1, .int (nI (nFn x))), (2, .int (nI (nR1 x))), (3, .int (nI X)), (4, .int (nI (nR2 x)))]) hl [0, 1, 2, 3, 4, 5, 6, 7] rfl)
          · have hX8 : X % 8 = 0 := by have h9 := (stR h3).mp h47; rw [eX, (stN8 h3).mpr h84] at h9; exact al8 hX h9
            refine lv_aload_n hx hb d_Mod_store_87 rfl (lv_at hl 3 rfl) ?_
            refine q_get S hw ly_Mod 0 rfl rfl 3 (by decide) tb_5_46 rfl rfl d_Mod_store_88 ?_
            refine lv_iload hx hb d_Mod_store_91 (lv_at hl 0 rfl) ?_
            refine lv_aload_n hx hb d_Mod_store_93 rfl (lv_at hl 3 rfl) ?_
            refine q_get S hw ly_Mod 0 rfl rfl 1 (by decide) tb_5_44 rfl rfl d_Mod_store_94 ?_
            refine lv_iload hx hb d_Mod_store_97 (lv_at hl 7 rfl) ?_
            refine q_ialdN (k := nR2 x) S hw 2 0 rfl rfl (by first | assumption | omega) (by decide) d_Mod_store_99 ?_
            refine q_iastN (k := X / 4) S hw 4 0 rfl rfl (by first | assumption | omega) (by decide) d_Mod_store_100 (fun H locs hw => ?_)
            have hw : Lv _ _ _ _ _ (RMW mo am ti Q (upd w (X / 4) ((Q (nR2 x)).2.1)) g rb rt rp ro ca va st tr th false pk xx rd to) _ _ _ := hw
            refine lv_aload_n hx hb d_Mod_store_101 rfl (lv_at hl 3 rfl) ?_
            refine q_get S hw ly_Mod 0 rfl rfl 3 (by decide) tb_5_46 rfl rfl d_Mod_store_102 ?_
            refine lv_iload hx hb d_Mod_store_105 (lv_at hl 0 rfl) ?_
            refine lv_iconst (v := 1) hx hb d_Mod_store_107 (by decide) ?_
            refine lv_iadd hx hb d_Mod_store_108 ?_
            refine q_topi (z := nI ((X / 4) + 1)) (nI_add (X / 4) 1) ?_
            refine lv_aload_n hx hb d_Mod_store_109 rfl (lv_at hl 3 rfl) ?_
            refine q_get S hw ly_Mod 0 rfl rfl 2 (by decide) tb_5_45 rfl rfl d_Mod_store_110 ?_
            refine lv_iload hx hb d_Mod_store_113 (lv_at hl 7 rfl) ?_
            refine q_ialdN (k := nR2 x) S hw 3 0 rfl rfl (by first | assumption | omega) (by decide) d_Mod_store_115 ?_
            refine lv_ldc (v := 1000194) hx hb hown (hts _ tb_5_42) d_Mod_store_116 ?_
            refine lv_ixor hx hb d_Mod_store_118 ?_
            refine q_iastN (k := (X / 4) + 1) S hw 4 0 rfl rfl (by first | assumption | omega) (by decide) d_Mod_store_119 (fun H locs hw => ?_)
            have hw : Lv _ _ _ _ _ (RMW mo am ti Q (upd (upd w (X / 4) ((Q (nR2 x)).2.1)) ((X / 4) + 1) (((Q (nR2 x)).2.2) ^^^ (1000194 : Int32))) g rb rt rp ro ca va st tr th false pk xx rd to) _ _ _ := hw
            refine lv_goto hx hb d_Mod_store_120 rfl ?_
            refine lv_aload_n hx hb d_Mod_store_200 rfl (lv_at hl 3 rfl) ?_
            refine q_get S hw ly_Mod 0 rfl rfl 4 (by decide) tb_5_47 rfl rfl d_Mod_store_201 ?_
            refine lv_iload_n hx hb d_Mod_store_204 rfl (lv_at hl 6 rfl) ?_
            refine lv_bipush (v := 8) hx hb d_Mod_store_205 (by decide) ?_
            refine lv_idiv hx hb d_Mod_store_207 (by decide) ?_
            refine q_topi (z := nI (X / 8)) (pk_div (a := X) (d := 8) (by omega) (by decide) (by decide)) ?_
            refine q_join (pcJ := 228) (st := [.int (jb ((Q (nR2 x)).1)), .int (nI (X / 8)), .ref (am 4)]) (lv' := [(7, .int (nI (X / 4))), (6, .int (rRe Q (nR1 x) (ldX Q x) (stN x) 3 (stB x))), (5, .int (stN x)), (0, .ref mo), (1, .int (nI (nFn x))), (2, .int (nI (nR1 x))), (3, .int (nI X)), (4, .int (nI (nR2 x)))]) (nL := 9) (fun ls hl => ?_) (fun J228 => ?_)
            · refine q_zastN (k := X / 8) S hw 5 1 rfl rfl ((Q (nR2 x)).1) (by first | assumption | omega) (by decide) d_Mod_store_228 (fun H locs hw => ?_)
              have hw : Lv _ _ _ _ _ (RMW mo am ti Q (upd (upd w (X / 4) ((Q (nR2 x)).2.1)) ((X / 4) + 1) (((Q (nR2 x)).2.2) ^^^ (1000194 : Int32))) (scG g (X / 4) (Q (nR2 x))) rb rt rp ro ca va st tr th false pk xx rd to) _ _ _ := hw.same (RMW_g (tg_sc g (X / 4) (X / 8) (Q (nR2 x)) (by omega) (by omega)))
              refine lv_iconst (v := 1) hx hb d_Mod_store_229 (by decide) ?_
              have ho : xSo fv ca va Q w g x = ((-1 : Int32), fv, Q, ca, va, (upd (upd w (X / 4) ((Q (nR2 x)).2.1)) ((X / 4) + 1) (((Q (nR2 x)).2.2) ^^^ (1000194 : Int32))), (scG g (X / 4) (Q (nR2 x)))) := by unfold xSo; rw [xSt_p h0 h3 h32, if_pos ((stR h3).mp h47), if_pos h66, if_pos h84, eX, nI_clamp (show X < 2 ^ 31 by omega)]; rfl
              exact hw.riz S hr hlk (rfl) d_Mod_store_230 (Q, pk, xx, rd, to) (by rw [ho]; rfl) (by rw [ho]; exact ⟨by rw [rE_n (by decide)]; exact ag_r _, rfl, Or.inl rfl⟩) (by rw [ho, rE_n (by decide)]; first | done | rfl)
            · refine lv_iload_n hx hb d_Mod_store_208 rfl (lv_at hl 4 rfl) ?_
              refine lv_iconst (v := 3) hx hb d_Mod_store_209 (by decide) ?_
              refine lv_icmp_ne hx hb d_Mod_store_210 rfl (fun h => absurd h (not_not_intro h84)) (fun _ => ?_)
              refine lv_aload_n hx hb d_Mod_store_213 rfl (lv_at hl 3 rfl) ?_
              refine q_get S hw ly_Mod 0 rfl rfl 0 (by decide) tb_5_43 rfl rfl d_Mod_store_214 ?_
              refine lv_iload hx hb d_Mod_store_217 (lv_at hl 7 rfl) ?_
              refine q_zaldN (k := nR2 x) S hw 1 1 rfl rfl (by first | assumption | omega) (by decide) d_Mod_store_219 ?_
              refine q_ifz_eq S d_Mod_store_220 rfl (fun h220 => ?_) (fun h220 => ?_)
              · refine lv_iconst (v := 0) hx hb d_Mod_store_227 (by decide) ?_
                refine q_topi (z := (jb ((Q (nR2 x)).1))) (by rw [h220]; rfl) ?_
                exact J228 _ (lv_sub (l' := [(7, .int (nI (X / 4))), (6, .int (rRe Q (nR1 x) (ldX Q x) (stN x) 3 (stB x))), (5, .int (stN x)), (0, .ref mo), (1, .int (nI (nFn x))), (2, .int (nI (nR1 x))), (3, .int (nI X)), (4, .int (nI (nR2 x)))]) hl [0, 1, 2, 3, 4, 5, 6, 7] rfl)
              · refine lv_iconst (v := 1) hx hb d_Mod_store_223 (by decide) ?_
                refine lv_goto hx hb d_Mod_store_224 rfl ?_
                refine q_topi (z := (jb ((Q (nR2 x)).1))) (by rw [h220]; rfl) ?_
                exact J228 _ (lv_sub (l' := [(7, .int (nI (X / 4))), (6, .int (rRe Q (nR1 x) (ldX Q x) (stN x) 3 (stB x))), (5, .int (stN x)), (0, .ref mo), (1, .int (nI (nFn x))), (2, .int (nI (nR1 x))), (3, .int (nI X)), (4, .int (nI (nR2 x)))]) hl [0, 1, 2, 3, 4, 5, 6, 7] rfl)
        · refine lv_aload_n hx hb d_Mod_store_69 rfl (lv_at hl 2 rfl) ?_
          refine lv_bipush (v := 7) hx hb d_Mod_store_70 (by decide) ?_
          refine lv_iload_n hx hb d_Mod_store_72 rfl (lv_at hl 5 rfl) ?_
          refine q_cg (q_runV (As := [.int (7 : Int32), .int (ldX Q x)]) (rest := []) S (c_Mod_trap l D ti mo am Q w g rb rt rp ro ca va st tr th pk xx rd to (7 : Int32) (ldX Q x)) (cw_v hts tb_5_202 k_Mod_trap rfl rfl ⟨by decide, by decide⟩) hw 0 rfl rfl rfl hl.1 rfl (Nat.le_of_ble_eq_true rfl) d_Mod_store_73 ⟨Nat.zero_le _, Nat.zero_le _⟩) hw (fun z hD => qD_same hD rfl) (fun z9 H locs hp9 hw => ?_)
          refine W.eq (g2 := F0 m9 76 ls [.int (jb false)]) rfl ?_
          have hw : Lv _ _ _ _ _ (RMW mo am ti (kTR Q) w g rb rt rp ro (7 : Int32) (ldX Q x) st (tr + 1) th (kHa (ldX Q x) Q) pk xx rd (rTo (kTR Q 32))) _ _ _ := hw
          have ho : xSo fv ca va Q w g x = ((7 : Int32), (ldX Q x), Q, ca, va, w, g) := by unfold xSo; rw [xSt_p h0 h3 h32, if_pos ((stR h3).mp h47), if_neg h66]
          exact hw.riz S hr hlk (rfl) d_Mod_store_76 ((kTR Q), pk, xx, rd, (rTo (kTR Q 32))) (by rw [ho]; rfl) (by rw [ho]; exact ⟨by rw [rE_t (by decide)]; exact fun k _ => rfl, rfl, Or.inr (Or.inr (show ¬ (7 : Int32) < 0 by decide))⟩) (by rw [ho, rE_t (by decide)]; first | done | rfl)
      · refine lv_aload_n hx hb d_Mod_store_50 rfl (lv_at hl 2 rfl) ?_
        refine lv_bipush (v := 6) hx hb d_Mod_store_51 (by decide) ?_
        refine lv_iload_n hx hb d_Mod_store_53 rfl (lv_at hl 5 rfl) ?_
        refine q_cg (q_runV (As := [.int (6 : Int32), .int (ldX Q x)]) (rest := []) S (c_Mod_trap l D ti mo am Q w g rb rt rp ro ca va st tr th pk xx rd to (6 : Int32) (ldX Q x)) (cw_v hts tb_5_202 k_Mod_trap rfl rfl ⟨by decide, by decide⟩) hw 0 rfl rfl rfl hl.1 rfl (Nat.le_of_ble_eq_true rfl) d_Mod_store_54 ⟨Nat.zero_le _, Nat.zero_le _⟩) hw (fun z hD => qD_same hD rfl) (fun z9 H locs hp9 hw => ?_)
        refine W.eq (g2 := F0 m9 57 ls [.int (jb false)]) rfl ?_
        have hw : Lv _ _ _ _ _ (RMW mo am ti (kTR Q) w g rb rt rp ro (6 : Int32) (ldX Q x) st (tr + 1) th (kHa (ldX Q x) Q) pk xx rd (rTo (kTR Q 32))) _ _ _ := hw
        have ho : xSo fv ca va Q w g x = ((6 : Int32), (ldX Q x), Q, ca, va, w, g) := by unfold xSo; rw [xSt_p h0 h3 h32, if_neg (fun q => h47 ((stR h3).mpr q))]
        exact hw.riz S hr hlk (rfl) d_Mod_store_57 ((kTR Q), pk, xx, rd, (rTo (kTR Q 32))) (by rw [ho]; rfl) (by rw [ho]; exact ⟨by rw [rE_t (by decide)]; exact fun k _ => rfl, rfl, Or.inr (Or.inr (show ¬ (6 : Int32) < 0 by decide))⟩) (by rw [ho, rE_t (by decide)]; first | done | rfl)
    · refine lv_aload_n hx hb d_Mod_store_35 rfl (lv_at hl 2 rfl) ?_
      refine lv_iload_n hx hb d_Mod_store_36 rfl (lv_at hl 4 rfl) ?_
      refine lv_iload hx hb d_Mod_store_37 (lv_at hl 0 rfl) ?_
      refine q_cg (q_runV (As := [.int (nI (nR1 x)), .int (rRe Q (nR1 x) (ldX Q x) (stN x) 3 (stB x))]) (rest := []) S (c_Mod_broken l D ti mo am Q w g rb rt rp ro ca va st tr th pk xx rd to (nR1 x) (rRe Q (nR1 x) (ldX Q x) (stN x) 3 (stB x))) (cw_v hts tb_6_3 k_Mod_broken rfl rfl ⟨by decide, by decide⟩) hw 0 rfl rfl rfl hl.1 rfl (Nat.le_of_ble_eq_true rfl) d_Mod_store_39 ⟨Nat.zero_le _, Nat.zero_le _⟩) hw (fun z hD => qD_same hD rfl) (fun z9 H locs hp9 hw => ?_)
      refine W.eq (g2 := F0 m9 42 ls [.int (jb false)]) rfl ?_
      have hw : Lv _ _ _ _ _ (RMW mo am ti (kTR Q) w g rb rt rp ro 28 (32 * nI (nR1 x) + (rRe Q (nR1 x) (ldX Q x) (stN x) 3 (stB x))) st (tr + 1) th (kHa (32 * nI (nR1 x) + (rRe Q (nR1 x) (ldX Q x) (stN x) 3 (stB x))) Q) pk xx rd (rTo (kTR Q 32))) _ _ _ := hw
      have ho : xSo fv ca va Q w g x = ((28 : Int32), (32 * nI (nR1 x) + (rRe Q (nR1 x) (ldX Q x) (stN x) 3 (stB x))), Q, ca, va, w, g) := by unfold xSo; rw [xSt_w h0 h3 h32]
      exact hw.riz S hr hlk (rfl) d_Mod_store_42 ((kTR Q), pk, xx, rd, (rTo (kTR Q 32))) (by rw [ho]; rfl) (by rw [ho]; exact ⟨by rw [rE_t (by decide)]; exact fun k _ => rfl, rfl, Or.inr (Or.inr (show ¬ (28 : Int32) < 0 by decide))⟩) (by rw [ho, rE_t (by decide)]; first | done | rfl)
  · refine lv_iload_n hx hb d_Mod_store_14 rfl (lv_at hl 2 rfl) ?_
    refine lv_iconst (v := 3) hx hb d_Mod_store_15 (by decide) ?_
    refine lv_icmp_ne hx hb d_Mod_store_16 rfl (fun h16 => ?_) (fun h16 => ?_)
    · refine lv_iconst (v := 0) hx hb d_Mod_store_24 (by decide) ?_
      refine q_topi (z := (nI (stB x))) (by unfold stB; rw [if_neg h16]; rfl) ?_
      exact J25 _ (lv_sub (l' := [(5, .int (stN x)), (0, .ref mo), (1, .int (nI (nFn x))), (2, .int (nI (nR1 x))), (3, .int (ldX Q x)), (4, .int (nI (nR2 x)))]) hl [0, 1, 2, 3, 4, 5] rfl)
    · refine lv_iload hx hb d_Mod_store_19 (lv_at hl 5 rfl) ?_
      refine lv_goto hx hb d_Mod_store_21 rfl ?_
      refine q_topi (z := (nI (stB x))) (by unfold stB; rw [if_pos h16]) ?_
      exact J25 _ (lv_sub (l' := [(5, .int (stN x)), (0, .ref mo), (1, .int (nI (nFn x))), (2, .int (nI (nR1 x))), (3, .int (ldX Q x)), (4, .int (nI (nR2 x)))]) hl [0, 1, 2, 3, 4, 5] rfl)
set_option maxHeartbeats 4000000 in
set_option maxRecDepth 100000 in
theorem c_Mod_operated (l : Launch) (D : va_G) (tys : List (ClassId × FieldType)) (f : Nat) (a b : Int32) (o : Bool) : Cr l y_Mod_operated (wl y_Mod_operated b_Mod_operated 4 (some .int)) (rmL 1) D clz tys [.int (nI f), .int a, .int b, .int (jb o)] [] (some (.int (rOp (nI f) a b o))) := by
  refine Cr.ofF (plainFor_of_name (by decide)) (Nat.le_of_ble_eq_true rfl) ?_
  intro p9 e9 s9 m9 b9 me9 c9 ls S hr hlk hl hw
  obtain ⟨hx, hb, hml, hown, hts⟩ := id S
  have hl : lv_has ls 4 [(0, .int (nI f)), (1, .int a), (2, .int b), (3, .int (jb o))] := hl
  refine lv_iload_n hx hb d_Mod_operated_0 rfl (lv_at hl 0 rfl) ?_
  refine q_topi (z := (nI f)) rfl ?_
  by_cases hc1_0 : (nI f) = (0 : Int32)
  · refine lv_tableIn hx hb d_Mod_operated_1 (by rw [hc1_0]; decide) (by rw [hc1_0]; decide) (by rw [hc1_0]; rfl) rfl ?_
    refine lv_iload_n hx hb d_Mod_operated_44 rfl (lv_at hl 1 rfl) ?_
    refine lv_iload_n hx hb d_Mod_operated_45 rfl (lv_at hl 2 rfl) ?_
    refine lv_iadd hx hb d_Mod_operated_46 ?_
    exact rd_i S hr hlk rfl d_Mod_operated_47 (by simp [rOp, hc1_0])
  by_cases hc1_1 : (nI f) = (1 : Int32)
  · refine lv_tableIn hx hb d_Mod_operated_1 (by rw [hc1_1]; decide) (by rw [hc1_1]; decide) (by rw [hc1_1]; rfl) rfl ?_
    refine lv_iload_n hx hb d_Mod_operated_48 rfl (lv_at hl 1 rfl) ?_
    refine lv_iload_n hx hb d_Mod_operated_49 rfl (lv_at hl 2 rfl) ?_
    refine lv_bipush (v := 31) hx hb d_Mod_operated_50 (by decide) ?_
    refine lv_iand hx hb d_Mod_operated_52 ?_
    refine lv_ishl hx hb d_Mod_operated_53 ?_
    exact rd_i S hr hlk rfl d_Mod_operated_54 (by simp [rOp, hc1_0, hc1_1])
  by_cases hc1_2 : (nI f) = (2 : Int32)
  · refine lv_tableIn hx hb d_Mod_operated_1 (by rw [hc1_2]; decide) (by rw [hc1_2]; decide) (by rw [hc1_2]; rfl) rfl ?_
    refine lv_iload_n hx hb d_Mod_operated_55 rfl (lv_at hl 1 rfl) ?_
    refine lv_iload_n hx hb d_Mod_operated_56 rfl (lv_at hl 2 rfl) ?_
    refine lv_icmp_ge hx hb d_Mod_operated_57 rfl (fun h57 => ?_) (fun h57 => ?_)
    · refine lv_iconst (v := 0) hx hb d_Mod_operated_64 (by decide) ?_
      exact rd_i S hr hlk rfl d_Mod_operated_65 (by simp [rOp, hc1_0, hc1_1, hc1_2, h57])
    · refine lv_iconst (v := 1) hx hb d_Mod_operated_60 (by decide) ?_
      refine lv_goto hx hb d_Mod_operated_61 rfl ?_
      exact rd_i S hr hlk rfl d_Mod_operated_65 (by simp [rOp, hc1_0, hc1_1, hc1_2, h57])
  by_cases hc1_3 : (nI f) = (3 : Int32)
  · refine lv_tableIn hx hb d_Mod_operated_1 (by rw [hc1_3]; decide) (by rw [hc1_3]; decide) (by rw [hc1_3]; rfl) rfl ?_
    refine lv_iload_n hx hb d_Mod_operated_66 rfl (lv_at hl 1 rfl) ?_
    refine q_cr (q_runS (As := [.int a]) (rest := []) S ((c_Mod_low l D tys a).nil _) (cw_s hts tb_5_118 k_Mod_low rfl rfl ⟨by decide, by decide⟩) hw rfl hl.1 rfl (Nat.le_of_ble_eq_true rfl) d_Mod_operated_67 ⟨Nat.zero_le _, Nat.zero_le _⟩) ?_
    refine W.eq (g2 := F0 m9 70 ls [.long (cLow a)]) rfl ?_
    refine lv_iload_n hx hb d_Mod_operated_70 rfl (lv_at hl 2 rfl) ?_
    refine q_cr (q_runS (As := [.int b]) (rest := [.long (cLow a)]) S ((c_Mod_low l D tys b).nil _) (cw_s hts tb_5_118 k_Mod_low rfl rfl ⟨by decide, by decide⟩) hw rfl hl.1 rfl (Nat.le_of_ble_eq_true rfl) d_Mod_operated_71 ⟨Nat.zero_le _, Nat.zero_le _⟩) ?_
    refine W.eq (g2 := F0 m9 74 ls [.long (cLow b), .long (cLow a)]) rfl ?_
    refine q_lc_ge S d_Mod_operated_74 d_Mod_operated_75 rfl (fun h75 => ?_) (fun h75 => ?_)
    · refine lv_iconst (v := 0) hx hb d_Mod_operated_82 (by decide) ?_
      exact rd_i S hr hlk rfl d_Mod_operated_83 (by simp [rOp, hc1_0, hc1_1, hc1_2, hc1_3, h75])
    · refine lv_iconst (v := 1) hx hb d_Mod_operated_78 (by decide) ?_
      refine lv_goto hx hb d_Mod_operated_79 rfl ?_
      exact rd_i S hr hlk rfl d_Mod_operated_83 (by simp [rOp, hc1_0, hc1_1, hc1_2, hc1_3, h75])
  by_cases hc1_4 : (nI f) = (4 : Int32)
  · refine lv_tableIn hx hb d_Mod_operated_1 (by rw [hc1_4]; decide) (by rw [hc1_4]; decide) (by rw [hc1_4]; rfl) rfl ?_
    refine lv_iload_n hx hb d_Mod_operated_84 rfl (lv_at hl 1 rfl) ?_
    refine lv_iload_n hx hb d_Mod_operated_85 rfl (lv_at hl 2 rfl) ?_
    refine lv_ixor hx hb d_Mod_operated_86 ?_
    exact rd_i S hr hlk rfl d_Mod_operated_87 (by simp [rOp, hc1_0, hc1_1, hc1_2, hc1_3, hc1_4])
  by_cases hc1_5 : (nI f) = (5 : Int32)
  · refine lv_tableIn hx hb d_Mod_operated_1 (by rw [hc1_5]; decide) (by rw [hc1_5]; decide) (by rw [hc1_5]; rfl) rfl ?_
    refine lv_iload_n hx hb d_Mod_operated_88 rfl (lv_at hl 3 rfl) ?_
    refine q_ifz_eq S d_Mod_operated_89 rfl (fun h89 => ?_) (fun h89 => ?_)
    · refine lv_iload_n hx hb d_Mod_operated_101 rfl (lv_at hl 1 rfl) ?_
      refine lv_iload_n hx hb d_Mod_operated_102 rfl (lv_at hl 2 rfl) ?_
      refine lv_bipush (v := 31) hx hb d_Mod_operated_103 (by decide) ?_
      refine lv_iand hx hb d_Mod_operated_105 ?_
      refine lv_iushr (v := (jus a (b &&& (31 : Int32)))) hx hb d_Mod_operated_106 rfl ?_
      exact rd_i S hr hlk rfl d_Mod_operated_107 (by simp [rOp, hc1_0, hc1_1, hc1_2, hc1_3, hc1_4, hc1_5, h89])
    · refine lv_iload_n hx hb d_Mod_operated_92 rfl (lv_at hl 1 rfl) ?_
      refine lv_iload_n hx hb d_Mod_operated_93 rfl (lv_at hl 2 rfl) ?_
      refine lv_bipush (v := 31) hx hb d_Mod_operated_94 (by decide) ?_
      refine lv_iand hx hb d_Mod_operated_96 ?_
      refine lv_ishr hx hb d_Mod_operated_97 ?_
      refine lv_goto hx hb d_Mod_operated_98 rfl ?_
      exact rd_i S hr hlk rfl d_Mod_operated_107 (by simp [rOp, hc1_0, hc1_1, hc1_2, hc1_3, hc1_4, hc1_5, h89])
  by_cases hc1_6 : (nI f) = (6 : Int32)
  · refine lv_tableIn hx hb d_Mod_operated_1 (by rw [hc1_6]; decide) (by rw [hc1_6]; decide) (by rw [hc1_6]; rfl) rfl ?_
    refine lv_iload_n hx hb d_Mod_operated_108 rfl (lv_at hl 1 rfl) ?_
    refine lv_iload_n hx hb d_Mod_operated_109 rfl (lv_at hl 2 rfl) ?_
    refine lv_ior hx hb d_Mod_operated_110 ?_
    exact rd_i S hr hlk rfl d_Mod_operated_111 (by simp [rOp, hc1_0, hc1_1, hc1_2, hc1_3, hc1_4, hc1_5, hc1_6])
  refine lv_tableOut hx hb d_Mod_operated_1 (by have := lv_neT hc1_0 (a := 0) rfl; have := lv_neT hc1_1 (a := 1) rfl; have := lv_neT hc1_2 (a := 2) rfl; have := lv_neT hc1_3 (a := 3) rfl; have := lv_neT hc1_4 (a := 4) rfl; have := lv_neT hc1_5 (a := 5) rfl; have := lv_neT hc1_6 (a := 6) rfl; omega) rfl ?_
  refine lv_iload_n hx hb d_Mod_operated_112 rfl (lv_at hl 1 rfl) ?_
  refine lv_iload_n hx hb d_Mod_operated_113 rfl (lv_at hl 2 rfl) ?_
  refine lv_iand hx hb d_Mod_operated_114 ?_
  exact rd_i S hr hlk rfl d_Mod_operated_115 (by simp [rOp, hc1_0, hc1_1, hc1_2, hc1_3, hc1_4, hc1_5, hc1_6])
set_option maxHeartbeats 4000000 in
set_option maxRecDepth 100000 in
theorem c_Mod_jumpa (l : Launch) (D : va_G) (ti : Nat → ClassId) (mo : Nat) (am : Nat → Nat) (Q : Nat → Cap) (w g : Nat → Int32) (rb rt : Nat → Int64) (rp : Nat → Int32) (ro ca va st tr th : Int32) (pk : Int32) (xx : Bool) (rd : Int64) (to : Int32) (y : Int32) (k1 : rHo (Q 32) y 4 = false) : Cg l y_Mod_jump (wl y_Mod_jump b_Mod_jump 2 (some .boolean)) (rmL 9) D clz (ty4 ti) [.ref mo, .int y] (RMW mo am ti Q w g rb rt rp ro ca va st tr th false pk xx rd to) (fun _ : Unit => some (.int (jb false))) (fun _ => (RMW mo am ti (kTR Q) w g rb rt rp ro 28 1025 st (tr + 1) th (kHa 1025 Q) pk xx rd (rTo (kTR Q 32)))) (fun _ => True) := by
  refine Cg.ofF (plainFor_of_name (by decide)) (Nat.le_of_ble_eq_true rfl) ?_
  intro p9 e9 s9 m9 b9 me9 c9 ls S hr hlk hl hw
  obtain ⟨hx, hb, hml, hown, hts⟩ := id S
  have hl : lv_has ls 2 [(0, .ref mo), (1, .int y)] := hl
  refine lv_aload_n hx hb d_Mod_jump_0 rfl (lv_at hl 0 rfl) ?_
  refine lv_bipush (v := 32) hx hb d_Mod_jump_1 (by decide) ?_
  refine lv_iload_n hx hb d_Mod_jump_3 rfl (lv_at hl 1 rfl) ?_
  refine q_cr (q_runS (As := [.int y]) (rest := [.int (32 : Int32), .ref mo]) S ((c_Mod_low l D (ty4 ti) y).nil _) (cw_s hts tb_5_118 k_Mod_low rfl rfl ⟨by decide, by decide⟩) hw rfl hl.1 rfl (Nat.le_of_ble_eq_true rfl) d_Mod_jump_4 ⟨Nat.zero_le _, Nat.zero_le _⟩) ?_
  refine W.eq (g2 := F0 m9 7 ls [.long (cLow y), .int (32 : Int32), .ref mo]) rfl ?_
  refine lv_iconst (v := 4) hx hb d_Mod_jump_7 (by decide) ?_
  refine q_cr (q_runV (As := [.int (32 : Int32), .long (cLow y), .int (4 : Int32)]) (rest := []) S (c_Mod_holds l D ti mo am Q w g rb rt rp ro ca va st tr th false pk xx rd to 32 (by first | decide | omega) y (4 : Int32)) (cw_v hts tb_5_194 k_Mod_holds rfl rfl ⟨by decide, by decide⟩) hw 0 rfl rfl rfl hl.1 rfl (Nat.le_of_ble_eq_true rfl) d_Mod_jump_8 ⟨Nat.zero_le _, Nat.zero_le _⟩) ?_
  refine W.eq (g2 := F0 m9 11 ls [.int (jb (rHo (Q 32) y (4 : Int32)))]) rfl ?_
  refine q_ifz_ne S d_Mod_jump_11 rfl (fun h11 => ?_) (fun h11 => ?_)
  · rw [k1] at h11
    exact absurd h11 (by decide)
  · refine lv_aload_n hx hb d_Mod_jump_14 rfl (lv_at hl 0 rfl) ?_
    refine lv_bipush (v := 28) hx hb d_Mod_jump_15 (by decide) ?_
    refine lv_sipush (v := 1025) hx hb d_Mod_jump_17 (by decide) ?_
    refine q_cg (q_runV (As := [.int (28 : Int32), .int (1025 : Int32)]) (rest := []) S (c_Mod_trap l D ti mo am Q w g rb rt rp ro ca va st tr th pk xx rd to (28 : Int32) (1025 : Int32)) (cw_v hts tb_5_202 k_Mod_trap rfl rfl ⟨by decide, by decide⟩) hw 0 rfl rfl rfl hl.1 rfl (Nat.le_of_ble_eq_true rfl) d_Mod_jump_20 ⟨Nat.zero_le _, Nat.zero_le _⟩) hw (fun z hD => qD_same hD rfl) (fun z9 H locs hp9 hw => ?_)
    refine W.eq (g2 := F0 m9 23 ls [.int (jb false)]) rfl ?_
    have hw : Lv _ _ _ _ _ (RMW mo am ti (kTR Q) w g rb rt rp ro (28 : Int32) (1025 : Int32) st (tr + 1) th (kHa (1025 : Int32) Q) pk xx rd (rTo (kTR Q 32))) _ _ _ := hw
    exact hw.riz S hr hlk (jb_nar _) d_Mod_jump_23 () (rfl) (trivial) (rfl)
set_option maxHeartbeats 4000000 in
set_option maxRecDepth 100000 in
theorem c_Mod_jumpb (l : Launch) (D : va_G) (ti : Nat → ClassId) (mo : Nat) (am : Nat → Nat) (Q : Nat → Cap) (w g : Nat → Int32) (rb rt : Nat → Int64) (rp : Nat → Int32) (ro ca va st tr th : Int32) (pk : Int32) (xx : Bool) (rd : Int64) (to : Int32) (y : Int32) (k1 : rHo (Q 32) y 4 = true) (k2 : ¬ (y &&& 3) = 0) : Cg l y_Mod_jump (wl y_Mod_jump b_Mod_jump 2 (some .boolean)) (rmL 9) D clz (ty4 ti) [.ref mo, .int y] (RMW mo am ti Q w g rb rt rp ro ca va st tr th false pk xx rd to) (fun _ : Unit => some (.int (jb false))) (fun _ => (RMW mo am ti (kTR Q) w g rb rt rp ro 0 y st (tr + 1) th (kHa y Q) pk xx rd (rTo (kTR Q 32)))) (fun _ => True) := by
  refine Cg.ofF (plainFor_of_name (by decide)) (Nat.le_of_ble_eq_true rfl) ?_
  intro p9 e9 s9 m9 b9 me9 c9 ls S hr hlk hl hw
  obtain ⟨hx, hb, hml, hown, hts⟩ := id S
  have hl : lv_has ls 2 [(0, .ref mo), (1, .int y)] := hl
  refine lv_aload_n hx hb d_Mod_jump_0 rfl (lv_at hl 0 rfl) ?_
  refine lv_bipush (v := 32) hx hb d_Mod_jump_1 (by decide) ?_
  refine lv_iload_n hx hb d_Mod_jump_3 rfl (lv_at hl 1 rfl) ?_
  refine q_cr (q_runS (As := [.int y]) (rest := [.int (32 : Int32), .ref mo]) S ((c_Mod_low l D (ty4 ti) y).nil _) (cw_s hts tb_5_118 k_Mod_low rfl rfl ⟨by decide, by decide⟩) hw rfl hl.1 rfl (Nat.le_of_ble_eq_true rfl) d_Mod_jump_4 ⟨Nat.zero_le _, Nat.zero_le _⟩) ?_
  refine W.eq (g2 := F0 m9 7 ls [.long (cLow y), .int (32 : Int32), .ref mo]) rfl ?_
  refine lv_iconst (v := 4) hx hb d_Mod_jump_7 (by decide) ?_
  refine q_cr (q_runV (As := [.int (32 : Int32), .long (cLow y), .int (4 : Int32)]) (rest := []) S (c_Mod_holds l D ti mo am Q w g rb rt rp ro ca va st tr th false pk xx rd to 32 (by first | decide | omega) y (4 : Int32)) (cw_v hts tb_5_194 k_Mod_holds rfl rfl ⟨by decide, by decide⟩) hw 0 rfl rfl rfl hl.1 rfl (Nat.le_of_ble_eq_true rfl) d_Mod_jump_8 ⟨Nat.zero_le _, Nat.zero_le _⟩) ?_
  refine W.eq (g2 := F0 m9 11 ls [.int (jb (rHo (Q 32) y (4 : Int32)))]) rfl ?_
  refine q_ifz_ne S d_Mod_jump_11 rfl (fun h11 => ?_) (fun h11 => ?_)
  · refine lv_iload_n hx hb d_Mod_jump_24 rfl (lv_at hl 1 rfl) ?_
    refine lv_iconst (v := 3) hx hb d_Mod_jump_25 (by decide) ?_
    refine lv_iand hx hb d_Mod_jump_26 ?_
    refine lv_if_eq hx hb d_Mod_jump_27 rfl (fun h27 => ?_) (fun h27 => ?_)
    · exact absurd h27 k2
    · refine lv_aload_n hx hb d_Mod_jump_30 rfl (lv_at hl 0 rfl) ?_
      refine lv_iconst (v := 0) hx hb d_Mod_jump_31 (by decide) ?_
      refine lv_iload_n hx hb d_Mod_jump_32 rfl (lv_at hl 1 rfl) ?_
      refine q_cg (q_runV (As := [.int (0 : Int32), .int y]) (rest := []) S (c_Mod_trap l D ti mo am Q w g rb rt rp ro ca va st tr th pk xx rd to (0 : Int32) y) (cw_v hts tb_5_202 k_Mod_trap rfl rfl ⟨by decide, by decide⟩) hw 0 rfl rfl rfl hl.1 rfl (Nat.le_of_ble_eq_true rfl) d_Mod_jump_33 ⟨Nat.zero_le _, Nat.zero_le _⟩) hw (fun z hD => qD_same hD rfl) (fun z9 H locs hp9 hw => ?_)
      refine W.eq (g2 := F0 m9 36 ls [.int (jb false)]) rfl ?_
      have hw : Lv _ _ _ _ _ (RMW mo am ti (kTR Q) w g rb rt rp ro (0 : Int32) y st (tr + 1) th (kHa y Q) pk xx rd (rTo (kTR Q 32))) _ _ _ := hw
      exact hw.riz S hr hlk (jb_nar _) d_Mod_jump_36 () (rfl) (trivial) (rfl)
  · rw [k1] at h11
    exact absurd h11 (by decide)
set_option maxHeartbeats 4000000 in
set_option maxRecDepth 100000 in
theorem c_Mod_jumpc (l : Launch) (D : va_G) (ti : Nat → ClassId) (mo : Nat) (am : Nat → Nat) (Q : Nat → Cap) (w g : Nat → Int32) (rb rt : Nat → Int64) (rp : Nat → Int32) (ro ca va st tr th : Int32) (pk : Int32) (xx : Bool) (rd : Int64) (to : Int32) (y : Int32) (k1 : rHo (Q 32) y 4 = true) (k2 : (y &&& 3) = 0) : Cg l y_Mod_jump (wl y_Mod_jump b_Mod_jump 2 (some .boolean)) (rmL 9) D clz (ty4 ti) [.ref mo, .int y] (RMW mo am ti Q w g rb rt rp ro ca va st tr th false pk xx rd to) (fun _ : Unit => some (.int (jb true))) (fun _ => (RMW mo am ti (va_up Q 32 (cMvC (Q 32) y)) w g rb rt rp ro ca va st tr th false pk xx rd to)) (fun _ => True) := by
  refine Cg.ofF (plainFor_of_name (by decide)) (Nat.le_of_ble_eq_true rfl) ?_
  intro p9 e9 s9 m9 b9 me9 c9 ls S hr hlk hl hw
  obtain ⟨hx, hb, hml, hown, hts⟩ := id S
  have hl : lv_has ls 2 [(0, .ref mo), (1, .int y)] := hl
  refine lv_aload_n hx hb d_Mod_jump_0 rfl (lv_at hl 0 rfl) ?_
  refine lv_bipush (v := 32) hx hb d_Mod_jump_1 (by decide) ?_
  refine lv_iload_n hx hb d_Mod_jump_3 rfl (lv_at hl 1 rfl) ?_
  refine q_cr (q_runS (As := [.int y]) (rest := [.int (32 : Int32), .ref mo]) S ((c_Mod_low l D (ty4 ti) y).nil _) (cw_s hts tb_5_118 k_Mod_low rfl rfl ⟨by decide, by decide⟩) hw rfl hl.1 rfl (Nat.le_of_ble_eq_true rfl) d_Mod_jump_4 ⟨Nat.zero_le _, Nat.zero_le _⟩) ?_
  refine W.eq (g2 := F0 m9 7 ls [.long (cLow y), .int (32 : Int32), .ref mo]) rfl ?_
  refine lv_iconst (v := 4) hx hb d_Mod_jump_7 (by decide) ?_
  refine q_cr (q_runV (As := [.int (32 : Int32), .long (cLow y), .int (4 : Int32)]) (rest := []) S (c_Mod_holds l D ti mo am Q w g rb rt rp ro ca va st tr th false pk xx rd to 32 (by first | decide | omega) y (4 : Int32)) (cw_v hts tb_5_194 k_Mod_holds rfl rfl ⟨by decide, by decide⟩) hw 0 rfl rfl rfl hl.1 rfl (Nat.le_of_ble_eq_true rfl) d_Mod_jump_8 ⟨Nat.zero_le _, Nat.zero_le _⟩) ?_
  refine W.eq (g2 := F0 m9 11 ls [.int (jb (rHo (Q 32) y (4 : Int32)))]) rfl ?_
  refine q_ifz_ne S d_Mod_jump_11 rfl (fun h11 => ?_) (fun h11 => ?_)
  · refine lv_iload_n hx hb d_Mod_jump_24 rfl (lv_at hl 1 rfl) ?_
    refine lv_iconst (v := 3) hx hb d_Mod_jump_25 (by decide) ?_
    refine lv_iand hx hb d_Mod_jump_26 ?_
    refine lv_if_eq hx hb d_Mod_jump_27 rfl (fun h27 => ?_) (fun h27 => ?_)
    · refine lv_aload_n hx hb d_Mod_jump_37 rfl (lv_at hl 0 rfl) ?_
      refine lv_bipush (v := 32) hx hb d_Mod_jump_38 (by decide) ?_
      refine lv_iload_n hx hb d_Mod_jump_40 rfl (lv_at hl 1 rfl) ?_
      refine lv_bipush (v := 32) hx hb d_Mod_jump_41 (by decide) ?_
      refine q_cg (q_runV (As := [.int (32 : Int32), .int y, .int (32 : Int32)]) (rest := []) S (c_Mod_moved l D ti mo am Q w g rb rt rp ro ca va st tr th false pk xx rd to 32 (by first | decide | omega) y 32 (by first | decide | omega)) (cw_v hts tb_5_218 k_Mod_moved rfl rfl ⟨by decide, by decide⟩) hw 0 rfl rfl rfl hl.1 rfl (Nat.le_of_ble_eq_true rfl) d_Mod_jump_43 ⟨Nat.zero_le _, Nat.zero_le _⟩) hw (fun z hD => qD_same hD rfl) (fun z9 H locs hp9 hw => ?_)
      refine W.eq (g2 := F0 m9 46 ls []) rfl ?_
      have hw : Lv _ _ _ _ _ (RMW mo am ti (rSet Q 32 (cMvC (Q 32) y)) w g rb rt rp ro ca va st tr th false pk xx rd to) _ _ _ := hw
      refine lv_iconst (v := 1) hx hb d_Mod_jump_46 (by decide) ?_
      exact hw.riz S hr hlk (rfl) d_Mod_jump_47 () (rfl) (trivial) (by rw [rS_c (r := 32) (by decide)])
    · exact absurd k2 h27
  · rw [k1] at h11
    exact absurd h11 (by decide)
set_option maxHeartbeats 4000000 in
set_option maxRecDepth 100000 in
theorem c_Mod_jumpBy (l : Launch) (D : va_G) (ti : Nat → ClassId) (mo : Nat) (am : Nat → Nat) (Q : Nat → Cap) (w g : Nat → Int32) (rb rt : Nat → Int64) (rp : Nat → Int32) (ro ca va st tr th : Int32) (pk : Int32) (xx : Bool) (rd : Int64) (to : Int32) (fv x : Int32) (hf : nI (nFn x) = 0) : Cg l y_Mod_jumpBy (wl y_Mod_jumpBy b_Mod_jumpBy 5 (some .boolean)) (rmL 10) D clz (ty4 ti) [.ref mo, .int (nI (nRd x)), .int (nI (nR1 x)), .int (jrX Q x), .int (iIm x)] (RMW mo am ti Q w g rb rt rp ro ca va st tr th false pk xx rd to) (fun z : (Nat → Cap) × Int32 × Bool × Int64 × Int32 => some (.int (jb (goB (xoc (xJr fv Q x) ca va w g).1)))) (fun z => (RMW mo am ti z.1 ((rE (xoc (xJr fv Q x) ca va w g) tr).w) ((rE (xoc (xJr fv Q x) ca va w g) tr).g) rb rt rp ro ((rE (xoc (xJr fv Q x) ca va w g) tr).ca) ((rE (xoc (xJr fv Q x) ca va w g) tr).va) st ((rE (xoc (xJr fv Q x) ca va w g) tr).tr) th ((rE (xoc (xJr fv Q x) ca va w g) tr).ha) z.2.1 z.2.2.1 z.2.2.2.1 z.2.2.2.2)) (fun z => RPo Q z.1 (xoc (xJr fv Q x) ca va w g) tr) := by
  refine Cg.ofF (plainFor_of_name (by decide)) (Nat.le_of_ble_eq_true rfl) ?_
  intro p9 e9 s9 m9 b9 me9 c9 ls S hr hlk hl hw
  obtain ⟨hx, hb, hml, hown, hts⟩ := id S
  have hl : lv_has ls 5 [(0, .ref mo), (1, .int (nI (nRd x))), (2, .int (nI (nR1 x))), (3, .int (jrX Q x)), (4, .int (iIm x))] := hl
  have hr1 := nR1_lt x
  have hr2 := nR2_lt x
  have hrd := nRd_lt x
  have hfn := nFn_lt x
  refine lv_aload_n hx hb d_Mod_jumpBy_0 rfl (lv_at hl 0 rfl) ?_
  refine q_get S hw ly_Mod 0 rfl rfl 0 (by decide) tb_5_43 rfl rfl d_Mod_jumpBy_1 ?_
  refine lv_iload_n hx hb d_Mod_jumpBy_4 rfl (lv_at hl 2 rfl) ?_
  refine q_zaldN (k := nR1 x) S hw 1 1 rfl rfl (by first | assumption | omega) (by decide) d_Mod_jumpBy_5 ?_
  refine q_ifz_ne S d_Mod_jumpBy_6 rfl (fun h6 => ?_) (fun h6 => ?_)
  · refine q_joinG (Z := Unit) (pcJ := 56) (st := []) (nL := 5) (fun _ => [(0, .ref mo), (1, .int (nI (nRd x))), (2, .int (nI (nR1 x))), (3, .int (jrX Q x)), (4, .int (iIm x))]) (fun z => (RMW mo am ti Q w g rb rt rp ro ca va st tr th false pk xx rd to)) (fun z => (¬ cType (Q (nR1 x)).2.2 < 14) ∧ (cType (Q (nR1 x)).2.2 = 14 → iIm x = 0)) hw (fun z H locs ls hI56 hw hl => ?_) (fun J56 => ?_)
    · obtain ⟨d0, rfl⟩ : ∃ y, y = z := ⟨_, rfl⟩
      have hty : (¬ cType (Q (nR1 x)).2.2 < 14) ∧ (cType (Q (nR1 x)).2.2 = 14 → iIm x = 0) := hI56
      have hw : Lv _ _ _ _ _ (RMW mo am ti Q w g rb rt rp ro ca va st tr th false pk xx rd to) _ _ _ := hw
      have hl : lv_has ls 5 [(0, .ref mo), (1, .int (nI (nRd x))), (2, .int (nI (nR1 x))), (3, .int (jrX Q x)), (4, .int (iIm x))] := hl
      refine lv_aload_n hx hb d_Mod_jumpBy_56 rfl (lv_at hl 0 rfl) ?_
      refine lv_iload_n hx hb d_Mod_jumpBy_57 rfl (lv_at hl 2 rfl) ?_
      refine lv_iconst (v := 1) hx hb d_Mod_jumpBy_58 (by decide) ?_
      refine q_cr (q_runV (As := [.int (nI (nR1 x)), .int (1 : Int32)]) (rest := []) S (c_Mod_has l D ti mo am Q w g rb rt rp ro ca va st tr th false pk xx rd to (nR1 x) (by first | decide | omega) 1 (by first | decide | omega)) (cw_v hts tb_5_187 k_Mod_has rfl rfl ⟨by decide, by decide⟩) hw 0 rfl rfl rfl hl.1 rfl (Nat.le_of_ble_eq_true rfl) d_Mod_jumpBy_59 ⟨Nat.zero_le _, Nat.zero_le _⟩) ?_
      refine W.eq (g2 := F0 m9 62 ls [.int (jb (cMay (Q (nR1 x)).2.2 (1 : Int32)))]) rfl ?_
      refine q_ifz_ne S d_Mod_jumpBy_62 rfl (fun h62 => ?_) (fun h62 => ?_)
      · refine lv_aload_n hx hb d_Mod_jumpBy_73 rfl (lv_at hl 0 rfl) ?_
        refine lv_iload_n hx hb d_Mod_jumpBy_74 rfl (lv_at hl 2 rfl) ?_
        refine lv_iload_n hx hb d_Mod_jumpBy_75 rfl (lv_at hl 3 rfl) ?_
        refine q_cr (q_runS (As := [.int (jrX Q x)]) (rest := [.int (nI (nR1 x)), .ref mo]) S ((c_Mod_low l D (ty4 ti) (jrX Q x)).nil _) (cw_s hts tb_5_118 k_Mod_low rfl rfl ⟨by decide, by decide⟩) hw rfl hl.1 rfl (Nat.le_of_ble_eq_true rfl) d_Mod_jumpBy_76 ⟨Nat.zero_le _, Nat.zero_le _⟩) ?_
        refine W.eq (g2 := F0 m9 79 ls [.long (cLow (jrX Q x)), .int (nI (nR1 x)), .ref mo]) rfl ?_
        refine lv_iconst (v := 4) hx hb d_Mod_jumpBy_79 (by decide) ?_
        refine q_cr (q_runV (As := [.int (nI (nR1 x)), .long (cLow (jrX Q x)), .int (4 : Int32)]) (rest := []) S (c_Mod_holds l D ti mo am Q w g rb rt rp ro ca va st tr th false pk xx rd to (nR1 x) (by first | decide | omega) (jrX Q x) (4 : Int32)) (cw_v hts tb_5_194 k_Mod_holds rfl rfl ⟨by decide, by decide⟩) hw 0 rfl rfl rfl hl.1 rfl (Nat.le_of_ble_eq_true rfl) d_Mod_jumpBy_80 ⟨Nat.zero_le _, Nat.zero_le _⟩) ?_
        refine W.eq (g2 := F0 m9 83 ls [.int (jb (rHo (Q (nR1 x)) (jrX Q x) (4 : Int32)))]) rfl ?_
        refine q_ifz_ne S d_Mod_jumpBy_83 rfl (fun h83 => ?_) (fun h83 => ?_)
        · refine lv_iload_n hx hb d_Mod_jumpBy_93 rfl (lv_at hl 3 rfl) ?_
          refine lv_iconst (v := 3) hx hb d_Mod_jumpBy_94 (by decide) ?_
          refine lv_iand hx hb d_Mod_jumpBy_95 ?_
          refine lv_if_eq hx hb d_Mod_jumpBy_96 rfl (fun h96 => ?_) (fun h96 => ?_)
          · refine q_joinG (Z := Nat → Cap) (pcJ := 139) (st := []) (nL := 5) (fun _ => [(0, .ref mo), (1, .int (nI (nRd x))), (2, .int (nI (nR1 x))), (3, .int (jrX Q x)), (4, .int (iIm x))]) (fun z => (RMW mo am ti z w g rb rt rp ro ca va st tr th false pk xx rd to)) (fun z => jA Q z x) hw (fun z H locs ls hI139 hw hl => ?_) (fun J139 => ?_)
            · obtain ⟨Q2, rfl⟩ : ∃ y, y = z := ⟨_, rfl⟩
              have hjA : jA Q Q2 x := hI139
              have hw : Lv _ _ _ _ _ (RMW mo am ti Q2 w g rb rt rp ro ca va st tr th false pk xx rd to) _ _ _ := hw
              have hl : lv_has ls 5 [(0, .ref mo), (1, .int (nI (nRd x))), (2, .int (nI (nR1 x))), (3, .int (jrX Q x)), (4, .int (iIm x))] := hl
              refine lv_aload_n hx hb d_Mod_jumpBy_139 rfl (lv_at hl 0 rfl) ?_
              refine lv_bipush (v := 37) hx hb d_Mod_jumpBy_140 (by decide) ?_
              refine lv_iload_n hx hb d_Mod_jumpBy_142 rfl (lv_at hl 3 rfl) ?_
              refine lv_bipush (v := 32) hx hb d_Mod_jumpBy_143 (by decide) ?_
              refine q_cg (q_runV (As := [.int (37 : Int32), .int (jrX Q x), .int (32 : Int32)]) (rest := []) S (c_Mod_moved l D ti mo am Q2 w g rb rt rp ro ca va st tr th false pk xx rd to 37 (by first | decide | omega) (jrX Q x) 32 (by first | decide | omega)) (cw_v hts tb_5_218 k_Mod_moved rfl rfl ⟨by decide, by decide⟩) hw 0 rfl rfl rfl hl.1 rfl (Nat.le_of_ble_eq_true rfl) d_Mod_jumpBy_145 ⟨Nat.zero_le _, Nat.zero_le _⟩) hw (fun z hD => qD_same hD rfl) (fun z9 H locs hp9 hw => ?_)
              refine W.eq (g2 := F0 m9 148 ls []) rfl ?_
              have hw : Lv _ _ _ _ _ (RMW mo am ti (rSet Q2 32 (cMvC (Q2 37) (jrX Q x))) w g rb rt rp ro ca va st tr th false pk xx rd to) _ _ _ := hw
              refine lv_aload_n hx hb d_Mod_jumpBy_148 rfl (lv_at hl 0 rfl) ?_
              refine lv_bipush (v := 38) hx hb d_Mod_jumpBy_149 (by decide) ?_
              refine lv_iload_n hx hb d_Mod_jumpBy_151 rfl (lv_at hl 1 rfl) ?_
              refine q_cg (q_runV (As := [.int (38 : Int32), .int (nI (nRd x))]) (rest := []) S (c_Mod_copy l D ti mo am (rSet Q2 32 (cMvC (Q2 37) (jrX Q x))) w g rb rt rp ro ca va st tr th false pk xx rd to 38 (nRd x) (by first | decide | omega) (by first | decide | omega)) (cw_v hts tb_5_206 k_Mod_copy rfl rfl ⟨by decide, by decide⟩) hw 0 rfl rfl rfl hl.1 rfl (Nat.le_of_ble_eq_true rfl) d_Mod_jumpBy_152 ⟨Nat.zero_le _, Nat.zero_le _⟩) hw (fun z hD => qD_same hD rfl) (fun z9 H locs hp9 hw => ?_)
              refine W.eq (g2 := F0 m9 155 ls []) rfl ?_
              have hw : Lv _ _ _ _ _ (RMW mo am ti (rSet (rSet Q2 32 (cMvC (Q2 37) (jrX Q x))) (nRd x) ((rSet Q2 32 (cMvC (Q2 37) (jrX Q x))) 38)) w g rb rt rp ro ca va st tr th false pk xx rd to) _ _ _ := hw
              refine lv_iconst (v := 0) hx hb d_Mod_jumpBy_155 (by decide) ?_
              have ho : xoc (xJr fv Q x) ca va w g = ((-2 : Int32), fv, va_up (jr4 Q x) 32 (jr4 Q x 38), ca, va, w, g) := by unfold xoc xJr; rw [if_pos hf, wJ_e h6 hty, if_neg (show ¬ cMay _ _ = false by rw [h62]; decide), if_neg (show ¬ rHo _ _ _ = false by rw [h83]; decide), if_pos rfl, if_pos h96]
              exact hw.riz S hr hlk (rfl) d_Mod_jumpBy_156 ((rSet (rSet Q2 32 (cMvC (Q2 37) (jrX Q x))) (nRd x) ((rSet Q2 32 (cMvC (Q2 37) (jrX Q x))) 38)), pk, xx, rd, to) (by rw [ho]; rfl) (by rw [ho]; exact ⟨by rw [rE_n (by decide)]; exact ag_jr2 hjA, (rS0 _ _ _).trans ((rS0 _ _ _).trans (hjA.1 0 (by decide))), Or.inr (Or.inl rfl)⟩) (by rw [ho, rE_n (by decide)]; first | done | rfl)
            · refine lv_aload_n hx hb d_Mod_jumpBy_106 rfl (lv_at hl 0 rfl) ?_
              refine q_cg (q_runV (As := []) (rest := []) S (c_Mod_link l D ti mo am Q w g rb rt rp ro ca va st tr th false pk xx rd to) (cw_v hts tb_5_227 k_Mod_link rfl rfl ⟨by decide, by decide⟩) hw 0 rfl rfl rfl hl.1 rfl (Nat.le_of_ble_eq_true rfl) d_Mod_jumpBy_107 ⟨Nat.zero_le _, Nat.zero_le _⟩) hw (fun z hD => qD_same hD rfl) (fun z9 H locs hp9 hw => ?_)
              refine W.eq (g2 := F0 m9 110 ls []) rfl ?_
              have hw : Lv _ _ _ _ _ (RMW mo am ti (va_up Q 38 (lkC (Q 32))) w g rb rt rp ro ca va st tr th false pk xx rd to) _ _ _ := hw
              refine lv_aload_n hx hb d_Mod_jumpBy_110 rfl (lv_at hl 0 rfl) ?_
              refine lv_bipush (v := 37) hx hb d_Mod_jumpBy_111 (by decide) ?_
              refine lv_aload_n hx hb d_Mod_jumpBy_113 rfl (lv_at hl 0 rfl) ?_
              refine q_get S hw ly_Mod 0 rfl rfl 0 (by decide) tb_5_43 rfl rfl d_Mod_jumpBy_114 ?_
              refine lv_iload_n hx hb d_Mod_jumpBy_117 rfl (lv_at hl 2 rfl) ?_
              refine q_zaldN (k := nR1 x) S hw 1 1 rfl rfl (by first | assumption | omega) (by decide) d_Mod_jumpBy_118 ?_
              refine lv_aload_n hx hb d_Mod_jumpBy_119 rfl (lv_at hl 0 rfl) ?_
              refine q_get S hw ly_Mod 0 rfl rfl 1 (by decide) tb_5_44 rfl rfl d_Mod_jumpBy_120 ?_
              refine lv_iload_n hx hb d_Mod_jumpBy_123 rfl (lv_at hl 2 rfl) ?_
              refine q_ialdN (k := nR1 x) S hw 2 0 rfl rfl (by first | assumption | omega) (by decide) d_Mod_jumpBy_124 ?_
              refine lv_aload_n hx hb d_Mod_jumpBy_125 rfl (lv_at hl 0 rfl) ?_
              refine q_get S hw ly_Mod 0 rfl rfl 2 (by decide) tb_5_45 rfl rfl d_Mod_jumpBy_126 ?_
              refine lv_iload_n hx hb d_Mod_jumpBy_129 rfl (lv_at hl 2 rfl) ?_
              refine q_ialdN (k := nR1 x) S hw 3 0 rfl rfl (by first | assumption | omega) (by decide) d_Mod_jumpBy_130 ?_
              refine lv_bipush (v := 15) hx hb d_Mod_jumpBy_131 (by decide) ?_
              refine q_cr (q_runS (As := [.int (((va_up Q 38 (lkC (Q 32))) (nR1 x)).2.2), .int (15 : Int32)]) (rest := [.int (((va_up Q 38 (lkC (Q 32))) (nR1 x)).2.1), .int (jb (((va_up Q 38 (lkC (Q 32))) (nR1 x)).1)), .int (37 : Int32), .ref mo]) S ((c_Mod_withType l D (ty4 ti) (((va_up Q 38 (lkC (Q 32))) (nR1 x)).2.2) (15 : Int32)).nil _) (cw_s hts tb_5_231 k_Mod_withType rfl rfl ⟨by decide, by decide⟩) hw rfl hl.1 rfl (Nat.le_of_ble_eq_true rfl) d_Mod_jumpBy_133 ⟨Nat.zero_le _, Nat.zero_le _⟩) ?_
              refine W.eq (g2 := F0 m9 136 ls [.int (cSetT (((va_up Q 38 (lkC (Q 32))) (nR1 x)).2.2) (15 : Int32)), .int (((va_up Q 38 (lkC (Q 32))) (nR1 x)).2.1), .int (jb (((va_up Q 38 (lkC (Q 32))) (nR1 x)).1)), .int (37 : Int32), .ref mo]) rfl ?_
              refine q_cg (q_runV (As := [.int (37 : Int32), .int (jb (((va_up Q 38 (lkC (Q 32))) (nR1 x)).1)), .int (((va_up Q 38 (lkC (Q 32))) (nR1 x)).2.1), .int (cSetT (((va_up Q 38 (lkC (Q 32))) (nR1 x)).2.2) (15 : Int32))]) (rest := []) S (c_Mod_set l D ti mo am (va_up Q 38 (lkC (Q 32))) w g rb rt rp ro ca va st tr th false pk xx rd to 37 (by first | decide | omega) (((va_up Q 38 (lkC (Q 32))) (nR1 x)).1) (((va_up Q 38 (lkC (Q 32))) (nR1 x)).2.1) (cSetT (((va_up Q 38 (lkC (Q 32))) (nR1 x)).2.2) (15 : Int32))) (cw_v hts tb_5_131 k_Mod_set rfl rfl ⟨by decide, by decide⟩) hw 0 rfl rfl rfl hl.1 rfl (Nat.le_of_ble_eq_true rfl) d_Mod_jumpBy_136 ⟨Nat.zero_le _, Nat.zero_le _⟩) hw (fun z hD => qD_same hD rfl) (fun z9 H locs hp9 hw => ?_)
              refine W.eq (g2 := F0 m9 139 ls []) rfl ?_
              have hw : Lv _ _ _ _ _ (RMW mo am ti (rSet (va_up Q 38 (lkC (Q 32))) 37 (((va_up Q 38 (lkC (Q 32))) (nR1 x)).1, (((va_up Q 38 (lkC (Q 32))) (nR1 x)).2.1), (cSetT (((va_up Q 38 (lkC (Q 32))) (nR1 x)).2.2) (15 : Int32)))) w g rb rt rp ro ca va st tr th false pk xx rd to) _ _ _ := hw
              exact J139 ((rSet (va_up Q 38 (lkC (Q 32))) 37 (((va_up Q 38 (lkC (Q 32))) (nR1 x)).1, (((va_up Q 38 (lkC (Q 32))) (nR1 x)).2.1), (cSetT (((va_up Q 38 (lkC (Q 32))) (nR1 x)).2.2) (15 : Int32))))) _ _ _ (jA_of Q x) hw (lv_sub (l' := [(0, .ref mo), (1, .int (nI (nRd x))), (2, .int (nI (nR1 x))), (3, .int (jrX Q x)), (4, .int (iIm x))]) hl [0, 1, 2, 3, 4] rfl)
          · refine lv_aload_n hx hb d_Mod_jumpBy_99 rfl (lv_at hl 0 rfl) ?_
            refine lv_iconst (v := 0) hx hb d_Mod_jumpBy_100 (by decide) ?_
            refine lv_iload_n hx hb d_Mod_jumpBy_101 rfl (lv_at hl 3 rfl) ?_
            refine q_cg (q_runV (As := [.int (0 : Int32), .int (jrX Q x)]) (rest := []) S (c_Mod_trap l D ti mo am Q w g rb rt rp ro ca va st tr th pk xx rd to (0 : Int32) (jrX Q x)) (cw_v hts tb_5_202 k_Mod_trap rfl rfl ⟨by decide, by decide⟩) hw 0 rfl rfl rfl hl.1 rfl (Nat.le_of_ble_eq_true rfl) d_Mod_jumpBy_102 ⟨Nat.zero_le _, Nat.zero_le _⟩) hw (fun z hD => qD_same hD rfl) (fun z9 H locs hp9 hw => ?_)
            refine W.eq (g2 := F0 m9 105 ls [.int (jb false)]) rfl ?_
            have hw : Lv _ _ _ _ _ (RMW mo am ti (kTR Q) w g rb rt rp ro (0 : Int32) (jrX Q x) st (tr + 1) th (kHa (jrX Q x) Q) pk xx rd (rTo (kTR Q 32))) _ _ _ := hw
            have ho : xoc (xJr fv Q x) ca va w g = ((0 : Int32), (jrX Q x), Q, ca, va, w, g) := by unfold xoc xJr; rw [if_pos hf, wJ_e h6 hty, if_neg (show ¬ cMay _ _ = false by rw [h62]; decide), if_neg (show ¬ rHo _ _ _ = false by rw [h83]; decide), if_pos rfl, if_neg h96]
            exact hw.riz S hr hlk (rfl) d_Mod_jumpBy_105 ((kTR Q), pk, xx, rd, (rTo (kTR Q 32))) (by rw [ho]; rfl) (by rw [ho]; exact ⟨by rw [rE_t (by decide)]; exact fun k _ => rfl, rfl, Or.inr (Or.inr (show ¬ (0 : Int32) < 0 by decide))⟩) (by rw [ho, rE_t (by decide)]; first | done | rfl)
        · refine lv_aload_n hx hb d_Mod_jumpBy_86 rfl (lv_at hl 0 rfl) ?_
          refine lv_iload_n hx hb d_Mod_jumpBy_87 rfl (lv_at hl 2 rfl) ?_
          refine lv_iconst (v := 1) hx hb d_Mod_jumpBy_88 (by decide) ?_
          refine q_cg (q_runV (As := [.int (nI (nR1 x)), .int (1 : Int32)]) (rest := []) S (c_Mod_broken l D ti mo am Q w g rb rt rp ro ca va st tr th pk xx rd to (nR1 x) (1 : Int32)) (cw_v hts tb_6_3 k_Mod_broken rfl rfl ⟨by decide, by decide⟩) hw 0 rfl rfl rfl hl.1 rfl (Nat.le_of_ble_eq_true rfl) d_Mod_jumpBy_89 ⟨Nat.zero_le _, Nat.zero_le _⟩) hw (fun z hD => qD_same hD rfl) (fun z9 H locs hp9 hw => ?_)
          refine W.eq (g2 := F0 m9 92 ls [.int (jb false)]) rfl ?_
          have hw : Lv _ _ _ _ _ (RMW mo am ti (kTR Q) w g rb rt rp ro 28 (32 * nI (nR1 x) + (1 : Int32)) st (tr + 1) th (kHa (32 * nI (nR1 x) + (1 : Int32)) Q) pk xx rd (rTo (kTR Q 32))) _ _ _ := hw
          have ho : xoc (xJr fv Q x) ca va w g = ((28 : Int32), (32 * nI (nR1 x) + (1 : Int32)), Q, ca, va, w, g) := by unfold xoc xJr; rw [if_pos hf, wJ_e h6 hty, if_neg (show ¬ cMay _ _ = false by rw [h62]; decide), if_pos h83, if_neg (by decide)]
          exact hw.riz S hr hlk (rfl) d_Mod_jumpBy_92 ((kTR Q), pk, xx, rd, (rTo (kTR Q 32))) (by rw [ho]; rfl) (by rw [ho]; exact ⟨by rw [rE_t (by decide)]; exact fun k _ => rfl, rfl, Or.inr (Or.inr (show ¬ (28 : Int32) < 0 by decide))⟩) (by rw [ho, rE_t (by decide)]; first | done | rfl)
      · refine lv_aload_n hx hb d_Mod_jumpBy_65 rfl (lv_at hl 0 rfl) ?_
        refine lv_iload_n hx hb d_Mod_jumpBy_66 rfl (lv_at hl 2 rfl) ?_
        refine lv_bipush (v := 17) hx hb d_Mod_jumpBy_67 (by decide) ?_
        refine q_cg (q_runV (As := [.int (nI (nR1 x)), .int (17 : Int32)]) (rest := []) S (c_Mod_broken l D ti mo am Q w g rb rt rp ro ca va st tr th pk xx rd to (nR1 x) (17 : Int32)) (cw_v hts tb_6_3 k_Mod_broken rfl rfl ⟨by decide, by decide⟩) hw 0 rfl rfl rfl hl.1 rfl (Nat.le_of_ble_eq_true rfl) d_Mod_jumpBy_69 ⟨Nat.zero_le _, Nat.zero_le _⟩) hw (fun z hD => qD_same hD rfl) (fun z9 H locs hp9 hw => ?_)
        refine W.eq (g2 := F0 m9 72 ls [.int (jb false)]) rfl ?_
        have hw : Lv _ _ _ _ _ (RMW mo am ti (kTR Q) w g rb rt rp ro 28 (32 * nI (nR1 x) + (17 : Int32)) st (tr + 1) th (kHa (32 * nI (nR1 x) + (17 : Int32)) Q) pk xx rd (rTo (kTR Q 32))) _ _ _ := hw
        have ho : xoc (xJr fv Q x) ca va w g = ((28 : Int32), (32 * nI (nR1 x) + (17 : Int32)), Q, ca, va, w, g) := by unfold xoc xJr; rw [if_pos hf, wJ_e h6 hty, if_pos h62, if_neg (by decide)]
        exact hw.riz S hr hlk (rfl) d_Mod_jumpBy_72 ((kTR Q), pk, xx, rd, (rTo (kTR Q 32))) (by rw [ho]; rfl) (by rw [ho]; exact ⟨by rw [rE_t (by decide)]; exact fun k _ => rfl, rfl, Or.inr (Or.inr (show ¬ (28 : Int32) < 0 by decide))⟩) (by rw [ho, rE_t (by decide)]; first | done | rfl)
    · refine lv_aload_n hx hb d_Mod_jumpBy_16 rfl (lv_at hl 0 rfl) ?_
      refine q_get S hw ly_Mod 0 rfl rfl 2 (by decide) tb_5_45 rfl rfl d_Mod_jumpBy_17 ?_
      refine lv_iload_n hx hb d_Mod_jumpBy_20 rfl (lv_at hl 2 rfl) ?_
      refine q_ialdN (k := nR1 x) S hw 3 0 rfl rfl (by first | assumption | omega) (by decide) d_Mod_jumpBy_21 ?_
      refine q_cr (q_runS (As := [.int ((Q (nR1 x)).2.2)]) (rest := []) S ((c_Mod_type l D (ty4 ti) ((Q (nR1 x)).2.2)).nil _) (cw_s hts tb_5_184 k_Mod_type rfl rfl ⟨by decide, by decide⟩) hw rfl hl.1 rfl (Nat.le_of_ble_eq_true rfl) d_Mod_jumpBy_22 ⟨Nat.zero_le _, Nat.zero_le _⟩) ?_
      refine W.eq (g2 := F0 m9 25 ls [.int (cType ((Q (nR1 x)).2.2))]) rfl ?_
      refine lv_bipush (v := 14) hx hb d_Mod_jumpBy_25 (by decide) ?_
      refine lv_icmp_lt hx hb d_Mod_jumpBy_27 rfl (fun h27 => ?_) (fun h27 => ?_)
      · refine lv_aload_n hx hb d_Mod_jumpBy_49 rfl (lv_at hl 0 rfl) ?_
        refine lv_iload_n hx hb d_Mod_jumpBy_50 rfl (lv_at hl 2 rfl) ?_
        refine lv_iconst (v := 3) hx hb d_Mod_jumpBy_51 (by decide) ?_
        refine q_cg (q_runV (As := [.int (nI (nR1 x)), .int (3 : Int32)]) (rest := []) S (c_Mod_broken l D ti mo am Q w g rb rt rp ro ca va st tr th pk xx rd to (nR1 x) (3 : Int32)) (cw_v hts tb_6_3 k_Mod_broken rfl rfl ⟨by decide, by decide⟩) hw 0 rfl rfl rfl hl.1 rfl (Nat.le_of_ble_eq_true rfl) d_Mod_jumpBy_52 ⟨Nat.zero_le _, Nat.zero_le _⟩) hw (fun z hD => qD_same hD rfl) (fun z9 H locs hp9 hw => ?_)
        refine W.eq (g2 := F0 m9 55 ls [.int (jb false)]) rfl ?_
        have hw : Lv _ _ _ _ _ (RMW mo am ti (kTR Q) w g rb rt rp ro 28 (32 * nI (nR1 x) + (3 : Int32)) st (tr + 1) th (kHa (32 * nI (nR1 x) + (3 : Int32)) Q) pk xx rd (rTo (kTR Q 32))) _ _ _ := hw
        have ho : xoc (xJr fv Q x) ca va w g = ((28 : Int32), (32 * nI (nR1 x) + (3 : Int32)), Q, ca, va, w, g) := by unfold xoc xJr; rw [if_pos hf, wJ_3 h6 h27, if_neg (by decide)]
        exact hw.riz S hr hlk (rfl) d_Mod_jumpBy_55 ((kTR Q), pk, xx, rd, (rTo (kTR Q 32))) (by rw [ho]; rfl) (by rw [ho]; exact ⟨by rw [rE_t (by decide)]; exact fun k _ => rfl, rfl, Or.inr (Or.inr (show ¬ (28 : Int32) < 0 by decide))⟩) (by rw [ho, rE_t (by decide)]; first | done | rfl)
      · refine lv_aload_n hx hb d_Mod_jumpBy_30 rfl (lv_at hl 0 rfl) ?_
        refine q_get S hw ly_Mod 0 rfl rfl 2 (by decide) tb_5_45 rfl rfl d_Mod_jumpBy_31 ?_
        refine lv_iload_n hx hb d_Mod_jumpBy_34 rfl (lv_at hl 2 rfl) ?_
        refine q_ialdN (k := nR1 x) S hw 3 0 rfl rfl (by first | assumption | omega) (by decide) d_Mod_jumpBy_35 ?_
        refine q_cr (q_runS (As := [.int ((Q (nR1 x)).2.2)]) (rest := []) S ((c_Mod_type l D (ty4 ti) ((Q (nR1 x)).2.2)).nil _) (cw_s hts tb_5_184 k_Mod_type rfl rfl ⟨by decide, by decide⟩) hw rfl hl.1 rfl (Nat.le_of_ble_eq_true rfl) d_Mod_jumpBy_36 ⟨Nat.zero_le _, Nat.zero_le _⟩) ?_
        refine W.eq (g2 := F0 m9 39 ls [.int (cType ((Q (nR1 x)).2.2))]) rfl ?_
        refine lv_bipush (v := 14) hx hb d_Mod_jumpBy_39 (by decide) ?_
        refine lv_icmp_ne hx hb d_Mod_jumpBy_41 rfl (fun h41 => ?_) (fun h41 => ?_)
        · exact J56 (()) _ _ _ (⟨h27, fun q => absurd q h41⟩) hw (lv_sub (l' := [(0, .ref mo), (1, .int (nI (nRd x))), (2, .int (nI (nR1 x))), (3, .int (jrX Q x)), (4, .int (iIm x))]) hl [0, 1, 2, 3, 4] rfl)
        · refine lv_iload hx hb d_Mod_jumpBy_44 (lv_at hl 4 rfl) ?_
          refine lv_if_eq hx hb d_Mod_jumpBy_46 rfl (fun h46 => ?_) (fun h46 => ?_)
          · exact J56 (()) _ _ _ (⟨h27, fun _ => h46⟩) hw (lv_sub (l' := [(0, .ref mo), (1, .int (nI (nRd x))), (2, .int (nI (nR1 x))), (3, .int (jrX Q x)), (4, .int (iIm x))]) hl [0, 1, 2, 3, 4] rfl)
          · refine lv_aload_n hx hb d_Mod_jumpBy_49 rfl (lv_at hl 0 rfl) ?_
            refine lv_iload_n hx hb d_Mod_jumpBy_50 rfl (lv_at hl 2 rfl) ?_
            refine lv_iconst (v := 3) hx hb d_Mod_jumpBy_51 (by decide) ?_
            refine q_cg (q_runV (As := [.int (nI (nR1 x)), .int (3 : Int32)]) (rest := []) S (c_Mod_broken l D ti mo am Q w g rb rt rp ro ca va st tr th pk xx rd to (nR1 x) (3 : Int32)) (cw_v hts tb_6_3 k_Mod_broken rfl rfl ⟨by decide, by decide⟩) hw 0 rfl rfl rfl hl.1 rfl (Nat.le_of_ble_eq_true rfl) d_Mod_jumpBy_52 ⟨Nat.zero_le _, Nat.zero_le _⟩) hw (fun z hD => qD_same hD rfl) (fun z9 H locs hp9 hw => ?_)
            refine W.eq (g2 := F0 m9 55 ls [.int (jb false)]) rfl ?_
            have hw : Lv _ _ _ _ _ (RMW mo am ti (kTR Q) w g rb rt rp ro 28 (32 * nI (nR1 x) + (3 : Int32)) st (tr + 1) th (kHa (32 * nI (nR1 x) + (3 : Int32)) Q) pk xx rd (rTo (kTR Q 32))) _ _ _ := hw
            have ho : xoc (xJr fv Q x) ca va w g = ((28 : Int32), (32 * nI (nR1 x) + (3 : Int32)), Q, ca, va, w, g) := by unfold xoc xJr; rw [if_pos hf, wJ_3' h6 h27 h41 h46, if_neg (by decide)]
            exact hw.riz S hr hlk (rfl) d_Mod_jumpBy_55 ((kTR Q), pk, xx, rd, (rTo (kTR Q 32))) (by rw [ho]; rfl) (by rw [ho]; exact ⟨by rw [rE_t (by decide)]; exact fun k _ => rfl, rfl, Or.inr (Or.inr (show ¬ (28 : Int32) < 0 by decide))⟩) (by rw [ho, rE_t (by decide)]; first | done | rfl)
  · refine lv_aload_n hx hb d_Mod_jumpBy_9 rfl (lv_at hl 0 rfl) ?_
    refine lv_iload_n hx hb d_Mod_jumpBy_10 rfl (lv_at hl 2 rfl) ?_
    refine lv_iconst (v := 2) hx hb d_Mod_jumpBy_11 (by decide) ?_
    refine q_cg (q_runV (As := [.int (nI (nR1 x)), .int (2 : Int32)]) (rest := []) S (c_Mod_broken l D ti mo am Q w g rb rt rp ro ca va st tr th pk xx rd to (nR1 x) (2 : Int32)) (cw_v hts tb_6_3 k_Mod_broken rfl rfl ⟨by decide, by decide⟩) hw 0 rfl rfl rfl hl.1 rfl (Nat.le_of_ble_eq_true rfl) d_Mod_jumpBy_12 ⟨Nat.zero_le _, Nat.zero_le _⟩) hw (fun z hD => qD_same hD rfl) (fun z9 H locs hp9 hw => ?_)
    refine W.eq (g2 := F0 m9 15 ls [.int (jb false)]) rfl ?_
    have hw : Lv _ _ _ _ _ (RMW mo am ti (kTR Q) w g rb rt rp ro 28 (32 * nI (nR1 x) + (2 : Int32)) st (tr + 1) th (kHa (32 * nI (nR1 x) + (2 : Int32)) Q) pk xx rd (rTo (kTR Q 32))) _ _ _ := hw
    have ho : xoc (xJr fv Q x) ca va w g = ((28 : Int32), (32 * nI (nR1 x) + (2 : Int32)), Q, ca, va, w, g) := by unfold xoc xJr; rw [if_pos hf, wJ_2 h6, if_neg (by decide)]
    exact hw.riz S hr hlk (rfl) d_Mod_jumpBy_15 ((kTR Q), pk, xx, rd, (rTo (kTR Q 32))) (by rw [ho]; rfl) (by rw [ho]; exact ⟨by rw [rE_t (by decide)]; exact fun k _ => rfl, rfl, Or.inr (Or.inr (show ¬ (28 : Int32) < 0 by decide))⟩) (by rw [ho, rE_t (by decide)]; first | done | rfl)
