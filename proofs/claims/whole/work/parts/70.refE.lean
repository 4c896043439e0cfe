/-! The reference: system, bounds, invoke, asked, special. -/
theorem c_Mod_packE (l : Launch) (D : va_G) (ti : Nat → ClassId) (mo : Nat) (am : Nat → Nat) (Q : Nat → Cap) (w g : Nat → Int32) (rb rt : Nat → Int64) (rp : Nat → Int32) (ro ca va st tr th : Int32) (ha : Bool) (pk : Int32) (xx : Bool) (rd : Int64) (to : Int32) (f t : Int64) (B T : Nat) (hf : f = lN B) (ht : t = lN T) (hB : B ≤ T) (hT : T ≤ 4294967296) : Cg l y_Mod_pack (wl y_Mod_pack b_Mod_pack 16 none) (rmL 0) D clz (ty4 ti) [.ref mo, .long f, .long t] (RMW mo am ti Q w g rb rt rp ro ca va st tr th ha pk xx rd to) (fun _ : Unit => none) (fun _ => (RMW mo am ti Q w g rb rt rp ro ca va st tr th ha (kBits f t) (kEx f t) (kLen f t) to)) (fun _ => True) := by
  subst hf
  subst ht
  exact c_Mod_pack l D ti mo am Q w g rb rt rp ro ca va st tr th ha pk xx rd to B T hB hT
set_option maxHeartbeats 4000000 in
set_option maxRecDepth 100000 in
theorem c_Mod_system (l : Launch) (D : va_G) (ti : Nat → ClassId) (mo : Nat) (am : Nat → Nat) (Q : Nat → Cap) (w g : Nat → Int32) (rb rt : Nat → Int64) (rp : Nat → Int32) (ro ca va st tr th : Int32) (pk : Int32) (xx : Bool) (rd : Int64) (to : Int32) (fv x : Int32) : Cg l y_Mod_system (wl y_Mod_system b_Mod_system 11 (some .boolean)) (rmL 9) D clz (ty4 ti) [.ref mo, .int x, .int (nI (nRd x)), .int (nI (nFn x)), .int (nI (nR1 x)), .int (nI (nR2 x))] (RMW mo am ti Q w g rb rt rp ro ca va st tr th false pk xx rd to) (fun z : (Nat → Cap) × Int32 × Bool × Int64 × Int32 => some (.int (jb (goB (xSy fv ca va Q w g x).1)))) (fun z => (RMW mo am ti z.1 ((rE (xSy fv ca va Q w g x) tr).w) ((rE (xSy fv ca va Q w g x) tr).g) rb rt rp ro ((rE (xSy fv ca va Q w g x) tr).ca) ((rE (xSy fv ca va Q w g x) tr).va) st ((rE (xSy fv ca va Q w g x) tr).tr) th ((rE (xSy fv ca va Q w g x) tr).ha) z.2.1 z.2.2.1 z.2.2.2.1 z.2.2.2.2)) (fun z => RPo Q z.1 (xSy fv ca va Q w g x) tr) := by
  refine Cg.ofF (plainFor_of_name (by decide)) (Nat.le_of_ble_eq_true rfl) ?_
  intro p9 e9 s9 m9 b9 me9 c9 ls S hr hlk hl hw
  obtain ⟨hx, hb, hml, hown, hts⟩ := id S
  have hl : lv_has ls 11 [(0, .ref mo), (1, .int x), (2, .int (nI (nRd x))), (3, .int (nI (nFn x))), (4, .int (nI (nR1 x))), (5, .int (nI (nR2 x)))] := hl
  have hr1 := nR1_lt x
  have hr2 := nR2_lt x
  have hrd := nRd_lt x
  have hfn := nFn_lt x
  refine lv_iload_n hx hb d_Mod_system_0 rfl (lv_at hl 1 rfl) ?_
  refine lv_bipush (v := 115) hx hb d_Mod_system_1 (by decide) ?_
  refine lv_icmp_ne hx hb d_Mod_system_3 rfl (fun h3 => ?_) (fun h3 => ?_)
  · refine lv_iload_n hx hb d_Mod_system_14 rfl (lv_at hl 1 rfl) ?_
    refine lv_ldc (v := 1048691) hx hb hown (hts _ tb_6_22) d_Mod_system_15 ?_
    refine lv_icmp_ne hx hb d_Mod_system_17 rfl (fun h17 => ?_) (fun h17 => ?_)
    · refine lv_iload_n hx hb d_Mod_system_27 rfl (lv_at hl 1 rfl) ?_
      refine lv_bipush (v := 20) hx hb d_Mod_system_28 (by decide) ?_
      refine lv_iushr (v := (jus x (20 : Int32))) hx hb d_Mod_system_30 rfl ?_
      refine lv_istore (lv' := [(6, .int (jus x (20 : Int32))), (0, .ref mo), (1, .int x), (2, .int (nI (nRd x))), (3, .int (nI (nFn x))), (4, .int (nI (nR1 x))), (5, .int (nI (nR2 x)))]) hx hb d_Mod_system_31 hl (by decide) rfl (fun ls hl => ?_)
      refine q_join (pcJ := 44) (st := [.int (jb (xBk x))]) (lv' := [(6, .int (jus x (20 : Int32))), (0, .ref mo), (1, .int x), (2, .int (nI (nRd x))), (3, .int (nI (nFn x))), (4, .int (nI (nR1 x))), (5, .int (nI (nR2 x)))]) (nL := 11) (fun ls hl => ?_) (fun J44 => ?_)
      · refine lv_istore (lv' := [(7, .int (jb (xBk x))), (6, .int (jus x (20 : Int32))), (0, .ref mo), (1, .int x), (2, .int (nI (nRd x))), (3, .int (nI (nFn x))), (4, .int (nI (nR1 x))), (5, .int (nI (nR2 x)))]) hx hb d_Mod_system_44 hl (by decide) rfl (fun ls hl => ?_)
        refine q_joinG (Z := Unit) (pcJ := 83) (st := []) (nL := 11) (fun _ => [(7, .int (jb (xBk x))), (6, .int (jus x (20 : Int32))), (0, .ref mo), (1, .int x), (2, .int (nI (nRd x))), (3, .int (nI (nFn x))), (4, .int (nI (nR1 x))), (5, .int (nI (nR2 x)))]) (fun z => (RMW mo am ti Q w g rb rt rp ro ca va st tr th false pk xx rd to)) (fun z => hCs x) hw (fun z H locs ls hI83 hw hl => ?_) (fun J83 => ?_)
        · obtain ⟨d0, rfl⟩ : ∃ y, y = z := ⟨_, rfl⟩
          have hcs : hCs x := hI83
          have hw : Lv _ _ _ _ _ (RMW mo am ti Q w g rb rt rp ro ca va st tr th false pk xx rd to) _ _ _ := hw
          have hl : lv_has ls 11 [(7, .int (jb (xBk x))), (6, .int (jus x (20 : Int32))), (0, .ref mo), (1, .int x), (2, .int (nI (nRd x))), (3, .int (nI (nFn x))), (4, .int (nI (nR1 x))), (5, .int (nI (nR2 x)))] := hl
          refine lv_aload_n hx hb d_Mod_system_83 rfl (lv_at hl 2 rfl) ?_
          refine lv_bipush (v := 32) hx hb d_Mod_system_84 (by decide) ?_
          refine lv_bipush (v := 10) hx hb d_Mod_system_86 (by decide) ?_
          refine q_cr (q_runV (As := [.int (32 : Int32), .int (10 : Int32)]) (rest := []) S (c_Mod_has l D ti mo am Q w g rb rt rp ro ca va st tr th false pk xx rd to 32 (by first | decide | omega) 10 (by first | decide | omega)) (cw_v hts tb_5_187 k_Mod_has rfl rfl ⟨by decide, by decide⟩) hw 0 rfl rfl rfl hl.1 rfl (Nat.le_of_ble_eq_true rfl) d_Mod_system_88 ⟨Nat.zero_le _, Nat.zero_le _⟩) ?_
          refine W.eq (g2 := F0 m9 91 ls [.int (jb (cMay (Q 32).2.2 (10 : Int32)))]) rfl ?_
          refine q_ifz_ne S d_Mod_system_91 rfl (fun h91 => ?_) (fun h91 => ?_)
          · refine lv_iload hx hb d_Mod_system_104 (lv_at hl 0 rfl) ?_
            refine q_ifz_eq S d_Mod_system_106 rfl (fun h106 => ?_) (fun h106 => ?_)
            · refine lv_iload hx hb d_Mod_system_153 (lv_at hl 1 rfl) ?_
              refine lv_sipush (v := 834) hx hb d_Mod_system_155 (by decide) ?_
              refine lv_icmp_ne hx hb d_Mod_system_158 rfl (fun h158 => ?_) (fun h158 => ?_)
              · refine lv_aload_n hx hb d_Mod_system_168 rfl (lv_at hl 2 rfl) ?_
                refine q_get S hw ly_Mod 0 rfl rfl 10 (by decide) tb_5_53 rfl rfl d_Mod_system_169 ?_
                refine lv_istore (lv' := [(8, .int va), (7, .int (jb (xBk x))), (6, .int (jus x (20 : Int32))), (0, .ref mo), (1, .int x), (2, .int (nI (nRd x))), (3, .int (nI (nFn x))), (4, .int (nI (nR1 x))), (5, .int (nI (nR2 x)))]) hx hb d_Mod_system_172 hl (by decide) rfl (fun ls hl => ?_)
                refine q_join (pcJ := 191) (st := [.int (csOp Q x)]) (lv' := [(8, .int va), (7, .int (jb (xBk x))), (6, .int (jus x (20 : Int32))), (0, .ref mo), (1, .int x), (2, .int (nI (nRd x))), (3, .int (nI (nFn x))), (4, .int (nI (nR1 x))), (5, .int (nI (nR2 x)))]) (nL := 11) (fun ls hl => ?_) (fun J191 => ?_)
                · refine lv_istore (lv' := [(9, .int (csOp Q x)), (8, .int va), (7, .int (jb (xBk x))), (6, .int (jus x (20 : Int32))), (0, .ref mo), (1, .int x), (2, .int (nI (nRd x))), (3, .int (nI (nFn x))), (4, .int (nI (nR1 x))), (5, .int (nI (nR2 x)))]) hx hb d_Mod_system_191 hl (by decide) rfl (fun ls hl => ?_)
                  refine q_join (pcJ := 227) (st := [.int (csNx (nI (nFn x)) va (csOp Q x))]) (lv' := [(9, .int (csOp Q x)), (8, .int va), (7, .int (jb (xBk x))), (6, .int (jus x (20 : Int32))), (0, .ref mo), (1, .int x), (2, .int (nI (nRd x))), (3, .int (nI (nFn x))), (4, .int (nI (nR1 x))), (5, .int (nI (nR2 x)))]) (nL := 11) (fun ls hl => ?_) (fun J227 => ?_)
                  · refine lv_istore (lv' := [(10, .int (csNx (nI (nFn x)) va (csOp Q x))), (9, .int (csOp Q x)), (8, .int va), (7, .int (jb (xBk x))), (6, .int (jus x (20 : Int32))), (0, .ref mo), (1, .int x), (2, .int (nI (nRd x))), (3, .int (nI (nFn x))), (4, .int (nI (nR1 x))), (5, .int (nI (nR2 x)))]) hx hb d_Mod_system_227 hl (by decide) rfl (fun ls hl => ?_)
                    refine lv_iload hx hb d_Mod_system_229 (lv_at hl 4 rfl) ?_
                    refine lv_sipush (v := 834) hx hb d_Mod_system_231 (by decide) ?_
                    refine lv_icmp_ne hx hb d_Mod_system_234 rfl (fun _ => ?_) (fun h => absurd h (h158))
                    refine lv_aload_n hx hb d_Mod_system_246 rfl (lv_at hl 5 rfl) ?_
                    refine lv_iload hx hb d_Mod_system_247 (lv_at hl 0 rfl) ?_
                    refine q_put (v := .int (csNx (nI (nFn x)) va (csOp Q x))) S hw ly_Mod t_Mod t_Mod_ok n_Mod 0 rfl rfl 10 (by decide) tb_5_53 rfl rfl rfl rfl (Nat.le_of_ble_eq_true rfl) d_Mod_system_249 (fun H locs hw => ?_)
                    have hw : Lv _ _ _ _ _ (RMW mo am ti Q w g rb rt rp ro ca (csNx (nI (nFn x)) va (csOp Q x)) st tr th false pk xx rd to) _ _ _ := hw
                    refine lv_aload_n hx hb d_Mod_system_252 rfl (lv_at hl 5 rfl) ?_
                    refine lv_iload_n hx hb d_Mod_system_253 rfl (lv_at hl 7 rfl) ?_
                    refine lv_iload hx hb d_Mod_system_254 (lv_at hl 2 rfl) ?_
                    refine q_cg (q_runV (As := [.int (nI (nRd x)), .int va]) (rest := []) S (c_Mod_number l D ti mo am Q w g rb rt rp ro ca (csNx (nI (nFn x)) va (csOp Q x)) st tr th false pk xx rd to (nRd x) (by first | decide | omega) va) (cw_v hts tb_5_214 k_Mod_number rfl rfl ⟨by decide, by decide⟩) hw 0 rfl rfl rfl hl.1 rfl (Nat.le_of_ble_eq_true rfl) d_Mod_system_256 ⟨Nat.zero_le _, Nat.zero_le _⟩) hw (fun z hD => qD_same hD rfl) (fun z9 H locs hp9 hw => ?_)
                    refine W.eq (g2 := F0 m9 259 ls []) rfl ?_
                    have hw : Lv _ _ _ _ _ (RMW mo am ti (rSet Q (nRd x) (false, va, 1000194)) w g rb rt rp ro ca (csNx (nI (nFn x)) va (csOp Q x)) st tr th false pk xx rd to) _ _ _ := hw
                    refine lv_iconst (v := 1) hx hb d_Mod_system_259 (by decide) ?_
                    have ho : xSy fv ca va Q w g x = ((-1 : Int32), fv, nR Q (nRd x) va, ca, csNx (nI (nFn x)) va (csOp Q x), w, g) := xSy_7 h3 h17 hcs h91 h106 h158
                    exact hw.riz S hr hlk (rfl) d_Mod_system_260 ((rSet Q (nRd x) (false, va, 1000194)), pk, xx, rd, to) (by rw [ho]; rfl) (by rw [ho]; exact ⟨by rw [rE_n (by decide)]; exact ag_nR _ _ _, rS0 _ _ _, Or.inl rfl⟩) (by rw [ho, rE_n (by decide)]; first | done | rfl)
                  · refine lv_iload_n hx hb d_Mod_system_193 rfl (lv_at hl 7 rfl) ?_
                    refine lv_iconst (v := 3) hx hb d_Mod_system_194 (by decide) ?_
                    refine lv_iand hx hb d_Mod_system_195 ?_
                    refine lv_iconst (v := 1) hx hb d_Mod_system_196 (by decide) ?_
                    refine lv_icmp_ne hx hb d_Mod_system_197 rfl (fun h197 => ?_) (fun h197 => ?_)
                    · refine lv_iload_n hx hb d_Mod_system_205 rfl (lv_at hl 7 rfl) ?_
                      refine lv_iconst (v := 3) hx hb d_Mod_system_206 (by decide) ?_
                      refine lv_iand hx hb d_Mod_system_207 ?_
                      refine lv_iconst (v := 2) hx hb d_Mod_system_208 (by decide) ?_
                      refine lv_icmp_ne hx hb d_Mod_system_209 rfl (fun h209 => ?_) (fun h209 => ?_)
                      · refine lv_iload hx hb d_Mod_system_220 (lv_at hl 1 rfl) ?_
                        refine lv_iload hx hb d_Mod_system_222 (lv_at hl 0 rfl) ?_
                        refine lv_iconst (v := -1) hx hb d_Mod_system_224 (by decide) ?_
                        refine lv_ixor hx hb d_Mod_system_225 ?_
                        refine lv_iand hx hb d_Mod_system_226 ?_
                        refine q_topi (z := (csNx (nI (nFn x)) va (csOp Q x))) (by rw [csNx_e (hCs_c hcs h106), if_neg h197, if_neg h209]) ?_
                        exact J227 _ (lv_sub (l' := [(9, .int (csOp Q x)), (8, .int va), (7, .int (jb (xBk x))), (6, .int (jus x (20 : Int32))), (0, .ref mo), (1, .int x), (2, .int (nI (nRd x))), (3, .int (nI (nFn x))), (4, .int (nI (nR1 x))), (5, .int (nI (nR2 x)))]) hl [0, 1, 2, 3, 4, 5, 6, 7, 8, 9] rfl)
                      · refine lv_iload hx hb d_Mod_system_212 (lv_at hl 1 rfl) ?_
                        refine lv_iload hx hb d_Mod_system_214 (lv_at hl 0 rfl) ?_
                        refine lv_ior hx hb d_Mod_system_216 ?_
                        refine lv_goto hx hb d_Mod_system_217 rfl ?_
                        refine q_topi (z := (csNx (nI (nFn x)) va (csOp Q x))) (by rw [csNx_e (hCs_c hcs h106), if_neg h197, if_pos h209]) ?_
                        exact J227 _ (lv_sub (l' := [(9, .int (csOp Q x)), (8, .int va), (7, .int (jb (xBk x))), (6, .int (jus x (20 : Int32))), (0, .ref mo), (1, .int x), (2, .int (nI (nRd x))), (3, .int (nI (nFn x))), (4, .int (nI (nR1 x))), (5, .int (nI (nR2 x)))]) hl [0, 1, 2, 3, 4, 5, 6, 7, 8, 9] rfl)
                    · refine lv_iload hx hb d_Mod_system_200 (lv_at hl 0 rfl) ?_
                      refine lv_goto hx hb d_Mod_system_202 rfl ?_
                      refine q_topi (z := (csNx (nI (nFn x)) va (csOp Q x))) (by rw [csNx_e (hCs_c hcs h106), if_pos h197]) ?_
                      exact J227 _ (lv_sub (l' := [(9, .int (csOp Q x)), (8, .int va), (7, .int (jb (xBk x))), (6, .int (jus x (20 : Int32))), (0, .ref mo), (1, .int x), (2, .int (nI (nRd x))), (3, .int (nI (nFn x))), (4, .int (nI (nR1 x))), (5, .int (nI (nR2 x)))]) hl [0, 1, 2, 3, 4, 5, 6, 7, 8, 9] rfl)
                · refine lv_iload_n hx hb d_Mod_system_174 rfl (lv_at hl 6 rfl) ?_
                  refine lv_iconst (v := 4) hx hb d_Mod_system_175 (by decide) ?_
                  refine lv_icmp_le hx hb d_Mod_system_176 rfl (fun h176 => ?_) (fun h176 => ?_)
                  · refine lv_aload_n hx hb d_Mod_system_184 rfl (lv_at hl 3 rfl) ?_
                    refine q_get S hw ly_Mod 0 rfl rfl 1 (by decide) tb_5_44 rfl rfl d_Mod_system_185 ?_
                    refine lv_iload hx hb d_Mod_system_188 (lv_at hl 7 rfl) ?_
                    refine q_ialdN (k := nR1 x) S hw 2 0 rfl rfl (by first | assumption | omega) (by decide) d_Mod_system_190 ?_
                    refine q_topi (z := (csOp Q x)) (by rw [csOp_e (hCs_c hcs h106), if_pos h176]) ?_
                    exact J191 _ (lv_sub (l' := [(8, .int va), (7, .int (jb (xBk x))), (6, .int (jus x (20 : Int32))), (0, .ref mo), (1, .int x), (2, .int (nI (nRd x))), (3, .int (nI (nFn x))), (4, .int (nI (nR1 x))), (5, .int (nI (nR2 x)))]) hl [0, 1, 2, 3, 4, 5, 6, 7, 8] rfl)
                  · refine lv_iload hx hb d_Mod_system_179 (lv_at hl 7 rfl) ?_
                    refine lv_goto hx hb d_Mod_system_181 rfl ?_
                    refine q_topi (z := (csOp Q x)) (by rw [csOp_e (hCs_c hcs h106), if_neg h176]) ?_
                    exact J191 _ (lv_sub (l' := [(8, .int va), (7, .int (jb (xBk x))), (6, .int (jus x (20 : Int32))), (0, .ref mo), (1, .int x), (2, .int (nI (nRd x))), (3, .int (nI (nFn x))), (4, .int (nI (nR1 x))), (5, .int (nI (nR2 x)))]) hl [0, 1, 2, 3, 4, 5, 6, 7, 8] rfl)
              · refine lv_aload_n hx hb d_Mod_system_161 rfl (lv_at hl 2 rfl) ?_
                refine q_get S hw ly_Mod 0 rfl rfl 9 (by decide) tb_5_52 rfl rfl d_Mod_system_162 ?_
                refine lv_goto hx hb d_Mod_system_165 rfl ?_
                refine lv_istore (lv' := [(8, .int ca), (7, .int (jb (xBk x))), (6, .int (jus x (20 : Int32))), (0, .ref mo), (1, .int x), (2, .int (nI (nRd x))), (3, .int (nI (nFn x))), (4, .int (nI (nR1 x))), (5, .int (nI (nR2 x)))]) hx hb d_Mod_system_172 hl (by decide) rfl (fun ls hl => ?_)
                refine q_join (pcJ := 191) (st := [.int (csOp Q x)]) (lv' := [(8, .int ca), (7, .int (jb (xBk x))), (6, .int (jus x (20 : Int32))), (0, .ref mo), (1, .int x), (2, .int (nI (nRd x))), (3, .int (nI (nFn x))), (4, .int (nI (nR1 x))), (5, .int (nI (nR2 x)))]) (nL := 11) (fun ls hl => ?_) (fun J191 => ?_)
                · refine lv_istore (lv' := [(9, .int (csOp Q x)), (8, .int ca), (7, .int (jb (xBk x))), (6, .int (jus x (20 : Int32))), (0, .ref mo), (1, .int x), (2, .int (nI (nRd x))), (3, .int (nI (nFn x))), (4, .int (nI (nR1 x))), (5, .int (nI (nR2 x)))]) hx hb d_Mod_system_191 hl (by decide) rfl (fun ls hl => ?_)
                  refine q_join (pcJ := 227) (st := [.int (csNx (nI (nFn x)) ca (csOp Q x))]) (lv' := [(9, .int (csOp Q x)), (8, .int ca), (7, .int (jb (xBk x))), (6, .int (jus x (20 : Int32))), (0, .ref mo), (1, .int x), (2, .int (nI (nRd x))), (3, .int (nI (nFn x))), (4, .int (nI (nR1 x))), (5, .int (nI (nR2 x)))]) (nL := 11) (fun ls hl => ?_) (fun J227 => ?_)
                  · refine lv_istore (lv' := [(10, .int (csNx (nI (nFn x)) ca (csOp Q x))), (9, .int (csOp Q x)), (8, .int ca), (7, .int (jb (xBk x))), (6, .int (jus x (20 : Int32))), (0, .ref mo), (1, .int x), (2, .int (nI (nRd x))), (3, .int (nI (nFn x))), (4, .int (nI (nR1 x))), (5, .int (nI (nR2 x)))]) hx hb d_Mod_system_227 hl (by decide) rfl (fun ls hl => ?_)
                    refine lv_iload hx hb d_Mod_system_229 (lv_at hl 4 rfl) ?_
                    refine lv_sipush (v := 834) hx hb d_Mod_system_231 (by decide) ?_
                    refine lv_icmp_ne hx hb d_Mod_system_234 rfl (fun h => absurd h (not_not_intro h158)) (fun _ => ?_)
                    refine lv_aload_n hx hb d_Mod_system_237 rfl (lv_at hl 5 rfl) ?_
                    refine lv_iload hx hb d_Mod_system_238 (lv_at hl 0 rfl) ?_
                    refine q_put (v := .int (csNx (nI (nFn x)) ca (csOp Q x))) S hw ly_Mod t_Mod t_Mod_ok n_Mod 0 rfl rfl 9 (by decide) tb_5_52 rfl rfl rfl rfl (Nat.le_of_ble_eq_true rfl) d_Mod_system_240 (fun H locs hw => ?_)
                    have hw : Lv _ _ _ _ _ (RMW mo am ti Q w g rb rt rp ro (csNx (nI (nFn x)) ca (csOp Q x)) va st tr th false pk xx rd to) _ _ _ := hw
                    refine lv_goto hx hb d_Mod_system_243 rfl ?_
                    refine lv_aload_n hx hb d_Mod_system_252 rfl (lv_at hl 5 rfl) ?_
                    refine lv_iload_n hx hb d_Mod_system_253 rfl (lv_at hl 7 rfl) ?_
                    refine lv_iload hx hb d_Mod_system_254 (lv_at hl 2 rfl) ?_
                    refine q_cg (q_runV (As := [.int (nI (nRd x)), .int ca]) (rest := []) S (c_Mod_number l D ti mo am Q w g rb rt rp ro (csNx (nI (nFn x)) ca (csOp Q x)) va st tr th false pk xx rd to (nRd x) (by first | decide | omega) ca) (cw_v hts tb_5_214 k_Mod_number rfl rfl ⟨by decide, by decide⟩) hw 0 rfl rfl rfl hl.1 rfl (Nat.le_of_ble_eq_true rfl) d_Mod_system_256 ⟨Nat.zero_le _, Nat.zero_le _⟩) hw (fun z hD => qD_same hD rfl) (fun z9 H locs hp9 hw => ?_)
                    refine W.eq (g2 := F0 m9 259 ls []) rfl ?_
                    have hw : Lv _ _ _ _ _ (RMW mo am ti (rSet Q (nRd x) (false, ca, 1000194)) w g rb rt rp ro (csNx (nI (nFn x)) ca (csOp Q x)) va st tr th false pk xx rd to) _ _ _ := hw
                    refine lv_iconst (v := 1) hx hb d_Mod_system_259 (by decide) ?_
                    have ho : xSy fv ca va Q w g x = ((-1 : Int32), fv, nR Q (nRd x) ca, csNx (nI (nFn x)) ca (csOp Q x), va, w, g) := xSy_6 h3 h17 hcs h91 h106 h158
                    exact hw.riz S hr hlk (rfl) d_Mod_system_260 ((rSet Q (nRd x) (false, ca, 1000194)), pk, xx, rd, to) (by rw [ho]; rfl) (by rw [ho]; exact ⟨by rw [rE_n (by decide)]; exact ag_nR _ _ _, rS0 _ _ _, Or.inl rfl⟩) (by rw [ho, rE_n (by decide)]; first | done | rfl)
                  · refine lv_iload_n hx hb d_Mod_system_193 rfl (lv_at hl 7 rfl) ?_
                    refine lv_iconst (v := 3) hx hb d_Mod_system_194 (by decide) ?_
                    refine lv_iand hx hb d_Mod_system_195 ?_
                    refine lv_iconst (v := 1) hx hb d_Mod_system_196 (by decide) ?_
                    refine lv_icmp_ne hx hb d_Mod_system_197 rfl (fun h197 => ?_) (fun h197 => ?_)
                    · refine lv_iload_n hx hb d_Mod_system_205 rfl (lv_at hl 7 rfl) ?_
                      refine lv_iconst (v := 3) hx hb d_Mod_system_206 (by decide) ?_
                      refine lv_iand hx hb d_Mod_system_207 ?_
                      refine lv_iconst (v := 2) hx hb d_Mod_system_208 (by decide) ?_
                      refine lv_icmp_ne hx hb d_Mod_system_209 rfl (fun h209 => ?_) (fun h209 => ?_)
                      · refine lv_iload hx hb d_Mod_system_220 (lv_at hl 1 rfl) ?_
                        refine lv_iload hx hb d_Mod_system_222 (lv_at hl 0 rfl) ?_
                        refine lv_iconst (v := -1) hx hb d_Mod_system_224 (by decide) ?_
                        refine lv_ixor hx hb d_Mod_system_225 ?_
                        refine lv_iand hx hb d_Mod_system_226 ?_
                        refine q_topi (z := (csNx (nI (nFn x)) ca (csOp Q x))) (by rw [csNx_e (hCs_c hcs h106), if_neg h197, if_neg h209]) ?_
                        exact J227 _ (lv_sub (l' := [(9, .int (csOp Q x)), (8, .int ca), (7, .int (jb (xBk x))), (6, .int (jus x (20 : Int32))), (0, .ref mo), (1, .int x), (2, .int (nI (nRd x))), (3, .int (nI (nFn x))), (4, .int (nI (nR1 x))), (5, .int (nI (nR2 x)))]) hl [0, 1, 2, 3, 4, 5, 6, 7, 8, 9] rfl)
                      · refine lv_iload hx hb d_Mod_system_212 (lv_at hl 1 rfl) ?_
                        refine lv_iload hx hb d_Mod_system_214 (lv_at hl 0 rfl) ?_
                        refine lv_ior hx hb d_Mod_system_216 ?_
                        refine lv_goto hx hb d_Mod_system_217 rfl ?_
                        refine q_topi (z := (csNx (nI (nFn x)) ca (csOp Q x))) (by rw [csNx_e (hCs_c hcs h106), if_neg h197, if_pos h209]) ?_
                        exact J227 _ (lv_sub (l' := [(9, .int (csOp Q x)), (8, .int ca), (7, .int (jb (xBk x))), (6, .int (jus x (20 : Int32))), (0, .ref mo), (1, .int x), (2, .int (nI (nRd x))), (3, .int (nI (nFn x))), (4, .int (nI (nR1 x))), (5, .int (nI (nR2 x)))]) hl [0, 1, 2, 3, 4, 5, 6, 7, 8, 9] rfl)
                    · refine lv_iload hx hb d_Mod_system_200 (lv_at hl 0 rfl) ?_
                      refine lv_goto hx hb d_Mod_system_202 rfl ?_
                      refine q_topi (z := (csNx (nI (nFn x)) ca (csOp Q x))) (by rw [csNx_e (hCs_c hcs h106), if_pos h197]) ?_
                      exact J227 _ (lv_sub (l' := [(9, .int (csOp Q x)), (8, .int ca), (7, .int (jb (xBk x))), (6, .int (jus x (20 : Int32))), (0, .ref mo), (1, .int x), (2, .int (nI (nRd x))), (3, .int (nI (nFn x))), (4, .int (nI (nR1 x))), (5, .int (nI (nR2 x)))]) hl [0, 1, 2, 3, 4, 5, 6, 7, 8, 9] rfl)
                · refine lv_iload_n hx hb d_Mod_system_174 rfl (lv_at hl 6 rfl) ?_
                  refine lv_iconst (v := 4) hx hb d_Mod_system_175 (by decide) ?_
                  refine lv_icmp_le hx hb d_Mod_system_176 rfl (fun h176 => ?_) (fun h176 => ?_)
                  · refine lv_aload_n hx hb d_Mod_system_184 rfl (lv_at hl 3 rfl) ?_
                    refine q_get S hw ly_Mod 0 rfl rfl 1 (by decide) tb_5_44 rfl rfl d_Mod_system_185 ?_
                    refine lv_iload hx hb d_Mod_system_188 (lv_at hl 7 rfl) ?_
                    refine q_ialdN (k := nR1 x) S hw 2 0 rfl rfl (by first | assumption | omega) (by decide) d_Mod_system_190 ?_
                    refine q_topi (z := (csOp Q x)) (by rw [csOp_e (hCs_c hcs h106), if_pos h176]) ?_
                    exact J191 _ (lv_sub (l' := [(8, .int ca), (7, .int (jb (xBk x))), (6, .int (jus x (20 : Int32))), (0, .ref mo), (1, .int x), (2, .int (nI (nRd x))), (3, .int (nI (nFn x))), (4, .int (nI (nR1 x))), (5, .int (nI (nR2 x)))]) hl [0, 1, 2, 3, 4, 5, 6, 7, 8] rfl)
                  · refine lv_iload hx hb d_Mod_system_179 (lv_at hl 7 rfl) ?_
                    refine lv_goto hx hb d_Mod_system_181 rfl ?_
                    refine q_topi (z := (csOp Q x)) (by rw [csOp_e (hCs_c hcs h106), if_neg h176]) ?_
                    exact J191 _ (lv_sub (l' := [(8, .int ca), (7, .int (jb (xBk x))), (6, .int (jus x (20 : Int32))), (0, .ref mo), (1, .int x), (2, .int (nI (nRd x))), (3, .int (nI (nFn x))), (4, .int (nI (nR1 x))), (5, .int (nI (nR2 x)))]) hl [0, 1, 2, 3, 4, 5, 6, 7, 8] rfl)
            · refine lv_aload_n hx hb d_Mod_system_109 rfl (lv_at hl 2 rfl) ?_
              refine lv_bipush (v := 36) hx hb d_Mod_system_110 (by decide) ?_
              refine lv_bipush (v := 32) hx hb d_Mod_system_112 (by decide) ?_
              refine q_cg (q_runV (As := [.int (36 : Int32), .int (32 : Int32)]) (rest := []) S (c_Mod_copy l D ti mo am Q w g rb rt rp ro ca va st tr th false pk xx rd to 36 32 (by first | decide | omega) (by first | decide | omega)) (cw_v hts tb_5_206 k_Mod_copy rfl rfl ⟨by decide, by decide⟩) hw 0 rfl rfl rfl hl.1 rfl (Nat.le_of_ble_eq_true rfl) d_Mod_system_114 ⟨Nat.zero_le _, Nat.zero_le _⟩) hw (fun z hD => qD_same hD rfl) (fun z9 H locs hp9 hw => ?_)
              refine W.eq (g2 := F0 m9 117 ls []) rfl ?_
              have hw : Lv _ _ _ _ _ (RMW mo am ti (rSet Q 32 (Q 36)) w g rb rt rp ro ca va st tr th false pk xx rd to) _ _ _ := hw
              refine lv_aload_n hx hb d_Mod_system_117 rfl (lv_at hl 2 rfl) ?_
              refine q_get S hw ly_Mod 0 rfl rfl 2 (by decide) tb_5_45 rfl rfl d_Mod_system_118 ?_
              refine lv_bipush (v := 32) hx hb d_Mod_system_121 (by decide) ?_
              refine q_ialdN (k := 32) S hw 3 0 rfl rfl (by first | assumption | omega) (by decide) d_Mod_system_123 ?_
              refine q_topi (z := ((Q 36).2.2)) (by rw [rS_c (r := 32) (by decide), va_up_self]) ?_
              refine q_cr (q_runS (As := [.int ((Q 36).2.2)]) (rest := []) S ((c_Mod_type l D (ty4 ti) ((Q 36).2.2)).nil _) (cw_s hts tb_5_184 k_Mod_type rfl rfl ⟨by decide, by decide⟩) hw rfl hl.1 rfl (Nat.le_of_ble_eq_true rfl) d_Mod_system_124 ⟨Nat.zero_le _, Nat.zero_le _⟩) ?_
              refine W.eq (g2 := F0 m9 127 ls [.int (cType ((Q 36).2.2))]) rfl ?_
              refine lv_bipush (v := 14) hx hb d_Mod_system_127 (by decide) ?_
              refine lv_icmp_ne hx hb d_Mod_system_129 rfl (fun h129 => ?_) (fun h129 => ?_)
              · refine lv_iconst (v := 0) hx hb d_Mod_system_151 (by decide) ?_
                have ho : xSy fv ca va Q w g x = ((-2 : Int32), fv, rtR Q, ca, va, w, g) := xSy_5 h3 h17 hcs h91 h106
                exact hw.riz S hr hlk (rfl) d_Mod_system_152 ((rSet Q 32 (Q 36)), pk, xx, rd, to) (by rw [ho]; rfl) (by rw [ho]; exact ⟨by rw [rE_n (by decide)]; exact ag_rt2 h129, rS0 Q 32 (Q 36), Or.inr (Or.inl rfl)⟩) (by rw [ho, rE_n (by decide)]; first | done | rfl)
              · refine lv_aload_n hx hb d_Mod_system_132 rfl (lv_at hl 2 rfl) ?_
                refine q_get S hw ly_Mod 0 rfl rfl 2 (by decide) tb_5_45 rfl rfl d_Mod_system_133 ?_
                refine lv_bipush (v := 32) hx hb d_Mod_system_136 (by decide) ?_
                refine lv_aload_n hx hb d_Mod_system_138 rfl (lv_at hl 2 rfl) ?_
                refine q_get S hw ly_Mod 0 rfl rfl 2 (by decide) tb_5_45 rfl rfl d_Mod_system_139 ?_
                refine lv_bipush (v := 32) hx hb d_Mod_system_142 (by decide) ?_
                refine q_ialdN (k := 32) S hw 3 0 rfl rfl (by first | assumption | omega) (by decide) d_Mod_system_144 ?_
                refine q_topi (z := ((Q 36).2.2)) (by rw [rS_c (r := 32) (by decide), va_up_self]) ?_
                refine lv_bipush (v := 15) hx hb d_Mod_system_145 (by decide) ?_
                refine q_cr (q_runS (As := [.int ((Q 36).2.2), .int (15 : Int32)]) (rest := [.int (32 : Int32), .ref (am 2)]) S ((c_Mod_withType l D (ty4 ti) ((Q 36).2.2) (15 : Int32)).nil _) (cw_s hts tb_5_231 k_Mod_withType rfl rfl ⟨by decide, by decide⟩) hw rfl hl.1 rfl (Nat.le_of_ble_eq_true rfl) d_Mod_system_147 ⟨Nat.zero_le _, Nat.zero_le _⟩) ?_
                refine W.eq (g2 := F0 m9 150 ls [.int (cSetT ((Q 36).2.2) (15 : Int32)), .int (32 : Int32), .ref (am 2)]) rfl ?_
                refine q_iastN (k := 32) S hw 3 0 rfl rfl (by first | assumption | omega) (by decide) d_Mod_system_150 (fun H locs hw => ?_)
                have hw : Lv _ _ _ _ _ (RMW mo am ti (va_up (rSet Q 32 (Q 36)) 32 (((rSet Q 32 (Q 36)) 32).1, ((rSet Q 32 (Q 36)) 32).2.1, (cSetT ((Q 36).2.2) (15 : Int32)))) w g rb rt rp ro ca va st tr th false pk xx rd to) _ _ _ := hw.same (RMW_m)
                refine lv_iconst (v := 0) hx hb d_Mod_system_151 (by decide) ?_
                have ho : xSy fv ca va Q w g x = ((-2 : Int32), fv, rtR Q, ca, va, w, g) := xSy_5 h3 h17 hcs h91 h106
                exact hw.riz S hr hlk (rfl) d_Mod_system_152 ((va_up (rSet Q 32 (Q 36)) 32 (((rSet Q 32 (Q 36)) 32).1, ((rSet Q 32 (Q 36)) 32).2.1, (cSetT ((Q 36).2.2) (15 : Int32)))), pk, xx, rd, to) (by rw [ho]; rfl) (by rw [ho]; exact ⟨by rw [rE_n (by decide)]; exact ag_rt1 h129, rS0 Q 32 (Q 36), Or.inr (Or.inl rfl)⟩) (by rw [ho, rE_n (by decide)]; first | done | rfl)
          · refine lv_aload_n hx hb d_Mod_system_94 rfl (lv_at hl 2 rfl) ?_
            refine lv_bipush (v := 28) hx hb d_Mod_system_95 (by decide) ?_
            refine lv_sipush (v := 1048) hx hb d_Mod_system_97 (by decide) ?_
            refine q_cg (q_runV (As := [.int (28 : Int32), .int (1048 : Int32)]) (rest := []) S (c_Mod_trap l D ti mo am Q w g rb rt rp ro ca va st tr th pk xx rd to (28 : Int32) (1048 : Int32)) (cw_v hts tb_5_202 k_Mod_trap rfl rfl ⟨by decide, by decide⟩) hw 0 rfl rfl rfl hl.1 rfl (Nat.le_of_ble_eq_true rfl) d_Mod_system_100 ⟨Nat.zero_le _, Nat.zero_le _⟩) hw (fun z hD => qD_same hD rfl) (fun z9 H locs hp9 hw => ?_)
            refine W.eq (g2 := F0 m9 103 ls [.int (jb false)]) rfl ?_
            have hw : Lv _ _ _ _ _ (RMW mo am ti (kTR Q) w g rb rt rp ro (28 : Int32) (1048 : Int32) st (tr + 1) th (kHa (1048 : Int32) Q) pk xx rd (rTo (kTR Q 32))) _ _ _ := hw
            have ho : xSy fv ca va Q w g x = ((28 : Int32), (1048 : Int32), Q, ca, va, w, g) := xSy_4 h3 h17 hcs h91
            exact hw.riz S hr hlk (rfl) d_Mod_system_103 ((kTR Q), pk, xx, rd, (rTo (kTR Q 32))) (by rw [ho]; rfl) (by rw [ho]; exact ⟨by rw [rE_t (by decide)]; exact fun k _ => rfl, rfl, Or.inr (Or.inr (show ¬ (28 : Int32) < 0 by decide))⟩) (by rw [ho, rE_t (by decide)]; first | done | rfl)
        · refine lv_iload hx hb d_Mod_system_46 (lv_at hl 0 rfl) ?_
          refine q_ifz_ne S d_Mod_system_48 rfl (fun h48 => ?_) (fun h48 => ?_)
          · exact J83 (()) _ _ _ (Or.inl ⟨xBk_t.mp h48, cs_b (xBk_t.mp h48)⟩) hw (lv_sub (l' := [(7, .int (jb (xBk x))), (6, .int (jus x (20 : Int32))), (0, .ref mo), (1, .int x), (2, .int (nI (nRd x))), (3, .int (nI (nFn x))), (4, .int (nI (nR1 x))), (5, .int (nI (nR2 x)))]) hl [0, 1, 2, 3, 4, 5, 6, 7] rfl)
          · refine lv_iload_n hx hb d_Mod_system_51 rfl (lv_at hl 5 rfl) ?_
            refine lv_if_eq hx hb d_Mod_system_52 rfl (fun h52 => ?_) (fun h52 => ?_)
            · refine lv_aload_n hx hb d_Mod_system_76 rfl (lv_at hl 2 rfl) ?_
              refine lv_iconst (v := 2) hx hb d_Mod_system_77 (by decide) ?_
              refine lv_iload_n hx hb d_Mod_system_78 rfl (lv_at hl 3 rfl) ?_
              refine q_cg (q_runV (As := [.int (2 : Int32), .int x]) (rest := []) S (c_Mod_trap l D ti mo am Q w g rb rt rp ro ca va st tr th pk xx rd to (2 : Int32) x) (cw_v hts tb_5_202 k_Mod_trap rfl rfl ⟨by decide, by decide⟩) hw 0 rfl rfl rfl hl.1 rfl (Nat.le_of_ble_eq_true rfl) d_Mod_system_79 ⟨Nat.zero_le _, Nat.zero_le _⟩) hw (fun z hD => qD_same hD rfl) (fun z9 H locs hp9 hw => ?_)
              refine W.eq (g2 := F0 m9 82 ls [.int (jb false)]) rfl ?_
              have hw : Lv _ _ _ _ _ (RMW mo am ti (kTR Q) w g rb rt rp ro (2 : Int32) x st (tr + 1) th (kHa x Q) pk xx rd (rTo (kTR Q 32))) _ _ _ := hw
              have ho : xSy fv ca va Q w g x = ((2 : Int32), x, Q, ca, va, w, g) := xSy_3 h3 h17 h48 (cs_o0 h52)
              exact hw.riz S hr hlk (rfl) d_Mod_system_82 ((kTR Q), pk, xx, rd, (rTo (kTR Q 32))) (by rw [ho]; rfl) (by rw [ho]; exact ⟨by rw [rE_t (by decide)]; exact fun k _ => rfl, rfl, Or.inr (Or.inr (show ¬ (2 : Int32) < 0 by decide))⟩) (by rw [ho, rE_t (by decide)]; first | done | rfl)
            · refine lv_iload_n hx hb d_Mod_system_55 rfl (lv_at hl 5 rfl) ?_
              refine lv_iconst (v := 4) hx hb d_Mod_system_56 (by decide) ?_
              refine lv_icmp_eq hx hb d_Mod_system_57 rfl (fun h57 => ?_) (fun h57 => ?_)
              · refine lv_aload_n hx hb d_Mod_system_76 rfl (lv_at hl 2 rfl) ?_
                refine lv_iconst (v := 2) hx hb d_Mod_system_77 (by decide) ?_
                refine lv_iload_n hx hb d_Mod_system_78 rfl (lv_at hl 3 rfl) ?_
                refine q_cg (q_runV (As := [.int (2 : Int32), .int x]) (rest := []) S (c_Mod_trap l D ti mo am Q w g rb rt rp ro ca va st tr th pk xx rd to (2 : Int32) x) (cw_v hts tb_5_202 k_Mod_trap rfl rfl ⟨by decide, by decide⟩) hw 0 rfl rfl rfl hl.1 rfl (Nat.le_of_ble_eq_true rfl) d_Mod_system_79 ⟨Nat.zero_le _, Nat.zero_le _⟩) hw (fun z hD => qD_same hD rfl) (fun z9 H locs hp9 hw => ?_)
                refine W.eq (g2 := F0 m9 82 ls [.int (jb false)]) rfl ?_
                have hw : Lv _ _ _ _ _ (RMW mo am ti (kTR Q) w g rb rt rp ro (2 : Int32) x st (tr + 1) th (kHa x Q) pk xx rd (rTo (kTR Q 32))) _ _ _ := hw
                have ho : xSy fv ca va Q w g x = ((2 : Int32), x, Q, ca, va, w, g) := xSy_3 h3 h17 h48 (cs_o4 h57)
                exact hw.riz S hr hlk (rfl) d_Mod_system_82 ((kTR Q), pk, xx, rd, (rTo (kTR Q 32))) (by rw [ho]; rfl) (by rw [ho]; exact ⟨by rw [rE_t (by decide)]; exact fun k _ => rfl, rfl, Or.inr (Or.inr (show ¬ (2 : Int32) < 0 by decide))⟩) (by rw [ho, rE_t (by decide)]; first | done | rfl)
              · refine lv_iload hx hb d_Mod_system_60 (lv_at hl 1 rfl) ?_
                refine lv_sipush (v := 834) hx hb d_Mod_system_62 (by decide) ?_
                refine lv_icmp_eq hx hb d_Mod_system_65 rfl (fun h65 => ?_) (fun h65 => ?_)
                · exact J83 (()) _ _ _ (Or.inr ⟨xBk_f.mp h48, cs_in h52 h57 (Or.inl h65)⟩) hw (lv_sub (l' := [(7, .int (jb (xBk x))), (6, .int (jus x (20 : Int32))), (0, .ref mo), (1, .int x), (2, .int (nI (nRd x))), (3, .int (nI (nFn x))), (4, .int (nI (nR1 x))), (5, .int (nI (nR2 x)))]) hl [0, 1, 2, 3, 4, 5, 6, 7] rfl)
                · refine lv_iload hx hb d_Mod_system_68 (lv_at hl 1 rfl) ?_
                  refine lv_sipush (v := 835) hx hb d_Mod_system_70 (by decide) ?_
                  refine lv_icmp_eq hx hb d_Mod_system_73 rfl (fun h73 => ?_) (fun h73 => ?_)
                  · exact J83 (()) _ _ _ (Or.inr ⟨xBk_f.mp h48, cs_in h52 h57 (Or.inr h73)⟩) hw (lv_sub (l' := [(7, .int (jb (xBk x))), (6, .int (jus x (20 : Int32))), (0, .ref mo), (1, .int x), (2, .int (nI (nRd x))), (3, .int (nI (nFn x))), (4, .int (nI (nR1 x))), (5, .int (nI (nR2 x)))]) hl [0, 1, 2, 3, 4, 5, 6, 7] rfl)
                  · refine lv_aload_n hx hb d_Mod_system_76 rfl (lv_at hl 2 rfl) ?_
                    refine lv_iconst (v := 2) hx hb d_Mod_system_77 (by decide) ?_
                    refine lv_iload_n hx hb d_Mod_system_78 rfl (lv_at hl 3 rfl) ?_
                    refine q_cg (q_runV (As := [.int (2 : Int32), .int x]) (rest := []) S (c_Mod_trap l D ti mo am Q w g rb rt rp ro ca va st tr th pk xx rd to (2 : Int32) x) (cw_v hts tb_5_202 k_Mod_trap rfl rfl ⟨by decide, by decide⟩) hw 0 rfl rfl rfl hl.1 rfl (Nat.le_of_ble_eq_true rfl) d_Mod_system_79 ⟨Nat.zero_le _, Nat.zero_le _⟩) hw (fun z hD => qD_same hD rfl) (fun z9 H locs hp9 hw => ?_)
                    refine W.eq (g2 := F0 m9 82 ls [.int (jb false)]) rfl ?_
                    have hw : Lv _ _ _ _ _ (RMW mo am ti (kTR Q) w g rb rt rp ro (2 : Int32) x st (tr + 1) th (kHa x Q) pk xx rd (rTo (kTR Q 32))) _ _ _ := hw
                    have ho : xSy fv ca va Q w g x = ((2 : Int32), x, Q, ca, va, w, g) := xSy_3 h3 h17 h48 (cs_o h65 h73)
                    exact hw.riz S hr hlk (rfl) d_Mod_system_82 ((kTR Q), pk, xx, rd, (rTo (kTR Q 32))) (by rw [ho]; rfl) (by rw [ho]; exact ⟨by rw [rE_t (by decide)]; exact fun k _ => rfl, rfl, Or.inr (Or.inr (show ¬ (2 : Int32) < 0 by decide))⟩) (by rw [ho, rE_t (by decide)]; first | done | rfl)
      · refine lv_iload_n hx hb d_Mod_system_33 rfl (lv_at hl 2 rfl) ?_
        refine lv_ldc (v := 807403635) hx hb hown (hts _ tb_6_23) d_Mod_system_34 ?_
        refine lv_icmp_ne hx hb d_Mod_system_36 rfl (fun h36 => ?_) (fun h36 => ?_)
        · refine lv_iconst (v := 0) hx hb d_Mod_system_43 (by decide) ?_
          refine q_topi (z := (jb (xBk x))) (by unfold xBk; rw [if_neg h36]; rfl) ?_
          exact J44 _ (lv_sub (l' := [(6, .int (jus x (20 : Int32))), (0, .ref mo), (1, .int x), (2, .int (nI (nRd x))), (3, .int (nI (nFn x))), (4, .int (nI (nR1 x))), (5, .int (nI (nR2 x)))]) hl [0, 1, 2, 3, 4, 5, 6] rfl)
        · refine lv_iconst (v := 1) hx hb d_Mod_system_39 (by decide) ?_
          refine lv_goto hx hb d_Mod_system_40 rfl ?_
          refine q_topi (z := (jb (xBk x))) (by unfold xBk; rw [if_pos h36]; rfl) ?_
          exact J44 _ (lv_sub (l' := [(6, .int (jus x (20 : Int32))), (0, .ref mo), (1, .int x), (2, .int (nI (nRd x))), (3, .int (nI (nFn x))), (4, .int (nI (nR1 x))), (5, .int (nI (nR2 x)))]) hl [0, 1, 2, 3, 4, 5, 6] rfl)
    · refine lv_aload_n hx hb d_Mod_system_20 rfl (lv_at hl 0 rfl) ?_
      refine lv_iconst (v := 3) hx hb d_Mod_system_21 (by decide) ?_
      refine lv_iconst (v := 0) hx hb d_Mod_system_22 (by decide) ?_
      refine q_cg (q_runV (As := [.int (3 : Int32), .int (0 : Int32)]) (rest := []) S (c_Mod_trap l D ti mo am Q w g rb rt rp ro ca va st tr th pk xx rd to (3 : Int32) (0 : Int32)) (cw_v hts tb_5_202 k_Mod_trap rfl rfl ⟨by decide, by decide⟩) hw 0 rfl rfl rfl hl.1 rfl (Nat.le_of_ble_eq_true rfl) d_Mod_system_23 ⟨Nat.zero_le _, Nat.zero_le _⟩) hw (fun z hD => qD_same hD rfl) (fun z9 H locs hp9 hw => ?_)
      refine W.eq (g2 := F0 m9 26 ls [.int (jb false)]) rfl ?_
      have hw : Lv _ _ _ _ _ (RMW mo am ti (kTR Q) w g rb rt rp ro (3 : Int32) (0 : Int32) st (tr + 1) th (kHa (0 : Int32) Q) pk xx rd (rTo (kTR Q 32))) _ _ _ := hw
      have ho : xSy fv ca va Q w g x = ((3 : Int32), (0 : Int32), Q, ca, va, w, g) := xSy_2 h3 h17
      exact hw.riz S hr hlk (rfl) d_Mod_system_26 ((kTR Q), pk, xx, rd, (rTo (kTR Q 32))) (by rw [ho]; rfl) (by rw [ho]; exact ⟨by rw [rE_t (by decide)]; exact fun k _ => rfl, rfl, Or.inr (Or.inr (show ¬ (3 : Int32) < 0 by decide))⟩) (by rw [ho, rE_t (by decide)]; first | done | rfl)
  · refine lv_aload_n hx hb d_Mod_system_6 rfl (lv_at hl 0 rfl) ?_
    refine lv_bipush (v := 11) hx hb d_Mod_system_7 (by decide) ?_
    refine lv_iconst (v := 0) hx hb d_Mod_system_9 (by decide) ?_
    refine q_cg (q_runV (As := [.int (11 : Int32), .int (0 : Int32)]) (rest := []) S (c_Mod_trap l D ti mo am Q w g rb rt rp ro ca va st tr th pk xx rd to (11 : Int32) (0 : Int32)) (cw_v hts tb_5_202 k_Mod_trap rfl rfl ⟨by decide, by decide⟩) hw 0 rfl rfl rfl hl.1 rfl (Nat.le_of_ble_eq_true rfl) d_Mod_system_10 ⟨Nat.zero_le _, Nat.zero_le _⟩) hw (fun z hD => qD_same hD rfl) (fun z9 H locs hp9 hw => ?_)
    refine W.eq (g2 := F0 m9 13 ls [.int (jb false)]) rfl ?_
    have hw : Lv _ _ _ _ _ (RMW mo am ti (kTR Q) w g rb rt rp ro (11 : Int32) (0 : Int32) st (tr + 1) th (kHa (0 : Int32) Q) pk xx rd (rTo (kTR Q 32))) _ _ _ := hw
    have ho : xSy fv ca va Q w g x = ((11 : Int32), (0 : Int32), Q, ca, va, w, g) := xSy_1 h3
    exact hw.riz S hr hlk (rfl) d_Mod_system_13 ((kTR Q), pk, xx, rd, (rTo (kTR Q 32))) (by rw [ho]; rfl) (by rw [ho]; exact ⟨by rw [rE_t (by decide)]; exact fun k _ => rfl, rfl, Or.inr (Or.inr (show ¬ (11 : Int32) < 0 by decide))⟩) (by rw [ho, rE_t (by decide)]; first | done | rfl)
set_option maxHeartbeats 4000000 in
set_option maxRecDepth 100000 in
theorem c_Mod_bounds (l : Launch) (D : va_G) (ti : Nat → ClassId) (mo : Nat) (am : Nat → Nat) (Q : Nat → Cap) (w g : Nat → Int32) (rb rt : Nat → Int64) (rp : Nat → Int32) (ro ca va st tr th : Int32) (ha : Bool) (pk : Int32) (xx : Bool) (rd : Int64) (to : Int32) (d c : Nat) (hd : d < 40) (hc : c < 40) (n : Int64) (L : Nat) (hn : n = lN L) (hL : L < 4294967296) (ex : Bool) : Cg l y_Mod_bounds (wl y_Mod_bounds b_Mod_bounds 11 (some .boolean)) (rmL 4) D clz (ty4 ti) [.ref mo, .int (nI d), .int (nI c), .long n, .int (jb ex)] (RMW mo am ti Q w g rb rt rp ro ca va st tr th ha pk xx rd to) (fun _ : Unit => some (.int (jb true))) (fun _ => (RMW mo am ti (rSet Q d (uBn (Q c) n ex)) w g rb rt rp ro ca va st tr th ha (kBits (bF (Q c)) (bTo (Q c) n)) (kEx (bF (Q c)) (bTo (Q c) n)) (kLen (bF (Q c)) (bTo (Q c) n)) to)) (fun _ => True) := by
  refine Cg.ofF (plainFor_of_name (by decide)) (Nat.le_of_ble_eq_true rfl) ?_
  intro p9 e9 s9 m9 b9 me9 c9 ls S hr hlk hl hw
  obtain ⟨hx, hb, hml, hown, hts⟩ := id S
  have hl : lv_has ls 11 [(0, .ref mo), (1, .int (nI d)), (2, .int (nI c)), (3, .long n), (5, .int (jb ex))] := hl
  refine lv_aload_n hx hb d_Mod_bounds_0 rfl (lv_at hl 0 rfl) ?_
  refine q_get S hw ly_Mod 0 rfl rfl 1 (by decide) tb_5_44 rfl rfl d_Mod_bounds_1 ?_
  refine lv_iload_n hx hb d_Mod_bounds_4 rfl (lv_at hl 2 rfl) ?_
  refine q_ialdN (k := c) S hw 2 0 rfl rfl (by first | assumption | omega) (by decide) d_Mod_bounds_5 ?_
  refine q_cr (q_runS (As := [.int ((Q c).2.1)]) (rest := []) S ((c_Mod_low l D (ty4 ti) ((Q c).2.1)).nil _) (cw_s hts tb_5_118 k_Mod_low rfl rfl ⟨by decide, by decide⟩) hw rfl hl.1 rfl (Nat.le_of_ble_eq_true rfl) d_Mod_bounds_6 ⟨Nat.zero_le _, Nat.zero_le _⟩) ?_
  refine W.eq (g2 := F0 m9 9 ls [.long (cLow ((Q c).2.1))]) rfl ?_
  refine lv_lstore (lv' := [(6, .long (cLow ((Q c).2.1))), (0, .ref mo), (1, .int (nI d)), (2, .int (nI c)), (3, .long n), (5, .int (jb ex))]) hx hb d_Mod_bounds_9 hl (by decide) rfl (fun ls hl => ?_)
  refine lv_lload hx hb d_Mod_bounds_11 (lv_at hl 0 rfl) ?_
  refine lv_lload_n hx hb d_Mod_bounds_13 rfl (lv_at hl 4 rfl) ?_
  refine lv_ladd hx hb d_Mod_bounds_14 ?_
  refine lv_lstore (lv' := [(8, .long ((cLow ((Q c).2.1)) + n)), (6, .long (cLow ((Q c).2.1))), (0, .ref mo), (1, .int (nI d)), (2, .int (nI c)), (3, .long n), (5, .int (jb ex))]) hx hb d_Mod_bounds_15 hl (by decide) rfl (fun ls hl => ?_)
  refine q_join (pcJ := 90) (st := [.int (jb (kBn (Q c) n))]) (lv' := [(8, .long ((cLow ((Q c).2.1)) + n)), (6, .long (cLow ((Q c).2.1))), (0, .ref mo), (1, .int (nI d)), (2, .int (nI c)), (3, .long n), (5, .int (jb ex))]) (nL := 11) (fun ls hl => ?_) (fun J90 => ?_)
  · refine lv_istore (lv' := [(10, .int (jb (kBn (Q c) n))), (8, .long ((cLow ((Q c).2.1)) + n)), (6, .long (cLow ((Q c).2.1))), (0, .ref mo), (1, .int (nI d)), (2, .int (nI c)), (3, .long n), (5, .int (jb ex))]) hx hb d_Mod_bounds_90 hl (by decide) rfl (fun ls hl => ?_)
    refine lv_aload_n hx hb d_Mod_bounds_92 rfl (lv_at hl 3 rfl) ?_
    refine lv_lload hx hb d_Mod_bounds_93 (lv_at hl 2 rfl) ?_
    refine q_join (pcJ := 112) (st := [.long (bTo (Q c) n), .long (cLow ((Q c).2.1)), .ref mo]) (lv' := [(10, .int (jb (kBn (Q c) n))), (8, .long ((cLow ((Q c).2.1)) + n)), (6, .long (cLow ((Q c).2.1))), (0, .ref mo), (1, .int (nI d)), (2, .int (nI c)), (3, .long n), (5, .int (jb ex))]) (nL := 11) (fun ls hl => ?_) (fun J112 => ?_)
    · refine q_cg (q_runV (As := [.long (cLow ((Q c).2.1)), .long (bTo (Q c) n)]) (rest := []) S (c_Mod_packE l D ti mo am Q w g rb rt rp ro ca va st tr th ha pk xx rd to (cLow ((Q c).2.1)) (bTo (Q c) n) (Q c).2.1.toBitVec.toNat (bN (Q c).2.1 L) (cLow_n _) (bTo_n hn hL) (bN_ge _ _) (bN_le _ _)) (cw_v hts tb_5_123 k_Mod_pack rfl rfl ⟨by decide, by decide⟩) hw 0 rfl rfl rfl hl.1 rfl (Nat.le_of_ble_eq_true rfl) d_Mod_bounds_112 ⟨Nat.zero_le _, Nat.zero_le _⟩) hw (fun z hD => qD_same hD rfl) (fun z9 H locs hp9 hw => ?_)
      refine W.eq (g2 := F0 m9 115 ls []) rfl ?_
      have hw : Lv _ _ _ _ _ (RMW mo am ti Q w g rb rt rp ro ca va st tr th ha (kBits (cLow ((Q c).2.1)) (bTo (Q c) n)) (kEx (cLow ((Q c).2.1)) (bTo (Q c) n)) (kLen (cLow ((Q c).2.1)) (bTo (Q c) n)) to) _ _ _ := hw
      refine lv_aload_n hx hb d_Mod_bounds_115 rfl (lv_at hl 3 rfl) ?_
      refine lv_iload_n hx hb d_Mod_bounds_116 rfl (lv_at hl 4 rfl) ?_
      refine q_join (pcJ := 139) (st := [.int (jb (kBx (Q c) n ex)), .int (nI d), .ref mo]) (lv' := [(10, .int (jb (kBn (Q c) n))), (8, .long ((cLow ((Q c).2.1)) + n)), (6, .long (cLow ((Q c).2.1))), (0, .ref mo), (1, .int (nI d)), (2, .int (nI c)), (3, .long n), (5, .int (jb ex))]) (nL := 11) (fun ls hl => ?_) (fun J139 => ?_)
      · refine lv_aload_n hx hb d_Mod_bounds_139 rfl (lv_at hl 3 rfl) ?_
        refine q_get S hw ly_Mod 0 rfl rfl 1 (by decide) tb_5_44 rfl rfl d_Mod_bounds_140 ?_
        refine lv_iload_n hx hb d_Mod_bounds_143 rfl (lv_at hl 5 rfl) ?_
        refine q_ialdN (k := c) S hw 2 0 rfl rfl (by first | assumption | omega) (by decide) d_Mod_bounds_144 ?_
        refine lv_aload_n hx hb d_Mod_bounds_145 rfl (lv_at hl 3 rfl) ?_
        refine q_get S hw ly_Mod 0 rfl rfl 2 (by decide) tb_5_45 rfl rfl d_Mod_bounds_146 ?_
        refine lv_iload_n hx hb d_Mod_bounds_149 rfl (lv_at hl 5 rfl) ?_
        refine q_ialdN (k := c) S hw 3 0 rfl rfl (by first | assumption | omega) (by decide) d_Mod_bounds_150 ?_
        refine lv_sipush (v := -32768) hx hb d_Mod_bounds_151 (by decide) ?_
        refine lv_iand hx hb d_Mod_bounds_154 ?_
        refine lv_aload_n hx hb d_Mod_bounds_155 rfl (lv_at hl 3 rfl) ?_
        refine q_get S hw ly_Mod 0 rfl rfl 15 (by decide) tb_5_58 rfl rfl d_Mod_bounds_156 ?_
        refine lv_ior hx hb d_Mod_bounds_159 ?_
        refine q_cg (q_runV (As := [.int (nI d), .int (jb (kBx (Q c) n ex)), .int ((Q c).2.1), .int ((((Q c).2.2) &&& (-32768 : Int32)) ||| (kBits (cLow ((Q c).2.1)) (bTo (Q c) n)))]) (rest := []) S (c_Mod_set l D ti mo am Q w g rb rt rp ro ca va st tr th ha (kBits (cLow ((Q c).2.1)) (bTo (Q c) n)) (kEx (cLow ((Q c).2.1)) (bTo (Q c) n)) (kLen (cLow ((Q c).2.1)) (bTo (Q c) n)) to d (by first | decide | omega) (kBx (Q c) n ex) ((Q c).2.1) ((((Q c).2.2) &&& (-32768 : Int32)) ||| (kBits (cLow ((Q c).2.1)) (bTo (Q c) n)))) (cw_v hts tb_5_131 k_Mod_set rfl rfl ⟨by decide, by decide⟩) hw 0 rfl rfl rfl hl.1 rfl (Nat.le_of_ble_eq_true rfl) d_Mod_bounds_160 ⟨Nat.zero_le _, Nat.zero_le _⟩) hw (fun z hD => qD_same hD rfl) (fun z9 H locs hp9 hw => ?_)
        refine W.eq (g2 := F0 m9 163 ls []) rfl ?_
        have hw : Lv _ _ _ _ _ (RMW mo am ti (rSet Q d ((kBx (Q c) n ex), ((Q c).2.1), ((((Q c).2.2) &&& (-32768 : Int32)) ||| (kBits (cLow ((Q c).2.1)) (bTo (Q c) n))))) w g rb rt rp ro ca va st tr th ha (kBits (cLow ((Q c).2.1)) (bTo (Q c) n)) (kEx (cLow ((Q c).2.1)) (bTo (Q c) n)) (kLen (cLow ((Q c).2.1)) (bTo (Q c) n)) to) _ _ _ := hw
        refine lv_iconst (v := 1) hx hb d_Mod_bounds_163 (by decide) ?_
        exact hw.riz S hr hlk (rfl) d_Mod_bounds_164 () (rfl) (trivial) (rfl)
      · refine lv_iload hx hb d_Mod_bounds_117 (lv_at hl 0 rfl) ?_
        refine q_ifz_eq S d_Mod_bounds_119 rfl (fun h119 => ?_) (fun h119 => ?_)
        · refine lv_iconst (v := 0) hx hb d_Mod_bounds_138 (by decide) ?_
          refine q_topi (z := (jb (kBx (Q c) n ex))) (by simp [kBx, bF, jb, h119]) ?_
          exact J139 _ (lv_sub (l' := [(10, .int (jb (kBn (Q c) n))), (8, .long ((cLow ((Q c).2.1)) + n)), (6, .long (cLow ((Q c).2.1))), (0, .ref mo), (1, .int (nI d)), (2, .int (nI c)), (3, .long n), (5, .int (jb ex))]) hl [0, 1, 2, 3, 4, 5, 6, 7] rfl)
        · refine lv_aload_n hx hb d_Mod_bounds_122 rfl (lv_at hl 3 rfl) ?_
          refine q_get S hw ly_Mod 0 rfl rfl 16 (by decide) tb_5_59 rfl rfl d_Mod_bounds_123 ?_
          refine q_ifz_ne S d_Mod_bounds_126 rfl (fun h126 => ?_) (fun h126 => ?_)
          · refine lv_iconst (v := 1) hx hb d_Mod_bounds_134 (by decide) ?_
            refine lv_goto hx hb d_Mod_bounds_135 rfl ?_
            refine q_topi (z := (jb (kBx (Q c) n ex))) (by simp [kBx, bF, jb, h119, h126]) ?_
            exact J139 _ (lv_sub (l' := [(10, .int (jb (kBn (Q c) n))), (8, .long ((cLow ((Q c).2.1)) + n)), (6, .long (cLow ((Q c).2.1))), (0, .ref mo), (1, .int (nI d)), (2, .int (nI c)), (3, .long n), (5, .int (jb ex))]) hl [0, 1, 2, 3, 4, 5, 6, 7] rfl)
          · refine lv_iload hx hb d_Mod_bounds_129 (lv_at hl 7 rfl) ?_
            refine q_ifz_ne S d_Mod_bounds_131 rfl (fun h131 => ?_) (fun h131 => ?_)
            · refine lv_iconst (v := 0) hx hb d_Mod_bounds_138 (by decide) ?_
              refine q_topi (z := (jb (kBx (Q c) n ex))) (by simp [kBx, bF, jb, h119, h126, h131]) ?_
              exact J139 _ (lv_sub (l' := [(10, .int (jb (kBn (Q c) n))), (8, .long ((cLow ((Q c).2.1)) + n)), (6, .long (cLow ((Q c).2.1))), (0, .ref mo), (1, .int (nI d)), (2, .int (nI c)), (3, .long n), (5, .int (jb ex))]) hl [0, 1, 2, 3, 4, 5, 6, 7] rfl)
            · refine lv_iconst (v := 1) hx hb d_Mod_bounds_134 (by decide) ?_
              refine lv_goto hx hb d_Mod_bounds_135 rfl ?_
              refine q_topi (z := (jb (kBx (Q c) n ex))) (by simp [kBx, bF, jb, h119, h126, h131]) ?_
              exact J139 _ (lv_sub (l' := [(10, .int (jb (kBn (Q c) n))), (8, .long ((cLow ((Q c).2.1)) + n)), (6, .long (cLow ((Q c).2.1))), (0, .ref mo), (1, .int (nI d)), (2, .int (nI c)), (3, .long n), (5, .int (jb ex))]) hl [0, 1, 2, 3, 4, 5, 6, 7] rfl)
    · refine lv_lload hx hb d_Mod_bounds_95 (lv_at hl 1 rfl) ?_
      refine lv_ldc2 (v := 4294967296) hx hb hown (hts _ tb_5_122) d_Mod_bounds_97 ?_
      refine q_lc_ge S d_Mod_bounds_100 d_Mod_bounds_101 rfl (fun h101 => ?_) (fun h101 => ?_)
      · refine lv_ldc2 (v := 4294967296) hx hb hown (hts _ tb_5_122) d_Mod_bounds_109 ?_
        refine q_topl (z := (bTo (Q c) n)) ((bTo_hi h101).symm) ?_
        exact J112 _ (lv_sub (l' := [(10, .int (jb (kBn (Q c) n))), (8, .long ((cLow ((Q c).2.1)) + n)), (6, .long (cLow ((Q c).2.1))), (0, .ref mo), (1, .int (nI d)), (2, .int (nI c)), (3, .long n), (5, .int (jb ex))]) hl [0, 1, 2, 3, 4, 5, 6, 7] rfl)
      · refine lv_lload hx hb d_Mod_bounds_104 (lv_at hl 1 rfl) ?_
        refine lv_goto hx hb d_Mod_bounds_106 rfl ?_
        refine q_topl (z := (bTo (Q c) n)) ((bTo_lo h101).symm) ?_
        exact J112 _ (lv_sub (l' := [(10, .int (jb (kBn (Q c) n))), (8, .long ((cLow ((Q c).2.1)) + n)), (6, .long (cLow ((Q c).2.1))), (0, .ref mo), (1, .int (nI d)), (2, .int (nI c)), (3, .long n), (5, .int (jb ex))]) hl [0, 1, 2, 3, 4, 5, 6, 7] rfl)
  · refine lv_aload_n hx hb d_Mod_bounds_17 rfl (lv_at hl 2 rfl) ?_
    refine q_get S hw ly_Mod 0 rfl rfl 0 (by decide) tb_5_43 rfl rfl d_Mod_bounds_18 ?_
    refine lv_iload_n hx hb d_Mod_bounds_21 rfl (lv_at hl 4 rfl) ?_
    refine q_zaldN (k := c) S hw 1 1 rfl rfl (by first | assumption | omega) (by decide) d_Mod_bounds_22 ?_
    refine q_ifz_eq S d_Mod_bounds_23 rfl (fun h23 => ?_) (fun h23 => ?_)
    · refine lv_iconst (v := 0) hx hb d_Mod_bounds_89 (by decide) ?_
      refine q_topi (z := (jb (kBn (Q c) n))) (by simp [kBn, cCov, bF, jb, h23]) ?_
      exact J90 _ (lv_sub (l' := [(8, .long ((cLow ((Q c).2.1)) + n)), (6, .long (cLow ((Q c).2.1))), (0, .ref mo), (1, .int (nI d)), (2, .int (nI c)), (3, .long n), (5, .int (jb ex))]) hl [0, 1, 2, 3, 4, 5, 6] rfl)
    · refine lv_aload_n hx hb d_Mod_bounds_26 rfl (lv_at hl 2 rfl) ?_
      refine lv_iload_n hx hb d_Mod_bounds_27 rfl (lv_at hl 4 rfl) ?_
      refine q_cr (q_runV (As := [.int (nI c)]) (rest := []) S (c_Mod_isOpen l D ti mo am Q w g rb rt rp ro ca va st tr th ha pk xx rd to c (by first | decide | omega)) (cw_v hts tb_5_180 k_Mod_isOpen rfl rfl ⟨by decide, by decide⟩) hw 0 rfl rfl rfl hl.1 rfl (Nat.le_of_ble_eq_true rfl) d_Mod_bounds_28 ⟨Nat.zero_le _, Nat.zero_le _⟩) ?_
      refine W.eq (g2 := F0 m9 31 ls [.int (jb (cOpen (Q c).2.2))]) rfl ?_
      refine q_ifz_eq S d_Mod_bounds_31 rfl (fun h31 => ?_) (fun h31 => ?_)
      · refine lv_iconst (v := 0) hx hb d_Mod_bounds_89 (by decide) ?_
        refine q_topi (z := (jb (kBn (Q c) n))) (by simp [kBn, cCov, bF, jb, h23, h31]) ?_
        exact J90 _ (lv_sub (l' := [(8, .long ((cLow ((Q c).2.1)) + n)), (6, .long (cLow ((Q c).2.1))), (0, .ref mo), (1, .int (nI d)), (2, .int (nI c)), (3, .long n), (5, .int (jb ex))]) hl [0, 1, 2, 3, 4, 5, 6] rfl)
      · refine lv_lload hx hb d_Mod_bounds_34 (lv_at hl 0 rfl) ?_
        refine lv_ldc2 (v := 4294967296) hx hb hown (hts _ tb_5_122) d_Mod_bounds_36 ?_
        refine q_lc_gt S d_Mod_bounds_39 d_Mod_bounds_40 rfl (fun h40 => ?_) (fun h40 => ?_)
        · refine lv_iconst (v := 0) hx hb d_Mod_bounds_89 (by decide) ?_
          refine q_topi (z := (jb (kBn (Q c) n))) (by simp [kBn, cCov, bF, jb, h23, h31, h40]) ?_
          exact J90 _ (lv_sub (l' := [(8, .long ((cLow ((Q c).2.1)) + n)), (6, .long (cLow ((Q c).2.1))), (0, .ref mo), (1, .int (nI d)), (2, .int (nI c)), (3, .long n), (5, .int (jb ex))]) hl [0, 1, 2, 3, 4, 5, 6] rfl)
        · refine lv_aload_n hx hb d_Mod_bounds_43 rfl (lv_at hl 2 rfl) ?_
          refine q_get S hw ly_Mod 0 rfl rfl 2 (by decide) tb_5_45 rfl rfl d_Mod_bounds_44 ?_
          refine lv_iload_n hx hb d_Mod_bounds_47 rfl (lv_at hl 4 rfl) ?_
          refine q_ialdN (k := c) S hw 3 0 rfl rfl (by first | assumption | omega) (by decide) d_Mod_bounds_48 ?_
          refine lv_aload_n hx hb d_Mod_bounds_49 rfl (lv_at hl 2 rfl) ?_
          refine q_get S hw ly_Mod 0 rfl rfl 1 (by decide) tb_5_44 rfl rfl d_Mod_bounds_50 ?_
          refine lv_iload_n hx hb d_Mod_bounds_53 rfl (lv_at hl 4 rfl) ?_
          refine q_ialdN (k := c) S hw 2 0 rfl rfl (by first | assumption | omega) (by decide) d_Mod_bounds_54 ?_
          refine q_cr (q_runS (As := [.int ((Q c).2.2), .int ((Q c).2.1)]) (rest := []) S ((c_Mod_base l D (ty4 ti) ((Q c).2.2) ((Q c).2.1)).nil _) (cw_s hts tb_5_135 k_Mod_base rfl rfl ⟨by decide, by decide⟩) hw rfl hl.1 rfl (Nat.le_of_ble_eq_true rfl) d_Mod_bounds_55 ⟨Nat.zero_le _, Nat.zero_le _⟩) ?_
          refine W.eq (g2 := F0 m9 58 ls [.long (cbase ((Q c).2.2) ((Q c).2.1))]) rfl ?_
          refine lv_lload hx hb d_Mod_bounds_58 (lv_at hl 1 rfl) ?_
          refine q_lc_gt S d_Mod_bounds_60 d_Mod_bounds_61 rfl (fun h61 => ?_) (fun h61 => ?_)
          · refine lv_iconst (v := 0) hx hb d_Mod_bounds_89 (by decide) ?_
            refine q_topi (z := (jb (kBn (Q c) n))) (by simp [kBn, cCov, bF, jb, h23, h31, h40, h61]) ?_
            exact J90 _ (lv_sub (l' := [(8, .long ((cLow ((Q c).2.1)) + n)), (6, .long (cLow ((Q c).2.1))), (0, .ref mo), (1, .int (nI d)), (2, .int (nI c)), (3, .long n), (5, .int (jb ex))]) hl [0, 1, 2, 3, 4, 5, 6] rfl)
          · refine lv_lload hx hb d_Mod_bounds_64 (lv_at hl 0 rfl) ?_
            refine lv_aload_n hx hb d_Mod_bounds_66 rfl (lv_at hl 2 rfl) ?_
            refine q_get S hw ly_Mod 0 rfl rfl 2 (by decide) tb_5_45 rfl rfl d_Mod_bounds_67 ?_
            refine lv_iload_n hx hb d_Mod_bounds_70 rfl (lv_at hl 4 rfl) ?_
            refine q_ialdN (k := c) S hw 3 0 rfl rfl (by first | assumption | omega) (by decide) d_Mod_bounds_71 ?_
            refine lv_aload_n hx hb d_Mod_bounds_72 rfl (lv_at hl 2 rfl) ?_
            refine q_get S hw ly_Mod 0 rfl rfl 1 (by decide) tb_5_44 rfl rfl d_Mod_bounds_73 ?_
            refine lv_iload_n hx hb d_Mod_bounds_76 rfl (lv_at hl 4 rfl) ?_
            refine q_ialdN (k := c) S hw 2 0 rfl rfl (by first | assumption | omega) (by decide) d_Mod_bounds_77 ?_
            refine q_cr (q_runS (As := [.int ((Q c).2.2), .int ((Q c).2.1)]) (rest := [.long ((cLow ((Q c).2.1)) + n)]) S ((c_Mod_top l D (ty4 ti) ((Q c).2.2) ((Q c).2.1)).nil _) (cw_s hts tb_5_153 k_Mod_top rfl rfl ⟨by decide, by decide⟩) hw rfl hl.1 rfl (Nat.le_of_ble_eq_true rfl) d_Mod_bounds_78 ⟨Nat.zero_le _, Nat.zero_le _⟩) ?_
            refine W.eq (g2 := F0 m9 81 ls [.long (ctop ((Q c).2.2) ((Q c).2.1)), .long ((cLow ((Q c).2.1)) + n)]) rfl ?_
            refine q_lc_gt S d_Mod_bounds_81 d_Mod_bounds_82 rfl (fun h82 => ?_) (fun h82 => ?_)
            · refine lv_iconst (v := 0) hx hb d_Mod_bounds_89 (by decide) ?_
              refine q_topi (z := (jb (kBn (Q c) n))) (by simp [kBn, cCov, bF, jb, h23, h31, h40, h61, h82]) ?_
              exact J90 _ (lv_sub (l' := [(8, .long ((cLow ((Q c).2.1)) + n)), (6, .long (cLow ((Q c).2.1))), (0, .ref mo), (1, .int (nI d)), (2, .int (nI c)), (3, .long n), (5, .int (jb ex))]) hl [0, 1, 2, 3, 4, 5, 6] rfl)
            · refine lv_iconst (v := 1) hx hb d_Mod_bounds_85 (by decide) ?_
              refine lv_goto hx hb d_Mod_bounds_86 rfl ?_
              refine q_topi (z := (jb (kBn (Q c) n))) (by simp [kBn, cCov, bF, jb, h23, h31, h40, h61, h82]) ?_
              exact J90 _ (lv_sub (l' := [(8, .long ((cLow ((Q c).2.1)) + n)), (6, .long (cLow ((Q c).2.1))), (0, .ref mo), (1, .int (nI d)), (2, .int (nI c)), (3, .long n), (5, .int (jb ex))]) hl [0, 1, 2, 3, 4, 5, 6] rfl)
set_option maxHeartbeats 4000000 in
set_option maxRecDepth 100000 in
theorem c_Mod_packP (l : Launch) (D : va_G) (ti : Nat → ClassId) (mo : Nat) (am : Nat → Nat) (Q : Nat → Cap) (w g : Nat → Int32) (rb rt : Nat → Int64) (rp : Nat → Int32) (ro ca va st tr th : Int32) (ha : Bool) (pk : Int32) (xx : Bool) (rd : Int64) (to : Int32) (b : Int32) (n : Int64) (hf : fitS b n = true) : Cg l y_Mod_packP (wl y_Mod_packP b_Mod_packP 4 (some .int)) (rmL 1) D clz (ty4 ti) [.ref mo, .int b, .long n] (RMW mo am ti Q w g rb rt rp ro ca va st tr th ha pk xx rd to) (fun _ : Unit => some (.int ((kBits (cLow b) (cLow b + n)) ||| (if (kEx (cLow b) (cLow b + n)) = false then 0 else 32768)))) (fun _ => (RMW mo am ti Q w g rb rt rp ro ca va st tr 0 ha (kBits (cLow b) (cLow b + n)) (kEx (cLow b) (cLow b + n)) (kLen (cLow b) (cLow b + n)) to)) (fun _ => True) := by
  refine Cg.ofF (plainFor_of_name (by decide)) (Nat.le_of_ble_eq_true rfl) ?_
  intro p9 e9 s9 m9 b9 me9 c9 ls S hr hlk hl hw
  obtain ⟨hx, hb, hml, hown, hts⟩ := id S
  have hl : lv_has ls 4 [(0, .ref mo), (1, .int b), (2, .long n)] := hl
  obtain ⟨L, en, hL⟩ := fit_n hf
  refine lv_lload_n hx hb d_Mod_packP_0 rfl (lv_at hl 2 rfl) ?_
  refine lv_lconst (v := 0) hx hb d_Mod_packP_1 (by decide) ?_
  refine q_lc_lt S d_Mod_packP_2 d_Mod_packP_3 rfl (fun h3 => ?_) (fun h3 => ?_)
  · exact absurd h3 (fit_t hf).1
  · refine lv_iload_n hx hb d_Mod_packP_6 rfl (lv_at hl 1 rfl) ?_
    refine q_cr (q_runS (As := [.int b]) (rest := []) S ((c_Mod_low l D (ty4 ti) b).nil _) (cw_s hts tb_5_118 k_Mod_low rfl rfl ⟨by decide, by decide⟩) hw rfl hl.1 rfl (Nat.le_of_ble_eq_true rfl) d_Mod_packP_7 ⟨Nat.zero_le _, Nat.zero_le _⟩) ?_
    refine W.eq (g2 := F0 m9 10 ls [.long (cLow b)]) rfl ?_
    refine lv_lload_n hx hb d_Mod_packP_10 rfl (lv_at hl 2 rfl) ?_
    refine lv_ladd hx hb d_Mod_packP_11 ?_
    refine lv_ldc2 (v := 4294967296) hx hb hown (hts _ tb_5_122) d_Mod_packP_12 ?_
    refine q_lc_gt S d_Mod_packP_15 d_Mod_packP_16 rfl (fun h16 => ?_) (fun h16 => ?_)
    · exact absurd h16 (fit_t hf).2.1
    · refine lv_lload_n hx hb d_Mod_packP_19 rfl (lv_at hl 2 rfl) ?_
      refine lv_ldc2 (v := 4294967296) hx hb hown (hts _ tb_5_122) d_Mod_packP_20 ?_
      refine q_lc_le S d_Mod_packP_23 d_Mod_packP_24 rfl (fun h24 => ?_) (fun h24 => ?_)
      · refine lv_aload_n hx hb d_Mod_packP_33 rfl (lv_at hl 0 rfl) ?_
        refine lv_iconst (v := 0) hx hb d_Mod_packP_34 (by decide) ?_
        refine q_put (v := .int (0 : Int32)) S hw ly_Mod t_Mod t_Mod_ok n_Mod 0 rfl rfl 13 (by decide) tb_5_56 rfl rfl rfl rfl (Nat.le_of_ble_eq_true rfl) d_Mod_packP_35 (fun H locs hw => ?_)
        have hw : Lv _ _ _ _ _ (RMW mo am ti Q w g rb rt rp ro ca va st tr (0 : Int32) ha pk xx rd to) _ _ _ := hw
        refine lv_aload_n hx hb d_Mod_packP_38 rfl (lv_at hl 0 rfl) ?_
        refine lv_iload_n hx hb d_Mod_packP_39 rfl (lv_at hl 1 rfl) ?_
        refine q_cr (q_runS (As := [.int b]) (rest := [.ref mo]) S ((c_Mod_low l D (ty4 ti) b).nil _) (cw_s hts tb_5_118 k_Mod_low rfl rfl ⟨by decide, by decide⟩) hw rfl hl.1 rfl (Nat.le_of_ble_eq_true rfl) d_Mod_packP_40 ⟨Nat.zero_le _, Nat.zero_le _⟩) ?_
        refine W.eq (g2 := F0 m9 43 ls [.long (cLow b), .ref mo]) rfl ?_
        refine lv_iload_n hx hb d_Mod_packP_43 rfl (lv_at hl 1 rfl) ?_
        refine q_cr (q_runS (As := [.int b]) (rest := [.long (cLow b), .ref mo]) S ((c_Mod_low l D (ty4 ti) b).nil _) (cw_s hts tb_5_118 k_Mod_low rfl rfl ⟨by decide, by decide⟩) hw rfl hl.1 rfl (Nat.le_of_ble_eq_true rfl) d_Mod_packP_44 ⟨Nat.zero_le _, Nat.zero_le _⟩) ?_
        refine W.eq (g2 := F0 m9 47 ls [.long (cLow b), .long (cLow b), .ref mo]) rfl ?_
        refine lv_lload_n hx hb d_Mod_packP_47 rfl (lv_at hl 2 rfl) ?_
        refine lv_ladd hx hb d_Mod_packP_48 ?_
        refine q_cg (q_runV (As := [.long (cLow b), .long ((cLow b) + n)]) (rest := []) S (c_Mod_packE l D ti mo am Q w g rb rt rp ro ca va st tr (0 : Int32) ha pk xx rd to (cLow b) ((cLow b) + n) b.toBitVec.toNat (b.toBitVec.toNat + L) (cLow_n _) (by rw [cLow_n, en, lN_add]) (by omega) hL) (cw_v hts tb_5_123 k_Mod_pack rfl rfl ⟨by decide, by decide⟩) hw 0 rfl rfl rfl hl.1 rfl (Nat.le_of_ble_eq_true rfl) d_Mod_packP_49 ⟨Nat.zero_le _, Nat.zero_le _⟩) hw (fun z hD => qD_same hD rfl) (fun z9 H locs hp9 hw => ?_)
        refine W.eq (g2 := F0 m9 52 ls []) rfl ?_
        have hw : Lv _ _ _ _ _ (RMW mo am ti Q w g rb rt rp ro ca va st tr (0 : Int32) ha (kBits (cLow b) ((cLow b) + n)) (kEx (cLow b) ((cLow b) + n)) (kLen (cLow b) ((cLow b) + n)) to) _ _ _ := hw
        refine lv_aload_n hx hb d_Mod_packP_52 rfl (lv_at hl 0 rfl) ?_
        refine q_get S hw ly_Mod 0 rfl rfl 15 (by decide) tb_5_58 rfl rfl d_Mod_packP_53 ?_
        refine q_join (pcJ := 69) (st := [.int (if (kEx (cLow b) (cLow b + n)) = false then 0 else 32768), .int (kBits (cLow b) ((cLow b) + n))]) (lv' := [(0, .ref mo), (1, .int b), (2, .long n)]) (nL := 4) (fun ls hl => ?_) (fun J69 => ?_)
        · refine lv_ior hx hb d_Mod_packP_69 ?_
          exact hw.riz S hr hlk (rfl) d_Mod_packP_70 () (rfl) (trivial) (rfl)
        · refine lv_aload_n hx hb d_Mod_packP_56 rfl (lv_at hl 0 rfl) ?_
          refine q_get S hw ly_Mod 0 rfl rfl 16 (by decide) tb_5_59 rfl rfl d_Mod_packP_57 ?_
          refine q_ifz_eq S d_Mod_packP_60 rfl (fun h60 => ?_) (fun h60 => ?_)
          · refine lv_iconst (v := 0) hx hb d_Mod_packP_68 (by decide) ?_
            refine q_topi (z := (if (kEx (cLow b) (cLow b + n)) = false then 0 else 32768)) (by rw [if_pos h60]) ?_
            exact J69 _ (lv_sub (l' := [(0, .ref mo), (1, .int b), (2, .long n)]) hl [0, 1, 2] rfl)
          · refine lv_ldc (v := 32768) hx hb hown (hts _ tb_6_60) d_Mod_packP_63 ?_
            refine lv_goto hx hb d_Mod_packP_65 rfl ?_
            refine q_topi (z := (if (kEx (cLow b) (cLow b + n)) = false then 0 else 32768)) (by rw [if_neg (tne h60)]) ?_
            exact J69 _ (lv_sub (l' := [(0, .ref mo), (1, .int b), (2, .long n)]) hl [0, 1, 2] rfl)
      · exact absurd (Int64.not_le.mp h24) (fit_t hf).2.2
set_option maxHeartbeats 4000000 in
set_option maxRecDepth 100000 in
theorem c_Mod_invoke (l : Launch) (D : va_G) (ti : Nat → ClassId) (mo : Nat) (am : Nat → Nat) (Q : Nat → Cap) (w g : Nat → Int32) (rb rt : Nat → Int64) (rp : Nat → Int32) (ro ca va st tr th : Int32) (pk : Int32) (xx : Bool) (rd : Int64) (to : Int32) (fv x : Int32) : Cg l y_Mod_invoke (wl y_Mod_invoke b_Mod_invoke 4 (some .boolean)) (rmL 10) D clz (ty4 ti) [.ref mo, .int (nI (nR1 x)), .int (nI (nR2 x))] (RMW mo am ti Q w g rb rt rp ro ca va st tr th false pk xx rd to) (fun z : (Nat → Cap) × Int32 × Bool × Int64 × Int32 => some (.int (jb (goB (xoc (xIv fv Q x) ca va w g).1)))) (fun z => (RMW mo am ti z.1 ((rE (xoc (xIv fv Q x) ca va w g) tr).w) ((rE (xoc (xIv fv Q x) ca va w g) tr).g) rb rt rp ro ((rE (xoc (xIv fv Q x) ca va w g) tr).ca) ((rE (xoc (xIv fv Q x) ca va w g) tr).va) st ((rE (xoc (xIv fv Q x) ca va w g) tr).tr) th ((rE (xoc (xIv fv Q x) ca va w g) tr).ha) z.2.1 z.2.2.1 z.2.2.2.1 z.2.2.2.2)) (fun z => RPo Q z.1 (xoc (xIv fv Q x) ca va w g) tr) := by
  refine Cg.ofF (plainFor_of_name (by decide)) (Nat.le_of_ble_eq_true rfl) ?_
  intro p9 e9 s9 m9 b9 me9 c9 ls S hr hlk hl hw
  obtain ⟨hx, hb, hml, hown, hts⟩ := id S
  have hl : lv_has ls 4 [(0, .ref mo), (1, .int (nI (nR1 x))), (2, .int (nI (nR2 x)))] := hl
  have hr1 := nR1_lt x
  have hr2 := nR2_lt x
  have hrd := nRd_lt x
  have hfn := nFn_lt x
  refine lv_aload_n hx hb d_Mod_invoke_0 rfl (lv_at hl 0 rfl) ?_
  refine q_get S hw ly_Mod 0 rfl rfl 0 (by decide) tb_5_43 rfl rfl d_Mod_invoke_1 ?_
  refine lv_iload_n hx hb d_Mod_invoke_4 rfl (lv_at hl 1 rfl) ?_
  refine q_zaldN (k := nR1 x) S hw 1 1 rfl rfl (by first | assumption | omega) (by decide) d_Mod_invoke_5 ?_
  refine q_ifz_ne S d_Mod_invoke_6 rfl (fun h6 => ?_) (fun h6 => ?_)
  · refine lv_aload_n hx hb d_Mod_invoke_16 rfl (lv_at hl 0 rfl) ?_
    refine q_get S hw ly_Mod 0 rfl rfl 0 (by decide) tb_5_43 rfl rfl d_Mod_invoke_17 ?_
    refine lv_iload_n hx hb d_Mod_invoke_20 rfl (lv_at hl 2 rfl) ?_
    refine q_zaldN (k := nR2 x) S hw 1 1 rfl rfl (by first | assumption | omega) (by decide) d_Mod_invoke_21 ?_
    refine q_ifz_ne S d_Mod_invoke_22 rfl (fun h22 => ?_) (fun h22 => ?_)
    · refine lv_aload_n hx hb d_Mod_invoke_32 rfl (lv_at hl 0 rfl) ?_
      refine q_get S hw ly_Mod 0 rfl rfl 2 (by decide) tb_5_45 rfl rfl d_Mod_invoke_33 ?_
      refine lv_iload_n hx hb d_Mod_invoke_36 rfl (lv_at hl 1 rfl) ?_
      refine q_ialdN (k := nR1 x) S hw 3 0 rfl rfl (by first | assumption | omega) (by decide) d_Mod_invoke_37 ?_
      refine q_cr (q_runS (As := [.int ((Q (nR1 x)).2.2)]) (rest := []) S ((c_Mod_type l D (ty4 ti) ((Q (nR1 x)).2.2)).nil _) (cw_s hts tb_5_184 k_Mod_type rfl rfl ⟨by decide, by decide⟩) hw rfl hl.1 rfl (Nat.le_of_ble_eq_true rfl) d_Mod_invoke_38 ⟨Nat.zero_le _, Nat.zero_le _⟩) ?_
      refine W.eq (g2 := F0 m9 41 ls [.int (cType ((Q (nR1 x)).2.2))]) rfl ?_
      refine lv_bipush (v := 12) hx hb d_Mod_invoke_41 (by decide) ?_
      refine lv_icmp_lt hx hb d_Mod_invoke_43 rfl (fun h43 => ?_) (fun h43 => ?_)
      · refine lv_aload_n hx hb d_Mod_invoke_53 rfl (lv_at hl 0 rfl) ?_
        refine q_get S hw ly_Mod 0 rfl rfl 2 (by decide) tb_5_45 rfl rfl d_Mod_invoke_54 ?_
        refine lv_iload_n hx hb d_Mod_invoke_57 rfl (lv_at hl 2 rfl) ?_
        refine q_ialdN (k := nR2 x) S hw 3 0 rfl rfl (by first | assumption | omega) (by decide) d_Mod_invoke_58 ?_
        refine q_cr (q_runS (As := [.int ((Q (nR2 x)).2.2)]) (rest := []) S ((c_Mod_type l D (ty4 ti) ((Q (nR2 x)).2.2)).nil _) (cw_s hts tb_5_184 k_Mod_type rfl rfl ⟨by decide, by decide⟩) hw rfl hl.1 rfl (Nat.le_of_ble_eq_true rfl) d_Mod_invoke_59 ⟨Nat.zero_le _, Nat.zero_le _⟩) ?_
        refine W.eq (g2 := F0 m9 62 ls [.int (cType ((Q (nR2 x)).2.2))]) rfl ?_
        refine lv_bipush (v := 12) hx hb d_Mod_invoke_62 (by decide) ?_
        refine lv_icmp_lt hx hb d_Mod_invoke_64 rfl (fun h64 => ?_) (fun h64 => ?_)
        · refine lv_aload_n hx hb d_Mod_invoke_74 rfl (lv_at hl 0 rfl) ?_
          refine q_get S hw ly_Mod 0 rfl rfl 2 (by decide) tb_5_45 rfl rfl d_Mod_invoke_75 ?_
          refine lv_iload_n hx hb d_Mod_invoke_78 rfl (lv_at hl 1 rfl) ?_
          refine q_ialdN (k := nR1 x) S hw 3 0 rfl rfl (by first | assumption | omega) (by decide) d_Mod_invoke_79 ?_
          refine q_cr (q_runS (As := [.int ((Q (nR1 x)).2.2)]) (rest := []) S ((c_Mod_type l D (ty4 ti) ((Q (nR1 x)).2.2)).nil _) (cw_s hts tb_5_184 k_Mod_type rfl rfl ⟨by decide, by decide⟩) hw rfl hl.1 rfl (Nat.le_of_ble_eq_true rfl) d_Mod_invoke_80 ⟨Nat.zero_le _, Nat.zero_le _⟩) ?_
          refine W.eq (g2 := F0 m9 83 ls [.int (cType ((Q (nR1 x)).2.2))]) rfl ?_
          refine lv_aload_n hx hb d_Mod_invoke_83 rfl (lv_at hl 0 rfl) ?_
          refine q_get S hw ly_Mod 0 rfl rfl 2 (by decide) tb_5_45 rfl rfl d_Mod_invoke_84 ?_
          refine lv_iload_n hx hb d_Mod_invoke_87 rfl (lv_at hl 2 rfl) ?_
          refine q_ialdN (k := nR2 x) S hw 3 0 rfl rfl (by first | assumption | omega) (by decide) d_Mod_invoke_88 ?_
          refine q_cr (q_runS (As := [.int ((Q (nR2 x)).2.2)]) (rest := [.int (cType ((Q (nR1 x)).2.2))]) S ((c_Mod_type l D (ty4 ti) ((Q (nR2 x)).2.2)).nil _) (cw_s hts tb_5_184 k_Mod_type rfl rfl ⟨by decide, by decide⟩) hw rfl hl.1 rfl (Nat.le_of_ble_eq_true rfl) d_Mod_invoke_89 ⟨Nat.zero_le _, Nat.zero_le _⟩) ?_
          refine W.eq (g2 := F0 m9 92 ls [.int (cType ((Q (nR2 x)).2.2)), .int (cType ((Q (nR1 x)).2.2))]) rfl ?_
          refine lv_icmp_eq hx hb d_Mod_invoke_92 rfl (fun h92 => ?_) (fun h92 => ?_)
          · refine lv_aload_n hx hb d_Mod_invoke_102 rfl (lv_at hl 0 rfl) ?_
            refine lv_iload_n hx hb d_Mod_invoke_103 rfl (lv_at hl 1 rfl) ?_
            refine lv_bipush (v := 8) hx hb d_Mod_invoke_104 (by decide) ?_
            refine q_cr (q_runV (As := [.int (nI (nR1 x)), .int (8 : Int32)]) (rest := []) S (c_Mod_has l D ti mo am Q w g rb rt rp ro ca va st tr th false pk xx rd to (nR1 x) (by first | decide | omega) 8 (by first | decide | omega)) (cw_v hts tb_5_187 k_Mod_has rfl rfl ⟨by decide, by decide⟩) hw 0 rfl rfl rfl hl.1 rfl (Nat.le_of_ble_eq_true rfl) d_Mod_invoke_106 ⟨Nat.zero_le _, Nat.zero_le _⟩) ?_
            refine W.eq (g2 := F0 m9 109 ls [.int (jb (cMay (Q (nR1 x)).2.2 (8 : Int32)))]) rfl ?_
            refine q_ifz_ne S d_Mod_invoke_109 rfl (fun h109 => ?_) (fun h109 => ?_)
            · refine lv_aload_n hx hb d_Mod_invoke_120 rfl (lv_at hl 0 rfl) ?_
              refine lv_iload_n hx hb d_Mod_invoke_121 rfl (lv_at hl 2 rfl) ?_
              refine lv_bipush (v := 8) hx hb d_Mod_invoke_122 (by decide) ?_
              refine q_cr (q_runV (As := [.int (nI (nR2 x)), .int (8 : Int32)]) (rest := []) S (c_Mod_has l D ti mo am Q w g rb rt rp ro ca va st tr th false pk xx rd to (nR2 x) (by first | decide | omega) 8 (by first | decide | omega)) (cw_v hts tb_5_187 k_Mod_has rfl rfl ⟨by decide, by decide⟩) hw 0 rfl rfl rfl hl.1 rfl (Nat.le_of_ble_eq_true rfl) d_Mod_invoke_124 ⟨Nat.zero_le _, Nat.zero_le _⟩) ?_
              refine W.eq (g2 := F0 m9 127 ls [.int (jb (cMay (Q (nR2 x)).2.2 (8 : Int32)))]) rfl ?_
              refine q_ifz_ne S d_Mod_invoke_127 rfl (fun h127 => ?_) (fun h127 => ?_)
              · refine lv_aload_n hx hb d_Mod_invoke_138 rfl (lv_at hl 0 rfl) ?_
                refine lv_iload_n hx hb d_Mod_invoke_139 rfl (lv_at hl 1 rfl) ?_
                refine lv_iconst (v := 1) hx hb d_Mod_invoke_140 (by decide) ?_
                refine q_cr (q_runV (As := [.int (nI (nR1 x)), .int (1 : Int32)]) (rest := []) S (c_Mod_has l D ti mo am Q w g rb rt rp ro ca va st tr th false pk xx rd to (nR1 x) (by first | decide | omega) 1 (by first | decide | omega)) (cw_v hts tb_5_187 k_Mod_has rfl rfl ⟨by decide, by decide⟩) hw 0 rfl rfl rfl hl.1 rfl (Nat.le_of_ble_eq_true rfl) d_Mod_invoke_141 ⟨Nat.zero_le _, Nat.zero_le _⟩) ?_
                refine W.eq (g2 := F0 m9 144 ls [.int (jb (cMay (Q (nR1 x)).2.2 (1 : Int32)))]) rfl ?_
                refine q_ifz_ne S d_Mod_invoke_144 rfl (fun h144 => ?_) (fun h144 => ?_)
                · refine lv_aload_n hx hb d_Mod_invoke_155 rfl (lv_at hl 0 rfl) ?_
                  refine lv_iload_n hx hb d_Mod_invoke_156 rfl (lv_at hl 2 rfl) ?_
                  refine lv_iconst (v := 1) hx hb d_Mod_invoke_157 (by decide) ?_
                  refine q_cr (q_runV (As := [.int (nI (nR2 x)), .int (1 : Int32)]) (rest := []) S (c_Mod_has l D ti mo am Q w g rb rt rp ro ca va st tr th false pk xx rd to (nR2 x) (by first | decide | omega) 1 (by first | decide | omega)) (cw_v hts tb_5_187 k_Mod_has rfl rfl ⟨by decide, by decide⟩) hw 0 rfl rfl rfl hl.1 rfl (Nat.le_of_ble_eq_true rfl) d_Mod_invoke_158 ⟨Nat.zero_le _, Nat.zero_le _⟩) ?_
                  refine W.eq (g2 := F0 m9 161 ls [.int (jb (cMay (Q (nR2 x)).2.2 (1 : Int32)))]) rfl ?_
                  refine q_ifz_eq S d_Mod_invoke_161 rfl (fun h161 => ?_) (fun h161 => ?_)
                  · refine lv_aload_n hx hb d_Mod_invoke_172 rfl (lv_at hl 0 rfl) ?_
                    refine q_get S hw ly_Mod 0 rfl rfl 1 (by decide) tb_5_44 rfl rfl d_Mod_invoke_173 ?_
                    refine lv_iload_n hx hb d_Mod_invoke_176 rfl (lv_at hl 1 rfl) ?_
                    refine q_ialdN (k := nR1 x) S hw 2 0 rfl rfl (by first | assumption | omega) (by decide) d_Mod_invoke_177 ?_
                    refine lv_bipush (v := -2) hx hb d_Mod_invoke_178 (by decide) ?_
                    refine lv_iand hx hb d_Mod_invoke_180 ?_
                    refine q_topi (z := (ivX Q x)) (rfl) ?_
                    refine lv_istore_n (lv' := [(3, .int (ivX Q x)), (0, .ref mo), (1, .int (nI (nR1 x))), (2, .int (nI (nR2 x)))]) hx hb d_Mod_invoke_181 rfl hl (by decide) rfl (fun ls hl => ?_)
                    refine lv_aload_n hx hb d_Mod_invoke_182 rfl (lv_at hl 1 rfl) ?_
                    refine lv_iload_n hx hb d_Mod_invoke_183 rfl (lv_at hl 2 rfl) ?_
                    refine lv_iload_n hx hb d_Mod_invoke_184 rfl (lv_at hl 0 rfl) ?_
                    refine q_cr (q_runS (As := [.int (ivX Q x)]) (rest := [.int (nI (nR1 x)), .ref mo]) S ((c_Mod_low l D (ty4 ti) (ivX Q x)).nil _) (cw_s hts tb_5_118 k_Mod_low rfl rfl ⟨by decide, by decide⟩) hw rfl hl.1 rfl (Nat.le_of_ble_eq_true rfl) d_Mod_invoke_185 ⟨Nat.zero_le _, Nat.zero_le _⟩) ?_
                    refine W.eq (g2 := F0 m9 188 ls [.long (cLow (ivX Q x)), .int (nI (nR1 x)), .ref mo]) rfl ?_
                    refine lv_iconst (v := 4) hx hb d_Mod_invoke_188 (by decide) ?_
                    refine q_cr (q_runV (As := [.int (nI (nR1 x)), .long (cLow (ivX Q x)), .int (4 : Int32)]) (rest := []) S (c_Mod_holds l D ti mo am Q w g rb rt rp ro ca va st tr th false pk xx rd to (nR1 x) (by first | decide | omega) (ivX Q x) (4 : Int32)) (cw_v hts tb_5_194 k_Mod_holds rfl rfl ⟨by decide, by decide⟩) hw 0 rfl rfl rfl hl.1 rfl (Nat.le_of_ble_eq_true rfl) d_Mod_invoke_189 ⟨Nat.zero_le _, Nat.zero_le _⟩) ?_
                    refine W.eq (g2 := F0 m9 192 ls [.int (jb (rHo (Q (nR1 x)) (ivX Q x) (4 : Int32)))]) rfl ?_
                    refine q_ifz_ne S d_Mod_invoke_192 rfl (fun h192 => ?_) (fun h192 => ?_)
                    · refine lv_iload_n hx hb d_Mod_invoke_202 rfl (lv_at hl 0 rfl) ?_
                      refine lv_iconst (v := 3) hx hb d_Mod_invoke_203 (by decide) ?_
                      refine lv_iand hx hb d_Mod_invoke_204 ?_
                      refine lv_if_eq hx hb d_Mod_invoke_205 rfl (fun h205 => ?_) (fun h205 => ?_)
                      · refine q_joinG (Z := Nat → Cap) (pcJ := 268) (st := []) (nL := 4) (fun _ => [(3, .int (ivX Q x)), (0, .ref mo), (1, .int (nI (nR1 x))), (2, .int (nI (nR2 x)))]) (fun z => (RMW mo am ti z w g rb rt rp ro ca va st tr th false pk xx rd to)) (fun z => iA Q z x) hw (fun z H locs ls hI268 hw hl => ?_) (fun J268 => ?_)
                        · obtain ⟨Q2, rfl⟩ : ∃ y, y = z := ⟨_, rfl⟩
                          have hiA : iA Q Q2 x := hI268
                          have hw : Lv _ _ _ _ _ (RMW mo am ti Q2 w g rb rt rp ro ca va st tr th false pk xx rd to) _ _ _ := hw
                          have hl : lv_has ls 4 [(3, .int (ivX Q x)), (0, .ref mo), (1, .int (nI (nR1 x))), (2, .int (nI (nR2 x)))] := hl
                          refine lv_aload_n hx hb d_Mod_invoke_268 rfl (lv_at hl 1 rfl) ?_
                          refine lv_bipush (v := 37) hx hb d_Mod_invoke_269 (by decide) ?_
                          refine lv_iload_n hx hb d_Mod_invoke_271 rfl (lv_at hl 0 rfl) ?_
                          refine lv_bipush (v := 32) hx hb d_Mod_invoke_272 (by decide) ?_
                          refine q_cg (q_runV (As := [.int (37 : Int32), .int (ivX Q x), .int (32 : Int32)]) (rest := []) S (c_Mod_moved l D ti mo am Q2 w g rb rt rp ro ca va st tr th false pk xx rd to 37 (by first | decide | omega) (ivX Q x) 32 (by first | decide | omega)) (cw_v hts tb_5_218 k_Mod_moved rfl rfl ⟨by decide, by decide⟩) hw 0 rfl rfl rfl hl.1 rfl (Nat.le_of_ble_eq_true rfl) d_Mod_invoke_274 ⟨Nat.zero_le _, Nat.zero_le _⟩) hw (fun z hD => qD_same hD rfl) (fun z9 H locs hp9 hw => ?_)
                          refine W.eq (g2 := F0 m9 277 ls []) rfl ?_
                          have hw : Lv _ _ _ _ _ (RMW mo am ti (rSet Q2 32 (cMvC (Q2 37) (ivX Q x))) w g rb rt rp ro ca va st tr th false pk xx rd to) _ _ _ := hw
                          refine lv_aload_n hx hb d_Mod_invoke_277 rfl (lv_at hl 1 rfl) ?_
                          refine lv_bipush (v := 38) hx hb d_Mod_invoke_278 (by decide) ?_
                          refine lv_bipush (v := 31) hx hb d_Mod_invoke_280 (by decide) ?_
                          refine q_cg (q_runV (As := [.int (38 : Int32), .int (31 : Int32)]) (rest := []) S (c_Mod_copy l D ti mo am (rSet Q2 32 (cMvC (Q2 37) (ivX Q x))) w g rb rt rp ro ca va st tr th false pk xx rd to 38 31 (by first | decide | omega) (by first | decide | omega)) (cw_v hts tb_5_206 k_Mod_copy rfl rfl ⟨by decide, by decide⟩) hw 0 rfl rfl rfl hl.1 rfl (Nat.le_of_ble_eq_true rfl) d_Mod_invoke_282 ⟨Nat.zero_le _, Nat.zero_le _⟩) hw (fun z hD => qD_same hD rfl) (fun z9 H locs hp9 hw => ?_)
                          refine W.eq (g2 := F0 m9 285 ls []) rfl ?_
                          have hw : Lv _ _ _ _ _ (RMW mo am ti (rSet (rSet Q2 32 (cMvC (Q2 37) (ivX Q x))) 31 ((rSet Q2 32 (cMvC (Q2 37) (ivX Q x))) 38)) w g rb rt rp ro ca va st tr th false pk xx rd to) _ _ _ := hw
                          refine lv_iconst (v := 0) hx hb d_Mod_invoke_285 (by decide) ?_
                          have ho : xoc (xIv fv Q x) ca va w g = ((-2 : Int32), fv, ivR Q x, ca, va, w, g) := by unfold xoc; rw [xIv_p (by unfold ivW; rw [if_neg (tne h6), if_neg (tne h22), if_neg (Int32.not_le.mpr h43), if_neg (Int32.not_le.mpr h64), if_pos h92, if_neg (tne h109), if_neg (tne h127), if_neg (tne h144), if_neg (fne h161)]), if_pos h192, if_pos h205]
                          exact hw.riz S hr hlk (rfl) d_Mod_invoke_286 ((rSet (rSet Q2 32 (cMvC (Q2 37) (ivX Q x))) 31 ((rSet Q2 32 (cMvC (Q2 37) (ivX Q x))) 38)), pk, xx, rd, to) (by rw [ho]; rfl) (by rw [ho]; exact ⟨by rw [rE_n (by decide)]; exact ag_iv hiA, iv0 hiA (c := cMvC (Q2 37) (ivX Q x)) (d := rSet Q2 32 (cMvC (Q2 37) (ivX Q x)) 38), Or.inr (Or.inl rfl)⟩) (by rw [ho, rE_n (by decide)]; first | done | rfl)
                        · refine lv_aload_n hx hb d_Mod_invoke_215 rfl (lv_at hl 1 rfl) ?_
                          refine lv_bipush (v := 38) hx hb d_Mod_invoke_216 (by decide) ?_
                          refine lv_aload_n hx hb d_Mod_invoke_218 rfl (lv_at hl 1 rfl) ?_
                          refine q_get S hw ly_Mod 0 rfl rfl 0 (by decide) tb_5_43 rfl rfl d_Mod_invoke_219 ?_
                          refine lv_iload_n hx hb d_Mod_invoke_222 rfl (lv_at hl 3 rfl) ?_
                          refine q_zaldN (k := nR2 x) S hw 1 1 rfl rfl (by first | assumption | omega) (by decide) d_Mod_invoke_223 ?_
                          refine lv_aload_n hx hb d_Mod_invoke_224 rfl (lv_at hl 1 rfl) ?_
                          refine q_get S hw ly_Mod 0 rfl rfl 1 (by decide) tb_5_44 rfl rfl d_Mod_invoke_225 ?_
                          refine lv_iload_n hx hb d_Mod_invoke_228 rfl (lv_at hl 3 rfl) ?_
                          refine q_ialdN (k := nR2 x) S hw 2 0 rfl rfl (by first | assumption | omega) (by decide) d_Mod_invoke_229 ?_
                          refine lv_aload_n hx hb d_Mod_invoke_230 rfl (lv_at hl 1 rfl) ?_
                          refine q_get S hw ly_Mod 0 rfl rfl 2 (by decide) tb_5_45 rfl rfl d_Mod_invoke_231 ?_
                          refine lv_iload_n hx hb d_Mod_invoke_234 rfl (lv_at hl 3 rfl) ?_
                          refine q_ialdN (k := nR2 x) S hw 3 0 rfl rfl (by first | assumption | omega) (by decide) d_Mod_invoke_235 ?_
                          refine lv_bipush (v := 15) hx hb d_Mod_invoke_236 (by decide) ?_
                          refine q_cr (q_runS (As := [.int ((Q (nR2 x)).2.2), .int (15 : Int32)]) (rest := [.int ((Q (nR2 x)).2.1), .int (jb ((Q (nR2 x)).1)), .int (38 : Int32), .ref mo]) S ((c_Mod_withType l D (ty4 ti) ((Q (nR2 x)).2.2) (15 : Int32)).nil _) (cw_s hts tb_5_231 k_Mod_withType rfl rfl ⟨by decide, by decide⟩) hw rfl hl.1 rfl (Nat.le_of_ble_eq_true rfl) d_Mod_invoke_238 ⟨Nat.zero_le _, Nat.zero_le _⟩) ?_
                          refine W.eq (g2 := F0 m9 241 ls [.int (cSetT ((Q (nR2 x)).2.2) (15 : Int32)), .int ((Q (nR2 x)).2.1), .int (jb ((Q (nR2 x)).1)), .int (38 : Int32), .ref mo]) rfl ?_
                          refine q_cg (q_runV (As := [.int (38 : Int32), .int (jb ((Q (nR2 x)).1)), .int ((Q (nR2 x)).2.1), .int (cSetT ((Q (nR2 x)).2.2) (15 : Int32))]) (rest := []) S (c_Mod_set l D ti mo am Q w g rb rt rp ro ca va st tr th false pk xx rd to 38 (by first | decide | omega) ((Q (nR2 x)).1) ((Q (nR2 x)).2.1) (cSetT ((Q (nR2 x)).2.2) (15 : Int32))) (cw_v hts tb_5_131 k_Mod_set rfl rfl ⟨by decide, by decide⟩) hw 0 rfl rfl rfl hl.1 rfl (Nat.le_of_ble_eq_true rfl) d_Mod_invoke_241 ⟨Nat.zero_le _, Nat.zero_le _⟩) hw (fun z hD => qD_same hD rfl) (fun z9 H locs hp9 hw => ?_)
                          refine W.eq (g2 := F0 m9 244 ls []) rfl ?_
                          have hw : Lv _ _ _ _ _ (RMW mo am ti (rSet Q 38 ((Q (nR2 x)).1, ((Q (nR2 x)).2.1), (cSetT ((Q (nR2 x)).2.2) (15 : Int32)))) w g rb rt rp ro ca va st tr th false pk xx rd to) _ _ _ := hw
                          refine lv_aload_n hx hb d_Mod_invoke_244 rfl (lv_at hl 1 rfl) ?_
                          refine lv_bipush (v := 37) hx hb d_Mod_invoke_245 (by decide) ?_
                          refine lv_iconst (v := 1) hx hb d_Mod_invoke_247 (by decide) ?_
                          refine lv_aload_n hx hb d_Mod_invoke_248 rfl (lv_at hl 1 rfl) ?_
                          refine q_get S hw ly_Mod 0 rfl rfl 1 (by decide) tb_5_44 rfl rfl d_Mod_invoke_249 ?_
                          refine lv_iload_n hx hb d_Mod_invoke_252 rfl (lv_at hl 2 rfl) ?_
                          refine q_ialdN (k := nR1 x) S hw 2 0 rfl rfl (by first | assumption | omega) (by decide) d_Mod_invoke_253 ?_
                          refine lv_aload_n hx hb d_Mod_invoke_254 rfl (lv_at hl 1 rfl) ?_
                          refine q_get S hw ly_Mod 0 rfl rfl 2 (by decide) tb_5_45 rfl rfl d_Mod_invoke_255 ?_
                          refine lv_iload_n hx hb d_Mod_invoke_258 rfl (lv_at hl 2 rfl) ?_
                          refine q_ialdN (k := nR1 x) S hw 3 0 rfl rfl (by first | assumption | omega) (by decide) d_Mod_invoke_259 ?_
                          refine lv_bipush (v := 15) hx hb d_Mod_invoke_260 (by decide) ?_
                          refine q_cr (q_runS (As := [.int (((rSet Q 38 ((Q (nR2 x)).1, ((Q (nR2 x)).2.1), (cSetT ((Q (nR2 x)).2.2) (15 : Int32)))) (nR1 x)).2.2), .int (15 : Int32)]) (rest := [.int (((rSet Q 38 ((Q (nR2 x)).1, ((Q (nR2 x)).2.1), (cSetT ((Q (nR2 x)).2.2) (15 : Int32)))) (nR1 x)).2.1), .int (1 : Int32), .int (37 : Int32), .ref mo]) S ((c_Mod_withType l D (ty4 ti) (((rSet Q 38 ((Q (nR2 x)).1, ((Q (nR2 x)).2.1), (cSetT ((Q (nR2 x)).2.2) (15 : Int32)))) (nR1 x)).2.2) (15 : Int32)).nil _) (cw_s hts tb_5_231 k_Mod_withType rfl rfl ⟨by decide, by decide⟩) hw rfl hl.1 rfl (Nat.le_of_ble_eq_true rfl) d_Mod_invoke_262 ⟨Nat.zero_le _, Nat.zero_le _⟩) ?_
                          refine W.eq (g2 := F0 m9 265 ls [.int (cSetT (((rSet Q 38 ((Q (nR2 x)).1, ((Q (nR2 x)).2.1), (cSetT ((Q (nR2 x)).2.2) (15 : Int32)))) (nR1 x)).2.2) (15 : Int32)), .int (((rSet Q 38 ((Q (nR2 x)).1, ((Q (nR2 x)).2.1), (cSetT ((Q (nR2 x)).2.2) (15 : Int32)))) (nR1 x)).2.1), .int (1 : Int32), .int (37 : Int32), .ref mo]) rfl ?_
                          refine q_cg (q_runV (As := [.int (37 : Int32), .int (jb true), .int (((rSet Q 38 ((Q (nR2 x)).1, ((Q (nR2 x)).2.1), (cSetT ((Q (nR2 x)).2.2) (15 : Int32)))) (nR1 x)).2.1), .int (cSetT (((rSet Q 38 ((Q (nR2 x)).1, ((Q (nR2 x)).2.1), (cSetT ((Q (nR2 x)).2.2) (15 : Int32)))) (nR1 x)).2.2) (15 : Int32))]) (rest := []) S (c_Mod_set l D ti mo am (rSet Q 38 ((Q (nR2 x)).1, ((Q (nR2 x)).2.1), (cSetT ((Q (nR2 x)).2.2) (15 : Int32)))) w g rb rt rp ro ca va st tr th false pk xx rd to 37 (by first | decide | omega) true (((rSet Q 38 ((Q (nR2 x)).1, ((Q (nR2 x)).2.1), (cSetT ((Q (nR2 x)).2.2) (15 : Int32)))) (nR1 x)).2.1) (cSetT (((rSet Q 38 ((Q (nR2 x)).1, ((Q (nR2 x)).2.1), (cSetT ((Q (nR2 x)).2.2) (15 : Int32)))) (nR1 x)).2.2) (15 : Int32))) (cw_v hts tb_5_131 k_Mod_set rfl rfl ⟨by decide, by decide⟩) hw 0 rfl rfl rfl hl.1 rfl (Nat.le_of_ble_eq_true rfl) d_Mod_invoke_265 ⟨Nat.zero_le _, Nat.zero_le _⟩) hw (fun z hD => qD_same hD rfl) (fun z9 H locs hp9 hw => ?_)
                          refine W.eq (g2 := F0 m9 268 ls []) rfl ?_
                          have hw : Lv _ _ _ _ _ (RMW mo am ti (rSet (rSet Q 38 ((Q (nR2 x)).1, ((Q (nR2 x)).2.1), (cSetT ((Q (nR2 x)).2.2) (15 : Int32)))) 37 (true, (((rSet Q 38 ((Q (nR2 x)).1, ((Q (nR2 x)).2.1), (cSetT ((Q (nR2 x)).2.2) (15 : Int32)))) (nR1 x)).2.1), (cSetT (((rSet Q 38 ((Q (nR2 x)).1, ((Q (nR2 x)).2.1), (cSetT ((Q (nR2 x)).2.2) (15 : Int32)))) (nR1 x)).2.2) (15 : Int32)))) w g rb rt rp ro ca va st tr th false pk xx rd to) _ _ _ := hw
                          exact J268 ((rSet (rSet Q 38 ((Q (nR2 x)).1, ((Q (nR2 x)).2.1), (cSetT ((Q (nR2 x)).2.2) (15 : Int32)))) 37 (true, (((rSet Q 38 ((Q (nR2 x)).1, ((Q (nR2 x)).2.1), (cSetT ((Q (nR2 x)).2.2) (15 : Int32)))) (nR1 x)).2.1), (cSetT (((rSet Q 38 ((Q (nR2 x)).1, ((Q (nR2 x)).2.1), (cSetT ((Q (nR2 x)).2.2) (15 : Int32)))) (nR1 x)).2.2) (15 : Int32))))) _ _ _ (iA_of h6) hw (lv_sub (l' := [(3, .int (ivX Q x)), (0, .ref mo), (1, .int (nI (nR1 x))), (2, .int (nI (nR2 x)))]) hl [0, 1, 2, 3] rfl)
                      · refine lv_aload_n hx hb d_Mod_invoke_208 rfl (lv_at hl 1 rfl) ?_
                        refine lv_iconst (v := 0) hx hb d_Mod_invoke_209 (by decide) ?_
                        refine lv_iload_n hx hb d_Mod_invoke_210 rfl (lv_at hl 0 rfl) ?_
                        refine q_cg (q_runV (As := [.int (0 : Int32), .int (ivX Q x)]) (rest := []) S (c_Mod_trap l D ti mo am Q w g rb rt rp ro ca va st tr th pk xx rd to (0 : Int32) (ivX Q x)) (cw_v hts tb_5_202 k_Mod_trap rfl rfl ⟨by decide, by decide⟩) hw 0 rfl rfl rfl hl.1 rfl (Nat.le_of_ble_eq_true rfl) d_Mod_invoke_211 ⟨Nat.zero_le _, Nat.zero_le _⟩) hw (fun z hD => qD_same hD rfl) (fun z9 H locs hp9 hw => ?_)
                        refine W.eq (g2 := F0 m9 214 ls [.int (jb false)]) rfl ?_
                        have hw : Lv _ _ _ _ _ (RMW mo am ti (kTR Q) w g rb rt rp ro (0 : Int32) (ivX Q x) st (tr + 1) th (kHa (ivX Q x) Q) pk xx rd (rTo (kTR Q 32))) _ _ _ := hw
                        have ho : xoc (xIv fv Q x) ca va w g = ((0 : Int32), (ivX Q x), Q, ca, va, w, g) := by unfold xoc; rw [xIv_p (by unfold ivW; rw [if_neg (tne h6), if_neg (tne h22), if_neg (Int32.not_le.mpr h43), if_neg (Int32.not_le.mpr h64), if_pos h92, if_neg (tne h109), if_neg (tne h127), if_neg (tne h144), if_neg (fne h161)]), if_pos h192, if_neg h205]
                        exact hw.riz S hr hlk (rfl) d_Mod_invoke_214 ((kTR Q), pk, xx, rd, (rTo (kTR Q 32))) (by rw [ho]; rfl) (by rw [ho]; exact ⟨by rw [rE_t (by decide)]; exact fun k _ => rfl, rfl, Or.inr (Or.inr (show ¬ (0 : Int32) < 0 by decide))⟩) (by rw [ho, rE_t (by decide)]; first | done | rfl)
                    · refine lv_aload_n hx hb d_Mod_invoke_195 rfl (lv_at hl 1 rfl) ?_
                      refine lv_iload_n hx hb d_Mod_invoke_196 rfl (lv_at hl 2 rfl) ?_
                      refine lv_iconst (v := 1) hx hb d_Mod_invoke_197 (by decide) ?_
                      refine q_cg (q_runV (As := [.int (nI (nR1 x)), .int (1 : Int32)]) (rest := []) S (c_Mod_broken l D ti mo am Q w g rb rt rp ro ca va st tr th pk xx rd to (nR1 x) (1 : Int32)) (cw_v hts tb_6_3 k_Mod_broken rfl rfl ⟨by decide, by decide⟩) hw 0 rfl rfl rfl hl.1 rfl (Nat.le_of_ble_eq_true rfl) d_Mod_invoke_198 ⟨Nat.zero_le _, Nat.zero_le _⟩) hw (fun z hD => qD_same hD rfl) (fun z9 H locs hp9 hw => ?_)
                      refine W.eq (g2 := F0 m9 201 ls [.int (jb false)]) rfl ?_
                      have hw : Lv _ _ _ _ _ (RMW mo am ti (kTR Q) w g rb rt rp ro 28 (32 * nI (nR1 x) + (1 : Int32)) st (tr + 1) th (kHa (32 * nI (nR1 x) + (1 : Int32)) Q) pk xx rd (rTo (kTR Q 32))) _ _ _ := hw
                      have ho : xoc (xIv fv Q x) ca va w g = ((28 : Int32), (32 * nI (nR1 x) + (1 : Int32)), Q, ca, va, w, g) := by unfold xoc; rw [xIv_p (by unfold ivW; rw [if_neg (tne h6), if_neg (tne h22), if_neg (Int32.not_le.mpr h43), if_neg (Int32.not_le.mpr h64), if_pos h92, if_neg (tne h109), if_neg (tne h127), if_neg (tne h144), if_neg (fne h161)]), if_neg (fne h192)]
                      exact hw.riz S hr hlk (rfl) d_Mod_invoke_201 ((kTR Q), pk, xx, rd, (rTo (kTR Q 32))) (by rw [ho]; rfl) (by rw [ho]; exact ⟨by rw [rE_t (by decide)]; exact fun k _ => rfl, rfl, Or.inr (Or.inr (show ¬ (28 : Int32) < 0 by decide))⟩) (by rw [ho, rE_t (by decide)]; first | done | rfl)
                  · refine lv_aload_n hx hb d_Mod_invoke_164 rfl (lv_at hl 0 rfl) ?_
                    refine lv_iload_n hx hb d_Mod_invoke_165 rfl (lv_at hl 2 rfl) ?_
                    refine lv_bipush (v := 17) hx hb d_Mod_invoke_166 (by decide) ?_
                    refine q_cg (q_runV (As := [.int (nI (nR2 x)), .int (17 : Int32)]) (rest := []) S (c_Mod_broken l D ti mo am Q w g rb rt rp ro ca va st tr th pk xx rd to (nR2 x) (17 : Int32)) (cw_v hts tb_6_3 k_Mod_broken rfl rfl ⟨by decide, by decide⟩) hw 0 rfl rfl rfl hl.1 rfl (Nat.le_of_ble_eq_true rfl) d_Mod_invoke_168 ⟨Nat.zero_le _, Nat.zero_le _⟩) hw (fun z hD => qD_same hD rfl) (fun z9 H locs hp9 hw => ?_)
                    refine W.eq (g2 := F0 m9 171 ls [.int (jb false)]) rfl ?_
                    have hw : Lv _ _ _ _ _ (RMW mo am ti (kTR Q) w g rb rt rp ro 28 (32 * nI (nR2 x) + (17 : Int32)) st (tr + 1) th (kHa (32 * nI (nR2 x) + (17 : Int32)) Q) pk xx rd (rTo (kTR Q 32))) _ _ _ := hw
                    have ho : xoc (xIv fv Q x) ca va w g = ((28 : Int32), (32 * nI (nR2 x) + (17 : Int32)), Q, ca, va, w, g) := by unfold xoc; rw [xIv_w (by unfold ivW; rw [if_neg (tne h6), if_neg (tne h22), if_neg (Int32.not_le.mpr h43), if_neg (Int32.not_le.mpr h64), if_pos h92, if_neg (tne h109), if_neg (tne h127), if_neg (tne h144), if_pos h161]) (by decide)]; first | done | rfl
                    exact hw.riz S hr hlk (rfl) d_Mod_invoke_171 ((kTR Q), pk, xx, rd, (rTo (kTR Q 32))) (by rw [ho]; rfl) (by rw [ho]; exact ⟨by rw [rE_t (by decide)]; exact fun k _ => rfl, rfl, Or.inr (Or.inr (show ¬ (28 : Int32) < 0 by decide))⟩) (by rw [ho, rE_t (by decide)]; first | done | rfl)
                · refine lv_aload_n hx hb d_Mod_invoke_147 rfl (lv_at hl 0 rfl) ?_
                  refine lv_iload_n hx hb d_Mod_invoke_148 rfl (lv_at hl 1 rfl) ?_
                  refine lv_bipush (v := 17) hx hb d_Mod_invoke_149 (by decide) ?_
                  refine q_cg (q_runV (As := [.int (nI (nR1 x)), .int (17 : Int32)]) (rest := []) S (c_Mod_broken l D ti mo am Q w g rb rt rp ro ca va st tr th pk xx rd to (nR1 x) (17 : Int32)) (cw_v hts tb_6_3 k_Mod_broken rfl rfl ⟨by decide, by decide⟩) hw 0 rfl rfl rfl hl.1 rfl (Nat.le_of_ble_eq_true rfl) d_Mod_invoke_151 ⟨Nat.zero_le _, Nat.zero_le _⟩) hw (fun z hD => qD_same hD rfl) (fun z9 H locs hp9 hw => ?_)
                  refine W.eq (g2 := F0 m9 154 ls [.int (jb false)]) rfl ?_
                  have hw : Lv _ _ _ _ _ (RMW mo am ti (kTR Q) w g rb rt rp ro 28 (32 * nI (nR1 x) + (17 : Int32)) st (tr + 1) th (kHa (32 * nI (nR1 x) + (17 : Int32)) Q) pk xx rd (rTo (kTR Q 32))) _ _ _ := hw
                  have ho : xoc (xIv fv Q x) ca va w g = ((28 : Int32), (32 * nI (nR1 x) + (17 : Int32)), Q, ca, va, w, g) := by unfold xoc; rw [xIv_w (by unfold ivW; rw [if_neg (tne h6), if_neg (tne h22), if_neg (Int32.not_le.mpr h43), if_neg (Int32.not_le.mpr h64), if_pos h92, if_neg (tne h109), if_neg (tne h127), if_pos h144]) (by decide)]; first | done | rfl
                  exact hw.riz S hr hlk (rfl) d_Mod_invoke_154 ((kTR Q), pk, xx, rd, (rTo (kTR Q 32))) (by rw [ho]; rfl) (by rw [ho]; exact ⟨by rw [rE_t (by decide)]; exact fun k _ => rfl, rfl, Or.inr (Or.inr (show ¬ (28 : Int32) < 0 by decide))⟩) (by rw [ho, rE_t (by decide)]; first | done | rfl)
              · refine lv_aload_n hx hb d_Mod_invoke_130 rfl (lv_at hl 0 rfl) ?_
                refine lv_iload_n hx hb d_Mod_invoke_131 rfl (lv_at hl 2 rfl) ?_
                refine lv_bipush (v := 25) hx hb d_Mod_invoke_132 (by decide) ?_
                refine q_cg (q_runV (As := [.int (nI (nR2 x)), .int (25 : Int32)]) (rest := []) S (c_Mod_broken l D ti mo am Q w g rb rt rp ro ca va st tr th pk xx rd to (nR2 x) (25 : Int32)) (cw_v hts tb_6_3 k_Mod_broken rfl rfl ⟨by decide, by decide⟩) hw 0 rfl rfl rfl hl.1 rfl (Nat.le_of_ble_eq_true rfl) d_Mod_invoke_134 ⟨Nat.zero_le _, Nat.zero_le _⟩) hw (fun z hD => qD_same hD rfl) (fun z9 H locs hp9 hw => ?_)
                refine W.eq (g2 := F0 m9 137 ls [.int (jb false)]) rfl ?_
                have hw : Lv _ _ _ _ _ (RMW mo am ti (kTR Q) w g rb rt rp ro 28 (32 * nI (nR2 x) + (25 : Int32)) st (tr + 1) th (kHa (32 * nI (nR2 x) + (25 : Int32)) Q) pk xx rd (rTo (kTR Q 32))) _ _ _ := hw
                have ho : xoc (xIv fv Q x) ca va w g = ((28 : Int32), (32 * nI (nR2 x) + (25 : Int32)), Q, ca, va, w, g) := by unfold xoc; rw [xIv_w (by unfold ivW; rw [if_neg (tne h6), if_neg (tne h22), if_neg (Int32.not_le.mpr h43), if_neg (Int32.not_le.mpr h64), if_pos h92, if_neg (tne h109), if_pos h127]) (by decide)]; first | done | rfl
                exact hw.riz S hr hlk (rfl) d_Mod_invoke_137 ((kTR Q), pk, xx, rd, (rTo (kTR Q 32))) (by rw [ho]; rfl) (by rw [ho]; exact ⟨by rw [rE_t (by decide)]; exact fun k _ => rfl, rfl, Or.inr (Or.inr (show ¬ (28 : Int32) < 0 by decide))⟩) (by rw [ho, rE_t (by decide)]; first | done | rfl)
            · refine lv_aload_n hx hb d_Mod_invoke_112 rfl (lv_at hl 0 rfl) ?_
              refine lv_iload_n hx hb d_Mod_invoke_113 rfl (lv_at hl 1 rfl) ?_
              refine lv_bipush (v := 25) hx hb d_Mod_invoke_114 (by decide) ?_
              refine q_cg (q_runV (As := [.int (nI (nR1 x)), .int (25 : Int32)]) (rest := []) S (c_Mod_broken l D ti mo am Q w g rb rt rp ro ca va st tr th pk xx rd to (nR1 x) (25 : Int32)) (cw_v hts tb_6_3 k_Mod_broken rfl rfl ⟨by decide, by decide⟩) hw 0 rfl rfl rfl hl.1 rfl (Nat.le_of_ble_eq_true rfl) d_Mod_invoke_116 ⟨Nat.zero_le _, Nat.zero_le _⟩) hw (fun z hD => qD_same hD rfl) (fun z9 H locs hp9 hw => ?_)
              refine W.eq (g2 := F0 m9 119 ls [.int (jb false)]) rfl ?_
              have hw : Lv _ _ _ _ _ (RMW mo am ti (kTR Q) w g rb rt rp ro 28 (32 * nI (nR1 x) + (25 : Int32)) st (tr + 1) th (kHa (32 * nI (nR1 x) + (25 : Int32)) Q) pk xx rd (rTo (kTR Q 32))) _ _ _ := hw
              have ho : xoc (xIv fv Q x) ca va w g = ((28 : Int32), (32 * nI (nR1 x) + (25 : Int32)), Q, ca, va, w, g) := by unfold xoc; rw [xIv_w (by unfold ivW; rw [if_neg (tne h6), if_neg (tne h22), if_neg (Int32.not_le.mpr h43), if_neg (Int32.not_le.mpr h64), if_pos h92, if_pos h109]) (by decide)]; first | done | rfl
              exact hw.riz S hr hlk (rfl) d_Mod_invoke_119 ((kTR Q), pk, xx, rd, (rTo (kTR Q 32))) (by rw [ho]; rfl) (by rw [ho]; exact ⟨by rw [rE_t (by decide)]; exact fun k _ => rfl, rfl, Or.inr (Or.inr (show ¬ (28 : Int32) < 0 by decide))⟩) (by rw [ho, rE_t (by decide)]; first | done | rfl)
          · refine lv_aload_n hx hb d_Mod_invoke_95 rfl (lv_at hl 0 rfl) ?_
            refine lv_iload_n hx hb d_Mod_invoke_96 rfl (lv_at hl 1 rfl) ?_
            refine lv_iconst (v := 4) hx hb d_Mod_invoke_97 (by decide) ?_
            refine q_cg (q_runV (As := [.int (nI (nR1 x)), .int (4 : Int32)]) (rest := []) S (c_Mod_broken l D ti mo am Q w g rb rt rp ro ca va st tr th pk xx rd to (nR1 x) (4 : Int32)) (cw_v hts tb_6_3 k_Mod_broken rfl rfl ⟨by decide, by decide⟩) hw 0 rfl rfl rfl hl.1 rfl (Nat.le_of_ble_eq_true rfl) d_Mod_invoke_98 ⟨Nat.zero_le _, Nat.zero_le _⟩) hw (fun z hD => qD_same hD rfl) (fun z9 H locs hp9 hw => ?_)
            refine W.eq (g2 := F0 m9 101 ls [.int (jb false)]) rfl ?_
            have hw : Lv _ _ _ _ _ (RMW mo am ti (kTR Q) w g rb rt rp ro 28 (32 * nI (nR1 x) + (4 : Int32)) st (tr + 1) th (kHa (32 * nI (nR1 x) + (4 : Int32)) Q) pk xx rd (rTo (kTR Q 32))) _ _ _ := hw
            have ho : xoc (xIv fv Q x) ca va w g = ((28 : Int32), (32 * nI (nR1 x) + (4 : Int32)), Q, ca, va, w, g) := by unfold xoc; rw [xIv_w (by unfold ivW; rw [if_neg (tne h6), if_neg (tne h22), if_neg (Int32.not_le.mpr h43), if_neg (Int32.not_le.mpr h64), if_neg h92]) (by decide)]; first | done | rfl
            exact hw.riz S hr hlk (rfl) d_Mod_invoke_101 ((kTR Q), pk, xx, rd, (rTo (kTR Q 32))) (by rw [ho]; rfl) (by rw [ho]; exact ⟨by rw [rE_t (by decide)]; exact fun k _ => rfl, rfl, Or.inr (Or.inr (show ¬ (28 : Int32) < 0 by decide))⟩) (by rw [ho, rE_t (by decide)]; first | done | rfl)
        · refine lv_aload_n hx hb d_Mod_invoke_67 rfl (lv_at hl 0 rfl) ?_
          refine lv_iload_n hx hb d_Mod_invoke_68 rfl (lv_at hl 2 rfl) ?_
          refine lv_iconst (v := 3) hx hb d_Mod_invoke_69 (by decide) ?_
          refine q_cg (q_runV (As := [.int (nI (nR2 x)), .int (3 : Int32)]) (rest := []) S (c_Mod_broken l D ti mo am Q w g rb rt rp ro ca va st tr th pk xx rd to (nR2 x) (3 : Int32)) (cw_v hts tb_6_3 k_Mod_broken rfl rfl ⟨by decide, by decide⟩) hw 0 rfl rfl rfl hl.1 rfl (Nat.le_of_ble_eq_true rfl) d_Mod_invoke_70 ⟨Nat.zero_le _, Nat.zero_le _⟩) hw (fun z hD => qD_same hD rfl) (fun z9 H locs hp9 hw => ?_)
          refine W.eq (g2 := F0 m9 73 ls [.int (jb false)]) rfl ?_
          have hw : Lv _ _ _ _ _ (RMW mo am ti (kTR Q) w g rb rt rp ro 28 (32 * nI (nR2 x) + (3 : Int32)) st (tr + 1) th (kHa (32 * nI (nR2 x) + (3 : Int32)) Q) pk xx rd (rTo (kTR Q 32))) _ _ _ := hw
          have ho : xoc (xIv fv Q x) ca va w g = ((28 : Int32), (32 * nI (nR2 x) + (3 : Int32)), Q, ca, va, w, g) := by unfold xoc; rw [xIv_w (by unfold ivW; rw [if_neg (tne h6), if_neg (tne h22), if_neg (Int32.not_le.mpr h43), if_pos (Int32.not_lt.mp h64)]) (by decide)]; first | done | rfl
          exact hw.riz S hr hlk (rfl) d_Mod_invoke_73 ((kTR Q), pk, xx, rd, (rTo (kTR Q 32))) (by rw [ho]; rfl) (by rw [ho]; exact ⟨by rw [rE_t (by decide)]; exact fun k _ => rfl, rfl, Or.inr (Or.inr (show ¬ (28 : Int32) < 0 by decide))⟩) (by rw [ho, rE_t (by decide)]; first | done | rfl)
      · refine lv_aload_n hx hb d_Mod_invoke_46 rfl (lv_at hl 0 rfl) ?_
        refine lv_iload_n hx hb d_Mod_invoke_47 rfl (lv_at hl 1 rfl) ?_
        refine lv_iconst (v := 3) hx hb d_Mod_invoke_48 (by decide) ?_
        refine q_cg (q_runV (As := [.int (nI (nR1 x)), .int (3 : Int32)]) (rest := []) S (c_Mod_broken l D ti mo am Q w g rb rt rp ro ca va st tr th pk xx rd to (nR1 x) (3 : Int32)) (cw_v hts tb_6_3 k_Mod_broken rfl rfl ⟨by decide, by decide⟩) hw 0 rfl rfl rfl hl.1 rfl (Nat.le_of_ble_eq_true rfl) d_Mod_invoke_49 ⟨Nat.zero_le _, Nat.zero_le _⟩) hw (fun z hD => qD_same hD rfl) (fun z9 H locs hp9 hw => ?_)
        refine W.eq (g2 := F0 m9 52 ls [.int (jb false)]) rfl ?_
        have hw : Lv _ _ _ _ _ (RMW mo am ti (kTR Q) w g rb rt rp ro 28 (32 * nI (nR1 x) + (3 : Int32)) st (tr + 1) th (kHa (32 * nI (nR1 x) + (3 : Int32)) Q) pk xx rd (rTo (kTR Q 32))) _ _ _ := hw
        have ho : xoc (xIv fv Q x) ca va w g = ((28 : Int32), (32 * nI (nR1 x) + (3 : Int32)), Q, ca, va, w, g) := by unfold xoc; rw [xIv_w (by unfold ivW; rw [if_neg (tne h6), if_neg (tne h22), if_pos (Int32.not_lt.mp h43)]) (by decide)]; first | done | rfl
        exact hw.riz S hr hlk (rfl) d_Mod_invoke_52 ((kTR Q), pk, xx, rd, (rTo (kTR Q 32))) (by rw [ho]; rfl) (by rw [ho]; exact ⟨by rw [rE_t (by decide)]; exact fun k _ => rfl, rfl, Or.inr (Or.inr (show ¬ (28 : Int32) < 0 by decide))⟩) (by rw [ho, rE_t (by decide)]; first | done | rfl)
    · refine lv_aload_n hx hb d_Mod_invoke_25 rfl (lv_at hl 0 rfl) ?_
      refine lv_iload_n hx hb d_Mod_invoke_26 rfl (lv_at hl 2 rfl) ?_
      refine lv_iconst (v := 2) hx hb d_Mod_invoke_27 (by decide) ?_
      refine q_cg (q_runV (As := [.int (nI (nR2 x)), .int (2 : Int32)]) (rest := []) S (c_Mod_broken l D ti mo am Q w g rb rt rp ro ca va st tr th pk xx rd to (nR2 x) (2 : Int32)) (cw_v hts tb_6_3 k_Mod_broken rfl rfl ⟨by decide, by decide⟩) hw 0 rfl rfl rfl hl.1 rfl (Nat.le_of_ble_eq_true rfl) d_Mod_invoke_28 ⟨Nat.zero_le _, Nat.zero_le _⟩) hw (fun z hD => qD_same hD rfl) (fun z9 H locs hp9 hw => ?_)
      refine W.eq (g2 := F0 m9 31 ls [.int (jb false)]) rfl ?_
      have hw : Lv _ _ _ _ _ (RMW mo am ti (kTR Q) w g rb rt rp ro 28 (32 * nI (nR2 x) + (2 : Int32)) st (tr + 1) th (kHa (32 * nI (nR2 x) + (2 : Int32)) Q) pk xx rd (rTo (kTR Q 32))) _ _ _ := hw
      have ho : xoc (xIv fv Q x) ca va w g = ((28 : Int32), (32 * nI (nR2 x) + (2 : Int32)), Q, ca, va, w, g) := by unfold xoc; rw [xIv_w (by unfold ivW; rw [if_neg (tne h6), if_pos h22]) (by decide)]; first | done | rfl
      exact hw.riz S hr hlk (rfl) d_Mod_invoke_31 ((kTR Q), pk, xx, rd, (rTo (kTR Q 32))) (by rw [ho]; rfl) (by rw [ho]; exact ⟨by rw [rE_t (by decide)]; exact fun k _ => rfl, rfl, Or.inr (Or.inr (show ¬ (28 : Int32) < 0 by decide))⟩) (by rw [ho, rE_t (by decide)]; first | done | rfl)
  · refine lv_aload_n hx hb d_Mod_invoke_9 rfl (lv_at hl 0 rfl) ?_
    refine lv_iload_n hx hb d_Mod_invoke_10 rfl (lv_at hl 1 rfl) ?_
    refine lv_iconst (v := 2) hx hb d_Mod_invoke_11 (by decide) ?_
    refine q_cg (q_runV (As := [.int (nI (nR1 x)), .int (2 : Int32)]) (rest := []) S (c_Mod_broken l D ti mo am Q w g rb rt rp ro ca va st tr th pk xx rd to (nR1 x) (2 : Int32)) (cw_v hts tb_6_3 k_Mod_broken rfl rfl ⟨by decide, by decide⟩) hw 0 rfl rfl rfl hl.1 rfl (Nat.le_of_ble_eq_true rfl) d_Mod_invoke_12 ⟨Nat.zero_le _, Nat.zero_le _⟩) hw (fun z hD => qD_same hD rfl) (fun z9 H locs hp9 hw => ?_)
    refine W.eq (g2 := F0 m9 15 ls [.int (jb false)]) rfl ?_
    have hw : Lv _ _ _ _ _ (RMW mo am ti (kTR Q) w g rb rt rp ro 28 (32 * nI (nR1 x) + (2 : Int32)) st (tr + 1) th (kHa (32 * nI (nR1 x) + (2 : Int32)) Q) pk xx rd (rTo (kTR Q 32))) _ _ _ := hw
    have ho : xoc (xIv fv Q x) ca va w g = ((28 : Int32), (32 * nI (nR1 x) + (2 : Int32)), Q, ca, va, w, g) := by unfold xoc; rw [xIv_w (by unfold ivW; rw [if_pos h6]) (by decide)]; first | done | rfl
    exact hw.riz S hr hlk (rfl) d_Mod_invoke_15 ((kTR Q), pk, xx, rd, (rTo (kTR Q 32))) (by rw [ho]; rfl) (by rw [ho]; exact ⟨by rw [rE_t (by decide)]; exact fun k _ => rfl, rfl, Or.inr (Or.inr (show ¬ (28 : Int32) < 0 by decide))⟩) (by rw [ho, rE_t (by decide)]; first | done | rfl)
set_option maxHeartbeats 4000000 in
set_option maxRecDepth 100000 in
theorem c_Mod_asked (l : Launch) (D : va_G) (ti : Nat → ClassId) (mo : Nat) (am : Nat → Nat) (Q : Nat → Cap) (w g : Nat → Int32) (rb rt : Nat → Int64) (rp : Nat → Int32) (ro ca va st tr : Int32) (pk : Int32) (xx : Bool) (rd : Int64) (to : Int32) (x : Int32) (h0 : Q 0 = (false, 0, 1000194)) : Cg l y_Mod_asked (wl y_Mod_asked b_Mod_asked 5 (some .boolean)) (rmL 4) D clz (ty4 ti) [.ref mo, .int (nI (nR2 x)), .int (nI (nR1 x)), .int ((Q (nR1 x)).2.1), .int ((Q (nR1 x)).2.2)] (RMW mo am ti Q w g rb rt rp ro ca va st tr 0 false pk xx rd to) (fun z : Int32 × Bool × Int64 => some (.int (jb (asB (nI (nR2 x)))))) (fun z => (RMW mo am ti (asQ Q (Q (nR1 x)) (nI (nR2 x))) w g rb rt rp ro ca va st tr 0 false z.1 z.2.1 z.2.2 to)) (fun _ => True) := by
  refine Cg.ofF (plainFor_of_name (by decide)) (Nat.le_of_ble_eq_true rfl) ?_
  intro p9 e9 s9 m9 b9 me9 c9 ls S hr hlk hl hw
  obtain ⟨hx, hb, hml, hown, hts⟩ := id S
  have hl : lv_has ls 5 [(0, .ref mo), (1, .int (nI (nR2 x))), (2, .int (nI (nR1 x))), (3, .int ((Q (nR1 x)).2.1)), (4, .int ((Q (nR1 x)).2.2))] := hl
  have hr1 := nR1_lt x
  have hr2 := nR2_lt x
  have hrd := nRd_lt x
  have hfn := nFn_lt x
  refine lv_iload_n hx hb d_Mod_asked_0 rfl (lv_at hl 1 rfl) ?_
  refine q_topi (z := (nI (nR2 x))) rfl ?_
  by_cases hc1_0 : (nI (nR2 x)) = (0 : Int32)
  · refine lv_tableIn hx hb d_Mod_asked_1 (by rw [hc1_0]; decide) (by rw [hc1_0]; decide) (by rw [hc1_0]; rfl) rfl ?_
    refine lv_aload_n hx hb d_Mod_asked_112 rfl (lv_at hl 0 rfl) ?_
    refine lv_bipush (v := 37) hx hb d_Mod_asked_113 (by decide) ?_
    refine lv_iload hx hb d_Mod_asked_115 (lv_at hl 4 rfl) ?_
    refine q_cr (q_runS (As := [.int ((Q (nR1 x)).2.2)]) (rest := [.int (37 : Int32), .ref mo]) S ((c_Mod_perms l D (ty4 ti) ((Q (nR1 x)).2.2)).nil _) (cw_s hts tb_5_191 k_Mod_perms rfl rfl ⟨by decide, by decide⟩) hw rfl hl.1 rfl (Nat.le_of_ble_eq_true rfl) d_Mod_asked_117 ⟨Nat.zero_le _, Nat.zero_le _⟩) ?_
    refine W.eq (g2 := F0 m9 120 ls [.int (cPerms ((Q (nR1 x)).2.2)), .int (37 : Int32), .ref mo]) rfl ?_
    refine q_cg (q_runV (As := [.int (37 : Int32), .int (cPerms ((Q (nR1 x)).2.2))]) (rest := []) S (c_Mod_number l D ti mo am Q w g rb rt rp ro ca va st tr 0 false pk xx rd to 37 (by first | decide | omega) (cPerms ((Q (nR1 x)).2.2))) (cw_v hts tb_5_214 k_Mod_number rfl rfl ⟨by decide, by decide⟩) hw 0 rfl rfl rfl hl.1 rfl (Nat.le_of_ble_eq_true rfl) d_Mod_asked_120 ⟨Nat.zero_le _, Nat.zero_le _⟩) hw (fun z hD => qD_same hD rfl) (fun z9 H locs hp9 hw => ?_)
    refine W.eq (g2 := F0 m9 123 ls []) rfl ?_
    have hw : Lv _ _ _ _ _ (RMW mo am ti (rSet Q 37 (false, (cPerms ((Q (nR1 x)).2.2)), 1000194)) w g rb rt rp ro ca va st tr 0 false pk xx rd to) _ _ _ := hw
    refine lv_iconst (v := 1) hx hb d_Mod_asked_123 (by decide) ?_
    exact hw.riz S hr hlk (rfl) d_Mod_asked_124 (pk, xx, rd) (by rw [(show asB (nI (nR2 x)) = true from by rw [hc1_0]; decide)]; rfl) (trivial) (by rw [asQ_t (show asB (nI (nR2 x)) = true from by rw [hc1_0]; decide) (show asC (Q (nR1 x)) (nI (nR2 x)) = (false, (cPerms ((Q (nR1 x)).2.2)), 1000194) from by rw [hc1_0]; rfl)])
  by_cases hc1_1 : (nI (nR2 x)) = (1 : Int32)
  · refine lv_tableIn hx hb d_Mod_asked_1 (by rw [hc1_1]; decide) (by rw [hc1_1]; decide) (by rw [hc1_1]; rfl) rfl ?_
    refine lv_aload_n hx hb d_Mod_asked_125 rfl (lv_at hl 0 rfl) ?_
    refine lv_bipush (v := 37) hx hb d_Mod_asked_126 (by decide) ?_
    refine q_join (pcJ := 162) (st := [.int (insV (Q (nR1 x)) 1), .int (37 : Int32), .ref mo]) (lv' := [(0, .ref mo), (1, .int (nI (nR2 x))), (2, .int (nI (nR1 x))), (3, .int ((Q (nR1 x)).2.1)), (4, .int ((Q (nR1 x)).2.2))]) (nL := 5) (fun ls hl => ?_) (fun J162 => ?_)
    · refine q_cg (q_runV (As := [.int (37 : Int32), .int (insV (Q (nR1 x)) 1)]) (rest := []) S (c_Mod_number l D ti mo am Q w g rb rt rp ro ca va st tr 0 false pk xx rd to 37 (by first | decide | omega) (insV (Q (nR1 x)) 1)) (cw_v hts tb_5_214 k_Mod_number rfl rfl ⟨by decide, by decide⟩) hw 0 rfl rfl rfl hl.1 rfl (Nat.le_of_ble_eq_true rfl) d_Mod_asked_162 ⟨Nat.zero_le _, Nat.zero_le _⟩) hw (fun z hD => qD_same hD rfl) (fun z9 H locs hp9 hw => ?_)
      refine W.eq (g2 := F0 m9 165 ls []) rfl ?_
      have hw : Lv _ _ _ _ _ (RMW mo am ti (rSet Q 37 (false, (insV (Q (nR1 x)) 1), 1000194)) w g rb rt rp ro ca va st tr 0 false pk xx rd to) _ _ _ := hw
      refine lv_iconst (v := 1) hx hb d_Mod_asked_165 (by decide) ?_
      exact hw.riz S hr hlk (rfl) d_Mod_asked_166 (pk, xx, rd) (by rw [(show asB (nI (nR2 x)) = true from by rw [hc1_1]; decide)]; rfl) (trivial) (by rw [asQ_t (show asB (nI (nR2 x)) = true from by rw [hc1_1]; decide) (show asC (Q (nR1 x)) (nI (nR2 x)) = (false, (insV (Q (nR1 x)) 1), 1000194) from by rw [hc1_1]; rfl)])
    · refine lv_iload hx hb d_Mod_asked_128 (lv_at hl 4 rfl) ?_
      refine q_cr (q_runS (As := [.int ((Q (nR1 x)).2.2)]) (rest := [.int (37 : Int32), .ref mo]) S ((c_Mod_type l D (ty4 ti) ((Q (nR1 x)).2.2)).nil _) (cw_s hts tb_5_184 k_Mod_type rfl rfl ⟨by decide, by decide⟩) hw rfl hl.1 rfl (Nat.le_of_ble_eq_true rfl) d_Mod_asked_130 ⟨Nat.zero_le _, Nat.zero_le _⟩) ?_
      refine W.eq (g2 := F0 m9 133 ls [.int (cType ((Q (nR1 x)).2.2)), .int (37 : Int32), .ref mo]) rfl ?_
      refine lv_bipush (v := 15) hx hb d_Mod_asked_133 (by decide) ?_
      refine lv_icmp_ne hx hb d_Mod_asked_135 rfl (fun h135 => ?_) (fun h135 => ?_)
      · refine lv_iload hx hb d_Mod_asked_142 (lv_at hl 4 rfl) ?_
        refine q_cr (q_runS (As := [.int ((Q (nR1 x)).2.2)]) (rest := [.int (37 : Int32), .ref mo]) S ((c_Mod_type l D (ty4 ti) ((Q (nR1 x)).2.2)).nil _) (cw_s hts tb_5_184 k_Mod_type rfl rfl ⟨by decide, by decide⟩) hw rfl hl.1 rfl (Nat.le_of_ble_eq_true rfl) d_Mod_asked_144 ⟨Nat.zero_le _, Nat.zero_le _⟩) ?_
        refine W.eq (g2 := F0 m9 147 ls [.int (cType ((Q (nR1 x)).2.2)), .int (37 : Int32), .ref mo]) rfl ?_
        refine lv_bipush (v := 14) hx hb d_Mod_asked_147 (by decide) ?_
        refine lv_icmp_ne hx hb d_Mod_asked_149 rfl (fun h149 => ?_) (fun h149 => ?_)
        · refine lv_iload hx hb d_Mod_asked_157 (lv_at hl 4 rfl) ?_
          refine q_cr (q_runS (As := [.int ((Q (nR1 x)).2.2)]) (rest := [.int (37 : Int32), .ref mo]) S ((c_Mod_type l D (ty4 ti) ((Q (nR1 x)).2.2)).nil _) (cw_s hts tb_5_184 k_Mod_type rfl rfl ⟨by decide, by decide⟩) hw rfl hl.1 rfl (Nat.le_of_ble_eq_true rfl) d_Mod_asked_159 ⟨Nat.zero_le _, Nat.zero_le _⟩) ?_
          refine W.eq (g2 := F0 m9 162 ls [.int (cType ((Q (nR1 x)).2.2)), .int (37 : Int32), .ref mo]) rfl ?_
          refine q_topi (z := (insV (Q (nR1 x)) 1)) (by rw [show insV (Q (nR1 x)) 1 = (if cType (Q (nR1 x)).2.2 < 14 then cType (Q (nR1 x)).2.2 else cType (Q (nR1 x)).2.2 - 16) from rfl, iv1, if_neg h135, if_neg h149]) ?_
          exact J162 _ (lv_sub (l' := [(0, .ref mo), (1, .int (nI (nR2 x))), (2, .int (nI (nR1 x))), (3, .int ((Q (nR1 x)).2.1)), (4, .int ((Q (nR1 x)).2.2))]) hl [0, 1, 2, 3, 4] rfl)
        · refine lv_bipush (v := -2) hx hb d_Mod_asked_152 (by decide) ?_
          refine lv_goto hx hb d_Mod_asked_154 rfl ?_
          refine q_topi (z := (insV (Q (nR1 x)) 1)) (by rw [show insV (Q (nR1 x)) 1 = (if cType (Q (nR1 x)).2.2 < 14 then cType (Q (nR1 x)).2.2 else cType (Q (nR1 x)).2.2 - 16) from rfl, iv1, if_neg h135, if_pos h149]) ?_
          exact J162 _ (lv_sub (l' := [(0, .ref mo), (1, .int (nI (nR2 x))), (2, .int (nI (nR1 x))), (3, .int ((Q (nR1 x)).2.1)), (4, .int ((Q (nR1 x)).2.2))]) hl [0, 1, 2, 3, 4] rfl)
      · refine lv_iconst (v := -1) hx hb d_Mod_asked_138 (by decide) ?_
        refine lv_goto hx hb d_Mod_asked_139 rfl ?_
        refine q_topi (z := (insV (Q (nR1 x)) 1)) (by rw [show insV (Q (nR1 x)) 1 = (if cType (Q (nR1 x)).2.2 < 14 then cType (Q (nR1 x)).2.2 else cType (Q (nR1 x)).2.2 - 16) from rfl, iv1, if_pos h135]) ?_
        exact J162 _ (lv_sub (l' := [(0, .ref mo), (1, .int (nI (nR2 x))), (2, .int (nI (nR1 x))), (3, .int ((Q (nR1 x)).2.1)), (4, .int ((Q (nR1 x)).2.2))]) hl [0, 1, 2, 3, 4] rfl)
  by_cases hc1_2 : (nI (nR2 x)) = (2 : Int32)
  · refine lv_tableIn hx hb d_Mod_asked_1 (by rw [hc1_2]; decide) (by rw [hc1_2]; decide) (by rw [hc1_2]; rfl) rfl ?_
    refine lv_aload_n hx hb d_Mod_asked_167 rfl (lv_at hl 0 rfl) ?_
    refine lv_bipush (v := 37) hx hb d_Mod_asked_168 (by decide) ?_
    refine lv_iload hx hb d_Mod_asked_170 (lv_at hl 4 rfl) ?_
    refine lv_iload_n hx hb d_Mod_asked_172 rfl (lv_at hl 3 rfl) ?_
    refine q_cr (q_runS (As := [.int ((Q (nR1 x)).2.2), .int ((Q (nR1 x)).2.1)]) (rest := [.int (37 : Int32), .ref mo]) S ((c_Mod_base l D (ty4 ti) ((Q (nR1 x)).2.2) ((Q (nR1 x)).2.1)).nil _) (cw_s hts tb_5_135 k_Mod_base rfl rfl ⟨by decide, by decide⟩) hw rfl hl.1 rfl (Nat.le_of_ble_eq_true rfl) d_Mod_asked_173 ⟨Nat.zero_le _, Nat.zero_le _⟩) ?_
    refine W.eq (g2 := F0 m9 176 ls [.long (cbase ((Q (nR1 x)).2.2) ((Q (nR1 x)).2.1)), .int (37 : Int32), .ref mo]) rfl ?_
    refine lv_l2i (v := ((cbase ((Q (nR1 x)).2.2) ((Q (nR1 x)).2.1)).toInt32)) hx hb d_Mod_asked_176 rfl ?_
    refine q_cg (q_runV (As := [.int (37 : Int32), .int ((cbase ((Q (nR1 x)).2.2) ((Q (nR1 x)).2.1)).toInt32)]) (rest := []) S (c_Mod_number l D ti mo am Q w g rb rt rp ro ca va st tr 0 false pk xx rd to 37 (by first | decide | omega) ((cbase ((Q (nR1 x)).2.2) ((Q (nR1 x)).2.1)).toInt32)) (cw_v hts tb_5_214 k_Mod_number rfl rfl ⟨by decide, by decide⟩) hw 0 rfl rfl rfl hl.1 rfl (Nat.le_of_ble_eq_true rfl) d_Mod_asked_177 ⟨Nat.zero_le _, Nat.zero_le _⟩) hw (fun z hD => qD_same hD rfl) (fun z9 H locs hp9 hw => ?_)
    refine W.eq (g2 := F0 m9 180 ls []) rfl ?_
    have hw : Lv _ _ _ _ _ (RMW mo am ti (rSet Q 37 (false, ((cbase ((Q (nR1 x)).2.2) ((Q (nR1 x)).2.1)).toInt32), 1000194)) w g rb rt rp ro ca va st tr 0 false pk xx rd to) _ _ _ := hw
    refine lv_iconst (v := 1) hx hb d_Mod_asked_180 (by decide) ?_
    exact hw.riz S hr hlk (rfl) d_Mod_asked_181 (pk, xx, rd) (by rw [(show asB (nI (nR2 x)) = true from by rw [hc1_2]; decide)]; rfl) (trivial) (by rw [asQ_t (show asB (nI (nR2 x)) = true from by rw [hc1_2]; decide) (show asC (Q (nR1 x)) (nI (nR2 x)) = (false, ((cbase ((Q (nR1 x)).2.2) ((Q (nR1 x)).2.1)).toInt32), 1000194) from by rw [hc1_2]; rfl)])
  by_cases hc1_3 : (nI (nR2 x)) = (3 : Int32)
  · refine lv_tableIn hx hb d_Mod_asked_1 (by rw [hc1_3]; decide) (by rw [hc1_3]; decide) (by rw [hc1_3]; rfl) rfl ?_
    refine lv_aload_n hx hb d_Mod_asked_182 rfl (lv_at hl 0 rfl) ?_
    refine lv_bipush (v := 37) hx hb d_Mod_asked_183 (by decide) ?_
    refine lv_iload hx hb d_Mod_asked_185 (lv_at hl 4 rfl) ?_
    refine lv_iload_n hx hb d_Mod_asked_187 rfl (lv_at hl 3 rfl) ?_
    refine q_cr (q_runS (As := [.int ((Q (nR1 x)).2.2), .int ((Q (nR1 x)).2.1)]) (rest := [.int (37 : Int32), .ref mo]) S ((c_Mod_top l D (ty4 ti) ((Q (nR1 x)).2.2) ((Q (nR1 x)).2.1)).nil _) (cw_s hts tb_5_153 k_Mod_top rfl rfl ⟨by decide, by decide⟩) hw rfl hl.1 rfl (Nat.le_of_ble_eq_true rfl) d_Mod_asked_188 ⟨Nat.zero_le _, Nat.zero_le _⟩) ?_
    refine W.eq (g2 := F0 m9 191 ls [.long (ctop ((Q (nR1 x)).2.2) ((Q (nR1 x)).2.1)), .int (37 : Int32), .ref mo]) rfl ?_
    refine lv_iload hx hb d_Mod_asked_191 (lv_at hl 4 rfl) ?_
    refine lv_iload_n hx hb d_Mod_asked_193 rfl (lv_at hl 3 rfl) ?_
    refine q_cr (q_runS (As := [.int ((Q (nR1 x)).2.2), .int ((Q (nR1 x)).2.1)]) (rest := [.long (ctop ((Q (nR1 x)).2.2) ((Q (nR1 x)).2.1)), .int (37 : Int32), .ref mo]) S ((c_Mod_base l D (ty4 ti) ((Q (nR1 x)).2.2) ((Q (nR1 x)).2.1)).nil _) (cw_s hts tb_5_135 k_Mod_base rfl rfl ⟨by decide, by decide⟩) hw rfl hl.1 rfl (Nat.le_of_ble_eq_true rfl) d_Mod_asked_194 ⟨Nat.zero_le _, Nat.zero_le _⟩) ?_
    refine W.eq (g2 := F0 m9 197 ls [.long (cbase ((Q (nR1 x)).2.2) ((Q (nR1 x)).2.1)), .long (ctop ((Q (nR1 x)).2.2) ((Q (nR1 x)).2.1)), .int (37 : Int32), .ref mo]) rfl ?_
    refine lv_lsub hx hb d_Mod_asked_197 ?_
    refine q_cr (q_runS (As := [.long ((ctop ((Q (nR1 x)).2.2) ((Q (nR1 x)).2.1)) - (cbase ((Q (nR1 x)).2.2) ((Q (nR1 x)).2.1)))]) (rest := [.int (37 : Int32), .ref mo]) S ((c_Mod_most l D (ty4 ti) (cbase (Q (nR1 x)).2.2 (Q (nR1 x)).2.1) (ctop (Q (nR1 x)).2.2 (Q (nR1 x)).2.1)).nil _) (cw_s hts tb_6_53 k_Mod_most rfl rfl ⟨by decide, by decide⟩) hw rfl hl.1 rfl (Nat.le_of_ble_eq_true rfl) d_Mod_asked_198 ⟨Nat.zero_le _, Nat.zero_le _⟩) ?_
    refine W.eq (g2 := F0 m9 201 ls [.int (cLen (cbase (Q (nR1 x)).2.2 (Q (nR1 x)).2.1) (ctop (Q (nR1 x)).2.2 (Q (nR1 x)).2.1)), .int (37 : Int32), .ref mo]) rfl ?_
    refine q_cg (q_runV (As := [.int (37 : Int32), .int (cLen (cbase (Q (nR1 x)).2.2 (Q (nR1 x)).2.1) (ctop (Q (nR1 x)).2.2 (Q (nR1 x)).2.1))]) (rest := []) S (c_Mod_number l D ti mo am Q w g rb rt rp ro ca va st tr 0 false pk xx rd to 37 (by first | decide | omega) (cLen (cbase (Q (nR1 x)).2.2 (Q (nR1 x)).2.1) (ctop (Q (nR1 x)).2.2 (Q (nR1 x)).2.1))) (cw_v hts tb_5_214 k_Mod_number rfl rfl ⟨by decide, by decide⟩) hw 0 rfl rfl rfl hl.1 rfl (Nat.le_of_ble_eq_true rfl) d_Mod_asked_201 ⟨Nat.zero_le _, Nat.zero_le _⟩) hw (fun z hD => qD_same hD rfl) (fun z9 H locs hp9 hw => ?_)
    refine W.eq (g2 := F0 m9 204 ls []) rfl ?_
    have hw : Lv _ _ _ _ _ (RMW mo am ti (rSet Q 37 (false, (cLen (cbase (Q (nR1 x)).2.2 (Q (nR1 x)).2.1) (ctop (Q (nR1 x)).2.2 (Q (nR1 x)).2.1)), 1000194)) w g rb rt rp ro ca va st tr 0 false pk xx rd to) _ _ _ := hw
    refine lv_iconst (v := 1) hx hb d_Mod_asked_204 (by decide) ?_
    exact hw.riz S hr hlk (rfl) d_Mod_asked_205 (pk, xx, rd) (by rw [(show asB (nI (nR2 x)) = true from by rw [hc1_3]; decide)]; rfl) (trivial) (by rw [asQ_t (show asB (nI (nR2 x)) = true from by rw [hc1_3]; decide) (show asC (Q (nR1 x)) (nI (nR2 x)) = (false, (cLen (cbase (Q (nR1 x)).2.2 (Q (nR1 x)).2.1) (ctop (Q (nR1 x)).2.2 (Q (nR1 x)).2.1)), 1000194) from by rw [hc1_3]; rfl)])
  by_cases hc1_4 : (nI (nR2 x)) = (4 : Int32)
  · refine lv_tableIn hx hb d_Mod_asked_1 (by rw [hc1_4]; decide) (by rw [hc1_4]; decide) (by rw [hc1_4]; rfl) rfl ?_
    refine lv_aload_n hx hb d_Mod_asked_206 rfl (lv_at hl 0 rfl) ?_
    refine lv_bipush (v := 37) hx hb d_Mod_asked_207 (by decide) ?_
    refine q_join (pcJ := 223) (st := [.int (insV (Q (nR1 x)) 4), .int (37 : Int32), .ref mo]) (lv' := [(0, .ref mo), (1, .int (nI (nR2 x))), (2, .int (nI (nR1 x))), (3, .int ((Q (nR1 x)).2.1)), (4, .int ((Q (nR1 x)).2.2))]) (nL := 5) (fun ls hl => ?_) (fun J223 => ?_)
    · refine q_cg (q_runV (As := [.int (37 : Int32), .int (insV (Q (nR1 x)) 4)]) (rest := []) S (c_Mod_number l D ti mo am Q w g rb rt rp ro ca va st tr 0 false pk xx rd to 37 (by first | decide | omega) (insV (Q (nR1 x)) 4)) (cw_v hts tb_5_214 k_Mod_number rfl rfl ⟨by decide, by decide⟩) hw 0 rfl rfl rfl hl.1 rfl (Nat.le_of_ble_eq_true rfl) d_Mod_asked_223 ⟨Nat.zero_le _, Nat.zero_le _⟩) hw (fun z hD => qD_same hD rfl) (fun z9 H locs hp9 hw => ?_)
      refine W.eq (g2 := F0 m9 226 ls []) rfl ?_
      have hw : Lv _ _ _ _ _ (RMW mo am ti (rSet Q 37 (false, (insV (Q (nR1 x)) 4), 1000194)) w g rb rt rp ro ca va st tr 0 false pk xx rd to) _ _ _ := hw
      refine lv_iconst (v := 1) hx hb d_Mod_asked_226 (by decide) ?_
      exact hw.riz S hr hlk (rfl) d_Mod_asked_227 (pk, xx, rd) (by rw [(show asB (nI (nR2 x)) = true from by rw [hc1_4]; decide)]; rfl) (trivial) (by rw [asQ_t (show asB (nI (nR2 x)) = true from by rw [hc1_4]; decide) (show asC (Q (nR1 x)) (nI (nR2 x)) = (false, (insV (Q (nR1 x)) 4), 1000194) from by rw [hc1_4]; rfl)])
    · refine lv_aload_n hx hb d_Mod_asked_209 rfl (lv_at hl 0 rfl) ?_
      refine q_get S hw ly_Mod 0 rfl rfl 0 (by decide) tb_5_43 rfl rfl d_Mod_asked_210 ?_
      refine lv_iload_n hx hb d_Mod_asked_213 rfl (lv_at hl 2 rfl) ?_
      refine q_zaldN (k := nR1 x) S hw 1 1 rfl rfl (by first | assumption | omega) (by decide) d_Mod_asked_214 ?_
      refine q_ifz_eq S d_Mod_asked_215 rfl (fun h215 => ?_) (fun h215 => ?_)
      · refine lv_iconst (v := 0) hx hb d_Mod_asked_222 (by decide) ?_
        refine q_topi (z := (insV (Q (nR1 x)) 4)) (by rw [show insV (Q (nR1 x)) 4 = (if (Q (nR1 x)).1 = false then 0 else 1) from rfl, if_pos h215]) ?_
        exact J223 _ (lv_sub (l' := [(0, .ref mo), (1, .int (nI (nR2 x))), (2, .int (nI (nR1 x))), (3, .int ((Q (nR1 x)).2.1)), (4, .int ((Q (nR1 x)).2.2))]) hl [0, 1, 2, 3, 4] rfl)
      · refine lv_iconst (v := 1) hx hb d_Mod_asked_218 (by decide) ?_
        refine lv_goto hx hb d_Mod_asked_219 rfl ?_
        refine q_topi (z := (insV (Q (nR1 x)) 4)) (by rw [show insV (Q (nR1 x)) 4 = (if (Q (nR1 x)).1 = false then 0 else 1) from rfl, if_neg (tne h215)]) ?_
        exact J223 _ (lv_sub (l' := [(0, .ref mo), (1, .int (nI (nR2 x))), (2, .int (nI (nR1 x))), (3, .int ((Q (nR1 x)).2.1)), (4, .int ((Q (nR1 x)).2.2))]) hl [0, 1, 2, 3, 4] rfl)
  by_cases hc1_5 : (nI (nR2 x)) = (5 : Int32)
  · refine lv_tableIn hx hb d_Mod_asked_1 (by rw [hc1_5]; decide) (by rw [hc1_5]; decide) (by rw [hc1_5]; rfl) rfl ?_
    refine lv_aload_n hx hb d_Mod_asked_228 rfl (lv_at hl 0 rfl) ?_
    refine lv_bipush (v := 37) hx hb d_Mod_asked_229 (by decide) ?_
    refine q_join (pcJ := 246) (st := [.int (insV (Q (nR1 x)) 5), .int (37 : Int32), .ref mo]) (lv' := [(0, .ref mo), (1, .int (nI (nR2 x))), (2, .int (nI (nR1 x))), (3, .int ((Q (nR1 x)).2.1)), (4, .int ((Q (nR1 x)).2.2))]) (nL := 5) (fun ls hl => ?_) (fun J246 => ?_)
    · refine q_cg (q_runV (As := [.int (37 : Int32), .int (insV (Q (nR1 x)) 5)]) (rest := []) S (c_Mod_number l D ti mo am Q w g rb rt rp ro ca va st tr 0 false pk xx rd to 37 (by first | decide | omega) (insV (Q (nR1 x)) 5)) (cw_v hts tb_5_214 k_Mod_number rfl rfl ⟨by decide, by decide⟩) hw 0 rfl rfl rfl hl.1 rfl (Nat.le_of_ble_eq_true rfl) d_Mod_asked_246 ⟨Nat.zero_le _, Nat.zero_le _⟩) hw (fun z hD => qD_same hD rfl) (fun z9 H locs hp9 hw => ?_)
      refine W.eq (g2 := F0 m9 249 ls []) rfl ?_
      have hw : Lv _ _ _ _ _ (RMW mo am ti (rSet Q 37 (false, (insV (Q (nR1 x)) 5), 1000194)) w g rb rt rp ro ca va st tr 0 false pk xx rd to) _ _ _ := hw
      refine lv_iconst (v := 1) hx hb d_Mod_asked_249 (by decide) ?_
      exact hw.riz S hr hlk (rfl) d_Mod_asked_250 (pk, xx, rd) (by rw [(show asB (nI (nR2 x)) = true from by rw [hc1_5]; decide)]; rfl) (trivial) (by rw [asQ_t (show asB (nI (nR2 x)) = true from by rw [hc1_5]; decide) (show asC (Q (nR1 x)) (nI (nR2 x)) = (false, (insV (Q (nR1 x)) 5), 1000194) from by rw [hc1_5]; rfl)])
    · refine lv_iload hx hb d_Mod_asked_231 (lv_at hl 4 rfl) ?_
      refine q_cr (q_runS (As := [.int ((Q (nR1 x)).2.2)]) (rest := [.int (37 : Int32), .ref mo]) S ((c_Mod_type l D (ty4 ti) ((Q (nR1 x)).2.2)).nil _) (cw_s hts tb_5_184 k_Mod_type rfl rfl ⟨by decide, by decide⟩) hw rfl hl.1 rfl (Nat.le_of_ble_eq_true rfl) d_Mod_asked_233 ⟨Nat.zero_le _, Nat.zero_le _⟩) ?_
      refine W.eq (g2 := F0 m9 236 ls [.int (cType ((Q (nR1 x)).2.2)), .int (37 : Int32), .ref mo]) rfl ?_
      refine lv_bipush (v := 15) hx hb d_Mod_asked_236 (by decide) ?_
      refine lv_icmp_ne hx hb d_Mod_asked_238 rfl (fun h238 => ?_) (fun h238 => ?_)
      · refine lv_iconst (v := 1) hx hb d_Mod_asked_245 (by decide) ?_
        refine q_topi (z := (insV (Q (nR1 x)) 5)) (by rw [show insV (Q (nR1 x)) 5 = (if cOpen (Q (nR1 x)).2.2 = false then 1 else 0) from rfl]; unfold cOpen; rw [if_neg h238]; rfl) ?_
        exact J246 _ (lv_sub (l' := [(0, .ref mo), (1, .int (nI (nR2 x))), (2, .int (nI (nR1 x))), (3, .int ((Q (nR1 x)).2.1)), (4, .int ((Q (nR1 x)).2.2))]) hl [0, 1, 2, 3, 4] rfl)
      · refine lv_iconst (v := 0) hx hb d_Mod_asked_241 (by decide) ?_
        refine lv_goto hx hb d_Mod_asked_242 rfl ?_
        refine q_topi (z := (insV (Q (nR1 x)) 5)) (by rw [show insV (Q (nR1 x)) 5 = (if cOpen (Q (nR1 x)).2.2 = false then 1 else 0) from rfl]; unfold cOpen; rw [if_pos h238]; rfl) ?_
        exact J246 _ (lv_sub (l' := [(0, .ref mo), (1, .int (nI (nR2 x))), (2, .int (nI (nR1 x))), (3, .int ((Q (nR1 x)).2.1)), (4, .int ((Q (nR1 x)).2.2))]) hl [0, 1, 2, 3, 4] rfl)
  by_cases hc1_6 : (nI (nR2 x)) = (6 : Int32)
  · refine lv_tableIn hx hb d_Mod_asked_1 (by rw [hc1_6]; decide) (by rw [hc1_6]; decide) (by rw [hc1_6]; rfl) rfl ?_
    refine lv_aload_n hx hb d_Mod_asked_251 rfl (lv_at hl 0 rfl) ?_
    refine lv_bipush (v := 37) hx hb d_Mod_asked_252 (by decide) ?_
    refine lv_iload_n hx hb d_Mod_asked_254 rfl (lv_at hl 3 rfl) ?_
    refine lv_iload hx hb d_Mod_asked_255 (lv_at hl 4 rfl) ?_
    refine lv_iload_n hx hb d_Mod_asked_257 rfl (lv_at hl 3 rfl) ?_
    refine q_cr (q_runS (As := [.int ((Q (nR1 x)).2.2), .int ((Q (nR1 x)).2.1)]) (rest := [.int ((Q (nR1 x)).2.1), .int (37 : Int32), .ref mo]) S ((c_Mod_base l D (ty4 ti) ((Q (nR1 x)).2.2) ((Q (nR1 x)).2.1)).nil _) (cw_s hts tb_5_135 k_Mod_base rfl rfl ⟨by decide, by decide⟩) hw rfl hl.1 rfl (Nat.le_of_ble_eq_true rfl) d_Mod_asked_258 ⟨Nat.zero_le _, Nat.zero_le _⟩) ?_
    refine W.eq (g2 := F0 m9 261 ls [.long (cbase ((Q (nR1 x)).2.2) ((Q (nR1 x)).2.1)), .int ((Q (nR1 x)).2.1), .int (37 : Int32), .ref mo]) rfl ?_
    refine lv_l2i (v := ((cbase ((Q (nR1 x)).2.2) ((Q (nR1 x)).2.1)).toInt32)) hx hb d_Mod_asked_261 rfl ?_
    refine lv_isub hx hb d_Mod_asked_262 ?_
    refine q_cg (q_runV (As := [.int (37 : Int32), .int (((Q (nR1 x)).2.1) - ((cbase ((Q (nR1 x)).2.2) ((Q (nR1 x)).2.1)).toInt32))]) (rest := []) S (c_Mod_number l D ti mo am Q w g rb rt rp ro ca va st tr 0 false pk xx rd to 37 (by first | decide | omega) (((Q (nR1 x)).2.1) - ((cbase ((Q (nR1 x)).2.2) ((Q (nR1 x)).2.1)).toInt32))) (cw_v hts tb_5_214 k_Mod_number rfl rfl ⟨by decide, by decide⟩) hw 0 rfl rfl rfl hl.1 rfl (Nat.le_of_ble_eq_true rfl) d_Mod_asked_263 ⟨Nat.zero_le _, Nat.zero_le _⟩) hw (fun z hD => qD_same hD rfl) (fun z9 H locs hp9 hw => ?_)
    refine W.eq (g2 := F0 m9 266 ls []) rfl ?_
    have hw : Lv _ _ _ _ _ (RMW mo am ti (rSet Q 37 (false, (((Q (nR1 x)).2.1) - ((cbase ((Q (nR1 x)).2.2) ((Q (nR1 x)).2.1)).toInt32)), 1000194)) w g rb rt rp ro ca va st tr 0 false pk xx rd to) _ _ _ := hw
    refine lv_iconst (v := 1) hx hb d_Mod_asked_266 (by decide) ?_
    exact hw.riz S hr hlk (rfl) d_Mod_asked_267 (pk, xx, rd) (by rw [(show asB (nI (nR2 x)) = true from by rw [hc1_6]; decide)]; rfl) (trivial) (by rw [asQ_t (show asB (nI (nR2 x)) = true from by rw [hc1_6]; decide) (show asC (Q (nR1 x)) (nI (nR2 x)) = (false, (((Q (nR1 x)).2.1) - ((cbase ((Q (nR1 x)).2.2) ((Q (nR1 x)).2.1)).toInt32)), 1000194) from by rw [hc1_6]; rfl)])
  by_cases hc1_8 : (nI (nR2 x)) = (8 : Int32)
  · refine lv_tableIn hx hb d_Mod_asked_1 (by rw [hc1_8]; decide) (by rw [hc1_8]; decide) (by rw [hc1_8]; rfl) rfl ?_
    refine lv_aload_n hx hb d_Mod_asked_268 rfl (lv_at hl 0 rfl) ?_
    refine lv_iconst (v := 0) hx hb d_Mod_asked_269 (by decide) ?_
    refine lv_iload_n hx hb d_Mod_asked_270 rfl (lv_at hl 3 rfl) ?_
    refine q_cr (q_runS (As := [.int ((Q (nR1 x)).2.1)]) (rest := [.int (0 : Int32), .ref mo]) S ((c_Mod_low l D (ty4 ti) ((Q (nR1 x)).2.1)).nil _) (cw_s hts tb_5_118 k_Mod_low rfl rfl ⟨by decide, by decide⟩) hw rfl hl.1 rfl (Nat.le_of_ble_eq_true rfl) d_Mod_asked_271 ⟨Nat.zero_le _, Nat.zero_le _⟩) ?_
    refine W.eq (g2 := F0 m9 274 ls [.long (cLow ((Q (nR1 x)).2.1)), .int (0 : Int32), .ref mo]) rfl ?_
    refine q_cg (q_runV (As := [.int (0 : Int32), .long (cLow ((Q (nR1 x)).2.1))]) (rest := []) S (c_Mod_packP l D ti mo am Q w g rb rt rp ro ca va st tr 0 false pk xx rd to 0 (cLow ((Q (nR1 x)).2.1)) (fit0 _)) (cw_v hts tb_6_56 k_Mod_packP rfl rfl ⟨by decide, by decide⟩) hw 0 rfl rfl rfl hl.1 rfl (Nat.le_of_ble_eq_true rfl) d_Mod_asked_274 ⟨Nat.zero_le _, Nat.zero_le _⟩) hw (fun z hD => qD_same hD rfl) (fun z9 H locs hp9 hw => ?_)
    refine W.eq (g2 := F0 m9 277 ls [.int ((kBits (cLow 0) (cLow 0 + (cLow ((Q (nR1 x)).2.1)))) ||| (if (kEx (cLow 0) (cLow 0 + (cLow ((Q (nR1 x)).2.1)))) = false then 0 else 32768))]) rfl ?_
    have hw : Lv _ _ _ _ _ (RMW mo am ti Q w g rb rt rp ro ca va st tr 0 false (kBits (cLow 0) (cLow 0 + (cLow ((Q (nR1 x)).2.1)))) (kEx (cLow 0) (cLow 0 + (cLow ((Q (nR1 x)).2.1)))) (kLen (cLow 0) (cLow 0 + (cLow ((Q (nR1 x)).2.1)))) to) _ _ _ := hw
    rw [show cLow 0 = 0 from by decide, Int64.zero_add] at hw
    have hw : Lv _ _ _ _ _ (RMW mo am ti Q w g rb rt rp ro ca va st tr 0 false (kBits 0 (cLow ((Q (nR1 x)).2.1))) (kEx 0 (cLow ((Q (nR1 x)).2.1))) (kLen 0 (cLow ((Q (nR1 x)).2.1))) to) _ _ _ := hw
    refine lv_pop hx hb d_Mod_asked_277 rfl ?_
    refine lv_aload_n hx hb d_Mod_asked_278 rfl (lv_at hl 0 rfl) ?_
    refine lv_bipush (v := 37) hx hb d_Mod_asked_279 (by decide) ?_
    refine lv_aload_n hx hb d_Mod_asked_281 rfl (lv_at hl 0 rfl) ?_
    refine q_get S hw ly_Mod 0 rfl rfl 17 (by decide) tb_5_60 rfl rfl d_Mod_asked_282 ?_
    refine lv_l2i (v := ((kLen 0 (cLow ((Q (nR1 x)).2.1))).toInt32)) hx hb d_Mod_asked_285 rfl ?_
    refine q_cg (q_runV (As := [.int (37 : Int32), .int ((kLen 0 (cLow ((Q (nR1 x)).2.1))).toInt32)]) (rest := []) S (c_Mod_number l D ti mo am Q w g rb rt rp ro ca va st tr 0 false (kBits 0 (cLow ((Q (nR1 x)).2.1))) (kEx 0 (cLow ((Q (nR1 x)).2.1))) (kLen 0 (cLow ((Q (nR1 x)).2.1))) to 37 (by first | decide | omega) ((kLen 0 (cLow ((Q (nR1 x)).2.1))).toInt32)) (cw_v hts tb_5_214 k_Mod_number rfl rfl ⟨by decide, by decide⟩) hw 0 rfl rfl rfl hl.1 rfl (Nat.le_of_ble_eq_true rfl) d_Mod_asked_286 ⟨Nat.zero_le _, Nat.zero_le _⟩) hw (fun z hD => qD_same hD rfl) (fun z9 H locs hp9 hw => ?_)
    refine W.eq (g2 := F0 m9 289 ls []) rfl ?_
    have hw : Lv _ _ _ _ _ (RMW mo am ti (rSet Q 37 (false, ((kLen 0 (cLow ((Q (nR1 x)).2.1))).toInt32), 1000194)) w g rb rt rp ro ca va st tr 0 false (kBits 0 (cLow ((Q (nR1 x)).2.1))) (kEx 0 (cLow ((Q (nR1 x)).2.1))) (kLen 0 (cLow ((Q (nR1 x)).2.1))) to) _ _ _ := hw
    refine lv_iconst (v := 1) hx hb d_Mod_asked_289 (by decide) ?_
    exact hw.riz S hr hlk (rfl) d_Mod_asked_290 ((kBits 0 (cLow ((Q (nR1 x)).2.1))), (kEx 0 (cLow ((Q (nR1 x)).2.1))), (kLen 0 (cLow ((Q (nR1 x)).2.1)))) (by rw [(show asB (nI (nR2 x)) = true from by rw [hc1_8]; decide)]; rfl) (trivial) (by rw [asQ_t (show asB (nI (nR2 x)) = true from by rw [hc1_8]; decide) (show asC (Q (nR1 x)) (nI (nR2 x)) = (false, ((kLen 0 (cLow ((Q (nR1 x)).2.1))).toInt32), 1000194) from by rw [hc1_8]; rfl)])
  by_cases hc1_9 : (nI (nR2 x)) = (9 : Int32)
  · refine lv_tableIn hx hb d_Mod_asked_1 (by rw [hc1_9]; decide) (by rw [hc1_9]; decide) (by rw [hc1_9]; rfl) rfl ?_
    refine lv_aload_n hx hb d_Mod_asked_291 rfl (lv_at hl 0 rfl) ?_
    refine lv_iconst (v := 0) hx hb d_Mod_asked_292 (by decide) ?_
    refine lv_iload_n hx hb d_Mod_asked_293 rfl (lv_at hl 3 rfl) ?_
    refine q_cr (q_runS (As := [.int ((Q (nR1 x)).2.1)]) (rest := [.int (0 : Int32), .ref mo]) S ((c_Mod_low l D (ty4 ti) ((Q (nR1 x)).2.1)).nil _) (cw_s hts tb_5_118 k_Mod_low rfl rfl ⟨by decide, by decide⟩) hw rfl hl.1 rfl (Nat.le_of_ble_eq_true rfl) d_Mod_asked_294 ⟨Nat.zero_le _, Nat.zero_le _⟩) ?_
    refine W.eq (g2 := F0 m9 297 ls [.long (cLow ((Q (nR1 x)).2.1)), .int (0 : Int32), .ref mo]) rfl ?_
    refine q_cg (q_runV (As := [.int (0 : Int32), .long (cLow ((Q (nR1 x)).2.1))]) (rest := []) S (c_Mod_packP l D ti mo am Q w g rb rt rp ro ca va st tr 0 false pk xx rd to 0 (cLow ((Q (nR1 x)).2.1)) (fit0 _)) (cw_v hts tb_6_56 k_Mod_packP rfl rfl ⟨by decide, by decide⟩) hw 0 rfl rfl rfl hl.1 rfl (Nat.le_of_ble_eq_true rfl) d_Mod_asked_297 ⟨Nat.zero_le _, Nat.zero_le _⟩) hw (fun z hD => qD_same hD rfl) (fun z9 H locs hp9 hw => ?_)
    refine W.eq (g2 := F0 m9 300 ls [.int ((kBits (cLow 0) (cLow 0 + (cLow ((Q (nR1 x)).2.1)))) ||| (if (kEx (cLow 0) (cLow 0 + (cLow ((Q (nR1 x)).2.1)))) = false then 0 else 32768))]) rfl ?_
    have hw : Lv _ _ _ _ _ (RMW mo am ti Q w g rb rt rp ro ca va st tr 0 false (kBits (cLow 0) (cLow 0 + (cLow ((Q (nR1 x)).2.1)))) (kEx (cLow 0) (cLow 0 + (cLow ((Q (nR1 x)).2.1)))) (kLen (cLow 0) (cLow 0 + (cLow ((Q (nR1 x)).2.1)))) to) _ _ _ := hw
    rw [show cLow 0 = 0 from by decide, Int64.zero_add] at hw
    have hw : Lv _ _ _ _ _ (RMW mo am ti Q w g rb rt rp ro ca va st tr 0 false (kBits 0 (cLow ((Q (nR1 x)).2.1))) (kEx 0 (cLow ((Q (nR1 x)).2.1))) (kLen 0 (cLow ((Q (nR1 x)).2.1))) to) _ _ _ := hw
    refine lv_pop hx hb d_Mod_asked_300 rfl ?_
    refine lv_aload_n hx hb d_Mod_asked_301 rfl (lv_at hl 0 rfl) ?_
    refine lv_bipush (v := 37) hx hb d_Mod_asked_302 (by decide) ?_
    refine q_join (pcJ := 329) (st := [.int (insV (Q (nR1 x)) 9), .int (37 : Int32), .ref mo]) (lv' := [(0, .ref mo), (1, .int (nI (nR2 x))), (2, .int (nI (nR1 x))), (3, .int ((Q (nR1 x)).2.1)), (4, .int ((Q (nR1 x)).2.2))]) (nL := 5) (fun ls hl => ?_) (fun J329 => ?_)
    · refine q_cg (q_runV (As := [.int (37 : Int32), .int (insV (Q (nR1 x)) 9)]) (rest := []) S (c_Mod_number l D ti mo am Q w g rb rt rp ro ca va st tr 0 false (kBits 0 (cLow ((Q (nR1 x)).2.1))) (kEx 0 (cLow ((Q (nR1 x)).2.1))) (kLen 0 (cLow ((Q (nR1 x)).2.1))) to 37 (by first | decide | omega) (insV (Q (nR1 x)) 9)) (cw_v hts tb_5_214 k_Mod_number rfl rfl ⟨by decide, by decide⟩) hw 0 rfl rfl rfl hl.1 rfl (Nat.le_of_ble_eq_true rfl) d_Mod_asked_329 ⟨Nat.zero_le _, Nat.zero_le _⟩) hw (fun z hD => qD_same hD rfl) (fun z9 H locs hp9 hw => ?_)
      refine W.eq (g2 := F0 m9 332 ls []) rfl ?_
      have hw : Lv _ _ _ _ _ (RMW mo am ti (rSet Q 37 (false, (insV (Q (nR1 x)) 9), 1000194)) w g rb rt rp ro ca va st tr 0 false (kBits 0 (cLow ((Q (nR1 x)).2.1))) (kEx 0 (cLow ((Q (nR1 x)).2.1))) (kLen 0 (cLow ((Q (nR1 x)).2.1))) to) _ _ _ := hw
      refine lv_iconst (v := 1) hx hb d_Mod_asked_332 (by decide) ?_
      exact hw.riz S hr hlk (rfl) d_Mod_asked_333 ((kBits 0 (cLow ((Q (nR1 x)).2.1))), (kEx 0 (cLow ((Q (nR1 x)).2.1))), (kLen 0 (cLow ((Q (nR1 x)).2.1)))) (by rw [(show asB (nI (nR2 x)) = true from by rw [hc1_9]; decide)]; rfl) (trivial) (by rw [asQ_t (show asB (nI (nR2 x)) = true from by rw [hc1_9]; decide) (show asC (Q (nR1 x)) (nI (nR2 x)) = (false, (insV (Q (nR1 x)) 9), 1000194) from by rw [hc1_9]; rfl)])
    · refine lv_aload_n hx hb d_Mod_asked_304 rfl (lv_at hl 0 rfl) ?_
      refine q_get S hw ly_Mod 0 rfl rfl 15 (by decide) tb_5_58 rfl rfl d_Mod_asked_305 ?_
      refine lv_bipush (v := 14) hx hb d_Mod_asked_308 (by decide) ?_
      refine lv_ishr hx hb d_Mod_asked_310 ?_
      refine lv_if_ne hx hb d_Mod_asked_311 rfl (fun h311 => ?_) (fun h311 => ?_)
      · refine lv_iconst (v := -1) hx hb d_Mod_asked_318 (by decide) ?_
        refine lv_aload_n hx hb d_Mod_asked_319 rfl (lv_at hl 0 rfl) ?_
        refine q_get S hw ly_Mod 0 rfl rfl 15 (by decide) tb_5_58 rfl rfl d_Mod_asked_320 ?_
        refine q_cr (q_runS (As := [.int (kBits 0 (cLow ((Q (nR1 x)).2.1)))]) (rest := [.int (-1 : Int32), .int (37 : Int32), .ref mo]) S ((c_Mod_scale l D (ty4 ti) (kBits 0 (cLow ((Q (nR1 x)).2.1)))).nil _) (cw_s hts tb_5_141 k_Mod_scale rfl rfl ⟨by decide, by decide⟩) hw rfl hl.1 rfl (Nat.le_of_ble_eq_true rfl) d_Mod_asked_323 ⟨Nat.zero_le _, Nat.zero_le _⟩) ?_
        refine W.eq (g2 := F0 m9 326 ls [.int (nI (bE (mN (kBits 0 (cLow ((Q (nR1 x)).2.1)))))), .int (-1 : Int32), .int (37 : Int32), .ref mo]) rfl ?_
        refine lv_iconst (v := 3) hx hb d_Mod_asked_326 (by decide) ?_
        refine lv_iadd hx hb d_Mod_asked_327 ?_
        refine q_topi (z := nI ((bE (mN (kBits 0 (cLow ((Q (nR1 x)).2.1))))) + 3)) (nI_add (bE (mN (kBits 0 (cLow ((Q (nR1 x)).2.1))))) 3) ?_
        refine lv_ishl hx hb d_Mod_asked_328 ?_
        refine q_topi (z := (insV (Q (nR1 x)) 9)) (by rw [show insV (Q (nR1 x)) 9 = rpM (Q (nR1 x)).2.1 from rfl, rpM_1 h311]) ?_
        exact J329 _ (lv_sub (l' := [(0, .ref mo), (1, .int (nI (nR2 x))), (2, .int (nI (nR1 x))), (3, .int ((Q (nR1 x)).2.1)), (4, .int ((Q (nR1 x)).2.2))]) hl [0, 1, 2, 3, 4] rfl)
      · refine lv_iconst (v := -1) hx hb d_Mod_asked_314 (by decide) ?_
        refine lv_goto hx hb d_Mod_asked_315 rfl ?_
        refine q_topi (z := (insV (Q (nR1 x)) 9)) (by rw [show insV (Q (nR1 x)) 9 = rpM (Q (nR1 x)).2.1 from rfl, rpM_0 h311]) ?_
        exact J329 _ (lv_sub (l' := [(0, .ref mo), (1, .int (nI (nR2 x))), (2, .int (nI (nR1 x))), (3, .int ((Q (nR1 x)).2.1)), (4, .int ((Q (nR1 x)).2.2))]) hl [0, 1, 2, 3, 4] rfl)
  by_cases hc1_10 : (nI (nR2 x)) = (10 : Int32)
  · refine lv_tableIn hx hb d_Mod_asked_1 (by rw [hc1_10]; decide) (by rw [hc1_10]; decide) (by rw [hc1_10]; rfl) rfl ?_
    refine lv_aload_n hx hb d_Mod_asked_334 rfl (lv_at hl 0 rfl) ?_
    refine lv_iload_n hx hb d_Mod_asked_335 rfl (lv_at hl 2 rfl) ?_
    refine lv_bipush (v := 37) hx hb d_Mod_asked_336 (by decide) ?_
    refine q_cg (q_runV (As := [.int (nI (nR1 x)), .int (37 : Int32)]) (rest := []) S (c_Mod_copy l D ti mo am Q w g rb rt rp ro ca va st tr 0 false pk xx rd to (nR1 x) 37 (by first | decide | omega) (by first | decide | omega)) (cw_v hts tb_5_206 k_Mod_copy rfl rfl ⟨by decide, by decide⟩) hw 0 rfl rfl rfl hl.1 rfl (Nat.le_of_ble_eq_true rfl) d_Mod_asked_338 ⟨Nat.zero_le _, Nat.zero_le _⟩) hw (fun z hD => qD_same hD rfl) (fun z9 H locs hp9 hw => ?_)
    refine W.eq (g2 := F0 m9 341 ls []) rfl ?_
    have hw : Lv _ _ _ _ _ (RMW mo am ti (rSet Q 37 (Q (nR1 x))) w g rb rt rp ro ca va st tr 0 false pk xx rd to) _ _ _ := hw
    refine lv_iload_n hx hb d_Mod_asked_341 rfl (lv_at hl 2 rfl) ?_
    refine lv_if_ne hx hb d_Mod_asked_342 rfl (fun h342 => ?_) (fun h342 => ?_)
    · refine lv_iconst (v := 1) hx hb d_Mod_asked_352 (by decide) ?_
      exact hw.riz S hr hlk (rfl) d_Mod_asked_353 (pk, xx, rd) (by rw [(show asB (nI (nR2 x)) = true from by rw [hc1_10]; decide)]; rfl) (trivial) (by rw [asQ_t (show asB (nI (nR2 x)) = true from by rw [hc1_10]; decide) (show asC (Q (nR1 x)) (nI (nR2 x)) = (Q (nR1 x)) from by rw [hc1_10]; rfl)])
    · refine lv_aload_n hx hb d_Mod_asked_345 rfl (lv_at hl 0 rfl) ?_
      refine lv_bipush (v := 37) hx hb d_Mod_asked_346 (by decide) ?_
      refine lv_iconst (v := 0) hx hb d_Mod_asked_348 (by decide) ?_
      refine q_cg (q_runV (As := [.int (37 : Int32), .int (0 : Int32)]) (rest := []) S (c_Mod_number l D ti mo am (rSet Q 37 (Q (nR1 x))) w g rb rt rp ro ca va st tr 0 false pk xx rd to 37 (by first | decide | omega) (0 : Int32)) (cw_v hts tb_5_214 k_Mod_number rfl rfl ⟨by decide, by decide⟩) hw 0 rfl rfl rfl hl.1 rfl (Nat.le_of_ble_eq_true rfl) d_Mod_asked_349 ⟨Nat.zero_le _, Nat.zero_le _⟩) hw (fun z hD => qD_same hD rfl) (fun z9 H locs hp9 hw => ?_)
      refine W.eq (g2 := F0 m9 352 ls []) rfl ?_
      have hw : Lv _ _ _ _ _ (RMW mo am ti (rSet (rSet Q 37 (Q (nR1 x))) 37 (false, (0 : Int32), 1000194)) w g rb rt rp ro ca va st tr 0 false pk xx rd to) _ _ _ := hw
      refine lv_iconst (v := 1) hx hb d_Mod_asked_352 (by decide) ?_
      exact hw.riz S hr hlk (rfl) d_Mod_asked_353 (pk, xx, rd) (by rw [(show asB (nI (nR2 x)) = true from by rw [hc1_10]; decide)]; rfl) (trivial) (by rw [rS2, asQ_t (show asB (nI (nR2 x)) = true from by rw [hc1_10]; decide) (show asC (Q (nR1 x)) (nI (nR2 x)) = (false, 0, 1000194) from by rw [hc1_10]; show Q (nR1 x) = _; rw [n_0 _ hr1 h342]; exact h0)])
  by_cases hc1_11 : (nI (nR2 x)) = (11 : Int32)
  · refine lv_tableIn hx hb d_Mod_asked_1 (by rw [hc1_11]; decide) (by rw [hc1_11]; decide) (by rw [hc1_11]; rfl) rfl ?_
    refine lv_aload_n hx hb d_Mod_asked_354 rfl (lv_at hl 0 rfl) ?_
    refine lv_bipush (v := 37) hx hb d_Mod_asked_355 (by decide) ?_
    refine lv_iconst (v := 0) hx hb d_Mod_asked_357 (by decide) ?_
    refine lv_iload_n hx hb d_Mod_asked_358 rfl (lv_at hl 3 rfl) ?_
    refine lv_iload hx hb d_Mod_asked_359 (lv_at hl 4 rfl) ?_
    refine q_cg (q_runV (As := [.int (37 : Int32), .int (jb false), .int ((Q (nR1 x)).2.1), .int ((Q (nR1 x)).2.2)]) (rest := []) S (c_Mod_set l D ti mo am Q w g rb rt rp ro ca va st tr 0 false pk xx rd to 37 (by first | decide | omega) false ((Q (nR1 x)).2.1) ((Q (nR1 x)).2.2)) (cw_v hts tb_5_131 k_Mod_set rfl rfl ⟨by decide, by decide⟩) hw 0 rfl rfl rfl hl.1 rfl (Nat.le_of_ble_eq_true rfl) d_Mod_asked_361 ⟨Nat.zero_le _, Nat.zero_le _⟩) hw (fun z hD => qD_same hD rfl) (fun z9 H locs hp9 hw => ?_)
    refine W.eq (g2 := F0 m9 364 ls []) rfl ?_
    have hw : Lv _ _ _ _ _ (RMW mo am ti (rSet Q 37 (false, ((Q (nR1 x)).2.1), ((Q (nR1 x)).2.2))) w g rb rt rp ro ca va st tr 0 false pk xx rd to) _ _ _ := hw
    refine lv_iconst (v := 1) hx hb d_Mod_asked_364 (by decide) ?_
    exact hw.riz S hr hlk (rfl) d_Mod_asked_365 (pk, xx, rd) (by rw [(show asB (nI (nR2 x)) = true from by rw [hc1_11]; decide)]; rfl) (trivial) (by rw [asQ_t (show asB (nI (nR2 x)) = true from by rw [hc1_11]; decide) (show asC (Q (nR1 x)) (nI (nR2 x)) = (false, ((Q (nR1 x)).2.1), ((Q (nR1 x)).2.2)) from by rw [hc1_11]; rfl)])
  by_cases hc1_15 : (nI (nR2 x)) = (15 : Int32)
  · refine lv_tableIn hx hb d_Mod_asked_1 (by rw [hc1_15]; decide) (by rw [hc1_15]; decide) (by rw [hc1_15]; rfl) rfl ?_
    refine lv_aload_n hx hb d_Mod_asked_366 rfl (lv_at hl 0 rfl) ?_
    refine lv_bipush (v := 37) hx hb d_Mod_asked_367 (by decide) ?_
    refine lv_iload_n hx hb d_Mod_asked_369 rfl (lv_at hl 3 rfl) ?_
    refine q_cg (q_runV (As := [.int (37 : Int32), .int ((Q (nR1 x)).2.1)]) (rest := []) S (c_Mod_number l D ti mo am Q w g rb rt rp ro ca va st tr 0 false pk xx rd to 37 (by first | decide | omega) ((Q (nR1 x)).2.1)) (cw_v hts tb_5_214 k_Mod_number rfl rfl ⟨by decide, by decide⟩) hw 0 rfl rfl rfl hl.1 rfl (Nat.le_of_ble_eq_true rfl) d_Mod_asked_370 ⟨Nat.zero_le _, Nat.zero_le _⟩) hw (fun z hD => qD_same hD rfl) (fun z9 H locs hp9 hw => ?_)
    refine W.eq (g2 := F0 m9 373 ls []) rfl ?_
    have hw : Lv _ _ _ _ _ (RMW mo am ti (rSet Q 37 (false, ((Q (nR1 x)).2.1), 1000194)) w g rb rt rp ro ca va st tr 0 false pk xx rd to) _ _ _ := hw
    refine lv_iconst (v := 1) hx hb d_Mod_asked_373 (by decide) ?_
    exact hw.riz S hr hlk (rfl) d_Mod_asked_374 (pk, xx, rd) (by rw [(show asB (nI (nR2 x)) = true from by rw [hc1_15]; decide)]; rfl) (trivial) (by rw [asQ_t (show asB (nI (nR2 x)) = true from by rw [hc1_15]; decide) (show asC (Q (nR1 x)) (nI (nR2 x)) = (false, ((Q (nR1 x)).2.1), 1000194) from by rw [hc1_15]; rfl)])
  by_cases hc1_17 : (nI (nR2 x)) = (17 : Int32)
  · refine lv_tableIn hx hb d_Mod_asked_1 (by rw [hc1_17]; decide) (by rw [hc1_17]; decide) (by rw [hc1_17]; rfl) rfl ?_
    refine lv_aload_n hx hb d_Mod_asked_375 rfl (lv_at hl 0 rfl) ?_
    refine lv_bipush (v := 37) hx hb d_Mod_asked_376 (by decide) ?_
    refine q_join (pcJ := 409) (st := [.int (jb (kEn (Q (nR1 x)))), .int (37 : Int32), .ref mo]) (lv' := [(0, .ref mo), (1, .int (nI (nR2 x))), (2, .int (nI (nR1 x))), (3, .int ((Q (nR1 x)).2.1)), (4, .int ((Q (nR1 x)).2.2))]) (nL := 5) (fun ls hl => ?_) (fun J409 => ?_)
    · refine lv_iload_n hx hb d_Mod_asked_409 rfl (lv_at hl 3 rfl) ?_
      refine lv_iload hx hb d_Mod_asked_410 (lv_at hl 4 rfl) ?_
      refine lv_bipush (v := 14) hx hb d_Mod_asked_412 (by decide) ?_
      refine q_cr (q_runS (As := [.int ((Q (nR1 x)).2.2), .int (14 : Int32)]) (rest := [.int ((Q (nR1 x)).2.1), .int (jb (kEn (Q (nR1 x)))), .int (37 : Int32), .ref mo]) S ((c_Mod_withType l D (ty4 ti) ((Q (nR1 x)).2.2) (14 : Int32)).nil _) (cw_s hts tb_5_231 k_Mod_withType rfl rfl ⟨by decide, by decide⟩) hw rfl hl.1 rfl (Nat.le_of_ble_eq_true rfl) d_Mod_asked_414 ⟨Nat.zero_le _, Nat.zero_le _⟩) ?_
      refine W.eq (g2 := F0 m9 417 ls [.int (cSetT ((Q (nR1 x)).2.2) (14 : Int32)), .int ((Q (nR1 x)).2.1), .int (jb (kEn (Q (nR1 x)))), .int (37 : Int32), .ref mo]) rfl ?_
      refine q_cg (q_runV (As := [.int (37 : Int32), .int (jb (kEn (Q (nR1 x)))), .int ((Q (nR1 x)).2.1), .int (cSetT ((Q (nR1 x)).2.2) (14 : Int32))]) (rest := []) S (c_Mod_set l D ti mo am Q w g rb rt rp ro ca va st tr 0 false pk xx rd to 37 (by first | decide | omega) (kEn (Q (nR1 x))) ((Q (nR1 x)).2.1) (cSetT ((Q (nR1 x)).2.2) (14 : Int32))) (cw_v hts tb_5_131 k_Mod_set rfl rfl ⟨by decide, by decide⟩) hw 0 rfl rfl rfl hl.1 rfl (Nat.le_of_ble_eq_true rfl) d_Mod_asked_417 ⟨Nat.zero_le _, Nat.zero_le _⟩) hw (fun z hD => qD_same hD rfl) (fun z9 H locs hp9 hw => ?_)
      refine W.eq (g2 := F0 m9 420 ls []) rfl ?_
      have hw : Lv _ _ _ _ _ (RMW mo am ti (rSet Q 37 ((kEn (Q (nR1 x))), ((Q (nR1 x)).2.1), (cSetT ((Q (nR1 x)).2.2) (14 : Int32)))) w g rb rt rp ro ca va st tr 0 false pk xx rd to) _ _ _ := hw
      refine lv_iconst (v := 1) hx hb d_Mod_asked_420 (by decide) ?_
      exact hw.riz S hr hlk (rfl) d_Mod_asked_421 (pk, xx, rd) (by rw [(show asB (nI (nR2 x)) = true from by rw [hc1_17]; decide)]; rfl) (trivial) (by rw [asQ_t (show asB (nI (nR2 x)) = true from by rw [hc1_17]; decide) (show asC (Q (nR1 x)) (nI (nR2 x)) = ((kEn (Q (nR1 x))), ((Q (nR1 x)).2.1), (cSetT ((Q (nR1 x)).2.2) (14 : Int32))) from by rw [hc1_17]; rfl)])
    · refine lv_aload_n hx hb d_Mod_asked_378 rfl (lv_at hl 0 rfl) ?_
      refine q_get S hw ly_Mod 0 rfl rfl 0 (by decide) tb_5_43 rfl rfl d_Mod_asked_379 ?_
      refine lv_iload_n hx hb d_Mod_asked_382 rfl (lv_at hl 2 rfl) ?_
      refine q_zaldN (k := nR1 x) S hw 1 1 rfl rfl (by first | assumption | omega) (by decide) d_Mod_asked_383 ?_
      refine q_ifz_eq S d_Mod_asked_384 rfl (fun h384 => ?_) (fun h384 => ?_)
      · refine lv_iconst (v := 0) hx hb d_Mod_asked_408 (by decide) ?_
        refine q_topi (z := (jb (kEn (Q (nR1 x))))) (by simp [kEn, jb, h384]) ?_
        exact J409 _ (lv_sub (l' := [(0, .ref mo), (1, .int (nI (nR2 x))), (2, .int (nI (nR1 x))), (3, .int ((Q (nR1 x)).2.1)), (4, .int ((Q (nR1 x)).2.2))]) hl [0, 1, 2, 3, 4] rfl)
      · refine lv_aload_n hx hb d_Mod_asked_387 rfl (lv_at hl 0 rfl) ?_
        refine lv_iload_n hx hb d_Mod_asked_388 rfl (lv_at hl 2 rfl) ?_
        refine q_cr (q_runV (As := [.int (nI (nR1 x))]) (rest := [.int (37 : Int32), .ref mo]) S (c_Mod_isOpen l D ti mo am Q w g rb rt rp ro ca va st tr 0 false pk xx rd to (nR1 x) (by first | decide | omega)) (cw_v hts tb_5_180 k_Mod_isOpen rfl rfl ⟨by decide, by decide⟩) hw 0 rfl rfl rfl hl.1 rfl (Nat.le_of_ble_eq_true rfl) d_Mod_asked_389 ⟨Nat.zero_le _, Nat.zero_le _⟩) ?_
        refine W.eq (g2 := F0 m9 392 ls [.int (jb (cOpen (Q (nR1 x)).2.2)), .int (37 : Int32), .ref mo]) rfl ?_
        refine q_ifz_eq S d_Mod_asked_392 rfl (fun h392 => ?_) (fun h392 => ?_)
        · refine lv_iconst (v := 0) hx hb d_Mod_asked_408 (by decide) ?_
          refine q_topi (z := (jb (kEn (Q (nR1 x))))) (by simp [kEn, jb, h384, h392]) ?_
          exact J409 _ (lv_sub (l' := [(0, .ref mo), (1, .int (nI (nR2 x))), (2, .int (nI (nR1 x))), (3, .int ((Q (nR1 x)).2.1)), (4, .int ((Q (nR1 x)).2.2))]) hl [0, 1, 2, 3, 4] rfl)
        · refine lv_aload_n hx hb d_Mod_asked_395 rfl (lv_at hl 0 rfl) ?_
          refine lv_iload_n hx hb d_Mod_asked_396 rfl (lv_at hl 2 rfl) ?_
          refine lv_iconst (v := 1) hx hb d_Mod_asked_397 (by decide) ?_
          refine q_cr (q_runV (As := [.int (nI (nR1 x)), .int (1 : Int32)]) (rest := [.int (37 : Int32), .ref mo]) S (c_Mod_has l D ti mo am Q w g rb rt rp ro ca va st tr 0 false pk xx rd to (nR1 x) (by first | decide | omega) 1 (by first | decide | omega)) (cw_v hts tb_5_187 k_Mod_has rfl rfl ⟨by decide, by decide⟩) hw 0 rfl rfl rfl hl.1 rfl (Nat.le_of_ble_eq_true rfl) d_Mod_asked_398 ⟨Nat.zero_le _, Nat.zero_le _⟩) ?_
          refine W.eq (g2 := F0 m9 401 ls [.int (jb (cMay (Q (nR1 x)).2.2 (1 : Int32))), .int (37 : Int32), .ref mo]) rfl ?_
          refine q_ifz_eq S d_Mod_asked_401 rfl (fun h401 => ?_) (fun h401 => ?_)
          · refine lv_iconst (v := 0) hx hb d_Mod_asked_408 (by decide) ?_
            refine q_topi (z := (jb (kEn (Q (nR1 x))))) (by simp [kEn, jb, h384, h392, h401]) ?_
            exact J409 _ (lv_sub (l' := [(0, .ref mo), (1, .int (nI (nR2 x))), (2, .int (nI (nR1 x))), (3, .int ((Q (nR1 x)).2.1)), (4, .int ((Q (nR1 x)).2.2))]) hl [0, 1, 2, 3, 4] rfl)
          · refine lv_iconst (v := 1) hx hb d_Mod_asked_404 (by decide) ?_
            refine lv_goto hx hb d_Mod_asked_405 rfl ?_
            refine q_topi (z := (jb (kEn (Q (nR1 x))))) (by simp [kEn, jb, h384, h392, h401]) ?_
            exact J409 _ (lv_sub (l' := [(0, .ref mo), (1, .int (nI (nR2 x))), (2, .int (nI (nR1 x))), (3, .int ((Q (nR1 x)).2.1)), (4, .int ((Q (nR1 x)).2.2))]) hl [0, 1, 2, 3, 4] rfl)
  by_cases hc1_23 : (nI (nR2 x)) = (23 : Int32)
  · refine lv_tableIn hx hb d_Mod_asked_1 (by rw [hc1_23]; decide) (by rw [hc1_23]; decide) (by rw [hc1_23]; rfl) rfl ?_
    refine lv_aload_n hx hb d_Mod_asked_422 rfl (lv_at hl 0 rfl) ?_
    refine lv_bipush (v := 37) hx hb d_Mod_asked_423 (by decide) ?_
    refine lv_iload hx hb d_Mod_asked_425 (lv_at hl 4 rfl) ?_
    refine lv_ldc (v := 1000194) hx hb hown (hts _ tb_5_42) d_Mod_asked_427 ?_
    refine lv_ixor hx hb d_Mod_asked_429 ?_
    refine q_cg (q_runV (As := [.int (37 : Int32), .int (((Q (nR1 x)).2.2) ^^^ (1000194 : Int32))]) (rest := []) S (c_Mod_number l D ti mo am Q w g rb rt rp ro ca va st tr 0 false pk xx rd to 37 (by first | decide | omega) (((Q (nR1 x)).2.2) ^^^ (1000194 : Int32))) (cw_v hts tb_5_214 k_Mod_number rfl rfl ⟨by decide, by decide⟩) hw 0 rfl rfl rfl hl.1 rfl (Nat.le_of_ble_eq_true rfl) d_Mod_asked_430 ⟨Nat.zero_le _, Nat.zero_le _⟩) hw (fun z hD => qD_same hD rfl) (fun z9 H locs hp9 hw => ?_)
    refine W.eq (g2 := F0 m9 433 ls []) rfl ?_
    have hw : Lv _ _ _ _ _ (RMW mo am ti (rSet Q 37 (false, (((Q (nR1 x)).2.2) ^^^ (1000194 : Int32)), 1000194)) w g rb rt rp ro ca va st tr 0 false pk xx rd to) _ _ _ := hw
    refine lv_iconst (v := 1) hx hb d_Mod_asked_433 (by decide) ?_
    exact hw.riz S hr hlk (rfl) d_Mod_asked_434 (pk, xx, rd) (by rw [(show asB (nI (nR2 x)) = true from by rw [hc1_23]; decide)]; rfl) (trivial) (by rw [asQ_t (show asB (nI (nR2 x)) = true from by rw [hc1_23]; decide) (show asC (Q (nR1 x)) (nI (nR2 x)) = (false, (((Q (nR1 x)).2.2) ^^^ (1000194 : Int32)), 1000194) from by rw [hc1_23]; rfl)])
  by_cases hc1_7 : (nI (nR2 x)) = (7 : Int32)
  · refine lv_tableIn hx hb d_Mod_asked_1 (by rw [hc1_7]; decide) (by rw [hc1_7]; decide) (by rw [hc1_7]; rfl) rfl ?_
    refine lv_iconst (v := 0) hx hb d_Mod_asked_435 (by decide) ?_
    exact hw.riz S hr hlk (rfl) d_Mod_asked_436 (pk, xx, rd) (by rw [(show asB (nI (nR2 x)) = false from by rw [hc1_7]; decide)]; rfl) (trivial) (by rw [asQ_f (show asB (nI (nR2 x)) = false from by rw [hc1_7]; decide)])
  by_cases hc1_12 : (nI (nR2 x)) = (12 : Int32)
  · refine lv_tableIn hx hb d_Mod_asked_1 (by rw [hc1_12]; decide) (by rw [hc1_12]; decide) (by rw [hc1_12]; rfl) rfl ?_
    refine lv_iconst (v := 0) hx hb d_Mod_asked_435 (by decide) ?_
    exact hw.riz S hr hlk (rfl) d_Mod_asked_436 (pk, xx, rd) (by rw [(show asB (nI (nR2 x)) = false from by rw [hc1_12]; decide)]; rfl) (trivial) (by rw [asQ_f (show asB (nI (nR2 x)) = false from by rw [hc1_12]; decide)])
  by_cases hc1_13 : (nI (nR2 x)) = (13 : Int32)
  · refine lv_tableIn hx hb d_Mod_asked_1 (by rw [hc1_13]; decide) (by rw [hc1_13]; decide) (by rw [hc1_13]; rfl) rfl ?_
    refine lv_iconst (v := 0) hx hb d_Mod_asked_435 (by decide) ?_
    exact hw.riz S hr hlk (rfl) d_Mod_asked_436 (pk, xx, rd) (by rw [(show asB (nI (nR2 x)) = false from by rw [hc1_13]; decide)]; rfl) (trivial) (by rw [asQ_f (show asB (nI (nR2 x)) = false from by rw [hc1_13]; decide)])
  by_cases hc1_14 : (nI (nR2 x)) = (14 : Int32)
  · refine lv_tableIn hx hb d_Mod_asked_1 (by rw [hc1_14]; decide) (by rw [hc1_14]; decide) (by rw [hc1_14]; rfl) rfl ?_
    refine lv_iconst (v := 0) hx hb d_Mod_asked_435 (by decide) ?_
    exact hw.riz S hr hlk (rfl) d_Mod_asked_436 (pk, xx, rd) (by rw [(show asB (nI (nR2 x)) = false from by rw [hc1_14]; decide)]; rfl) (trivial) (by rw [asQ_f (show asB (nI (nR2 x)) = false from by rw [hc1_14]; decide)])
  by_cases hc1_16 : (nI (nR2 x)) = (16 : Int32)
  · refine lv_tableIn hx hb d_Mod_asked_1 (by rw [hc1_16]; decide) (by rw [hc1_16]; decide) (by rw [hc1_16]; rfl) rfl ?_
    refine lv_iconst (v := 0) hx hb d_Mod_asked_435 (by decide) ?_
    exact hw.riz S hr hlk (rfl) d_Mod_asked_436 (pk, xx, rd) (by rw [(show asB (nI (nR2 x)) = false from by rw [hc1_16]; decide)]; rfl) (trivial) (by rw [asQ_f (show asB (nI (nR2 x)) = false from by rw [hc1_16]; decide)])
  by_cases hc1_18 : (nI (nR2 x)) = (18 : Int32)
  · refine lv_tableIn hx hb d_Mod_asked_1 (by rw [hc1_18]; decide) (by rw [hc1_18]; decide) (by rw [hc1_18]; rfl) rfl ?_
    refine lv_iconst (v := 0) hx hb d_Mod_asked_435 (by decide) ?_
    exact hw.riz S hr hlk (rfl) d_Mod_asked_436 (pk, xx, rd) (by rw [(show asB (nI (nR2 x)) = false from by rw [hc1_18]; decide)]; rfl) (trivial) (by rw [asQ_f (show asB (nI (nR2 x)) = false from by rw [hc1_18]; decide)])
  by_cases hc1_19 : (nI (nR2 x)) = (19 : Int32)
  · refine lv_tableIn hx hb d_Mod_asked_1 (by rw [hc1_19]; decide) (by rw [hc1_19]; decide) (by rw [hc1_19]; rfl) rfl ?_
    refine lv_iconst (v := 0) hx hb d_Mod_asked_435 (by decide) ?_
    exact hw.riz S hr hlk (rfl) d_Mod_asked_436 (pk, xx, rd) (by rw [(show asB (nI (nR2 x)) = false from by rw [hc1_19]; decide)]; rfl) (trivial) (by rw [asQ_f (show asB (nI (nR2 x)) = false from by rw [hc1_19]; decide)])
  by_cases hc1_20 : (nI (nR2 x)) = (20 : Int32)
  · refine lv_tableIn hx hb d_Mod_asked_1 (by rw [hc1_20]; decide) (by rw [hc1_20]; decide) (by rw [hc1_20]; rfl) rfl ?_
    refine lv_iconst (v := 0) hx hb d_Mod_asked_435 (by decide) ?_
    exact hw.riz S hr hlk (rfl) d_Mod_asked_436 (pk, xx, rd) (by rw [(show asB (nI (nR2 x)) = false from by rw [hc1_20]; decide)]; rfl) (trivial) (by rw [asQ_f (show asB (nI (nR2 x)) = false from by rw [hc1_20]; decide)])
  by_cases hc1_21 : (nI (nR2 x)) = (21 : Int32)
  · refine lv_tableIn hx hb d_Mod_asked_1 (by rw [hc1_21]; decide) (by rw [hc1_21]; decide) (by rw [hc1_21]; rfl) rfl ?_
    refine lv_iconst (v := 0) hx hb d_Mod_asked_435 (by decide) ?_
    exact hw.riz S hr hlk (rfl) d_Mod_asked_436 (pk, xx, rd) (by rw [(show asB (nI (nR2 x)) = false from by rw [hc1_21]; decide)]; rfl) (trivial) (by rw [asQ_f (show asB (nI (nR2 x)) = false from by rw [hc1_21]; decide)])
  by_cases hc1_22 : (nI (nR2 x)) = (22 : Int32)
  · refine lv_tableIn hx hb d_Mod_asked_1 (by rw [hc1_22]; decide) (by rw [hc1_22]; decide) (by rw [hc1_22]; rfl) rfl ?_
    refine lv_iconst (v := 0) hx hb d_Mod_asked_435 (by decide) ?_
    exact hw.riz S hr hlk (rfl) d_Mod_asked_436 (pk, xx, rd) (by rw [(show asB (nI (nR2 x)) = false from by rw [hc1_22]; decide)]; rfl) (trivial) (by rw [asQ_f (show asB (nI (nR2 x)) = false from by rw [hc1_22]; decide)])
  refine lv_tableOut hx hb d_Mod_asked_1 (by have := lv_neT hc1_0 (a := 0) rfl; have := lv_neT hc1_1 (a := 1) rfl; have := lv_neT hc1_2 (a := 2) rfl; have := lv_neT hc1_3 (a := 3) rfl; have := lv_neT hc1_4 (a := 4) rfl; have := lv_neT hc1_5 (a := 5) rfl; have := lv_neT hc1_6 (a := 6) rfl; have := lv_neT hc1_8 (a := 8) rfl; have := lv_neT hc1_9 (a := 9) rfl; have := lv_neT hc1_10 (a := 10) rfl; have := lv_neT hc1_11 (a := 11) rfl; have := lv_neT hc1_15 (a := 15) rfl; have := lv_neT hc1_17 (a := 17) rfl; have := lv_neT hc1_23 (a := 23) rfl; have := lv_neT hc1_7 (a := 7) rfl; have := lv_neT hc1_12 (a := 12) rfl; have := lv_neT hc1_13 (a := 13) rfl; have := lv_neT hc1_14 (a := 14) rfl; have := lv_neT hc1_16 (a := 16) rfl; have := lv_neT hc1_18 (a := 18) rfl; have := lv_neT hc1_19 (a := 19) rfl; have := lv_neT hc1_20 (a := 20) rfl; have := lv_neT hc1_21 (a := 21) rfl; have := lv_neT hc1_22 (a := 22) rfl; omega) rfl ?_
  refine lv_iconst (v := 0) hx hb d_Mod_asked_435 (by decide) ?_
  exact hw.riz S hr hlk (rfl) d_Mod_asked_436 (pk, xx, rd) (by rw [(show asB (nI (nR2 x)) = false from by simp [asB, isV, hc1_0, hc1_1, hc1_2, hc1_3, hc1_4, hc1_5, hc1_6, hc1_8, hc1_9, hc1_10, hc1_11, hc1_15, hc1_17, hc1_23, hc1_7, hc1_12, hc1_13, hc1_14, hc1_16, hc1_18, hc1_19, hc1_20, hc1_21, hc1_22])]; rfl) (trivial) (by rw [asQ_f (show asB (nI (nR2 x)) = false from by simp [asB, isV, hc1_0, hc1_1, hc1_2, hc1_3, hc1_4, hc1_5, hc1_6, hc1_8, hc1_9, hc1_10, hc1_11, hc1_15, hc1_17, hc1_23, hc1_7, hc1_12, hc1_13, hc1_14, hc1_16, hc1_18, hc1_19, hc1_20, hc1_21, hc1_22])])
set_option maxHeartbeats 4000000 in
set_option maxRecDepth 100000 in
theorem c_Mod_special (l : Launch) (D : va_G) (ti : Nat → ClassId) (mo : Nat) (am : Nat → Nat) (Q : Nat → Cap) (w g : Nat → Int32) (rb rt : Nat → Int64) (rp : Nat → Int32) (ro ca va st tr : Int32) (pk : Int32) (xx : Bool) (rd : Int64) (to : Int32) (fv x : Int32) (h0 : Q 0 = (false, 0, 1000194)) (hi : iIm x = x >>> ((20 : Int32) &&& 31)) : Cg l y_Mod_special (wl y_Mod_special b_Mod_special 13 (some .boolean)) (rmL 11) D clz (ty4 ti) [.ref mo, .int x, .int (nI (nRd x)), .int (nI (nFn x)), .int (nI (nR1 x)), .int (nI (nR2 x)), .int (nI (nNb x))] (RMW mo am ti Q w g rb rt rp ro ca va st tr 0 false pk xx rd to) (fun z : (Nat → Cap) × Int32 × Bool × Int64 × Int32 => some (.int (jb (goB (xoc (xU fv Q x) ca va w g).1)))) (fun z => (RMW mo am ti z.1 ((rE (xoc (xU fv Q x) ca va w g) tr).w) ((rE (xoc (xU fv Q x) ca va w g) tr).g) rb rt rp ro ((rE (xoc (xU fv Q x) ca va w g) tr).ca) ((rE (xoc (xU fv Q x) ca va w g) tr).va) st ((rE (xoc (xU fv Q x) ca va w g) tr).tr) 0 ((rE (xoc (xU fv Q x) ca va w g) tr).ha) z.2.1 z.2.2.1 z.2.2.2.1 z.2.2.2.2)) (fun z => RPo Q z.1 (xoc (xU fv Q x) ca va w g) tr) := by
  refine Cg.ofF (plainFor_of_name (by decide)) (Nat.le_of_ble_eq_true rfl) ?_
  intro p9 e9 s9 m9 b9 me9 c9 ls S hr hlk hl hw
  obtain ⟨hx, hb, hml, hown, hts⟩ := id S
  have hl : lv_has ls 13 [(0, .ref mo), (1, .int x), (2, .int (nI (nRd x))), (3, .int (nI (nFn x))), (4, .int (nI (nR1 x))), (5, .int (nI (nR2 x))), (6, .int (nI (nNb x)))] := hl
  have hr1 := nR1_lt x
  have hr2 := nR2_lt x
  have hrd := nRd_lt x
  have hfn := nFn_lt x
  refine lv_aload_n hx hb d_Mod_special_0 rfl (lv_at hl 0 rfl) ?_
  refine q_get S hw ly_Mod 0 rfl rfl 1 (by decide) tb_5_44 rfl rfl d_Mod_special_1 ?_
  refine lv_iload hx hb d_Mod_special_4 (lv_at hl 4 rfl) ?_
  refine q_ialdN (k := nR1 x) S hw 2 0 rfl rfl (by first | assumption | omega) (by decide) d_Mod_special_6 ?_
  refine lv_istore (lv' := [(7, .int ((Q (nR1 x)).2.1)), (0, .ref mo), (1, .int x), (2, .int (nI (nRd x))), (3, .int (nI (nFn x))), (4, .int (nI (nR1 x))), (5, .int (nI (nR2 x))), (6, .int (nI (nNb x)))]) hx hb d_Mod_special_7 hl (by decide) rfl (fun ls hl => ?_)
  refine lv_aload_n hx hb d_Mod_special_9 rfl (lv_at hl 1 rfl) ?_
  refine q_get S hw ly_Mod 0 rfl rfl 1 (by decide) tb_5_44 rfl rfl d_Mod_special_10 ?_
  refine lv_iload hx hb d_Mod_special_13 (lv_at hl 6 rfl) ?_
  refine q_ialdN (k := nR2 x) S hw 2 0 rfl rfl (by first | assumption | omega) (by decide) d_Mod_special_15 ?_
  refine lv_istore (lv' := [(8, .int ((Q (nR2 x)).2.1)), (7, .int ((Q (nR1 x)).2.1)), (0, .ref mo), (1, .int x), (2, .int (nI (nRd x))), (3, .int (nI (nFn x))), (4, .int (nI (nR1 x))), (5, .int (nI (nR2 x))), (6, .int (nI (nNb x)))]) hx hb d_Mod_special_16 hl (by decide) rfl (fun ls hl => ?_)
  refine lv_aload_n hx hb d_Mod_special_18 rfl (lv_at hl 2 rfl) ?_
  refine q_get S hw ly_Mod 0 rfl rfl 2 (by decide) tb_5_45 rfl rfl d_Mod_special_19 ?_
  refine lv_iload hx hb d_Mod_special_22 (lv_at hl 6 rfl) ?_
  refine q_ialdN (k := nR1 x) S hw 3 0 rfl rfl (by first | assumption | omega) (by decide) d_Mod_special_24 ?_
  refine lv_istore (lv' := [(9, .int ((Q (nR1 x)).2.2)), (8, .int ((Q (nR2 x)).2.1)), (7, .int ((Q (nR1 x)).2.1)), (0, .ref mo), (1, .int x), (2, .int (nI (nRd x))), (3, .int (nI (nFn x))), (4, .int (nI (nR1 x))), (5, .int (nI (nR2 x))), (6, .int (nI (nNb x)))]) hx hb d_Mod_special_25 hl (by decide) rfl (fun ls hl => ?_)
  refine lv_iload_n hx hb d_Mod_special_27 rfl (lv_at hl 6 rfl) ?_
  refine lv_iconst (v := 1) hx hb d_Mod_special_28 (by decide) ?_
  refine lv_icmp_ne hx hb d_Mod_special_29 rfl (fun h29 => ?_) (fun h29 => ?_)
  · refine lv_iload_n hx hb d_Mod_special_56 rfl (lv_at hl 6 rfl) ?_
    refine lv_iconst (v := 2) hx hb d_Mod_special_57 (by decide) ?_
    refine lv_icmp_ne hx hb d_Mod_special_58 rfl (fun h58 => ?_) (fun h58 => ?_)
    · refine lv_iload_n hx hb d_Mod_special_75 rfl (lv_at hl 6 rfl) ?_
      refine lv_if_eq hx hb d_Mod_special_76 rfl (fun h76 => ?_) (fun h76 => ?_)
      · refine lv_aload_n hx hb d_Mod_special_86 rfl (lv_at hl 3 rfl) ?_
        refine lv_iload hx hb d_Mod_special_87 (lv_at hl 8 rfl) ?_
        refine q_cr (q_runV (As := [.int (nI (nR2 x))]) (rest := []) S (c_Mod_isOpen l D ti mo am Q w g rb rt rp ro ca va st tr 0 false pk xx rd to (nR2 x) (by first | decide | omega)) (cw_v hts tb_5_180 k_Mod_isOpen rfl rfl ⟨by decide, by decide⟩) hw 0 rfl rfl rfl hl.1 rfl (Nat.le_of_ble_eq_true rfl) d_Mod_special_89 ⟨Nat.zero_le _, Nat.zero_le _⟩) ?_
        refine W.eq (g2 := F0 m9 92 ls [.int (jb (cOpen (Q (nR2 x)).2.2))]) rfl ?_
        refine lv_istore (lv' := [(10, .int (jb (cOpen (Q (nR2 x)).2.2))), (9, .int ((Q (nR1 x)).2.2)), (8, .int ((Q (nR2 x)).2.1)), (7, .int ((Q (nR1 x)).2.1)), (0, .ref mo), (1, .int x), (2, .int (nI (nRd x))), (3, .int (nI (nFn x))), (4, .int (nI (nR1 x))), (5, .int (nI (nR2 x))), (6, .int (nI (nNb x)))]) hx hb d_Mod_special_92 hl (by decide) rfl (fun ls hl => ?_)
        refine lv_aload_n hx hb d_Mod_special_94 rfl (lv_at hl 4 rfl) ?_
        refine q_get S hw ly_Mod 0 rfl rfl 2 (by decide) tb_5_45 rfl rfl d_Mod_special_95 ?_
        refine lv_iload hx hb d_Mod_special_98 (lv_at hl 9 rfl) ?_
        refine q_ialdN (k := nR2 x) S hw 3 0 rfl rfl (by first | assumption | omega) (by decide) d_Mod_special_100 ?_
        refine lv_iload hx hb d_Mod_special_101 (lv_at hl 2 rfl) ?_
        refine lv_iload hx hb d_Mod_special_103 (lv_at hl 2 rfl) ?_
        refine q_cr (q_runS (As := [.int ((Q (nR2 x)).2.1)]) (rest := [.int ((Q (nR2 x)).2.1), .int ((Q (nR2 x)).2.2)]) S ((c_Mod_low l D (ty4 ti) ((Q (nR2 x)).2.1)).nil _) (cw_s hts tb_5_118 k_Mod_low rfl rfl ⟨by decide, by decide⟩) hw rfl hl.1 rfl (Nat.le_of_ble_eq_true rfl) d_Mod_special_105 ⟨Nat.zero_le _, Nat.zero_le _⟩) ?_
        refine W.eq (g2 := F0 m9 108 ls [.long (cLow ((Q (nR2 x)).2.1)), .int ((Q (nR2 x)).2.1), .int ((Q (nR2 x)).2.2)]) rfl ?_
        refine lv_iconst (v := 1) hx hb d_Mod_special_108 (by decide) ?_
        refine q_cr (q_runS (As := [.int ((Q (nR2 x)).2.2), .int ((Q (nR2 x)).2.1), .long (cLow ((Q (nR2 x)).2.1)), .int (1 : Int32)]) (rest := []) S ((c_Mod_isIn l D (ty4 ti) ((Q (nR2 x)).2.2) ((Q (nR2 x)).2.1) ((Q (nR2 x)).2.1) (1 : Int32)).nil _) (cw_s hts tb_5_198 k_Mod_isIn rfl rfl ⟨by decide, by decide⟩) hw rfl hl.1 rfl (Nat.le_of_ble_eq_true rfl) d_Mod_special_109 ⟨Nat.zero_le _, Nat.zero_le _⟩) ?_
        refine W.eq (g2 := F0 m9 112 ls [.int (jb (cCov (cbase ((Q (nR2 x)).2.2) ((Q (nR2 x)).2.1)) (ctop ((Q (nR2 x)).2.2) ((Q (nR2 x)).2.1)) ((Q (nR2 x)).2.1) (1 : Int32).toInt64))]) rfl ?_
        refine lv_istore (lv' := [(11, .int (jb (cCov (cbase ((Q (nR2 x)).2.2) ((Q (nR2 x)).2.1)) (ctop ((Q (nR2 x)).2.2) ((Q (nR2 x)).2.1)) ((Q (nR2 x)).2.1) (1 : Int32).toInt64))), (10, .int (jb (cOpen (Q (nR2 x)).2.2))), (9, .int ((Q (nR1 x)).2.2)), (8, .int ((Q (nR2 x)).2.1)), (7, .int ((Q (nR1 x)).2.1)), (0, .ref mo), (1, .int x), (2, .int (nI (nRd x))), (3, .int (nI (nFn x))), (4, .int (nI (nR1 x))), (5, .int (nI (nR2 x))), (6, .int (nI (nNb x)))]) hx hb d_Mod_special_112 hl (by decide) rfl (fun ls hl => ?_)
        refine q_joinG (Z := (Nat → Cap) × Int32 × Bool × Int64) (pcJ := 932) (st := []) (nL := 13) (fun _ => [(11, .int (jb (cCov (cbase ((Q (nR2 x)).2.2) ((Q (nR2 x)).2.1)) (ctop ((Q (nR2 x)).2.2) ((Q (nR2 x)).2.1)) ((Q (nR2 x)).2.1) (1 : Int32).toInt64))), (10, .int (jb (cOpen (Q (nR2 x)).2.2))), (9, .int ((Q (nR1 x)).2.2)), (8, .int ((Q (nR2 x)).2.1)), (7, .int ((Q (nR1 x)).2.1)), (0, .ref mo), (1, .int x), (2, .int (nI (nRd x))), (3, .int (nI (nFn x))), (4, .int (nI (nR1 x))), (5, .int (nI (nR2 x))), (6, .int (nI (nNb x)))]) (fun z => (RMW mo am ti z.1 w g rb rt rp ro ca va st tr 0 false z.2.1 z.2.2.1 z.2.2.2 to)) (fun z => sU fv Q z.1 x) hw (fun z H locs ls hI932 hw hl => ?_) (fun J932 => ?_)
        · obtain ⟨Q2, pk2, xx2, rd2⟩ := z
          have hsU : sU fv Q Q2 x := hI932
          have hw : Lv _ _ _ _ _ (RMW mo am ti Q2 w g rb rt rp ro ca va st tr 0 false pk2 xx2 rd2 to) _ _ _ := hw
          have hl : lv_has ls 13 [(11, .int (jb (cCov (cbase ((Q (nR2 x)).2.2) ((Q (nR2 x)).2.1)) (ctop ((Q (nR2 x)).2.2) ((Q (nR2 x)).2.1)) ((Q (nR2 x)).2.1) (1 : Int32).toInt64))), (10, .int (jb (cOpen (Q (nR2 x)).2.2))), (9, .int ((Q (nR1 x)).2.2)), (8, .int ((Q (nR2 x)).2.1)), (7, .int ((Q (nR1 x)).2.1)), (0, .ref mo), (1, .int x), (2, .int (nI (nRd x))), (3, .int (nI (nFn x))), (4, .int (nI (nR1 x))), (5, .int (nI (nR2 x))), (6, .int (nI (nNb x)))] := hl
          refine lv_aload_n hx hb d_Mod_special_932 rfl (lv_at hl 5 rfl) ?_
          refine lv_bipush (v := 37) hx hb d_Mod_special_933 (by decide) ?_
          refine lv_iload_n hx hb d_Mod_special_935 rfl (lv_at hl 7 rfl) ?_
          refine q_cg (q_runV (As := [.int (37 : Int32), .int (nI (nRd x))]) (rest := []) S (c_Mod_copy l D ti mo am Q2 w g rb rt rp ro ca va st tr 0 false pk2 xx2 rd2 to 37 (nRd x) (by first | decide | omega) (by first | decide | omega)) (cw_v hts tb_5_206 k_Mod_copy rfl rfl ⟨by decide, by decide⟩) hw 0 rfl rfl rfl hl.1 rfl (Nat.le_of_ble_eq_true rfl) d_Mod_special_936 ⟨Nat.zero_le _, Nat.zero_le _⟩) hw (fun z hD => qD_same hD rfl) (fun z9 H locs hp9 hw => ?_)
          refine W.eq (g2 := F0 m9 939 ls []) rfl ?_
          have hw : Lv _ _ _ _ _ (RMW mo am ti (rSet Q2 (nRd x) (Q2 37)) w g rb rt rp ro ca va st tr 0 false pk2 xx2 rd2 to) _ _ _ := hw
          obtain ⟨hz0, R9, hxU, hag⟩ := hsU
          refine lv_iconst (v := 1) hx hb d_Mod_special_939 (by decide) ?_
          have ho : xoc (xU fv Q x) ca va w g = ((-1 : Int32), fv, R9, ca, va, w, g) := by unfold xoc; rw [hxU]
          exact hw.riz S hr hlk (rfl) d_Mod_special_940 ((rSet Q2 (nRd x) (Q2 37)), pk2, xx2, rd2, to) (by rw [ho]; rfl) (by rw [ho]; exact ⟨by rw [rE_n (by decide)]; exact hag, (rS0 _ _ _).trans hz0, Or.inl rfl⟩) (by rw [ho, rE_n (by decide)]; first | done | rfl)
        · refine lv_iload hx hb d_Mod_special_114 (lv_at hl 11 rfl) ?_
          refine q_topi (z := (nI (nNb x))) rfl ?_
          by_cases hc116_1 : (nI (nNb x)) = (1 : Int32)
          · refine lv_lookup (off := 132) (tgt := 248) hx hb d_Mod_special_116 (by decide) (by rw [hc116_1] <;> rfl) rfl ?_
            refine lv_iload hx hb d_Mod_special_248 (lv_at hl 10 rfl) ?_
            refine lv_if_ne hx hb d_Mod_special_250 rfl (fun h250 => ?_) (fun h250 => ?_)
            · refine lv_iload hx hb d_Mod_special_258 (lv_at hl 10 rfl) ?_
              refine lv_bipush (v := 28) hx hb d_Mod_special_260 (by decide) ?_
              refine lv_icmp_lt hx hb d_Mod_special_262 rfl (fun h262 => ?_) (fun h262 => ?_)
              · refine lv_iconst (v := 0) hx hb d_Mod_special_272 (by decide) ?_
                refine lv_istore (lv' := [(12, .int (0 : Int32)), (11, .int (jb (cCov (cbase ((Q (nR2 x)).2.2) ((Q (nR2 x)).2.1)) (ctop ((Q (nR2 x)).2.2) ((Q (nR2 x)).2.1)) ((Q (nR2 x)).2.1) (1 : Int32).toInt64))), (10, .int (jb (cOpen (Q (nR2 x)).2.2))), (9, .int ((Q (nR1 x)).2.2)), (8, .int ((Q (nR2 x)).2.1)), (7, .int ((Q (nR1 x)).2.1)), (0, .ref mo), (1, .int x), (2, .int (nI (nRd x))), (3, .int (nI (nFn x))), (4, .int (nI (nR1 x))), (5, .int (nI (nR2 x))), (6, .int (nI (nNb x)))]) hx hb d_Mod_special_273 hl (by decide) rfl (fun ls hl => ?_)
                refine lv_iload hx hb d_Mod_special_275 (lv_at hl 0 rfl) ?_
                refine lv_if_eq hx hb d_Mod_special_277 rfl (fun _ => ?_) (fun h => absurd h (by decide))
                refine lv_aload_n hx hb d_Mod_special_292 rfl (lv_at hl 6 rfl) ?_
                refine lv_iconst (v := 2) hx hb d_Mod_special_293 (by decide) ?_
                refine lv_iload_n hx hb d_Mod_special_294 rfl (lv_at hl 7 rfl) ?_
                refine q_cg (q_runV (As := [.int (2 : Int32), .int x]) (rest := []) S (c_Mod_trap l D ti mo am Q w g rb rt rp ro ca va st tr 0 pk xx rd to (2 : Int32) x) (cw_v hts tb_5_202 k_Mod_trap rfl rfl ⟨by decide, by decide⟩) hw 0 rfl rfl rfl hl.1 rfl (Nat.le_of_ble_eq_true rfl) d_Mod_special_295 ⟨Nat.zero_le _, Nat.zero_le _⟩) hw (fun z hD => qD_same hD rfl) (fun z9 H locs hp9 hw => ?_)
                refine W.eq (g2 := F0 m9 298 ls [.int (jb false)]) rfl ?_
                have hw : Lv _ _ _ _ _ (RMW mo am ti (kTR Q) w g rb rt rp ro (2 : Int32) x st (tr + 1) 0 (kHa x Q) pk xx rd (rTo (kTR Q 32))) _ _ _ := hw
                have ho : xoc (xU fv Q x) ca va w g = ((2 : Int32), x, Q, ca, va, w, g) := by unfold xoc; rw [xU_sp h76 hc116_1, xSp_C (isP_f h250) (Int32.not_le.mpr h262)]
                exact hw.riz S hr hlk (rfl) d_Mod_special_298 ((kTR Q), pk, xx, rd, (rTo (kTR Q 32))) (by rw [ho]; rfl) (by rw [ho]; exact ⟨by rw [rE_t (by decide)]; exact fun k _ => rfl, rfl, Or.inr (Or.inr (show ¬ (2 : Int32) < 0 by decide))⟩) (by rw [ho, rE_t (by decide)]; first | done | rfl)
              · have h28 := ge28 (nR2 x) hr2 (Int32.not_lt.mp h262)
                refine lv_iload hx hb d_Mod_special_265 (lv_at hl 10 rfl) ?_
                refine lv_iconst (v := 5) hx hb d_Mod_special_267 (by decide) ?_
                refine lv_iadd hx hb d_Mod_special_268 ?_
                refine q_topi (z := nI ((nR2 x) + 5)) (nI_add (nR2 x) 5) ?_
                refine lv_goto hx hb d_Mod_special_269 rfl ?_
                refine lv_istore (lv' := [(12, .int (nI ((nR2 x) + 5))), (11, .int (jb (cCov (cbase ((Q (nR2 x)).2.2) ((Q (nR2 x)).2.1)) (ctop ((Q (nR2 x)).2.2) ((Q (nR2 x)).2.1)) ((Q (nR2 x)).2.1) (1 : Int32).toInt64))), (10, .int (jb (cOpen (Q (nR2 x)).2.2))), (9, .int ((Q (nR1 x)).2.2)), (8, .int ((Q (nR2 x)).2.1)), (7, .int ((Q (nR1 x)).2.1)), (0, .ref mo), (1, .int x), (2, .int (nI (nRd x))), (3, .int (nI (nFn x))), (4, .int (nI (nR1 x))), (5, .int (nI (nR2 x))), (6, .int (nI (nNb x)))]) hx hb d_Mod_special_273 hl (by decide) rfl (fun ls hl => ?_)
                refine lv_iload hx hb d_Mod_special_275 (lv_at hl 0 rfl) ?_
                refine lv_if_eq hx hb d_Mod_special_277 rfl (fun h => absurd h (nI_ne0 (by omega) (by omega))) (fun _ => ?_)
                refine lv_iload hx hb d_Mod_special_280 (lv_at hl 0 rfl) ?_
                refine lv_bipush (v := 32) hx hb d_Mod_special_282 (by decide) ?_
                refine lv_icmp_ne hx hb d_Mod_special_284 rfl (fun _ => ?_) (fun h => absurd h (sp33 h28))
                refine lv_iload hx hb d_Mod_special_299 (lv_at hl 0 rfl) ?_
                refine lv_bipush (v := 32) hx hb d_Mod_special_301 (by decide) ?_
                refine lv_icmp_eq hx hb d_Mod_special_303 rfl (fun h => absurd h (sp33 h28)) (fun _ => ?_)
                refine lv_aload_n hx hb d_Mod_special_306 rfl (lv_at hl 6 rfl) ?_
                refine lv_bipush (v := 32) hx hb d_Mod_special_307 (by decide) ?_
                refine lv_bipush (v := 10) hx hb d_Mod_special_309 (by decide) ?_
                refine q_cr (q_runV (As := [.int (32 : Int32), .int (10 : Int32)]) (rest := []) S (c_Mod_has l D ti mo am Q w g rb rt rp ro ca va st tr 0 false pk xx rd to 32 (by first | decide | omega) 10 (by first | decide | omega)) (cw_v hts tb_5_187 k_Mod_has rfl rfl ⟨by decide, by decide⟩) hw 0 rfl rfl rfl hl.1 rfl (Nat.le_of_ble_eq_true rfl) d_Mod_special_311 ⟨Nat.zero_le _, Nat.zero_le _⟩) ?_
                refine W.eq (g2 := F0 m9 314 ls [.int (jb (cMay (Q 32).2.2 (10 : Int32)))]) rfl ?_
                refine q_ifz_ne S d_Mod_special_314 rfl (fun h314 => ?_) (fun h314 => ?_)
                · refine lv_aload_n hx hb d_Mod_special_327 rfl (lv_at hl 6 rfl) ?_
                  refine lv_iload hx hb d_Mod_special_328 (lv_at hl 0 rfl) ?_
                  refine lv_bipush (v := 37) hx hb d_Mod_special_330 (by decide) ?_
                  refine q_cg (q_runV (As := [.int (nI ((nR2 x) + 5)), .int (37 : Int32)]) (rest := []) S (c_Mod_copy l D ti mo am Q w g rb rt rp ro ca va st tr 0 false pk xx rd to ((nR2 x) + 5) 37 (by first | decide | omega) (by first | decide | omega)) (cw_v hts tb_5_206 k_Mod_copy rfl rfl ⟨by decide, by decide⟩) hw 0 rfl rfl rfl hl.1 rfl (Nat.le_of_ble_eq_true rfl) d_Mod_special_332 ⟨Nat.zero_le _, Nat.zero_le _⟩) hw (fun z hD => qD_same hD rfl) (fun z9 H locs hp9 hw => ?_)
                  refine W.eq (g2 := F0 m9 335 ls []) rfl ?_
                  have hw : Lv _ _ _ _ _ (RMW mo am ti (rSet Q 37 (Q ((nR2 x) + 5))) w g rb rt rp ro ca va st tr 0 false pk xx rd to) _ _ _ := hw
                  refine lv_iload hx hb d_Mod_special_335 (lv_at hl 10 rfl) ?_
                  refine lv_if_eq hx hb d_Mod_special_337 rfl (fun h337 => ?_) (fun h337 => ?_)
                  · exact J932 ((rSet Q 37 (Q ((nR2 x) + 5))), pk, xx, rd) _ _ _ (sU_s ((xU_sp h76 hc116_1).trans (xSp_B (isP_f h250) (Int32.not_lt.mp h262) h314)) (spR_B0 (isP_f h250) h337) (rS0 Q 37 (Q (nR2 x + 5)))) hw (lv_sub (l' := [(11, .int (jb (cCov (cbase ((Q (nR2 x)).2.2) ((Q (nR2 x)).2.1)) (ctop ((Q (nR2 x)).2.2) ((Q (nR2 x)).2.1)) ((Q (nR2 x)).2.1) (1 : Int32).toInt64))), (10, .int (jb (cOpen (Q (nR2 x)).2.2))), (9, .int ((Q (nR1 x)).2.2)), (8, .int ((Q (nR2 x)).2.1)), (7, .int ((Q (nR1 x)).2.1)), (0, .ref mo), (1, .int x), (2, .int (nI (nRd x))), (3, .int (nI (nFn x))), (4, .int (nI (nR1 x))), (5, .int (nI (nR2 x))), (6, .int (nI (nNb x)))]) hl [1, 2, 3, 4, 5, 6, 7, 8, 9, 10, 11, 12] rfl)
                  · refine lv_aload_n hx hb d_Mod_special_340 rfl (lv_at hl 6 rfl) ?_
                    refine lv_iload hx hb d_Mod_special_341 (lv_at hl 10 rfl) ?_
                    refine lv_iload hx hb d_Mod_special_343 (lv_at hl 0 rfl) ?_
                    refine q_cg (q_runV (As := [.int (nI (nR1 x)), .int (nI ((nR2 x) + 5))]) (rest := []) S (c_Mod_copy l D ti mo am (rSet Q 37 (Q ((nR2 x) + 5))) w g rb rt rp ro ca va st tr 0 false pk xx rd to (nR1 x) ((nR2 x) + 5) (by first | decide | omega) (by first | decide | omega)) (cw_v hts tb_5_206 k_Mod_copy rfl rfl ⟨by decide, by decide⟩) hw 0 rfl rfl rfl hl.1 rfl (Nat.le_of_ble_eq_true rfl) d_Mod_special_345 ⟨Nat.zero_le _, Nat.zero_le _⟩) hw (fun z hD => qD_same hD rfl) (fun z9 H locs hp9 hw => ?_)
                    refine W.eq (g2 := F0 m9 348 ls []) rfl ?_
                    have hw : Lv _ _ _ _ _ (RMW mo am ti (rSet (rSet Q 37 (Q ((nR2 x) + 5))) ((nR2 x) + 5) ((rSet Q 37 (Q ((nR2 x) + 5))) (nR1 x))) w g rb rt rp ro ca va st tr 0 false pk xx rd to) _ _ _ := hw
                    refine lv_goto hx hb d_Mod_special_348 rfl ?_
                    exact J932 ((rSet (rSet Q 37 (Q ((nR2 x) + 5))) ((nR2 x) + 5) ((rSet Q 37 (Q ((nR2 x) + 5))) (nR1 x))), pk, xx, rd) _ _ _ (sU_s ((xU_sp h76 hc116_1).trans (xSp_B (isP_f h250) (Int32.not_lt.mp h262) h314)) (spR_B1 (isP_f h250) h337) ((rS0 _ _ _).trans (rS0 Q 37 (Q (nR2 x + 5))))) hw (lv_sub (l' := [(11, .int (jb (cCov (cbase ((Q (nR2 x)).2.2) ((Q (nR2 x)).2.1)) (ctop ((Q (nR2 x)).2.2) ((Q (nR2 x)).2.1)) ((Q (nR2 x)).2.1) (1 : Int32).toInt64))), (10, .int (jb (cOpen (Q (nR2 x)).2.2))), (9, .int ((Q (nR1 x)).2.2)), (8, .int ((Q (nR2 x)).2.1)), (7, .int ((Q (nR1 x)).2.1)), (0, .ref mo), (1, .int x), (2, .int (nI (nRd x))), (3, .int (nI (nFn x))), (4, .int (nI (nR1 x))), (5, .int (nI (nR2 x))), (6, .int (nI (nNb x)))]) hl [1, 2, 3, 4, 5, 6, 7, 8, 9, 10, 11, 12] rfl)
                · refine lv_aload_n hx hb d_Mod_special_317 rfl (lv_at hl 6 rfl) ?_
                  refine lv_bipush (v := 28) hx hb d_Mod_special_318 (by decide) ?_
                  refine lv_sipush (v := 1048) hx hb d_Mod_special_320 (by decide) ?_
                  refine q_cg (q_runV (As := [.int (28 : Int32), .int (1048 : Int32)]) (rest := []) S (c_Mod_trap l D ti mo am Q w g rb rt rp ro ca va st tr 0 pk xx rd to (28 : Int32) (1048 : Int32)) (cw_v hts tb_5_202 k_Mod_trap rfl rfl ⟨by decide, by decide⟩) hw 0 rfl rfl rfl hl.1 rfl (Nat.le_of_ble_eq_true rfl) d_Mod_special_323 ⟨Nat.zero_le _, Nat.zero_le _⟩) hw (fun z hD => qD_same hD rfl) (fun z9 H locs hp9 hw => ?_)
                  refine W.eq (g2 := F0 m9 326 ls [.int (jb false)]) rfl ?_
                  have hw : Lv _ _ _ _ _ (RMW mo am ti (kTR Q) w g rb rt rp ro (28 : Int32) (1048 : Int32) st (tr + 1) 0 (kHa (1048 : Int32) Q) pk xx rd (rTo (kTR Q 32))) _ _ _ := hw
                  have ho : xoc (xU fv Q x) ca va w g = ((28 : Int32), (1048 : Int32), Q, ca, va, w, g) := by unfold xoc; rw [xU_sp h76 hc116_1, xSp_D (isP_f h250) (Int32.not_lt.mp h262) h314]
                  exact hw.riz S hr hlk (rfl) d_Mod_special_326 ((kTR Q), pk, xx, rd, (rTo (kTR Q 32))) (by rw [ho]; rfl) (by rw [ho]; exact ⟨by rw [rE_t (by decide)]; exact fun k _ => rfl, rfl, Or.inr (Or.inr (show ¬ (28 : Int32) < 0 by decide))⟩) (by rw [ho, rE_t (by decide)]; first | done | rfl)
            · refine lv_bipush (v := 32) hx hb d_Mod_special_253 (by decide) ?_
              refine lv_goto hx hb d_Mod_special_255 rfl ?_
              refine lv_istore (lv' := [(12, .int (32 : Int32)), (11, .int (jb (cCov (cbase ((Q (nR2 x)).2.2) ((Q (nR2 x)).2.1)) (ctop ((Q (nR2 x)).2.2) ((Q (nR2 x)).2.1)) ((Q (nR2 x)).2.1) (1 : Int32).toInt64))), (10, .int (jb (cOpen (Q (nR2 x)).2.2))), (9, .int ((Q (nR1 x)).2.2)), (8, .int ((Q (nR2 x)).2.1)), (7, .int ((Q (nR1 x)).2.1)), (0, .ref mo), (1, .int x), (2, .int (nI (nRd x))), (3, .int (nI (nFn x))), (4, .int (nI (nR1 x))), (5, .int (nI (nR2 x))), (6, .int (nI (nNb x)))]) hx hb d_Mod_special_273 hl (by decide) rfl (fun ls hl => ?_)
              refine lv_iload hx hb d_Mod_special_275 (lv_at hl 0 rfl) ?_
              refine lv_if_eq hx hb d_Mod_special_277 rfl (fun h => absurd h (by decide)) (fun _ => ?_)
              refine lv_iload hx hb d_Mod_special_280 (lv_at hl 0 rfl) ?_
              refine lv_bipush (v := 32) hx hb d_Mod_special_282 (by decide) ?_
              refine lv_icmp_ne hx hb d_Mod_special_284 rfl (fun h => absurd h (by decide)) (fun _ => ?_)
              refine lv_iload hx hb d_Mod_special_287 (lv_at hl 10 rfl) ?_
              refine lv_if_eq hx hb d_Mod_special_289 rfl (fun h289 => ?_) (fun h289 => ?_)
              · refine lv_iload hx hb d_Mod_special_299 (lv_at hl 0 rfl) ?_
                refine lv_bipush (v := 32) hx hb d_Mod_special_301 (by decide) ?_
                refine lv_icmp_eq hx hb d_Mod_special_303 rfl (fun _ => ?_) (fun h => absurd h (by decide))
                refine lv_aload_n hx hb d_Mod_special_327 rfl (lv_at hl 6 rfl) ?_
                refine lv_iload hx hb d_Mod_special_328 (lv_at hl 0 rfl) ?_
                refine lv_bipush (v := 37) hx hb d_Mod_special_330 (by decide) ?_
                refine q_cg (q_runV (As := [.int (32 : Int32), .int (37 : Int32)]) (rest := []) S (c_Mod_copy l D ti mo am Q w g rb rt rp ro ca va st tr 0 false pk xx rd to 32 37 (by first | decide | omega) (by first | decide | omega)) (cw_v hts tb_5_206 k_Mod_copy rfl rfl ⟨by decide, by decide⟩) hw 0 rfl rfl rfl hl.1 rfl (Nat.le_of_ble_eq_true rfl) d_Mod_special_332 ⟨Nat.zero_le _, Nat.zero_le _⟩) hw (fun z hD => qD_same hD rfl) (fun z9 H locs hp9 hw => ?_)
                refine W.eq (g2 := F0 m9 335 ls []) rfl ?_
                have hw : Lv _ _ _ _ _ (RMW mo am ti (rSet Q 37 (Q 32)) w g rb rt rp ro ca va st tr 0 false pk xx rd to) _ _ _ := hw
                refine lv_iload hx hb d_Mod_special_335 (lv_at hl 10 rfl) ?_
                refine lv_if_eq hx hb d_Mod_special_337 rfl (fun _ => ?_) (fun h => absurd h (not_not_intro h289))
                exact J932 ((rSet Q 37 (Q 32)), pk, xx, rd) _ _ _ (sU_s ((xU_sp h76 hc116_1).trans (xSp_A (isP_t h250 h289))) (spR_A (isP_t h250 h289) h289) (rS0 Q 37 (Q 32))) hw (lv_sub (l' := [(11, .int (jb (cCov (cbase ((Q (nR2 x)).2.2) ((Q (nR2 x)).2.1)) (ctop ((Q (nR2 x)).2.2) ((Q (nR2 x)).2.1)) ((Q (nR2 x)).2.1) (1 : Int32).toInt64))), (10, .int (jb (cOpen (Q (nR2 x)).2.2))), (9, .int ((Q (nR1 x)).2.2)), (8, .int ((Q (nR2 x)).2.1)), (7, .int ((Q (nR1 x)).2.1)), (0, .ref mo), (1, .int x), (2, .int (nI (nRd x))), (3, .int (nI (nFn x))), (4, .int (nI (nR1 x))), (5, .int (nI (nR2 x))), (6, .int (nI (nNb x)))]) hl [1, 2, 3, 4, 5, 6, 7, 8, 9, 10, 11, 12] rfl)
              · refine lv_aload_n hx hb d_Mod_special_292 rfl (lv_at hl 6 rfl) ?_
                refine lv_iconst (v := 2) hx hb d_Mod_special_293 (by decide) ?_
                refine lv_iload_n hx hb d_Mod_special_294 rfl (lv_at hl 7 rfl) ?_
                refine q_cg (q_runV (As := [.int (2 : Int32), .int x]) (rest := []) S (c_Mod_trap l D ti mo am Q w g rb rt rp ro ca va st tr 0 pk xx rd to (2 : Int32) x) (cw_v hts tb_5_202 k_Mod_trap rfl rfl ⟨by decide, by decide⟩) hw 0 rfl rfl rfl hl.1 rfl (Nat.le_of_ble_eq_true rfl) d_Mod_special_295 ⟨Nat.zero_le _, Nat.zero_le _⟩) hw (fun z hD => qD_same hD rfl) (fun z9 H locs hp9 hw => ?_)
                refine W.eq (g2 := F0 m9 298 ls [.int (jb false)]) rfl ?_
                have hw : Lv _ _ _ _ _ (RMW mo am ti (kTR Q) w g rb rt rp ro (2 : Int32) x st (tr + 1) 0 (kHa x Q) pk xx rd (rTo (kTR Q 32))) _ _ _ := hw
                have ho : xoc (xU fv Q x) ca va w g = ((2 : Int32), x, Q, ca, va, w, g) := by unfold xoc; rw [xU_sp h76 hc116_1, xSp_C (isP_g h289) (by rw [h250]; decide)]
                exact hw.riz S hr hlk (rfl) d_Mod_special_298 ((kTR Q), pk, xx, rd, (rTo (kTR Q 32))) (by rw [ho]; rfl) (by rw [ho]; exact ⟨by rw [rE_t (by decide)]; exact fun k _ => rfl, rfl, Or.inr (Or.inr (show ¬ (2 : Int32) < 0 by decide))⟩) (by rw [ho, rE_t (by decide)]; first | done | rfl)
          by_cases hc116_8 : (nI (nNb x)) = (8 : Int32)
          · refine lv_lookup (off := 235) (tgt := 351) hx hb d_Mod_special_116 (by decide) (by rw [hc116_8] <;> rfl) rfl ?_
            refine lv_aload_n hx hb d_Mod_special_351 rfl (lv_at hl 5 rfl) ?_
            refine lv_iload_n hx hb d_Mod_special_352 rfl (lv_at hl 7 rfl) ?_
            refine lv_iload hx hb d_Mod_special_353 (lv_at hl 9 rfl) ?_
            refine lv_iload hx hb d_Mod_special_355 (lv_at hl 3 rfl) ?_
            refine q_cr (q_runS (As := [.int ((Q (nR2 x)).2.1)]) (rest := [.int (nI (nR1 x)), .int (nI (nRd x)), .ref mo]) S ((c_Mod_low l D (ty4 ti) ((Q (nR2 x)).2.1)).nil _) (cw_s hts tb_5_118 k_Mod_low rfl rfl ⟨by decide, by decide⟩) hw rfl hl.1 rfl (Nat.le_of_ble_eq_true rfl) d_Mod_special_357 ⟨Nat.zero_le _, Nat.zero_le _⟩) ?_
            refine W.eq (g2 := F0 m9 360 ls [.long (cLow ((Q (nR2 x)).2.1)), .int (nI (nR1 x)), .int (nI (nRd x)), .ref mo]) rfl ?_
            refine lv_iconst (v := 0) hx hb d_Mod_special_360 (by decide) ?_
            refine q_cg (q_runV (As := [.int (nI (nRd x)), .int (nI (nR1 x)), .long (cLow ((Q (nR2 x)).2.1)), .int (jb false)]) (rest := []) S (c_Mod_bounds l D ti mo am Q w g rb rt rp ro ca va st tr 0 false pk xx rd to (nRd x) (nR1 x) (by first | decide | omega) (by first | decide | omega) (cLow ((Q (nR2 x)).2.1)) (Q (nR2 x)).2.1.toBitVec.toNat (cLow_n _) (iN_lt _) false) (cw_v hts tb_6_28 k_Mod_bounds rfl rfl ⟨by decide, by decide⟩) hw 0 rfl rfl rfl hl.1 rfl (Nat.le_of_ble_eq_true rfl) d_Mod_special_361 ⟨Nat.zero_le _, Nat.zero_le _⟩) hw (fun z hD => qD_same hD rfl) (fun z9 H locs hp9 hw => ?_)
            refine W.eq (g2 := F0 m9 364 ls [.int (jb true)]) rfl ?_
            have hw : Lv _ _ _ _ _ (RMW mo am ti (rSet Q (nRd x) (uBn (Q (nR1 x)) (cLow ((Q (nR2 x)).2.1)) false)) w g rb rt rp ro ca va st tr 0 false (kBits (bF (Q (nR1 x))) (bTo (Q (nR1 x)) (cLow ((Q (nR2 x)).2.1)))) (kEx (bF (Q (nR1 x))) (bTo (Q (nR1 x)) (cLow ((Q (nR2 x)).2.1)))) (kLen (bF (Q (nR1 x))) (bTo (Q (nR1 x)) (cLow ((Q (nR2 x)).2.1)))) to) _ _ _ := hw
            have ho : xoc (xU fv Q x) ca va w g = ((-1 : Int32), fv, uR Q (uBn (Q (nR1 x)) (cLow (Q (nR2 x)).2.1) false) x, ca, va, w, g) := by unfold xoc; rw [show xU fv Q x = (-1, fv, uR Q (uBn (Q (nR1 x)) (cLow (Q (nR2 x)).2.1) false) x) from (by unfold xU xNb; rw [if_pos h76, hc116_8]; rfl)]
            exact hw.riz S hr hlk (rfl) d_Mod_special_364 ((rSet Q (nRd x) (uBn (Q (nR1 x)) (cLow ((Q (nR2 x)).2.1)) false)), (kBits (bF (Q (nR1 x))) (bTo (Q (nR1 x)) (cLow ((Q (nR2 x)).2.1)))), (kEx (bF (Q (nR1 x))) (bTo (Q (nR1 x)) (cLow ((Q (nR2 x)).2.1)))), (kLen (bF (Q (nR1 x))) (bTo (Q (nR1 x)) (cLow ((Q (nR2 x)).2.1)))), to) (by rw [ho]; rfl) (by rw [ho]; exact ⟨by rw [rE_n (by decide)]; exact ag_set _ _ _, rS0 _ _ _, Or.inl rfl⟩) (by rw [ho, rE_n (by decide)]; first | done | rfl)
          by_cases hc116_9 : (nI (nNb x)) = (9 : Int32)
          · refine lv_lookup (off := 249) (tgt := 365) hx hb d_Mod_special_116 (by decide) (by rw [hc116_9] <;> rfl) rfl ?_
            refine lv_aload_n hx hb d_Mod_special_365 rfl (lv_at hl 5 rfl) ?_
            refine lv_iload_n hx hb d_Mod_special_366 rfl (lv_at hl 7 rfl) ?_
            refine lv_iload hx hb d_Mod_special_367 (lv_at hl 9 rfl) ?_
            refine lv_iload hx hb d_Mod_special_369 (lv_at hl 3 rfl) ?_
            refine q_cr (q_runS (As := [.int ((Q (nR2 x)).2.1)]) (rest := [.int (nI (nR1 x)), .int (nI (nRd x)), .ref mo]) S ((c_Mod_low l D (ty4 ti) ((Q (nR2 x)).2.1)).nil _) (cw_s hts tb_5_118 k_Mod_low rfl rfl ⟨by decide, by decide⟩) hw rfl hl.1 rfl (Nat.le_of_ble_eq_true rfl) d_Mod_special_371 ⟨Nat.zero_le _, Nat.zero_le _⟩) ?_
            refine W.eq (g2 := F0 m9 374 ls [.long (cLow ((Q (nR2 x)).2.1)), .int (nI (nR1 x)), .int (nI (nRd x)), .ref mo]) rfl ?_
            refine lv_iconst (v := 1) hx hb d_Mod_special_374 (by decide) ?_
            refine q_cg (q_runV (As := [.int (nI (nRd x)), .int (nI (nR1 x)), .long (cLow ((Q (nR2 x)).2.1)), .int (jb true)]) (rest := []) S (c_Mod_bounds l D ti mo am Q w g rb rt rp ro ca va st tr 0 false pk xx rd to (nRd x) (nR1 x) (by first | decide | omega) (by first | decide | omega) (cLow ((Q (nR2 x)).2.1)) (Q (nR2 x)).2.1.toBitVec.toNat (cLow_n _) (iN_lt _) true) (cw_v hts tb_6_28 k_Mod_bounds rfl rfl ⟨by decide, by decide⟩) hw 0 rfl rfl rfl hl.1 rfl (Nat.le_of_ble_eq_true rfl) d_Mod_special_375 ⟨Nat.zero_le _, Nat.zero_le _⟩) hw (fun z hD => qD_same hD rfl) (fun z9 H locs hp9 hw => ?_)
            refine W.eq (g2 := F0 m9 378 ls [.int (jb true)]) rfl ?_
            have hw : Lv _ _ _ _ _ (RMW mo am ti (rSet Q (nRd x) (uBn (Q (nR1 x)) (cLow ((Q (nR2 x)).2.1)) true)) w g rb rt rp ro ca va st tr 0 false (kBits (bF (Q (nR1 x))) (bTo (Q (nR1 x)) (cLow ((Q (nR2 x)).2.1)))) (kEx (bF (Q (nR1 x))) (bTo (Q (nR1 x)) (cLow ((Q (nR2 x)).2.1)))) (kLen (bF (Q (nR1 x))) (bTo (Q (nR1 x)) (cLow ((Q (nR2 x)).2.1)))) to) _ _ _ := hw
            have ho : xoc (xU fv Q x) ca va w g = ((-1 : Int32), fv, uR Q (uBn (Q (nR1 x)) (cLow (Q (nR2 x)).2.1) true) x, ca, va, w, g) := by unfold xoc; rw [show xU fv Q x = (-1, fv, uR Q (uBn (Q (nR1 x)) (cLow (Q (nR2 x)).2.1) true) x) from (by unfold xU xNb; rw [if_pos h76, hc116_9]; rfl)]
            exact hw.riz S hr hlk (rfl) d_Mod_special_378 ((rSet Q (nRd x) (uBn (Q (nR1 x)) (cLow ((Q (nR2 x)).2.1)) true)), (kBits (bF (Q (nR1 x))) (bTo (Q (nR1 x)) (cLow ((Q (nR2 x)).2.1)))), (kEx (bF (Q (nR1 x))) (bTo (Q (nR1 x)) (cLow ((Q (nR2 x)).2.1)))), (kLen (bF (Q (nR1 x))) (bTo (Q (nR1 x)) (cLow ((Q (nR2 x)).2.1)))), to) (by rw [ho]; rfl) (by rw [ho]; exact ⟨by rw [rE_n (by decide)]; exact ag_set _ _ _, rS0 _ _ _, Or.inl rfl⟩) (by rw [ho, rE_n (by decide)]; first | done | rfl)
          by_cases hc116_11 : (nI (nNb x)) = (11 : Int32)
          · refine lv_lookup (off := 263) (tgt := 379) hx hb d_Mod_special_116 (by decide) (by rw [hc116_11] <;> rfl) rfl ?_
            refine lv_aload_n hx hb d_Mod_special_379 rfl (lv_at hl 5 rfl) ?_
            refine lv_bipush (v := 37) hx hb d_Mod_special_380 (by decide) ?_
            refine q_join (pcJ := 449) (st := [.int (jb (kSl (Q (nR1 x)) (Q (nR2 x)))), .int (37 : Int32), .ref mo]) (lv' := [(11, .int (jb (cCov (cbase ((Q (nR2 x)).2.2) ((Q (nR2 x)).2.1)) (ctop ((Q (nR2 x)).2.2) ((Q (nR2 x)).2.1)) ((Q (nR2 x)).2.1) (1 : Int32).toInt64))), (10, .int (jb (cOpen (Q (nR2 x)).2.2))), (9, .int ((Q (nR1 x)).2.2)), (8, .int ((Q (nR2 x)).2.1)), (7, .int ((Q (nR1 x)).2.1)), (0, .ref mo), (1, .int x), (2, .int (nI (nRd x))), (3, .int (nI (nFn x))), (4, .int (nI (nR1 x))), (5, .int (nI (nR2 x))), (6, .int (nI (nNb x)))]) (nL := 13) (fun ls hl => ?_) (fun J449 => ?_)
            · refine lv_iload hx hb d_Mod_special_449 (lv_at hl 4 rfl) ?_
              refine lv_iload hx hb d_Mod_special_451 (lv_at hl 2 rfl) ?_
              refine lv_iload hx hb d_Mod_special_453 (lv_at hl 3 rfl) ?_
              refine lv_bipush (v := 15) hx hb d_Mod_special_455 (by decide) ?_
              refine lv_iand hx hb d_Mod_special_457 ?_
              refine q_cr (q_runS (As := [.int ((Q (nR1 x)).2.2), .int (((Q (nR2 x)).2.1) &&& (15 : Int32))]) (rest := [.int ((Q (nR1 x)).2.1), .int (jb (kSl (Q (nR1 x)) (Q (nR2 x)))), .int (37 : Int32), .ref mo]) S ((c_Mod_withType l D (ty4 ti) ((Q (nR1 x)).2.2) (((Q (nR2 x)).2.1) &&& (15 : Int32))).nil _) (cw_s hts tb_5_231 k_Mod_withType rfl rfl ⟨by decide, by decide⟩) hw rfl hl.1 rfl (Nat.le_of_ble_eq_true rfl) d_Mod_special_458 ⟨Nat.zero_le _, Nat.zero_le _⟩) ?_
              refine W.eq (g2 := F0 m9 461 ls [.int (cSetT ((Q (nR1 x)).2.2) (((Q (nR2 x)).2.1) &&& (15 : Int32))), .int ((Q (nR1 x)).2.1), .int (jb (kSl (Q (nR1 x)) (Q (nR2 x)))), .int (37 : Int32), .ref mo]) rfl ?_
              refine q_cg (q_runV (As := [.int (37 : Int32), .int (jb (kSl (Q (nR1 x)) (Q (nR2 x)))), .int ((Q (nR1 x)).2.1), .int (cSetT ((Q (nR1 x)).2.2) (((Q (nR2 x)).2.1) &&& (15 : Int32)))]) (rest := []) S (c_Mod_set l D ti mo am Q w g rb rt rp ro ca va st tr 0 false pk xx rd to 37 (by first | decide | omega) (kSl (Q (nR1 x)) (Q (nR2 x))) ((Q (nR1 x)).2.1) (cSetT ((Q (nR1 x)).2.2) (((Q (nR2 x)).2.1) &&& (15 : Int32)))) (cw_v hts tb_5_131 k_Mod_set rfl rfl ⟨by decide, by decide⟩) hw 0 rfl rfl rfl hl.1 rfl (Nat.le_of_ble_eq_true rfl) d_Mod_special_461 ⟨Nat.zero_le _, Nat.zero_le _⟩) hw (fun z hD => qD_same hD rfl) (fun z9 H locs hp9 hw => ?_)
              refine W.eq (g2 := F0 m9 464 ls []) rfl ?_
              have hw : Lv _ _ _ _ _ (RMW mo am ti (rSet Q 37 ((kSl (Q (nR1 x)) (Q (nR2 x))), ((Q (nR1 x)).2.1), (cSetT ((Q (nR1 x)).2.2) (((Q (nR2 x)).2.1) &&& (15 : Int32))))) w g rb rt rp ro ca va st tr 0 false pk xx rd to) _ _ _ := hw
              refine lv_goto hx hb d_Mod_special_464 rfl ?_
              exact J932 ((rSet Q 37 ((kSl (Q (nR1 x)) (Q (nR2 x))), ((Q (nR1 x)).2.1), (cSetT ((Q (nR1 x)).2.2) (((Q (nR2 x)).2.1) &&& (15 : Int32))))), pk, xx, rd) _ _ _ (sU_u (by unfold xU xNb; rw [if_pos h76, hc116_11]; rfl)) hw (lv_sub (l' := [(11, .int (jb (cCov (cbase ((Q (nR2 x)).2.2) ((Q (nR2 x)).2.1)) (ctop ((Q (nR2 x)).2.2) ((Q (nR2 x)).2.1)) ((Q (nR2 x)).2.1) (1 : Int32).toInt64))), (10, .int (jb (cOpen (Q (nR2 x)).2.2))), (9, .int ((Q (nR1 x)).2.2)), (8, .int ((Q (nR2 x)).2.1)), (7, .int ((Q (nR1 x)).2.1)), (0, .ref mo), (1, .int x), (2, .int (nI (nRd x))), (3, .int (nI (nFn x))), (4, .int (nI (nR1 x))), (5, .int (nI (nR2 x))), (6, .int (nI (nNb x)))]) hl [0, 1, 2, 3, 4, 5, 6, 7, 8, 9, 10, 11] rfl)
            · refine lv_aload_n hx hb d_Mod_special_382 rfl (lv_at hl 5 rfl) ?_
              refine q_get S hw ly_Mod 0 rfl rfl 0 (by decide) tb_5_43 rfl rfl d_Mod_special_383 ?_
              refine lv_iload hx hb d_Mod_special_386 (lv_at hl 9 rfl) ?_
              refine q_zaldN (k := nR1 x) S hw 1 1 rfl rfl (by first | assumption | omega) (by decide) d_Mod_special_388 ?_
              refine q_ifz_eq S d_Mod_special_389 rfl (fun h389 => ?_) (fun h389 => ?_)
              · refine lv_iconst (v := 0) hx hb d_Mod_special_448 (by decide) ?_
                refine q_topi (z := (jb (kSl (Q (nR1 x)) (Q (nR2 x))))) (by rw [kSl_e, if_pos h389]; rfl) ?_
                exact J449 _ (lv_sub (l' := [(11, .int (jb (cCov (cbase ((Q (nR2 x)).2.2) ((Q (nR2 x)).2.1)) (ctop ((Q (nR2 x)).2.2) ((Q (nR2 x)).2.1)) ((Q (nR2 x)).2.1) (1 : Int32).toInt64))), (10, .int (jb (cOpen (Q (nR2 x)).2.2))), (9, .int ((Q (nR1 x)).2.2)), (8, .int ((Q (nR2 x)).2.1)), (7, .int ((Q (nR1 x)).2.1)), (0, .ref mo), (1, .int x), (2, .int (nI (nRd x))), (3, .int (nI (nFn x))), (4, .int (nI (nR1 x))), (5, .int (nI (nR2 x))), (6, .int (nI (nNb x)))]) hl [0, 1, 2, 3, 4, 5, 6, 7, 8, 9, 10, 11] rfl)
              · refine lv_aload_n hx hb d_Mod_special_392 rfl (lv_at hl 5 rfl) ?_
                refine q_get S hw ly_Mod 0 rfl rfl 0 (by decide) tb_5_43 rfl rfl d_Mod_special_393 ?_
                refine lv_iload hx hb d_Mod_special_396 (lv_at hl 10 rfl) ?_
                refine q_zaldN (k := nR2 x) S hw 1 1 rfl rfl (by first | assumption | omega) (by decide) d_Mod_special_398 ?_
                refine q_ifz_eq S d_Mod_special_399 rfl (fun h399 => ?_) (fun h399 => ?_)
                · refine lv_iconst (v := 0) hx hb d_Mod_special_448 (by decide) ?_
                  refine q_topi (z := (jb (kSl (Q (nR1 x)) (Q (nR2 x))))) (by rw [kSl_e, if_neg (tne h389), if_pos h399]; rfl) ?_
                  exact J449 _ (lv_sub (l' := [(11, .int (jb (cCov (cbase ((Q (nR2 x)).2.2) ((Q (nR2 x)).2.1)) (ctop ((Q (nR2 x)).2.2) ((Q (nR2 x)).2.1)) ((Q (nR2 x)).2.1) (1 : Int32).toInt64))), (10, .int (jb (cOpen (Q (nR2 x)).2.2))), (9, .int ((Q (nR1 x)).2.2)), (8, .int ((Q (nR2 x)).2.1)), (7, .int ((Q (nR1 x)).2.1)), (0, .ref mo), (1, .int x), (2, .int (nI (nRd x))), (3, .int (nI (nFn x))), (4, .int (nI (nR1 x))), (5, .int (nI (nR2 x))), (6, .int (nI (nNb x)))]) hl [0, 1, 2, 3, 4, 5, 6, 7, 8, 9, 10, 11] rfl)
                · refine lv_aload_n hx hb d_Mod_special_402 rfl (lv_at hl 5 rfl) ?_
                  refine lv_iload hx hb d_Mod_special_403 (lv_at hl 9 rfl) ?_
                  refine q_cr (q_runV (As := [.int (nI (nR1 x))]) (rest := [.int (37 : Int32), .ref mo]) S (c_Mod_isOpen l D ti mo am Q w g rb rt rp ro ca va st tr 0 false pk xx rd to (nR1 x) (by first | decide | omega)) (cw_v hts tb_5_180 k_Mod_isOpen rfl rfl ⟨by decide, by decide⟩) hw 0 rfl rfl rfl hl.1 rfl (Nat.le_of_ble_eq_true rfl) d_Mod_special_405 ⟨Nat.zero_le _, Nat.zero_le _⟩) ?_
                  refine W.eq (g2 := F0 m9 408 ls [.int (jb (cOpen (Q (nR1 x)).2.2)), .int (37 : Int32), .ref mo]) rfl ?_
                  refine q_ifz_eq S d_Mod_special_408 rfl (fun h408 => ?_) (fun h408 => ?_)
                  · refine lv_iconst (v := 0) hx hb d_Mod_special_448 (by decide) ?_
                    refine q_topi (z := (jb (kSl (Q (nR1 x)) (Q (nR2 x))))) (by rw [kSl_e, if_neg (tne h389), if_neg (tne h399), if_pos h408]; rfl) ?_
                    exact J449 _ (lv_sub (l' := [(11, .int (jb (cCov (cbase ((Q (nR2 x)).2.2) ((Q (nR2 x)).2.1)) (ctop ((Q (nR2 x)).2.2) ((Q (nR2 x)).2.1)) ((Q (nR2 x)).2.1) (1 : Int32).toInt64))), (10, .int (jb (cOpen (Q (nR2 x)).2.2))), (9, .int ((Q (nR1 x)).2.2)), (8, .int ((Q (nR2 x)).2.1)), (7, .int ((Q (nR1 x)).2.1)), (0, .ref mo), (1, .int x), (2, .int (nI (nRd x))), (3, .int (nI (nFn x))), (4, .int (nI (nR1 x))), (5, .int (nI (nR2 x))), (6, .int (nI (nNb x)))]) hl [0, 1, 2, 3, 4, 5, 6, 7, 8, 9, 10, 11] rfl)
                  · refine lv_iload hx hb d_Mod_special_411 (lv_at hl 1 rfl) ?_
                    refine q_ifz_eq S d_Mod_special_413 rfl (fun h413 => ?_) (fun h413 => ?_)
                    · refine lv_iconst (v := 0) hx hb d_Mod_special_448 (by decide) ?_
                      refine q_topi (z := (jb (kSl (Q (nR1 x)) (Q (nR2 x))))) (by rw [kSl_e, if_neg (tne h389), if_neg (tne h399), if_neg (tne h408), if_pos h413]; rfl) ?_
                      exact J449 _ (lv_sub (l' := [(11, .int (jb (cCov (cbase ((Q (nR2 x)).2.2) ((Q (nR2 x)).2.1)) (ctop ((Q (nR2 x)).2.2) ((Q (nR2 x)).2.1)) ((Q (nR2 x)).2.1) (1 : Int32).toInt64))), (10, .int (jb (cOpen (Q (nR2 x)).2.2))), (9, .int ((Q (nR1 x)).2.2)), (8, .int ((Q (nR2 x)).2.1)), (7, .int ((Q (nR1 x)).2.1)), (0, .ref mo), (1, .int x), (2, .int (nI (nRd x))), (3, .int (nI (nFn x))), (4, .int (nI (nR1 x))), (5, .int (nI (nR2 x))), (6, .int (nI (nNb x)))]) hl [0, 1, 2, 3, 4, 5, 6, 7, 8, 9, 10, 11] rfl)
                    · refine lv_aload_n hx hb d_Mod_special_416 rfl (lv_at hl 5 rfl) ?_
                      refine lv_iload hx hb d_Mod_special_417 (lv_at hl 10 rfl) ?_
                      refine lv_bipush (v := 7) hx hb d_Mod_special_419 (by decide) ?_
                      refine q_cr (q_runV (As := [.int (nI (nR2 x)), .int (7 : Int32)]) (rest := [.int (37 : Int32), .ref mo]) S (c_Mod_has l D ti mo am Q w g rb rt rp ro ca va st tr 0 false pk xx rd to (nR2 x) (by first | decide | omega) 7 (by first | decide | omega)) (cw_v hts tb_5_187 k_Mod_has rfl rfl ⟨by decide, by decide⟩) hw 0 rfl rfl rfl hl.1 rfl (Nat.le_of_ble_eq_true rfl) d_Mod_special_421 ⟨Nat.zero_le _, Nat.zero_le _⟩) ?_
                      refine W.eq (g2 := F0 m9 424 ls [.int (jb (cMay (Q (nR2 x)).2.2 (7 : Int32))), .int (37 : Int32), .ref mo]) rfl ?_
                      refine q_ifz_eq S d_Mod_special_424 rfl (fun h424 => ?_) (fun h424 => ?_)
                      · refine lv_iconst (v := 0) hx hb d_Mod_special_448 (by decide) ?_
                        refine q_topi (z := (jb (kSl (Q (nR1 x)) (Q (nR2 x))))) (by rw [kSl_e, if_neg (tne h389), if_neg (tne h399), if_neg (tne h408), if_neg (tne h413), if_pos h424]; rfl) ?_
                        exact J449 _ (lv_sub (l' := [(11, .int (jb (cCov (cbase ((Q (nR2 x)).2.2) ((Q (nR2 x)).2.1)) (ctop ((Q (nR2 x)).2.2) ((Q (nR2 x)).2.1)) ((Q (nR2 x)).2.1) (1 : Int32).toInt64))), (10, .int (jb (cOpen (Q (nR2 x)).2.2))), (9, .int ((Q (nR1 x)).2.2)), (8, .int ((Q (nR2 x)).2.1)), (7, .int ((Q (nR1 x)).2.1)), (0, .ref mo), (1, .int x), (2, .int (nI (nRd x))), (3, .int (nI (nFn x))), (4, .int (nI (nR1 x))), (5, .int (nI (nR2 x))), (6, .int (nI (nNb x)))]) hl [0, 1, 2, 3, 4, 5, 6, 7, 8, 9, 10, 11] rfl)
                      · refine lv_iload hx hb d_Mod_special_427 (lv_at hl 0 rfl) ?_
                        refine q_ifz_eq S d_Mod_special_429 rfl (fun h429 => ?_) (fun h429 => ?_)
                        · refine lv_iconst (v := 0) hx hb d_Mod_special_448 (by decide) ?_
                          refine q_topi (z := (jb (kSl (Q (nR1 x)) (Q (nR2 x))))) (by rw [kSl_e, if_neg (tne h389), if_neg (tne h399), if_neg (tne h408), if_neg (tne h413), if_neg (tne h424), if_pos h429]; rfl) ?_
                          exact J449 _ (lv_sub (l' := [(11, .int (jb (cCov (cbase ((Q (nR2 x)).2.2) ((Q (nR2 x)).2.1)) (ctop ((Q (nR2 x)).2.2) ((Q (nR2 x)).2.1)) ((Q (nR2 x)).2.1) (1 : Int32).toInt64))), (10, .int (jb (cOpen (Q (nR2 x)).2.2))), (9, .int ((Q (nR1 x)).2.2)), (8, .int ((Q (nR2 x)).2.1)), (7, .int ((Q (nR1 x)).2.1)), (0, .ref mo), (1, .int x), (2, .int (nI (nRd x))), (3, .int (nI (nFn x))), (4, .int (nI (nR1 x))), (5, .int (nI (nR2 x))), (6, .int (nI (nNb x)))]) hl [0, 1, 2, 3, 4, 5, 6, 7, 8, 9, 10, 11] rfl)
                        · refine lv_iload hx hb d_Mod_special_432 (lv_at hl 3 rfl) ?_
                          refine q_cr (q_runS (As := [.int ((Q (nR2 x)).2.1)]) (rest := [.int (37 : Int32), .ref mo]) S ((c_Mod_low l D (ty4 ti) ((Q (nR2 x)).2.1)).nil _) (cw_s hts tb_5_118 k_Mod_low rfl rfl ⟨by decide, by decide⟩) hw rfl hl.1 rfl (Nat.le_of_ble_eq_true rfl) d_Mod_special_434 ⟨Nat.zero_le _, Nat.zero_le _⟩) ?_
                          refine W.eq (g2 := F0 m9 437 ls [.long (cLow ((Q (nR2 x)).2.1)), .int (37 : Int32), .ref mo]) rfl ?_
                          refine lv_ldc2 (v := 12) hx hb hown (hts _ tb_6_32) d_Mod_special_437 ?_
                          refine q_lc_ge S d_Mod_special_440 d_Mod_special_441 rfl (fun h441 => ?_) (fun h441 => ?_)
                          · refine lv_iconst (v := 0) hx hb d_Mod_special_448 (by decide) ?_
                            refine q_topi (z := (jb (kSl (Q (nR1 x)) (Q (nR2 x))))) (by rw [kSl_e, if_neg (tne h389), if_neg (tne h399), if_neg (tne h408), if_neg (tne h413), if_neg (tne h424), if_neg (tne h429), if_pos h441]; rfl) ?_
                            exact J449 _ (lv_sub (l' := [(11, .int (jb (cCov (cbase ((Q (nR2 x)).2.2) ((Q (nR2 x)).2.1)) (ctop ((Q (nR2 x)).2.2) ((Q (nR2 x)).2.1)) ((Q (nR2 x)).2.1) (1 : Int32).toInt64))), (10, .int (jb (cOpen (Q (nR2 x)).2.2))), (9, .int ((Q (nR1 x)).2.2)), (8, .int ((Q (nR2 x)).2.1)), (7, .int ((Q (nR1 x)).2.1)), (0, .ref mo), (1, .int x), (2, .int (nI (nRd x))), (3, .int (nI (nFn x))), (4, .int (nI (nR1 x))), (5, .int (nI (nR2 x))), (6, .int (nI (nNb x)))]) hl [0, 1, 2, 3, 4, 5, 6, 7, 8, 9, 10, 11] rfl)
                          · refine lv_iconst (v := 1) hx hb d_Mod_special_444 (by decide) ?_
                            refine lv_goto hx hb d_Mod_special_445 rfl ?_
                            refine q_topi (z := (jb (kSl (Q (nR1 x)) (Q (nR2 x))))) (by rw [kSl_e, if_neg (tne h389), if_neg (tne h399), if_neg (tne h408), if_neg (tne h413), if_neg (tne h424), if_neg (tne h429), if_neg h441]; rfl) ?_
                            exact J449 _ (lv_sub (l' := [(11, .int (jb (cCov (cbase ((Q (nR2 x)).2.2) ((Q (nR2 x)).2.1)) (ctop ((Q (nR2 x)).2.2) ((Q (nR2 x)).2.1)) ((Q (nR2 x)).2.1) (1 : Int32).toInt64))), (10, .int (jb (cOpen (Q (nR2 x)).2.2))), (9, .int ((Q (nR1 x)).2.2)), (8, .int ((Q (nR2 x)).2.1)), (7, .int ((Q (nR1 x)).2.1)), (0, .ref mo), (1, .int x), (2, .int (nI (nRd x))), (3, .int (nI (nFn x))), (4, .int (nI (nR1 x))), (5, .int (nI (nR2 x))), (6, .int (nI (nNb x)))]) hl [0, 1, 2, 3, 4, 5, 6, 7, 8, 9, 10, 11] rfl)
          by_cases hc116_12 : (nI (nNb x)) = (12 : Int32)
          · refine lv_lookup (off := 351) (tgt := 467) hx hb d_Mod_special_116 (by decide) (by rw [hc116_12] <;> rfl) rfl ?_
            refine lv_iload hx hb d_Mod_special_467 (lv_at hl 2 rfl) ?_
            refine q_cr (q_runS (As := [.int ((Q (nR1 x)).2.2)]) (rest := []) S ((c_Mod_perms l D (ty4 ti) ((Q (nR1 x)).2.2)).nil _) (cw_s hts tb_5_191 k_Mod_perms rfl rfl ⟨by decide, by decide⟩) hw rfl hl.1 rfl (Nat.le_of_ble_eq_true rfl) d_Mod_special_469 ⟨Nat.zero_le _, Nat.zero_le _⟩) ?_
            refine W.eq (g2 := F0 m9 472 ls [.int (cPerms ((Q (nR1 x)).2.2))]) rfl ?_
            refine lv_istore (lv' := [(12, .int (cPerms ((Q (nR1 x)).2.2))), (11, .int (jb (cCov (cbase ((Q (nR2 x)).2.2) ((Q (nR2 x)).2.1)) (ctop ((Q (nR2 x)).2.2) ((Q (nR2 x)).2.1)) ((Q (nR2 x)).2.1) (1 : Int32).toInt64))), (10, .int (jb (cOpen (Q (nR2 x)).2.2))), (9, .int ((Q (nR1 x)).2.2)), (8, .int ((Q (nR2 x)).2.1)), (7, .int ((Q (nR1 x)).2.1)), (0, .ref mo), (1, .int x), (2, .int (nI (nRd x))), (3, .int (nI (nFn x))), (4, .int (nI (nR1 x))), (5, .int (nI (nR2 x))), (6, .int (nI (nNb x)))]) hx hb d_Mod_special_472 hl (by decide) rfl (fun ls hl => ?_)
            refine q_join (pcJ := 491) (st := []) (lv' := [(12, .int (if cMay (Q (nR2 x)).2.2 0 = true then cPerms (Q (nR1 x)).2.2 else cPerms (Q (nR1 x)).2.2 &&& (-2))), (11, .int (jb (cCov (cbase ((Q (nR2 x)).2.2) ((Q (nR2 x)).2.1)) (ctop ((Q (nR2 x)).2.2) ((Q (nR2 x)).2.1)) ((Q (nR2 x)).2.1) (1 : Int32).toInt64))), (10, .int (jb (cOpen (Q (nR2 x)).2.2))), (9, .int ((Q (nR1 x)).2.2)), (8, .int ((Q (nR2 x)).2.1)), (7, .int ((Q (nR1 x)).2.1)), (0, .ref mo), (1, .int x), (2, .int (nI (nRd x))), (3, .int (nI (nFn x))), (4, .int (nI (nR1 x))), (5, .int (nI (nR2 x))), (6, .int (nI (nNb x)))]) (nL := 13) (fun ls hl => ?_) (fun J491 => ?_)
            · refine lv_aload_n hx hb d_Mod_special_491 rfl (lv_at hl 6 rfl) ?_
              refine lv_bipush (v := 37) hx hb d_Mod_special_492 (by decide) ?_
              refine q_join (pcJ := 560) (st := [.int (jb (kUn (Q (nR1 x)) (Q (nR2 x)))), .int (37 : Int32), .ref mo]) (lv' := [(12, .int (if cMay (Q (nR2 x)).2.2 0 = true then cPerms (Q (nR1 x)).2.2 else cPerms (Q (nR1 x)).2.2 &&& (-2))), (11, .int (jb (cCov (cbase ((Q (nR2 x)).2.2) ((Q (nR2 x)).2.1)) (ctop ((Q (nR2 x)).2.2) ((Q (nR2 x)).2.1)) ((Q (nR2 x)).2.1) (1 : Int32).toInt64))), (10, .int (jb (cOpen (Q (nR2 x)).2.2))), (9, .int ((Q (nR1 x)).2.2)), (8, .int ((Q (nR2 x)).2.1)), (7, .int ((Q (nR1 x)).2.1)), (0, .ref mo), (1, .int x), (2, .int (nI (nRd x))), (3, .int (nI (nFn x))), (4, .int (nI (nR1 x))), (5, .int (nI (nR2 x))), (6, .int (nI (nNb x)))]) (nL := 13) (fun ls hl => ?_) (fun J560 => ?_)
              · refine lv_iload hx hb d_Mod_special_560 (lv_at hl 5 rfl) ?_
                refine lv_iload hx hb d_Mod_special_562 (lv_at hl 3 rfl) ?_
                refine lv_bipush (v := 15) hx hb d_Mod_special_564 (by decide) ?_
                refine q_cr (q_runS (As := [.int ((Q (nR1 x)).2.2), .int (15 : Int32)]) (rest := [.int ((Q (nR1 x)).2.1), .int (jb (kUn (Q (nR1 x)) (Q (nR2 x)))), .int (37 : Int32), .ref mo]) S ((c_Mod_withType l D (ty4 ti) ((Q (nR1 x)).2.2) (15 : Int32)).nil _) (cw_s hts tb_5_231 k_Mod_withType rfl rfl ⟨by decide, by decide⟩) hw rfl hl.1 rfl (Nat.le_of_ble_eq_true rfl) d_Mod_special_566 ⟨Nat.zero_le _, Nat.zero_le _⟩) ?_
                refine W.eq (g2 := F0 m9 569 ls [.int (cSetT ((Q (nR1 x)).2.2) (15 : Int32)), .int ((Q (nR1 x)).2.1), .int (jb (kUn (Q (nR1 x)) (Q (nR2 x)))), .int (37 : Int32), .ref mo]) rfl ?_
                refine lv_iload hx hb d_Mod_special_569 (lv_at hl 0 rfl) ?_
                refine q_cr (q_runS (As := [.int (cSetT ((Q (nR1 x)).2.2) (15 : Int32)), .int (if cMay (Q (nR2 x)).2.2 0 = true then cPerms (Q (nR1 x)).2.2 else cPerms (Q (nR1 x)).2.2 &&& (-2))]) (rest := [.int ((Q (nR1 x)).2.1), .int (jb (kUn (Q (nR1 x)) (Q (nR2 x)))), .int (37 : Int32), .ref mo]) S ((c_Mod_withPerms l D (ty4 ti) (cSetT ((Q (nR1 x)).2.2) (15 : Int32)) (if cMay (Q (nR2 x)).2.2 0 = true then cPerms (Q (nR1 x)).2.2 else cPerms (Q (nR1 x)).2.2 &&& (-2))).nil _) (cw_s hts tb_6_33 k_Mod_withPerms rfl rfl ⟨by decide, by decide⟩) hw rfl hl.1 rfl (Nat.le_of_ble_eq_true rfl) d_Mod_special_571 ⟨Nat.zero_le _, Nat.zero_le _⟩) ?_
                refine W.eq (g2 := F0 m9 574 ls [.int (cSetP (cSetT ((Q (nR1 x)).2.2) (15 : Int32)) (if cMay (Q (nR2 x)).2.2 0 = true then cPerms (Q (nR1 x)).2.2 else cPerms (Q (nR1 x)).2.2 &&& (-2))), .int ((Q (nR1 x)).2.1), .int (jb (kUn (Q (nR1 x)) (Q (nR2 x)))), .int (37 : Int32), .ref mo]) rfl ?_
                refine q_cg (q_runV (As := [.int (37 : Int32), .int (jb (kUn (Q (nR1 x)) (Q (nR2 x)))), .int ((Q (nR1 x)).2.1), .int (cSetP (cSetT ((Q (nR1 x)).2.2) (15 : Int32)) (if cMay (Q (nR2 x)).2.2 0 = true then cPerms (Q (nR1 x)).2.2 else cPerms (Q (nR1 x)).2.2 &&& (-2)))]) (rest := []) S (c_Mod_set l D ti mo am Q w g rb rt rp ro ca va st tr 0 false pk xx rd to 37 (by first | decide | omega) (kUn (Q (nR1 x)) (Q (nR2 x))) ((Q (nR1 x)).2.1) (cSetP (cSetT ((Q (nR1 x)).2.2) (15 : Int32)) (if cMay (Q (nR2 x)).2.2 0 = true then cPerms (Q (nR1 x)).2.2 else cPerms (Q (nR1 x)).2.2 &&& (-2)))) (cw_v hts tb_5_131 k_Mod_set rfl rfl ⟨by decide, by decide⟩) hw 0 rfl rfl rfl hl.1 rfl (Nat.le_of_ble_eq_true rfl) d_Mod_special_574 ⟨Nat.zero_le _, Nat.zero_le _⟩) hw (fun z hD => qD_same hD rfl) (fun z9 H locs hp9 hw => ?_)
                refine W.eq (g2 := F0 m9 577 ls []) rfl ?_
                have hw : Lv _ _ _ _ _ (RMW mo am ti (rSet Q 37 ((kUn (Q (nR1 x)) (Q (nR2 x))), ((Q (nR1 x)).2.1), (cSetP (cSetT ((Q (nR1 x)).2.2) (15 : Int32)) (if cMay (Q (nR2 x)).2.2 0 = true then cPerms (Q (nR1 x)).2.2 else cPerms (Q (nR1 x)).2.2 &&& (-2))))) w g rb rt rp ro ca va st tr 0 false pk xx rd to) _ _ _ := hw
                refine lv_goto hx hb d_Mod_special_577 rfl ?_
                exact J932 ((rSet Q 37 ((kUn (Q (nR1 x)) (Q (nR2 x))), ((Q (nR1 x)).2.1), (cSetP (cSetT ((Q (nR1 x)).2.2) (15 : Int32)) (if cMay (Q (nR2 x)).2.2 0 = true then cPerms (Q (nR1 x)).2.2 else cPerms (Q (nR1 x)).2.2 &&& (-2))))), pk, xx, rd) _ _ _ (sU_v (un_c _ _) (by unfold xU xNb; rw [if_pos h76, hc116_12]; rfl)) hw (lv_sub (l' := [(11, .int (jb (cCov (cbase ((Q (nR2 x)).2.2) ((Q (nR2 x)).2.1)) (ctop ((Q (nR2 x)).2.2) ((Q (nR2 x)).2.1)) ((Q (nR2 x)).2.1) (1 : Int32).toInt64))), (10, .int (jb (cOpen (Q (nR2 x)).2.2))), (9, .int ((Q (nR1 x)).2.2)), (8, .int ((Q (nR2 x)).2.1)), (7, .int ((Q (nR1 x)).2.1)), (0, .ref mo), (1, .int x), (2, .int (nI (nRd x))), (3, .int (nI (nFn x))), (4, .int (nI (nR1 x))), (5, .int (nI (nR2 x))), (6, .int (nI (nNb x)))]) hl [1, 2, 3, 4, 5, 6, 7, 8, 9, 10, 11, 12] rfl)
              · refine lv_aload_n hx hb d_Mod_special_494 rfl (lv_at hl 6 rfl) ?_
                refine q_get S hw ly_Mod 0 rfl rfl 0 (by decide) tb_5_43 rfl rfl d_Mod_special_495 ?_
                refine lv_iload hx hb d_Mod_special_498 (lv_at hl 10 rfl) ?_
                refine q_zaldN (k := nR1 x) S hw 1 1 rfl rfl (by first | assumption | omega) (by decide) d_Mod_special_500 ?_
                refine q_ifz_eq S d_Mod_special_501 rfl (fun h501 => ?_) (fun h501 => ?_)
                · refine lv_iconst (v := 0) hx hb d_Mod_special_559 (by decide) ?_
                  refine q_topi (z := (jb (kUn (Q (nR1 x)) (Q (nR2 x))))) (by rw [kUn_e, if_pos h501]; rfl) ?_
                  exact J560 _ (lv_sub (l' := [(12, .int (if cMay (Q (nR2 x)).2.2 0 = true then cPerms (Q (nR1 x)).2.2 else cPerms (Q (nR1 x)).2.2 &&& (-2))), (11, .int (jb (cCov (cbase ((Q (nR2 x)).2.2) ((Q (nR2 x)).2.1)) (ctop ((Q (nR2 x)).2.2) ((Q (nR2 x)).2.1)) ((Q (nR2 x)).2.1) (1 : Int32).toInt64))), (10, .int (jb (cOpen (Q (nR2 x)).2.2))), (9, .int ((Q (nR1 x)).2.2)), (8, .int ((Q (nR2 x)).2.1)), (7, .int ((Q (nR1 x)).2.1)), (0, .ref mo), (1, .int x), (2, .int (nI (nRd x))), (3, .int (nI (nFn x))), (4, .int (nI (nR1 x))), (5, .int (nI (nR2 x))), (6, .int (nI (nNb x)))]) hl [0, 1, 2, 3, 4, 5, 6, 7, 8, 9, 10, 11, 12] rfl)
                · refine lv_aload_n hx hb d_Mod_special_504 rfl (lv_at hl 6 rfl) ?_
                  refine q_get S hw ly_Mod 0 rfl rfl 0 (by decide) tb_5_43 rfl rfl d_Mod_special_505 ?_
                  refine lv_iload hx hb d_Mod_special_508 (lv_at hl 11 rfl) ?_
                  refine q_zaldN (k := nR2 x) S hw 1 1 rfl rfl (by first | assumption | omega) (by decide) d_Mod_special_510 ?_
                  refine q_ifz_eq S d_Mod_special_511 rfl (fun h511 => ?_) (fun h511 => ?_)
                  · refine lv_iconst (v := 0) hx hb d_Mod_special_559 (by decide) ?_
                    refine q_topi (z := (jb (kUn (Q (nR1 x)) (Q (nR2 x))))) (by rw [kUn_e, if_neg (tne h501), if_pos h511]; rfl) ?_
                    exact J560 _ (lv_sub (l' := [(12, .int (if cMay (Q (nR2 x)).2.2 0 = true then cPerms (Q (nR1 x)).2.2 else cPerms (Q (nR1 x)).2.2 &&& (-2))), (11, .int (jb (cCov (cbase ((Q (nR2 x)).2.2) ((Q (nR2 x)).2.1)) (ctop ((Q (nR2 x)).2.2) ((Q (nR2 x)).2.1)) ((Q (nR2 x)).2.1) (1 : Int32).toInt64))), (10, .int (jb (cOpen (Q (nR2 x)).2.2))), (9, .int ((Q (nR1 x)).2.2)), (8, .int ((Q (nR2 x)).2.1)), (7, .int ((Q (nR1 x)).2.1)), (0, .ref mo), (1, .int x), (2, .int (nI (nRd x))), (3, .int (nI (nFn x))), (4, .int (nI (nR1 x))), (5, .int (nI (nR2 x))), (6, .int (nI (nNb x)))]) hl [0, 1, 2, 3, 4, 5, 6, 7, 8, 9, 10, 11, 12] rfl)
                  · refine lv_iload hx hb d_Mod_special_514 (lv_at hl 3 rfl) ?_
                    refine q_cr (q_runS (As := [.int ((Q (nR1 x)).2.2)]) (rest := [.int (37 : Int32), .ref mo]) S ((c_Mod_type l D (ty4 ti) ((Q (nR1 x)).2.2)).nil _) (cw_s hts tb_5_184 k_Mod_type rfl rfl ⟨by decide, by decide⟩) hw rfl hl.1 rfl (Nat.le_of_ble_eq_true rfl) d_Mod_special_516 ⟨Nat.zero_le _, Nat.zero_le _⟩) ?_
                    refine W.eq (g2 := F0 m9 519 ls [.int (cType ((Q (nR1 x)).2.2)), .int (37 : Int32), .ref mo]) rfl ?_
                    refine lv_bipush (v := 12) hx hb d_Mod_special_519 (by decide) ?_
                    refine lv_icmp_ge hx hb d_Mod_special_521 rfl (fun h521 => ?_) (fun h521 => ?_)
                    · refine lv_iconst (v := 0) hx hb d_Mod_special_559 (by decide) ?_
                      refine q_topi (z := (jb (kUn (Q (nR1 x)) (Q (nR2 x))))) (by rw [kUn_e, if_neg (tne h501), if_neg (tne h511), if_pos h521]; rfl) ?_
                      exact J560 _ (lv_sub (l' := [(12, .int (if cMay (Q (nR2 x)).2.2 0 = true then cPerms (Q (nR1 x)).2.2 else cPerms (Q (nR1 x)).2.2 &&& (-2))), (11, .int (jb (cCov (cbase ((Q (nR2 x)).2.2) ((Q (nR2 x)).2.1)) (ctop ((Q (nR2 x)).2.2) ((Q (nR2 x)).2.1)) ((Q (nR2 x)).2.1) (1 : Int32).toInt64))), (10, .int (jb (cOpen (Q (nR2 x)).2.2))), (9, .int ((Q (nR1 x)).2.2)), (8, .int ((Q (nR2 x)).2.1)), (7, .int ((Q (nR1 x)).2.1)), (0, .ref mo), (1, .int x), (2, .int (nI (nRd x))), (3, .int (nI (nFn x))), (4, .int (nI (nR1 x))), (5, .int (nI (nR2 x))), (6, .int (nI (nNb x)))]) hl [0, 1, 2, 3, 4, 5, 6, 7, 8, 9, 10, 11, 12] rfl)
                    · refine lv_iload hx hb d_Mod_special_524 (lv_at hl 3 rfl) ?_
                      refine q_cr (q_runS (As := [.int ((Q (nR1 x)).2.2)]) (rest := [.int (37 : Int32), .ref mo]) S ((c_Mod_type l D (ty4 ti) ((Q (nR1 x)).2.2)).nil _) (cw_s hts tb_5_184 k_Mod_type rfl rfl ⟨by decide, by decide⟩) hw rfl hl.1 rfl (Nat.le_of_ble_eq_true rfl) d_Mod_special_526 ⟨Nat.zero_le _, Nat.zero_le _⟩) ?_
                      refine W.eq (g2 := F0 m9 529 ls [.int (cType ((Q (nR1 x)).2.2)), .int (37 : Int32), .ref mo]) rfl ?_
                      refine lv_iload hx hb d_Mod_special_529 (lv_at hl 4 rfl) ?_
                      refine lv_icmp_ne hx hb d_Mod_special_531 rfl (fun h531 => ?_) (fun h531 => ?_)
                      · refine lv_iconst (v := 0) hx hb d_Mod_special_559 (by decide) ?_
                        refine q_topi (z := (jb (kUn (Q (nR1 x)) (Q (nR2 x))))) (by rw [kUn_e, if_neg (tne h501), if_neg (tne h511), if_neg h521, if_neg h531]; rfl) ?_
                        exact J560 _ (lv_sub (l' := [(12, .int (if cMay (Q (nR2 x)).2.2 0 = true then cPerms (Q (nR1 x)).2.2 else cPerms (Q (nR1 x)).2.2 &&& (-2))), (11, .int (jb (cCov (cbase ((Q (nR2 x)).2.2) ((Q (nR2 x)).2.1)) (ctop ((Q (nR2 x)).2.2) ((Q (nR2 x)).2.1)) ((Q (nR2 x)).2.1) (1 : Int32).toInt64))), (10, .int (jb (cOpen (Q (nR2 x)).2.2))), (9, .int ((Q (nR1 x)).2.2)), (8, .int ((Q (nR2 x)).2.1)), (7, .int ((Q (nR1 x)).2.1)), (0, .ref mo), (1, .int x), (2, .int (nI (nRd x))), (3, .int (nI (nFn x))), (4, .int (nI (nR1 x))), (5, .int (nI (nR2 x))), (6, .int (nI (nNb x)))]) hl [0, 1, 2, 3, 4, 5, 6, 7, 8, 9, 10, 11, 12] rfl)
                      · refine lv_iload hx hb d_Mod_special_534 (lv_at hl 2 rfl) ?_
                        refine q_ifz_eq S d_Mod_special_536 rfl (fun h536 => ?_) (fun h536 => ?_)
                        · refine lv_iconst (v := 0) hx hb d_Mod_special_559 (by decide) ?_
                          refine q_topi (z := (jb (kUn (Q (nR1 x)) (Q (nR2 x))))) (by rw [kUn_e, if_neg (tne h501), if_neg (tne h511), if_neg h521, if_pos h531, if_pos h536]; rfl) ?_
                          exact J560 _ (lv_sub (l' := [(12, .int (if cMay (Q (nR2 x)).2.2 0 = true then cPerms (Q (nR1 x)).2.2 else cPerms (Q (nR1 x)).2.2 &&& (-2))), (11, .int (jb (cCov (cbase ((Q (nR2 x)).2.2) ((Q (nR2 x)).2.1)) (ctop ((Q (nR2 x)).2.2) ((Q (nR2 x)).2.1)) ((Q (nR2 x)).2.1) (1 : Int32).toInt64))), (10, .int (jb (cOpen (Q (nR2 x)).2.2))), (9, .int ((Q (nR1 x)).2.2)), (8, .int ((Q (nR2 x)).2.1)), (7, .int ((Q (nR1 x)).2.1)), (0, .ref mo), (1, .int x), (2, .int (nI (nRd x))), (3, .int (nI (nFn x))), (4, .int (nI (nR1 x))), (5, .int (nI (nR2 x))), (6, .int (nI (nNb x)))]) hl [0, 1, 2, 3, 4, 5, 6, 7, 8, 9, 10, 11, 12] rfl)
                        · refine lv_aload_n hx hb d_Mod_special_539 rfl (lv_at hl 6 rfl) ?_
                          refine lv_iload hx hb d_Mod_special_540 (lv_at hl 11 rfl) ?_
                          refine lv_bipush (v := 9) hx hb d_Mod_special_542 (by decide) ?_
                          refine q_cr (q_runV (As := [.int (nI (nR2 x)), .int (9 : Int32)]) (rest := [.int (37 : Int32), .ref mo]) S (c_Mod_has l D ti mo am Q w g rb rt rp ro ca va st tr 0 false pk xx rd to (nR2 x) (by first | decide | omega) 9 (by first | decide | omega)) (cw_v hts tb_5_187 k_Mod_has rfl rfl ⟨by decide, by decide⟩) hw 0 rfl rfl rfl hl.1 rfl (Nat.le_of_ble_eq_true rfl) d_Mod_special_544 ⟨Nat.zero_le _, Nat.zero_le _⟩) ?_
                          refine W.eq (g2 := F0 m9 547 ls [.int (jb (cMay (Q (nR2 x)).2.2 (9 : Int32))), .int (37 : Int32), .ref mo]) rfl ?_
                          refine q_ifz_eq S d_Mod_special_547 rfl (fun h547 => ?_) (fun h547 => ?_)
                          · refine lv_iconst (v := 0) hx hb d_Mod_special_559 (by decide) ?_
                            refine q_topi (z := (jb (kUn (Q (nR1 x)) (Q (nR2 x))))) (by rw [kUn_e, if_neg (tne h501), if_neg (tne h511), if_neg h521, if_pos h531, if_neg (tne h536), if_pos h547]; rfl) ?_
                            exact J560 _ (lv_sub (l' := [(12, .int (if cMay (Q (nR2 x)).2.2 0 = true then cPerms (Q (nR1 x)).2.2 else cPerms (Q (nR1 x)).2.2 &&& (-2))), (11, .int (jb (cCov (cbase ((Q (nR2 x)).2.2) ((Q (nR2 x)).2.1)) (ctop ((Q (nR2 x)).2.2) ((Q (nR2 x)).2.1)) ((Q (nR2 x)).2.1) (1 : Int32).toInt64))), (10, .int (jb (cOpen (Q (nR2 x)).2.2))), (9, .int ((Q (nR1 x)).2.2)), (8, .int ((Q (nR2 x)).2.1)), (7, .int ((Q (nR1 x)).2.1)), (0, .ref mo), (1, .int x), (2, .int (nI (nRd x))), (3, .int (nI (nFn x))), (4, .int (nI (nR1 x))), (5, .int (nI (nR2 x))), (6, .int (nI (nNb x)))]) hl [0, 1, 2, 3, 4, 5, 6, 7, 8, 9, 10, 11, 12] rfl)
                          · refine lv_iload hx hb d_Mod_special_550 (lv_at hl 1 rfl) ?_
                            refine q_ifz_eq S d_Mod_special_552 rfl (fun h552 => ?_) (fun h552 => ?_)
                            · refine lv_iconst (v := 0) hx hb d_Mod_special_559 (by decide) ?_
                              refine q_topi (z := (jb (kUn (Q (nR1 x)) (Q (nR2 x))))) (by rw [kUn_e, if_neg (tne h501), if_neg (tne h511), if_neg h521, if_pos h531, if_neg (tne h536), if_neg (tne h547), if_pos h552]; rfl) ?_
                              exact J560 _ (lv_sub (l' := [(12, .int (if cMay (Q (nR2 x)).2.2 0 = true then cPerms (Q (nR1 x)).2.2 else cPerms (Q (nR1 x)).2.2 &&& (-2))), (11, .int (jb (cCov (cbase ((Q (nR2 x)).2.2) ((Q (nR2 x)).2.1)) (ctop ((Q (nR2 x)).2.2) ((Q (nR2 x)).2.1)) ((Q (nR2 x)).2.1) (1 : Int32).toInt64))), (10, .int (jb (cOpen (Q (nR2 x)).2.2))), (9, .int ((Q (nR1 x)).2.2)), (8, .int ((Q (nR2 x)).2.1)), (7, .int ((Q (nR1 x)).2.1)), (0, .ref mo), (1, .int x), (2, .int (nI (nRd x))), (3, .int (nI (nFn x))), (4, .int (nI (nR1 x))), (5, .int (nI (nR2 x))), (6, .int (nI (nNb x)))]) hl [0, 1, 2, 3, 4, 5, 6, 7, 8, 9, 10, 11, 12] rfl)
                            · refine lv_iconst (v := 1) hx hb d_Mod_special_555 (by decide) ?_
                              refine lv_goto hx hb d_Mod_special_556 rfl ?_
                              refine q_topi (z := (jb (kUn (Q (nR1 x)) (Q (nR2 x))))) (by rw [kUn_e, if_neg (tne h501), if_neg (tne h511), if_neg h521, if_pos h531, if_neg (tne h536), if_neg (tne h547), if_neg (tne h552)]; rfl) ?_
                              exact J560 _ (lv_sub (l' := [(12, .int (if cMay (Q (nR2 x)).2.2 0 = true then cPerms (Q (nR1 x)).2.2 else cPerms (Q (nR1 x)).2.2 &&& (-2))), (11, .int (jb (cCov (cbase ((Q (nR2 x)).2.2) ((Q (nR2 x)).2.1)) (ctop ((Q (nR2 x)).2.2) ((Q (nR2 x)).2.1)) ((Q (nR2 x)).2.1) (1 : Int32).toInt64))), (10, .int (jb (cOpen (Q (nR2 x)).2.2))), (9, .int ((Q (nR1 x)).2.2)), (8, .int ((Q (nR2 x)).2.1)), (7, .int ((Q (nR1 x)).2.1)), (0, .ref mo), (1, .int x), (2, .int (nI (nRd x))), (3, .int (nI (nFn x))), (4, .int (nI (nR1 x))), (5, .int (nI (nR2 x))), (6, .int (nI (nNb x)))]) hl [0, 1, 2, 3, 4, 5, 6, 7, 8, 9, 10, 11, 12] rfl)
            · refine lv_aload_n hx hb d_Mod_special_474 rfl (lv_at hl 6 rfl) ?_
              refine lv_iload hx hb d_Mod_special_475 (lv_at hl 11 rfl) ?_
              refine lv_iconst (v := 0) hx hb d_Mod_special_477 (by decide) ?_
              refine q_cr (q_runV (As := [.int (nI (nR2 x)), .int (0 : Int32)]) (rest := []) S (c_Mod_has l D ti mo am Q w g rb rt rp ro ca va st tr 0 false pk xx rd to (nR2 x) (by first | decide | omega) 0 (by first | decide | omega)) (cw_v hts tb_5_187 k_Mod_has rfl rfl ⟨by decide, by decide⟩) hw 0 rfl rfl rfl hl.1 rfl (Nat.le_of_ble_eq_true rfl) d_Mod_special_478 ⟨Nat.zero_le _, Nat.zero_le _⟩) ?_
              refine W.eq (g2 := F0 m9 481 ls [.int (jb (cMay (Q (nR2 x)).2.2 (0 : Int32)))]) rfl ?_
              refine q_ifz_ne S d_Mod_special_481 rfl (fun h481 => ?_) (fun h481 => ?_)
              · exact J491 _ (q_loc (l' := [(12, .int (if cMay (Q (nR2 x)).2.2 0 = true then cPerms (Q (nR1 x)).2.2 else cPerms (Q (nR1 x)).2.2 &&& (-2))), (11, .int (jb (cCov (cbase ((Q (nR2 x)).2.2) ((Q (nR2 x)).2.1)) (ctop ((Q (nR2 x)).2.2) ((Q (nR2 x)).2.1)) ((Q (nR2 x)).2.1) (1 : Int32).toInt64))), (10, .int (jb (cOpen (Q (nR2 x)).2.2))), (9, .int ((Q (nR1 x)).2.2)), (8, .int ((Q (nR2 x)).2.1)), (7, .int ((Q (nR1 x)).2.1)), (0, .ref mo), (1, .int x), (2, .int (nI (nRd x))), (3, .int (nI (nFn x))), (4, .int (nI (nR1 x))), (5, .int (nI (nR2 x))), (6, .int (nI (nNb x)))]) (lv_sub (l' := [(12, .int (cPerms ((Q (nR1 x)).2.2))), (11, .int (jb (cCov (cbase ((Q (nR2 x)).2.2) ((Q (nR2 x)).2.1)) (ctop ((Q (nR2 x)).2.2) ((Q (nR2 x)).2.1)) ((Q (nR2 x)).2.1) (1 : Int32).toInt64))), (10, .int (jb (cOpen (Q (nR2 x)).2.2))), (9, .int ((Q (nR1 x)).2.2)), (8, .int ((Q (nR2 x)).2.1)), (7, .int ((Q (nR1 x)).2.1)), (0, .ref mo), (1, .int x), (2, .int (nI (nRd x))), (3, .int (nI (nFn x))), (4, .int (nI (nR1 x))), (5, .int (nI (nR2 x))), (6, .int (nI (nNb x)))]) hl [0, 1, 2, 3, 4, 5, 6, 7, 8, 9, 10, 11, 12] rfl) (by rw [if_pos h481]))
              · refine lv_iload hx hb d_Mod_special_484 (lv_at hl 0 rfl) ?_
                refine lv_bipush (v := -2) hx hb d_Mod_special_486 (by decide) ?_
                refine lv_iand hx hb d_Mod_special_488 ?_
                refine lv_istore (lv' := [(12, .int ((cPerms ((Q (nR1 x)).2.2)) &&& (-2 : Int32))), (11, .int (jb (cCov (cbase ((Q (nR2 x)).2.2) ((Q (nR2 x)).2.1)) (ctop ((Q (nR2 x)).2.2) ((Q (nR2 x)).2.1)) ((Q (nR2 x)).2.1) (1 : Int32).toInt64))), (10, .int (jb (cOpen (Q (nR2 x)).2.2))), (9, .int ((Q (nR1 x)).2.2)), (8, .int ((Q (nR2 x)).2.1)), (7, .int ((Q (nR1 x)).2.1)), (0, .ref mo), (1, .int x), (2, .int (nI (nRd x))), (3, .int (nI (nFn x))), (4, .int (nI (nR1 x))), (5, .int (nI (nR2 x))), (6, .int (nI (nNb x)))]) hx hb d_Mod_special_489 hl (by decide) rfl (fun ls hl => ?_)
                exact J491 _ (q_loc (l' := [(12, .int (if cMay (Q (nR2 x)).2.2 0 = true then cPerms (Q (nR1 x)).2.2 else cPerms (Q (nR1 x)).2.2 &&& (-2))), (11, .int (jb (cCov (cbase ((Q (nR2 x)).2.2) ((Q (nR2 x)).2.1)) (ctop ((Q (nR2 x)).2.2) ((Q (nR2 x)).2.1)) ((Q (nR2 x)).2.1) (1 : Int32).toInt64))), (10, .int (jb (cOpen (Q (nR2 x)).2.2))), (9, .int ((Q (nR1 x)).2.2)), (8, .int ((Q (nR2 x)).2.1)), (7, .int ((Q (nR1 x)).2.1)), (0, .ref mo), (1, .int x), (2, .int (nI (nRd x))), (3, .int (nI (nFn x))), (4, .int (nI (nR1 x))), (5, .int (nI (nR2 x))), (6, .int (nI (nNb x)))]) (lv_sub (l' := [(12, .int ((cPerms ((Q (nR1 x)).2.2)) &&& (-2 : Int32))), (11, .int (jb (cCov (cbase ((Q (nR2 x)).2.2) ((Q (nR2 x)).2.1)) (ctop ((Q (nR2 x)).2.2) ((Q (nR2 x)).2.1)) ((Q (nR2 x)).2.1) (1 : Int32).toInt64))), (10, .int (jb (cOpen (Q (nR2 x)).2.2))), (9, .int ((Q (nR1 x)).2.2)), (8, .int ((Q (nR2 x)).2.1)), (7, .int ((Q (nR1 x)).2.1)), (0, .ref mo), (1, .int x), (2, .int (nI (nRd x))), (3, .int (nI (nFn x))), (4, .int (nI (nR1 x))), (5, .int (nI (nR2 x))), (6, .int (nI (nNb x)))]) hl [0, 1, 2, 3, 4, 5, 6, 7, 8, 9, 10, 11, 12] rfl) (by rw [if_neg (fne h481)]))
          by_cases hc116_13 : (nI (nNb x)) = (13 : Int32)
          · refine lv_lookup (off := 464) (tgt := 580) hx hb d_Mod_special_116 (by decide) (by rw [hc116_13] <;> rfl) rfl ?_
            refine lv_aload_n hx hb d_Mod_special_580 rfl (lv_at hl 5 rfl) ?_
            refine lv_bipush (v := 37) hx hb d_Mod_special_581 (by decide) ?_
            refine q_join (pcJ := 607) (st := [.int (jb (kAn (Q (nR1 x)))), .int (37 : Int32), .ref mo]) (lv' := [(11, .int (jb (cCov (cbase ((Q (nR2 x)).2.2) ((Q (nR2 x)).2.1)) (ctop ((Q (nR2 x)).2.2) ((Q (nR2 x)).2.1)) ((Q (nR2 x)).2.1) (1 : Int32).toInt64))), (10, .int (jb (cOpen (Q (nR2 x)).2.2))), (9, .int ((Q (nR1 x)).2.2)), (8, .int ((Q (nR2 x)).2.1)), (7, .int ((Q (nR1 x)).2.1)), (0, .ref mo), (1, .int x), (2, .int (nI (nRd x))), (3, .int (nI (nFn x))), (4, .int (nI (nR1 x))), (5, .int (nI (nR2 x))), (6, .int (nI (nNb x)))]) (nL := 13) (fun ls hl => ?_) (fun J607 => ?_)
            · refine lv_iload hx hb d_Mod_special_607 (lv_at hl 4 rfl) ?_
              refine lv_iload hx hb d_Mod_special_609 (lv_at hl 2 rfl) ?_
              refine lv_iload hx hb d_Mod_special_611 (lv_at hl 2 rfl) ?_
              refine q_cr (q_runS (As := [.int ((Q (nR1 x)).2.2)]) (rest := [.int ((Q (nR1 x)).2.2), .int ((Q (nR1 x)).2.1), .int (jb (kAn (Q (nR1 x)))), .int (37 : Int32), .ref mo]) S ((c_Mod_perms l D (ty4 ti) ((Q (nR1 x)).2.2)).nil _) (cw_s hts tb_5_191 k_Mod_perms rfl rfl ⟨by decide, by decide⟩) hw rfl hl.1 rfl (Nat.le_of_ble_eq_true rfl) d_Mod_special_613 ⟨Nat.zero_le _, Nat.zero_le _⟩) ?_
              refine W.eq (g2 := F0 m9 616 ls [.int (cPerms ((Q (nR1 x)).2.2)), .int ((Q (nR1 x)).2.2), .int ((Q (nR1 x)).2.1), .int (jb (kAn (Q (nR1 x)))), .int (37 : Int32), .ref mo]) rfl ?_
              refine lv_iload hx hb d_Mod_special_616 (lv_at hl 3 rfl) ?_
              refine lv_iand hx hb d_Mod_special_618 ?_
              refine q_cr (q_runS (As := [.int ((Q (nR1 x)).2.2), .int ((cPerms ((Q (nR1 x)).2.2)) &&& ((Q (nR2 x)).2.1))]) (rest := [.int ((Q (nR1 x)).2.1), .int (jb (kAn (Q (nR1 x)))), .int (37 : Int32), .ref mo]) S ((c_Mod_withPerms l D (ty4 ti) ((Q (nR1 x)).2.2) ((cPerms ((Q (nR1 x)).2.2)) &&& ((Q (nR2 x)).2.1))).nil _) (cw_s hts tb_6_33 k_Mod_withPerms rfl rfl ⟨by decide, by decide⟩) hw rfl hl.1 rfl (Nat.le_of_ble_eq_true rfl) d_Mod_special_619 ⟨Nat.zero_le _, Nat.zero_le _⟩) ?_
              refine W.eq (g2 := F0 m9 622 ls [.int (cSetP ((Q (nR1 x)).2.2) ((cPerms ((Q (nR1 x)).2.2)) &&& ((Q (nR2 x)).2.1))), .int ((Q (nR1 x)).2.1), .int (jb (kAn (Q (nR1 x)))), .int (37 : Int32), .ref mo]) rfl ?_
              refine q_cg (q_runV (As := [.int (37 : Int32), .int (jb (kAn (Q (nR1 x)))), .int ((Q (nR1 x)).2.1), .int (cSetP ((Q (nR1 x)).2.2) ((cPerms ((Q (nR1 x)).2.2)) &&& ((Q (nR2 x)).2.1)))]) (rest := []) S (c_Mod_set l D ti mo am Q w g rb rt rp ro ca va st tr 0 false pk xx rd to 37 (by first | decide | omega) (kAn (Q (nR1 x))) ((Q (nR1 x)).2.1) (cSetP ((Q (nR1 x)).2.2) ((cPerms ((Q (nR1 x)).2.2)) &&& ((Q (nR2 x)).2.1)))) (cw_v hts tb_5_131 k_Mod_set rfl rfl ⟨by decide, by decide⟩) hw 0 rfl rfl rfl hl.1 rfl (Nat.le_of_ble_eq_true rfl) d_Mod_special_622 ⟨Nat.zero_le _, Nat.zero_le _⟩) hw (fun z hD => qD_same hD rfl) (fun z9 H locs hp9 hw => ?_)
              refine W.eq (g2 := F0 m9 625 ls []) rfl ?_
              have hw : Lv _ _ _ _ _ (RMW mo am ti (rSet Q 37 ((kAn (Q (nR1 x))), ((Q (nR1 x)).2.1), (cSetP ((Q (nR1 x)).2.2) ((cPerms ((Q (nR1 x)).2.2)) &&& ((Q (nR2 x)).2.1))))) w g rb rt rp ro ca va st tr 0 false pk xx rd to) _ _ _ := hw
              refine lv_goto hx hb d_Mod_special_625 rfl ?_
              exact J932 ((rSet Q 37 ((kAn (Q (nR1 x))), ((Q (nR1 x)).2.1), (cSetP ((Q (nR1 x)).2.2) ((cPerms ((Q (nR1 x)).2.2)) &&& ((Q (nR2 x)).2.1))))), pk, xx, rd) _ _ _ (sU_u (by unfold xU xNb; rw [if_pos h76, hc116_13]; rfl)) hw (lv_sub (l' := [(11, .int (jb (cCov (cbase ((Q (nR2 x)).2.2) ((Q (nR2 x)).2.1)) (ctop ((Q (nR2 x)).2.2) ((Q (nR2 x)).2.1)) ((Q (nR2 x)).2.1) (1 : Int32).toInt64))), (10, .int (jb (cOpen (Q (nR2 x)).2.2))), (9, .int ((Q (nR1 x)).2.2)), (8, .int ((Q (nR2 x)).2.1)), (7, .int ((Q (nR1 x)).2.1)), (0, .ref mo), (1, .int x), (2, .int (nI (nRd x))), (3, .int (nI (nFn x))), (4, .int (nI (nR1 x))), (5, .int (nI (nR2 x))), (6, .int (nI (nNb x)))]) hl [0, 1, 2, 3, 4, 5, 6, 7, 8, 9, 10, 11] rfl)
            · refine lv_aload_n hx hb d_Mod_special_583 rfl (lv_at hl 5 rfl) ?_
              refine q_get S hw ly_Mod 0 rfl rfl 0 (by decide) tb_5_43 rfl rfl d_Mod_special_584 ?_
              refine lv_iload hx hb d_Mod_special_587 (lv_at hl 9 rfl) ?_
              refine q_zaldN (k := nR1 x) S hw 1 1 rfl rfl (by first | assumption | omega) (by decide) d_Mod_special_589 ?_
              refine q_ifz_eq S d_Mod_special_590 rfl (fun h590 => ?_) (fun h590 => ?_)
              · refine lv_iconst (v := 0) hx hb d_Mod_special_606 (by decide) ?_
                refine q_topi (z := (jb (kAn (Q (nR1 x))))) (by simp [kAn, jb, h590]) ?_
                exact J607 _ (lv_sub (l' := [(11, .int (jb (cCov (cbase ((Q (nR2 x)).2.2) ((Q (nR2 x)).2.1)) (ctop ((Q (nR2 x)).2.2) ((Q (nR2 x)).2.1)) ((Q (nR2 x)).2.1) (1 : Int32).toInt64))), (10, .int (jb (cOpen (Q (nR2 x)).2.2))), (9, .int ((Q (nR1 x)).2.2)), (8, .int ((Q (nR2 x)).2.1)), (7, .int ((Q (nR1 x)).2.1)), (0, .ref mo), (1, .int x), (2, .int (nI (nRd x))), (3, .int (nI (nFn x))), (4, .int (nI (nR1 x))), (5, .int (nI (nR2 x))), (6, .int (nI (nNb x)))]) hl [0, 1, 2, 3, 4, 5, 6, 7, 8, 9, 10, 11] rfl)
              · refine lv_aload_n hx hb d_Mod_special_593 rfl (lv_at hl 5 rfl) ?_
                refine lv_iload hx hb d_Mod_special_594 (lv_at hl 9 rfl) ?_
                refine q_cr (q_runV (As := [.int (nI (nR1 x))]) (rest := [.int (37 : Int32), .ref mo]) S (c_Mod_isOpen l D ti mo am Q w g rb rt rp ro ca va st tr 0 false pk xx rd to (nR1 x) (by first | decide | omega)) (cw_v hts tb_5_180 k_Mod_isOpen rfl rfl ⟨by decide, by decide⟩) hw 0 rfl rfl rfl hl.1 rfl (Nat.le_of_ble_eq_true rfl) d_Mod_special_596 ⟨Nat.zero_le _, Nat.zero_le _⟩) ?_
                refine W.eq (g2 := F0 m9 599 ls [.int (jb (cOpen (Q (nR1 x)).2.2)), .int (37 : Int32), .ref mo]) rfl ?_
                refine q_ifz_eq S d_Mod_special_599 rfl (fun h599 => ?_) (fun h599 => ?_)
                · refine lv_iconst (v := 0) hx hb d_Mod_special_606 (by decide) ?_
                  refine q_topi (z := (jb (kAn (Q (nR1 x))))) (by simp [kAn, jb, h590, h599]) ?_
                  exact J607 _ (lv_sub (l' := [(11, .int (jb (cCov (cbase ((Q (nR2 x)).2.2) ((Q (nR2 x)).2.1)) (ctop ((Q (nR2 x)).2.2) ((Q (nR2 x)).2.1)) ((Q (nR2 x)).2.1) (1 : Int32).toInt64))), (10, .int (jb (cOpen (Q (nR2 x)).2.2))), (9, .int ((Q (nR1 x)).2.2)), (8, .int ((Q (nR2 x)).2.1)), (7, .int ((Q (nR1 x)).2.1)), (0, .ref mo), (1, .int x), (2, .int (nI (nRd x))), (3, .int (nI (nFn x))), (4, .int (nI (nR1 x))), (5, .int (nI (nR2 x))), (6, .int (nI (nNb x)))]) hl [0, 1, 2, 3, 4, 5, 6, 7, 8, 9, 10, 11] rfl)
                · refine lv_iconst (v := 1) hx hb d_Mod_special_602 (by decide) ?_
                  refine lv_goto hx hb d_Mod_special_603 rfl ?_
                  refine q_topi (z := (jb (kAn (Q (nR1 x))))) (by simp [kAn, jb, h590, h599]) ?_
                  exact J607 _ (lv_sub (l' := [(11, .int (jb (cCov (cbase ((Q (nR2 x)).2.2) ((Q (nR2 x)).2.1)) (ctop ((Q (nR2 x)).2.2) ((Q (nR2 x)).2.1)) ((Q (nR2 x)).2.1) (1 : Int32).toInt64))), (10, .int (jb (cOpen (Q (nR2 x)).2.2))), (9, .int ((Q (nR1 x)).2.2)), (8, .int ((Q (nR2 x)).2.1)), (7, .int ((Q (nR1 x)).2.1)), (0, .ref mo), (1, .int x), (2, .int (nI (nRd x))), (3, .int (nI (nFn x))), (4, .int (nI (nR1 x))), (5, .int (nI (nR2 x))), (6, .int (nI (nNb x)))]) hl [0, 1, 2, 3, 4, 5, 6, 7, 8, 9, 10, 11] rfl)
          by_cases hc116_15 : (nI (nNb x)) = (15 : Int32)
          · refine lv_lookup (off := 512) (tgt := 628) hx hb d_Mod_special_116 (by decide) (by rw [hc116_15] <;> rfl) rfl ?_
            refine lv_aload_n hx hb d_Mod_special_628 rfl (lv_at hl 5 rfl) ?_
            refine lv_iload hx hb d_Mod_special_629 (lv_at hl 9 rfl) ?_
            refine lv_iload hx hb d_Mod_special_631 (lv_at hl 2 rfl) ?_
            refine lv_iload hx hb d_Mod_special_633 (lv_at hl 4 rfl) ?_
            refine q_cr (q_runS (As := [.int ((Q (nR1 x)).2.2), .int ((Q (nR1 x)).2.1)]) (rest := [.int (nI (nR1 x)), .ref mo]) S ((c_Mod_base l D (ty4 ti) ((Q (nR1 x)).2.2) ((Q (nR1 x)).2.1)).nil _) (cw_s hts tb_5_135 k_Mod_base rfl rfl ⟨by decide, by decide⟩) hw rfl hl.1 rfl (Nat.le_of_ble_eq_true rfl) d_Mod_special_635 ⟨Nat.zero_le _, Nat.zero_le _⟩) ?_
            refine W.eq (g2 := F0 m9 638 ls [.long (cbase ((Q (nR1 x)).2.2) ((Q (nR1 x)).2.1)), .int (nI (nR1 x)), .ref mo]) rfl ?_
            refine lv_l2i (v := ((cbase ((Q (nR1 x)).2.2) ((Q (nR1 x)).2.1)).toInt32)) hx hb d_Mod_special_638 rfl ?_
            refine lv_iload hx hb d_Mod_special_639 (lv_at hl 3 rfl) ?_
            refine lv_iadd hx hb d_Mod_special_641 ?_
            refine lv_bipush (v := 37) hx hb d_Mod_special_642 (by decide) ?_
            refine q_cg (q_runV (As := [.int (nI (nR1 x)), .int (((cbase ((Q (nR1 x)).2.2) ((Q (nR1 x)).2.1)).toInt32) + ((Q (nR2 x)).2.1)), .int (37 : Int32)]) (rest := []) S (c_Mod_moved l D ti mo am Q w g rb rt rp ro ca va st tr 0 false pk xx rd to (nR1 x) (by first | decide | omega) (((cbase ((Q (nR1 x)).2.2) ((Q (nR1 x)).2.1)).toInt32) + ((Q (nR2 x)).2.1)) 37 (by first | decide | omega)) (cw_v hts tb_5_218 k_Mod_moved rfl rfl ⟨by decide, by decide⟩) hw 0 rfl rfl rfl hl.1 rfl (Nat.le_of_ble_eq_true rfl) d_Mod_special_644 ⟨Nat.zero_le _, Nat.zero_le _⟩) hw (fun z hD => qD_same hD rfl) (fun z9 H locs hp9 hw => ?_)
            refine W.eq (g2 := F0 m9 647 ls []) rfl ?_
            have hw : Lv _ _ _ _ _ (RMW mo am ti (rSet Q 37 (cMvC (Q (nR1 x)) (((cbase ((Q (nR1 x)).2.2) ((Q (nR1 x)).2.1)).toInt32) + ((Q (nR2 x)).2.1)))) w g rb rt rp ro ca va st tr 0 false pk xx rd to) _ _ _ := hw
            refine lv_goto hx hb d_Mod_special_647 rfl ?_
            exact J932 ((rSet Q 37 (cMvC (Q (nR1 x)) (((cbase ((Q (nR1 x)).2.2) ((Q (nR1 x)).2.1)).toInt32) + ((Q (nR2 x)).2.1)))), pk, xx, rd) _ _ _ (sU_u (by unfold xU xNb; rw [if_pos h76, hc116_15]; rfl)) hw (lv_sub (l' := [(11, .int (jb (cCov (cbase ((Q (nR2 x)).2.2) ((Q (nR2 x)).2.1)) (ctop ((Q (nR2 x)).2.2) ((Q (nR2 x)).2.1)) ((Q (nR2 x)).2.1) (1 : Int32).toInt64))), (10, .int (jb (cOpen (Q (nR2 x)).2.2))), (9, .int ((Q (nR1 x)).2.2)), (8, .int ((Q (nR2 x)).2.1)), (7, .int ((Q (nR1 x)).2.1)), (0, .ref mo), (1, .int x), (2, .int (nI (nRd x))), (3, .int (nI (nFn x))), (4, .int (nI (nR1 x))), (5, .int (nI (nR2 x))), (6, .int (nI (nNb x)))]) hl [0, 1, 2, 3, 4, 5, 6, 7, 8, 9, 10, 11] rfl)
          by_cases hc116_16 : (nI (nNb x)) = (16 : Int32)
          · refine lv_lookup (off := 534) (tgt := 650) hx hb d_Mod_special_116 (by decide) (by rw [hc116_16] <;> rfl) rfl ?_
            refine lv_aload_n hx hb d_Mod_special_650 rfl (lv_at hl 5 rfl) ?_
            refine lv_iload hx hb d_Mod_special_651 (lv_at hl 9 rfl) ?_
            refine lv_iload hx hb d_Mod_special_653 (lv_at hl 3 rfl) ?_
            refine lv_bipush (v := 37) hx hb d_Mod_special_655 (by decide) ?_
            refine q_cg (q_runV (As := [.int (nI (nR1 x)), .int ((Q (nR2 x)).2.1), .int (37 : Int32)]) (rest := []) S (c_Mod_moved l D ti mo am Q w g rb rt rp ro ca va st tr 0 false pk xx rd to (nR1 x) (by first | decide | omega) ((Q (nR2 x)).2.1) 37 (by first | decide | omega)) (cw_v hts tb_5_218 k_Mod_moved rfl rfl ⟨by decide, by decide⟩) hw 0 rfl rfl rfl hl.1 rfl (Nat.le_of_ble_eq_true rfl) d_Mod_special_657 ⟨Nat.zero_le _, Nat.zero_le _⟩) hw (fun z hD => qD_same hD rfl) (fun z9 H locs hp9 hw => ?_)
            refine W.eq (g2 := F0 m9 660 ls []) rfl ?_
            have hw : Lv _ _ _ _ _ (RMW mo am ti (rSet Q 37 (cMvC (Q (nR1 x)) ((Q (nR2 x)).2.1))) w g rb rt rp ro ca va st tr 0 false pk xx rd to) _ _ _ := hw
            refine lv_goto hx hb d_Mod_special_660 rfl ?_
            exact J932 ((rSet Q 37 (cMvC (Q (nR1 x)) ((Q (nR2 x)).2.1))), pk, xx, rd) _ _ _ (sU_u (by unfold xU xNb; rw [if_pos h76, hc116_16]; rfl)) hw (lv_sub (l' := [(11, .int (jb (cCov (cbase ((Q (nR2 x)).2.2) ((Q (nR2 x)).2.1)) (ctop ((Q (nR2 x)).2.2) ((Q (nR2 x)).2.1)) ((Q (nR2 x)).2.1) (1 : Int32).toInt64))), (10, .int (jb (cOpen (Q (nR2 x)).2.2))), (9, .int ((Q (nR1 x)).2.2)), (8, .int ((Q (nR2 x)).2.1)), (7, .int ((Q (nR1 x)).2.1)), (0, .ref mo), (1, .int x), (2, .int (nI (nRd x))), (3, .int (nI (nFn x))), (4, .int (nI (nR1 x))), (5, .int (nI (nR2 x))), (6, .int (nI (nNb x)))]) hl [0, 1, 2, 3, 4, 5, 6, 7, 8, 9, 10, 11] rfl)
          by_cases hc116_17 : (nI (nNb x)) = (17 : Int32)
          · refine lv_lookup (off := 547) (tgt := 663) hx hb d_Mod_special_116 (by decide) (by rw [hc116_17] <;> rfl) rfl ?_
            refine lv_aload_n hx hb d_Mod_special_663 rfl (lv_at hl 5 rfl) ?_
            refine lv_iload hx hb d_Mod_special_664 (lv_at hl 9 rfl) ?_
            refine lv_iload hx hb d_Mod_special_666 (lv_at hl 4 rfl) ?_
            refine lv_iload hx hb d_Mod_special_668 (lv_at hl 3 rfl) ?_
            refine lv_iadd hx hb d_Mod_special_670 ?_
            refine lv_bipush (v := 37) hx hb d_Mod_special_671 (by decide) ?_
            refine q_cg (q_runV (As := [.int (nI (nR1 x)), .int (((Q (nR1 x)).2.1) + ((Q (nR2 x)).2.1)), .int (37 : Int32)]) (rest := []) S (c_Mod_moved l D ti mo am Q w g rb rt rp ro ca va st tr 0 false pk xx rd to (nR1 x) (by first | decide | omega) (((Q (nR1 x)).2.1) + ((Q (nR2 x)).2.1)) 37 (by first | decide | omega)) (cw_v hts tb_5_218 k_Mod_moved rfl rfl ⟨by decide, by decide⟩) hw 0 rfl rfl rfl hl.1 rfl (Nat.le_of_ble_eq_true rfl) d_Mod_special_673 ⟨Nat.zero_le _, Nat.zero_le _⟩) hw (fun z hD => qD_same hD rfl) (fun z9 H locs hp9 hw => ?_)
            refine W.eq (g2 := F0 m9 676 ls []) rfl ?_
            have hw : Lv _ _ _ _ _ (RMW mo am ti (rSet Q 37 (cMvC (Q (nR1 x)) (((Q (nR1 x)).2.1) + ((Q (nR2 x)).2.1)))) w g rb rt rp ro ca va st tr 0 false pk xx rd to) _ _ _ := hw
            refine lv_goto hx hb d_Mod_special_676 rfl ?_
            exact J932 ((rSet Q 37 (cMvC (Q (nR1 x)) (((Q (nR1 x)).2.1) + ((Q (nR2 x)).2.1)))), pk, xx, rd) _ _ _ (sU_u (by unfold xU xNb; rw [if_pos h76, hc116_17]; rfl)) hw (lv_sub (l' := [(11, .int (jb (cCov (cbase ((Q (nR2 x)).2.2) ((Q (nR2 x)).2.1)) (ctop ((Q (nR2 x)).2.2) ((Q (nR2 x)).2.1)) ((Q (nR2 x)).2.1) (1 : Int32).toInt64))), (10, .int (jb (cOpen (Q (nR2 x)).2.2))), (9, .int ((Q (nR1 x)).2.2)), (8, .int ((Q (nR2 x)).2.1)), (7, .int ((Q (nR1 x)).2.1)), (0, .ref mo), (1, .int x), (2, .int (nI (nRd x))), (3, .int (nI (nFn x))), (4, .int (nI (nR1 x))), (5, .int (nI (nR2 x))), (6, .int (nI (nNb x)))]) hl [0, 1, 2, 3, 4, 5, 6, 7, 8, 9, 10, 11] rfl)
          by_cases hc116_20 : (nI (nNb x)) = (20 : Int32)
          · refine lv_lookup (off := 563) (tgt := 679) hx hb d_Mod_special_116 (by decide) (by rw [hc116_20] <;> rfl) rfl ?_
            refine lv_aload_n hx hb d_Mod_special_679 rfl (lv_at hl 5 rfl) ?_
            refine lv_bipush (v := 37) hx hb d_Mod_special_680 (by decide) ?_
            refine lv_iload hx hb d_Mod_special_682 (lv_at hl 4 rfl) ?_
            refine lv_iload hx hb d_Mod_special_684 (lv_at hl 3 rfl) ?_
            refine lv_isub hx hb d_Mod_special_686 ?_
            refine q_cg (q_runV (As := [.int (37 : Int32), .int (((Q (nR1 x)).2.1) - ((Q (nR2 x)).2.1))]) (rest := []) S (c_Mod_number l D ti mo am Q w g rb rt rp ro ca va st tr 0 false pk xx rd to 37 (by first | decide | omega) (((Q (nR1 x)).2.1) - ((Q (nR2 x)).2.1))) (cw_v hts tb_5_214 k_Mod_number rfl rfl ⟨by decide, by decide⟩) hw 0 rfl rfl rfl hl.1 rfl (Nat.le_of_ble_eq_true rfl) d_Mod_special_687 ⟨Nat.zero_le _, Nat.zero_le _⟩) hw (fun z hD => qD_same hD rfl) (fun z9 H locs hp9 hw => ?_)
            refine W.eq (g2 := F0 m9 690 ls []) rfl ?_
            have hw : Lv _ _ _ _ _ (RMW mo am ti (rSet Q 37 (false, (((Q (nR1 x)).2.1) - ((Q (nR2 x)).2.1)), 1000194)) w g rb rt rp ro ca va st tr 0 false pk xx rd to) _ _ _ := hw
            refine lv_goto hx hb d_Mod_special_690 rfl ?_
            exact J932 ((rSet Q 37 (false, (((Q (nR1 x)).2.1) - ((Q (nR2 x)).2.1)), 1000194)), pk, xx, rd) _ _ _ (sU_n (by unfold xU xNb; rw [if_pos h76, hc116_20]; rfl)) hw (lv_sub (l' := [(11, .int (jb (cCov (cbase ((Q (nR2 x)).2.2) ((Q (nR2 x)).2.1)) (ctop ((Q (nR2 x)).2.2) ((Q (nR2 x)).2.1)) ((Q (nR2 x)).2.1) (1 : Int32).toInt64))), (10, .int (jb (cOpen (Q (nR2 x)).2.2))), (9, .int ((Q (nR1 x)).2.2)), (8, .int ((Q (nR2 x)).2.1)), (7, .int ((Q (nR1 x)).2.1)), (0, .ref mo), (1, .int x), (2, .int (nI (nRd x))), (3, .int (nI (nFn x))), (4, .int (nI (nR1 x))), (5, .int (nI (nR2 x))), (6, .int (nI (nNb x)))]) hl [0, 1, 2, 3, 4, 5, 6, 7, 8, 9, 10, 11] rfl)
          by_cases hc116_22 : (nI (nNb x)) = (22 : Int32)
          · refine lv_lookup (off := 577) (tgt := 693) hx hb d_Mod_special_116 (by decide) (by rw [hc116_22] <;> rfl) rfl ?_
            refine lv_aload_n hx hb d_Mod_special_693 rfl (lv_at hl 5 rfl) ?_
            refine lv_bipush (v := 37) hx hb d_Mod_special_694 (by decide) ?_
            refine lv_iconst (v := 0) hx hb d_Mod_special_696 (by decide) ?_
            refine lv_iload hx hb d_Mod_special_697 (lv_at hl 4 rfl) ?_
            refine lv_iload hx hb d_Mod_special_699 (lv_at hl 3 rfl) ?_
            refine lv_ldc (v := 1000194) hx hb hown (hts _ tb_5_42) d_Mod_special_701 ?_
            refine lv_ixor hx hb d_Mod_special_703 ?_
            refine q_cg (q_runV (As := [.int (37 : Int32), .int (jb false), .int ((Q (nR1 x)).2.1), .int (((Q (nR2 x)).2.1) ^^^ (1000194 : Int32))]) (rest := []) S (c_Mod_set l D ti mo am Q w g rb rt rp ro ca va st tr 0 false pk xx rd to 37 (by first | decide | omega) false ((Q (nR1 x)).2.1) (((Q (nR2 x)).2.1) ^^^ (1000194 : Int32))) (cw_v hts tb_5_131 k_Mod_set rfl rfl ⟨by decide, by decide⟩) hw 0 rfl rfl rfl hl.1 rfl (Nat.le_of_ble_eq_true rfl) d_Mod_special_704 ⟨Nat.zero_le _, Nat.zero_le _⟩) hw (fun z hD => qD_same hD rfl) (fun z9 H locs hp9 hw => ?_)
            refine W.eq (g2 := F0 m9 707 ls []) rfl ?_
            have hw : Lv _ _ _ _ _ (RMW mo am ti (rSet Q 37 (false, ((Q (nR1 x)).2.1), (((Q (nR2 x)).2.1) ^^^ (1000194 : Int32)))) w g rb rt rp ro ca va st tr 0 false pk xx rd to) _ _ _ := hw
            refine lv_goto hx hb d_Mod_special_707 rfl ?_
            exact J932 ((rSet Q 37 (false, ((Q (nR1 x)).2.1), (((Q (nR2 x)).2.1) ^^^ (1000194 : Int32)))), pk, xx, rd) _ _ _ (sU_u (by unfold xU xNb; rw [if_pos h76, hc116_22]; rfl)) hw (lv_sub (l' := [(11, .int (jb (cCov (cbase ((Q (nR2 x)).2.2) ((Q (nR2 x)).2.1)) (ctop ((Q (nR2 x)).2.2) ((Q (nR2 x)).2.1)) ((Q (nR2 x)).2.1) (1 : Int32).toInt64))), (10, .int (jb (cOpen (Q (nR2 x)).2.2))), (9, .int ((Q (nR1 x)).2.2)), (8, .int ((Q (nR2 x)).2.1)), (7, .int ((Q (nR1 x)).2.1)), (0, .ref mo), (1, .int x), (2, .int (nI (nRd x))), (3, .int (nI (nFn x))), (4, .int (nI (nR1 x))), (5, .int (nI (nR2 x))), (6, .int (nI (nNb x)))]) hl [0, 1, 2, 3, 4, 5, 6, 7, 8, 9, 10, 11] rfl)
          by_cases hc116_29 : (nI (nNb x)) = (29 : Int32)
          · refine lv_lookup (off := 594) (tgt := 710) hx hb d_Mod_special_116 (by decide) (by rw [hc116_29] <;> rfl) rfl ?_
            refine lv_aload_n hx hb d_Mod_special_710 rfl (lv_at hl 5 rfl) ?_
            refine lv_bipush (v := 37) hx hb d_Mod_special_711 (by decide) ?_
            refine q_join (pcJ := 787) (st := [.int (jb (kBd (Q (nR1 x)) (Q (nR2 x)))), .int (37 : Int32), .ref mo]) (lv' := [(11, .int (jb (cCov (cbase ((Q (nR2 x)).2.2) ((Q (nR2 x)).2.1)) (ctop ((Q (nR2 x)).2.2) ((Q (nR2 x)).2.1)) ((Q (nR2 x)).2.1) (1 : Int32).toInt64))), (10, .int (jb (cOpen (Q (nR2 x)).2.2))), (9, .int ((Q (nR1 x)).2.2)), (8, .int ((Q (nR2 x)).2.1)), (7, .int ((Q (nR1 x)).2.1)), (0, .ref mo), (1, .int x), (2, .int (nI (nRd x))), (3, .int (nI (nFn x))), (4, .int (nI (nR1 x))), (5, .int (nI (nR2 x))), (6, .int (nI (nNb x)))]) (nL := 13) (fun ls hl => ?_) (fun J787 => ?_)
            · refine lv_iload hx hb d_Mod_special_787 (lv_at hl 3 rfl) ?_
              refine lv_aload_n hx hb d_Mod_special_789 rfl (lv_at hl 5 rfl) ?_
              refine q_get S hw ly_Mod 0 rfl rfl 2 (by decide) tb_5_45 rfl rfl d_Mod_special_790 ?_
              refine lv_iload hx hb d_Mod_special_793 (lv_at hl 10 rfl) ?_
              refine q_ialdN (k := nR2 x) S hw 3 0 rfl rfl (by first | assumption | omega) (by decide) d_Mod_special_795 ?_
              refine q_join (pcJ := 818) (st := [.int (if cType (Q (nR2 x)).2.2 = 14 then 14 else 15), .int ((Q (nR2 x)).2.2), .int ((Q (nR2 x)).2.1), .int (jb (kBd (Q (nR1 x)) (Q (nR2 x)))), .int (37 : Int32), .ref mo]) (lv' := [(11, .int (jb (cCov (cbase ((Q (nR2 x)).2.2) ((Q (nR2 x)).2.1)) (ctop ((Q (nR2 x)).2.2) ((Q (nR2 x)).2.1)) ((Q (nR2 x)).2.1) (1 : Int32).toInt64))), (10, .int (jb (cOpen (Q (nR2 x)).2.2))), (9, .int ((Q (nR1 x)).2.2)), (8, .int ((Q (nR2 x)).2.1)), (7, .int ((Q (nR1 x)).2.1)), (0, .ref mo), (1, .int x), (2, .int (nI (nRd x))), (3, .int (nI (nFn x))), (4, .int (nI (nR1 x))), (5, .int (nI (nR2 x))), (6, .int (nI (nNb x)))]) (nL := 13) (fun ls hl => ?_) (fun J818 => ?_)
              · refine q_cr (q_runS (As := [.int ((Q (nR2 x)).2.2), .int (if cType (Q (nR2 x)).2.2 = 14 then 14 else 15)]) (rest := [.int ((Q (nR2 x)).2.1), .int (jb (kBd (Q (nR1 x)) (Q (nR2 x)))), .int (37 : Int32), .ref mo]) S ((c_Mod_withType l D (ty4 ti) ((Q (nR2 x)).2.2) (if cType (Q (nR2 x)).2.2 = 14 then 14 else 15)).nil _) (cw_s hts tb_5_231 k_Mod_withType rfl rfl ⟨by decide, by decide⟩) hw rfl hl.1 rfl (Nat.le_of_ble_eq_true rfl) d_Mod_special_818 ⟨Nat.zero_le _, Nat.zero_le _⟩) ?_
                refine W.eq (g2 := F0 m9 821 ls [.int (cSetT ((Q (nR2 x)).2.2) (if cType (Q (nR2 x)).2.2 = 14 then 14 else 15)), .int ((Q (nR2 x)).2.1), .int (jb (kBd (Q (nR1 x)) (Q (nR2 x)))), .int (37 : Int32), .ref mo]) rfl ?_
                refine q_cg (q_runV (As := [.int (37 : Int32), .int (jb (kBd (Q (nR1 x)) (Q (nR2 x)))), .int ((Q (nR2 x)).2.1), .int (cSetT ((Q (nR2 x)).2.2) (if cType (Q (nR2 x)).2.2 = 14 then 14 else 15))]) (rest := []) S (c_Mod_set l D ti mo am Q w g rb rt rp ro ca va st tr 0 false pk xx rd to 37 (by first | decide | omega) (kBd (Q (nR1 x)) (Q (nR2 x))) ((Q (nR2 x)).2.1) (cSetT ((Q (nR2 x)).2.2) (if cType (Q (nR2 x)).2.2 = 14 then 14 else 15))) (cw_v hts tb_5_131 k_Mod_set rfl rfl ⟨by decide, by decide⟩) hw 0 rfl rfl rfl hl.1 rfl (Nat.le_of_ble_eq_true rfl) d_Mod_special_821 ⟨Nat.zero_le _, Nat.zero_le _⟩) hw (fun z hD => qD_same hD rfl) (fun z9 H locs hp9 hw => ?_)
                refine W.eq (g2 := F0 m9 824 ls []) rfl ?_
                have hw : Lv _ _ _ _ _ (RMW mo am ti (rSet Q 37 ((kBd (Q (nR1 x)) (Q (nR2 x))), ((Q (nR2 x)).2.1), (cSetT ((Q (nR2 x)).2.2) (if cType (Q (nR2 x)).2.2 = 14 then 14 else 15)))) w g rb rt rp ro ca va st tr 0 false pk xx rd to) _ _ _ := hw
                refine lv_goto hx hb d_Mod_special_824 rfl ?_
                exact J932 ((rSet Q 37 ((kBd (Q (nR1 x)) (Q (nR2 x))), ((Q (nR2 x)).2.1), (cSetT ((Q (nR2 x)).2.2) (if cType (Q (nR2 x)).2.2 = 14 then 14 else 15)))), pk, xx, rd) _ _ _ (sU_v (bd_c _ _) (by unfold xU xNb; rw [if_pos h76, hc116_29]; rfl)) hw (lv_sub (l' := [(11, .int (jb (cCov (cbase ((Q (nR2 x)).2.2) ((Q (nR2 x)).2.1)) (ctop ((Q (nR2 x)).2.2) ((Q (nR2 x)).2.1)) ((Q (nR2 x)).2.1) (1 : Int32).toInt64))), (10, .int (jb (cOpen (Q (nR2 x)).2.2))), (9, .int ((Q (nR1 x)).2.2)), (8, .int ((Q (nR2 x)).2.1)), (7, .int ((Q (nR1 x)).2.1)), (0, .ref mo), (1, .int x), (2, .int (nI (nRd x))), (3, .int (nI (nFn x))), (4, .int (nI (nR1 x))), (5, .int (nI (nR2 x))), (6, .int (nI (nNb x)))]) hl [0, 1, 2, 3, 4, 5, 6, 7, 8, 9, 10, 11] rfl)
              · refine lv_aload_n hx hb d_Mod_special_796 rfl (lv_at hl 5 rfl) ?_
                refine q_get S hw ly_Mod 0 rfl rfl 2 (by decide) tb_5_45 rfl rfl d_Mod_special_797 ?_
                refine lv_iload hx hb d_Mod_special_800 (lv_at hl 10 rfl) ?_
                refine q_ialdN (k := nR2 x) S hw 3 0 rfl rfl (by first | assumption | omega) (by decide) d_Mod_special_802 ?_
                refine q_cr (q_runS (As := [.int ((Q (nR2 x)).2.2)]) (rest := [.int ((Q (nR2 x)).2.2), .int ((Q (nR2 x)).2.1), .int (jb (kBd (Q (nR1 x)) (Q (nR2 x)))), .int (37 : Int32), .ref mo]) S ((c_Mod_type l D (ty4 ti) ((Q (nR2 x)).2.2)).nil _) (cw_s hts tb_5_184 k_Mod_type rfl rfl ⟨by decide, by decide⟩) hw rfl hl.1 rfl (Nat.le_of_ble_eq_true rfl) d_Mod_special_803 ⟨Nat.zero_le _, Nat.zero_le _⟩) ?_
                refine W.eq (g2 := F0 m9 806 ls [.int (cType ((Q (nR2 x)).2.2)), .int ((Q (nR2 x)).2.2), .int ((Q (nR2 x)).2.1), .int (jb (kBd (Q (nR1 x)) (Q (nR2 x)))), .int (37 : Int32), .ref mo]) rfl ?_
                refine lv_bipush (v := 14) hx hb d_Mod_special_806 (by decide) ?_
                refine lv_icmp_ne hx hb d_Mod_special_808 rfl (fun h808 => ?_) (fun h808 => ?_)
                · refine lv_bipush (v := 15) hx hb d_Mod_special_816 (by decide) ?_
                  refine q_topi (z := (if cType (Q (nR2 x)).2.2 = 14 then 14 else 15)) (by rw [if_neg h808]) ?_
                  exact J818 _ (lv_sub (l' := [(11, .int (jb (cCov (cbase ((Q (nR2 x)).2.2) ((Q (nR2 x)).2.1)) (ctop ((Q (nR2 x)).2.2) ((Q (nR2 x)).2.1)) ((Q (nR2 x)).2.1) (1 : Int32).toInt64))), (10, .int (jb (cOpen (Q (nR2 x)).2.2))), (9, .int ((Q (nR1 x)).2.2)), (8, .int ((Q (nR2 x)).2.1)), (7, .int ((Q (nR1 x)).2.1)), (0, .ref mo), (1, .int x), (2, .int (nI (nRd x))), (3, .int (nI (nFn x))), (4, .int (nI (nR1 x))), (5, .int (nI (nR2 x))), (6, .int (nI (nNb x)))]) hl [0, 1, 2, 3, 4, 5, 6, 7, 8, 9, 10, 11] rfl)
                · refine lv_bipush (v := 14) hx hb d_Mod_special_811 (by decide) ?_
                  refine lv_goto hx hb d_Mod_special_813 rfl ?_
                  refine q_topi (z := (if cType (Q (nR2 x)).2.2 = 14 then 14 else 15)) (by rw [if_pos h808]) ?_
                  exact J818 _ (lv_sub (l' := [(11, .int (jb (cCov (cbase ((Q (nR2 x)).2.2) ((Q (nR2 x)).2.1)) (ctop ((Q (nR2 x)).2.2) ((Q (nR2 x)).2.1)) ((Q (nR2 x)).2.1) (1 : Int32).toInt64))), (10, .int (jb (cOpen (Q (nR2 x)).2.2))), (9, .int ((Q (nR1 x)).2.2)), (8, .int ((Q (nR2 x)).2.1)), (7, .int ((Q (nR1 x)).2.1)), (0, .ref mo), (1, .int x), (2, .int (nI (nRd x))), (3, .int (nI (nFn x))), (4, .int (nI (nR1 x))), (5, .int (nI (nR2 x))), (6, .int (nI (nNb x)))]) hl [0, 1, 2, 3, 4, 5, 6, 7, 8, 9, 10, 11] rfl)
            · refine lv_aload_n hx hb d_Mod_special_713 rfl (lv_at hl 5 rfl) ?_
              refine q_get S hw ly_Mod 0 rfl rfl 0 (by decide) tb_5_43 rfl rfl d_Mod_special_714 ?_
              refine lv_iload hx hb d_Mod_special_717 (lv_at hl 9 rfl) ?_
              refine q_zaldN (k := nR1 x) S hw 1 1 rfl rfl (by first | assumption | omega) (by decide) d_Mod_special_719 ?_
              refine q_ifz_eq S d_Mod_special_720 rfl (fun h720 => ?_) (fun h720 => ?_)
              · refine lv_iconst (v := 0) hx hb d_Mod_special_786 (by decide) ?_
                refine q_topi (z := (jb (kBd (Q (nR1 x)) (Q (nR2 x))))) (by simp [kBd, r_cWC, jb, h720]) ?_
                exact J787 _ (lv_sub (l' := [(11, .int (jb (cCov (cbase ((Q (nR2 x)).2.2) ((Q (nR2 x)).2.1)) (ctop ((Q (nR2 x)).2.2) ((Q (nR2 x)).2.1)) ((Q (nR2 x)).2.1) (1 : Int32).toInt64))), (10, .int (jb (cOpen (Q (nR2 x)).2.2))), (9, .int ((Q (nR1 x)).2.2)), (8, .int ((Q (nR2 x)).2.1)), (7, .int ((Q (nR1 x)).2.1)), (0, .ref mo), (1, .int x), (2, .int (nI (nRd x))), (3, .int (nI (nFn x))), (4, .int (nI (nR1 x))), (5, .int (nI (nR2 x))), (6, .int (nI (nNb x)))]) hl [0, 1, 2, 3, 4, 5, 6, 7, 8, 9, 10, 11] rfl)
              · refine lv_aload_n hx hb d_Mod_special_723 rfl (lv_at hl 5 rfl) ?_
                refine lv_iload hx hb d_Mod_special_724 (lv_at hl 9 rfl) ?_
                refine q_cr (q_runV (As := [.int (nI (nR1 x))]) (rest := [.int (37 : Int32), .ref mo]) S (c_Mod_isOpen l D ti mo am Q w g rb rt rp ro ca va st tr 0 false pk xx rd to (nR1 x) (by first | decide | omega)) (cw_v hts tb_5_180 k_Mod_isOpen rfl rfl ⟨by decide, by decide⟩) hw 0 rfl rfl rfl hl.1 rfl (Nat.le_of_ble_eq_true rfl) d_Mod_special_726 ⟨Nat.zero_le _, Nat.zero_le _⟩) ?_
                refine W.eq (g2 := F0 m9 729 ls [.int (jb (cOpen (Q (nR1 x)).2.2)), .int (37 : Int32), .ref mo]) rfl ?_
                refine q_ifz_eq S d_Mod_special_729 rfl (fun h729 => ?_) (fun h729 => ?_)
                · refine lv_iconst (v := 0) hx hb d_Mod_special_786 (by decide) ?_
                  refine q_topi (z := (jb (kBd (Q (nR1 x)) (Q (nR2 x))))) (by simp [kBd, r_cWC, jb, h720, h729]) ?_
                  exact J787 _ (lv_sub (l' := [(11, .int (jb (cCov (cbase ((Q (nR2 x)).2.2) ((Q (nR2 x)).2.1)) (ctop ((Q (nR2 x)).2.2) ((Q (nR2 x)).2.1)) ((Q (nR2 x)).2.1) (1 : Int32).toInt64))), (10, .int (jb (cOpen (Q (nR2 x)).2.2))), (9, .int ((Q (nR1 x)).2.2)), (8, .int ((Q (nR2 x)).2.1)), (7, .int ((Q (nR1 x)).2.1)), (0, .ref mo), (1, .int x), (2, .int (nI (nRd x))), (3, .int (nI (nFn x))), (4, .int (nI (nR1 x))), (5, .int (nI (nR2 x))), (6, .int (nI (nNb x)))]) hl [0, 1, 2, 3, 4, 5, 6, 7, 8, 9, 10, 11] rfl)
                · refine lv_aload_n hx hb d_Mod_special_732 rfl (lv_at hl 5 rfl) ?_
                  refine q_get S hw ly_Mod 0 rfl rfl 2 (by decide) tb_5_45 rfl rfl d_Mod_special_733 ?_
                  refine lv_iload hx hb d_Mod_special_736 (lv_at hl 10 rfl) ?_
                  refine q_ialdN (k := nR2 x) S hw 3 0 rfl rfl (by first | assumption | omega) (by decide) d_Mod_special_738 ?_
                  refine lv_iload hx hb d_Mod_special_739 (lv_at hl 3 rfl) ?_
                  refine q_cr (q_runS (As := [.int ((Q (nR2 x)).2.2), .int ((Q (nR2 x)).2.1)]) (rest := [.int (37 : Int32), .ref mo]) S ((c_Mod_base l D (ty4 ti) ((Q (nR2 x)).2.2) ((Q (nR2 x)).2.1)).nil _) (cw_s hts tb_5_135 k_Mod_base rfl rfl ⟨by decide, by decide⟩) hw rfl hl.1 rfl (Nat.le_of_ble_eq_true rfl) d_Mod_special_741 ⟨Nat.zero_le _, Nat.zero_le _⟩) ?_
                  refine W.eq (g2 := F0 m9 744 ls [.long (cbase ((Q (nR2 x)).2.2) ((Q (nR2 x)).2.1)), .int (37 : Int32), .ref mo]) rfl ?_
                  refine lv_aload_n hx hb d_Mod_special_744 rfl (lv_at hl 5 rfl) ?_
                  refine q_get S hw ly_Mod 0 rfl rfl 2 (by decide) tb_5_45 rfl rfl d_Mod_special_745 ?_
                  refine lv_iload hx hb d_Mod_special_748 (lv_at hl 10 rfl) ?_
                  refine q_ialdN (k := nR2 x) S hw 3 0 rfl rfl (by first | assumption | omega) (by decide) d_Mod_special_750 ?_
                  refine lv_iload hx hb d_Mod_special_751 (lv_at hl 3 rfl) ?_
                  refine q_cr (q_runS (As := [.int ((Q (nR2 x)).2.2), .int ((Q (nR2 x)).2.1)]) (rest := [.long (cbase ((Q (nR2 x)).2.2) ((Q (nR2 x)).2.1)), .int (37 : Int32), .ref mo]) S ((c_Mod_top l D (ty4 ti) ((Q (nR2 x)).2.2) ((Q (nR2 x)).2.1)).nil _) (cw_s hts tb_5_153 k_Mod_top rfl rfl ⟨by decide, by decide⟩) hw rfl hl.1 rfl (Nat.le_of_ble_eq_true rfl) d_Mod_special_753 ⟨Nat.zero_le _, Nat.zero_le _⟩) ?_
                  refine W.eq (g2 := F0 m9 756 ls [.long (ctop ((Q (nR2 x)).2.2) ((Q (nR2 x)).2.1)), .long (cbase ((Q (nR2 x)).2.2) ((Q (nR2 x)).2.1)), .int (37 : Int32), .ref mo]) rfl ?_
                  refine q_lc_gt S d_Mod_special_756 d_Mod_special_757 rfl (fun h757 => ?_) (fun h757 => ?_)
                  · refine lv_iconst (v := 0) hx hb d_Mod_special_786 (by decide) ?_
                    refine q_topi (z := (jb (kBd (Q (nR1 x)) (Q (nR2 x))))) (by simp [kBd, r_cWC, jb, h720, h729, h757]) ?_
                    exact J787 _ (lv_sub (l' := [(11, .int (jb (cCov (cbase ((Q (nR2 x)).2.2) ((Q (nR2 x)).2.1)) (ctop ((Q (nR2 x)).2.2) ((Q (nR2 x)).2.1)) ((Q (nR2 x)).2.1) (1 : Int32).toInt64))), (10, .int (jb (cOpen (Q (nR2 x)).2.2))), (9, .int ((Q (nR1 x)).2.2)), (8, .int ((Q (nR2 x)).2.1)), (7, .int ((Q (nR1 x)).2.1)), (0, .ref mo), (1, .int x), (2, .int (nI (nRd x))), (3, .int (nI (nFn x))), (4, .int (nI (nR1 x))), (5, .int (nI (nR2 x))), (6, .int (nI (nNb x)))]) hl [0, 1, 2, 3, 4, 5, 6, 7, 8, 9, 10, 11] rfl)
                  · refine lv_aload_n hx hb d_Mod_special_760 rfl (lv_at hl 5 rfl) ?_
                    refine lv_iload hx hb d_Mod_special_761 (lv_at hl 10 rfl) ?_
                    refine lv_iload hx hb d_Mod_special_763 (lv_at hl 9 rfl) ?_
                    refine q_cr (q_runV (As := [.int (nI (nR2 x)), .int (nI (nR1 x))]) (rest := [.int (37 : Int32), .ref mo]) S (c_Mod_isWithin l D ti mo am Q w g rb rt rp ro ca va st tr 0 false pk xx rd to (nR2 x) (nR1 x) (by first | decide | omega) (by first | decide | omega)) (cw_v hts tb_6_37 k_Mod_isWithin rfl rfl ⟨by decide, by decide⟩) hw 0 rfl rfl rfl hl.1 rfl (Nat.le_of_ble_eq_true rfl) d_Mod_special_765 ⟨Nat.zero_le _, Nat.zero_le _⟩) ?_
                    refine W.eq (g2 := F0 m9 768 ls [.int (jb (rWi (Q (nR2 x)) (Q (nR1 x)))), .int (37 : Int32), .ref mo]) rfl ?_
                    refine q_ifz_eq S d_Mod_special_768 rfl (fun h768 => ?_) (fun h768 => ?_)
                    · refine lv_iconst (v := 0) hx hb d_Mod_special_786 (by decide) ?_
                      refine q_topi (z := (jb (kBd (Q (nR1 x)) (Q (nR2 x))))) (by simp [kBd, r_cWC, jb, h720, h729, h757, h768]) ?_
                      exact J787 _ (lv_sub (l' := [(11, .int (jb (cCov (cbase ((Q (nR2 x)).2.2) ((Q (nR2 x)).2.1)) (ctop ((Q (nR2 x)).2.2) ((Q (nR2 x)).2.1)) ((Q (nR2 x)).2.1) (1 : Int32).toInt64))), (10, .int (jb (cOpen (Q (nR2 x)).2.2))), (9, .int ((Q (nR1 x)).2.2)), (8, .int ((Q (nR2 x)).2.1)), (7, .int ((Q (nR1 x)).2.1)), (0, .ref mo), (1, .int x), (2, .int (nI (nRd x))), (3, .int (nI (nFn x))), (4, .int (nI (nR1 x))), (5, .int (nI (nR2 x))), (6, .int (nI (nNb x)))]) hl [0, 1, 2, 3, 4, 5, 6, 7, 8, 9, 10, 11] rfl)
                    · refine lv_aload_n hx hb d_Mod_special_771 rfl (lv_at hl 5 rfl) ?_
                      refine lv_iload hx hb d_Mod_special_772 (lv_at hl 10 rfl) ?_
                      refine lv_iload hx hb d_Mod_special_774 (lv_at hl 9 rfl) ?_
                      refine q_cr (q_runV (As := [.int (nI (nR2 x)), .int (nI (nR1 x))]) (rest := [.int (37 : Int32), .ref mo]) S (c_Mod_isAmong l D ti mo am Q w g rb rt rp ro ca va st tr 0 false pk xx rd to (nR2 x) (nR1 x) (by first | decide | omega) (by first | decide | omega)) (cw_v hts tb_6_41 k_Mod_isAmong rfl rfl ⟨by decide, by decide⟩) hw 0 rfl rfl rfl hl.1 rfl (Nat.le_of_ble_eq_true rfl) d_Mod_special_776 ⟨Nat.zero_le _, Nat.zero_le _⟩) ?_
                      refine W.eq (g2 := F0 m9 779 ls [.int (jb (rAm (Q (nR2 x)) (Q (nR1 x)))), .int (37 : Int32), .ref mo]) rfl ?_
                      refine q_ifz_eq S d_Mod_special_779 rfl (fun h779 => ?_) (fun h779 => ?_)
                      · refine lv_iconst (v := 0) hx hb d_Mod_special_786 (by decide) ?_
                        refine q_topi (z := (jb (kBd (Q (nR1 x)) (Q (nR2 x))))) (by simp [kBd, r_cWC, jb, h720, h729, h757, h768, h779]) ?_
                        exact J787 _ (lv_sub (l' := [(11, .int (jb (cCov (cbase ((Q (nR2 x)).2.2) ((Q (nR2 x)).2.1)) (ctop ((Q (nR2 x)).2.2) ((Q (nR2 x)).2.1)) ((Q (nR2 x)).2.1) (1 : Int32).toInt64))), (10, .int (jb (cOpen (Q (nR2 x)).2.2))), (9, .int ((Q (nR1 x)).2.2)), (8, .int ((Q (nR2 x)).2.1)), (7, .int ((Q (nR1 x)).2.1)), (0, .ref mo), (1, .int x), (2, .int (nI (nRd x))), (3, .int (nI (nFn x))), (4, .int (nI (nR1 x))), (5, .int (nI (nR2 x))), (6, .int (nI (nNb x)))]) hl [0, 1, 2, 3, 4, 5, 6, 7, 8, 9, 10, 11] rfl)
                      · refine lv_iconst (v := 1) hx hb d_Mod_special_782 (by decide) ?_
                        refine lv_goto hx hb d_Mod_special_783 rfl ?_
                        refine q_topi (z := (jb (kBd (Q (nR1 x)) (Q (nR2 x))))) (by simp [kBd, r_cWC, jb, h720, h729, h757, h768, h779]) ?_
                        exact J787 _ (lv_sub (l' := [(11, .int (jb (cCov (cbase ((Q (nR2 x)).2.2) ((Q (nR2 x)).2.1)) (ctop ((Q (nR2 x)).2.2) ((Q (nR2 x)).2.1)) ((Q (nR2 x)).2.1) (1 : Int32).toInt64))), (10, .int (jb (cOpen (Q (nR2 x)).2.2))), (9, .int ((Q (nR1 x)).2.2)), (8, .int ((Q (nR2 x)).2.1)), (7, .int ((Q (nR1 x)).2.1)), (0, .ref mo), (1, .int x), (2, .int (nI (nRd x))), (3, .int (nI (nFn x))), (4, .int (nI (nR1 x))), (5, .int (nI (nR2 x))), (6, .int (nI (nNb x)))]) hl [0, 1, 2, 3, 4, 5, 6, 7, 8, 9, 10, 11] rfl)
          by_cases hc116_32 : (nI (nNb x)) = (32 : Int32)
          · refine lv_lookup (off := 711) (tgt := 827) hx hb d_Mod_special_116 (by decide) (by rw [hc116_32] <;> rfl) rfl ?_
            refine lv_aload_n hx hb d_Mod_special_827 rfl (lv_at hl 5 rfl) ?_
            refine lv_bipush (v := 37) hx hb d_Mod_special_828 (by decide) ?_
            refine q_join (pcJ := 874) (st := [.int (eqV (Q (nR1 x)) (Q (nR2 x))), .int (37 : Int32), .ref mo]) (lv' := [(11, .int (jb (cCov (cbase ((Q (nR2 x)).2.2) ((Q (nR2 x)).2.1)) (ctop ((Q (nR2 x)).2.2) ((Q (nR2 x)).2.1)) ((Q (nR2 x)).2.1) (1 : Int32).toInt64))), (10, .int (jb (cOpen (Q (nR2 x)).2.2))), (9, .int ((Q (nR1 x)).2.2)), (8, .int ((Q (nR2 x)).2.1)), (7, .int ((Q (nR1 x)).2.1)), (0, .ref mo), (1, .int x), (2, .int (nI (nRd x))), (3, .int (nI (nFn x))), (4, .int (nI (nR1 x))), (5, .int (nI (nR2 x))), (6, .int (nI (nNb x)))]) (nL := 13) (fun ls hl => ?_) (fun J874 => ?_)
            · refine q_cg (q_runV (As := [.int (37 : Int32), .int (eqV (Q (nR1 x)) (Q (nR2 x)))]) (rest := []) S (c_Mod_number l D ti mo am Q w g rb rt rp ro ca va st tr 0 false pk xx rd to 37 (by first | decide | omega) (eqV (Q (nR1 x)) (Q (nR2 x)))) (cw_v hts tb_5_214 k_Mod_number rfl rfl ⟨by decide, by decide⟩) hw 0 rfl rfl rfl hl.1 rfl (Nat.le_of_ble_eq_true rfl) d_Mod_special_874 ⟨Nat.zero_le _, Nat.zero_le _⟩) hw (fun z hD => qD_same hD rfl) (fun z9 H locs hp9 hw => ?_)
              refine W.eq (g2 := F0 m9 877 ls []) rfl ?_
              have hw : Lv _ _ _ _ _ (RMW mo am ti (rSet Q 37 (false, (eqV (Q (nR1 x)) (Q (nR2 x))), 1000194)) w g rb rt rp ro ca va st tr 0 false pk xx rd to) _ _ _ := hw
              refine lv_goto hx hb d_Mod_special_877 rfl ?_
              exact J932 ((rSet Q 37 (false, (eqV (Q (nR1 x)) (Q (nR2 x))), 1000194)), pk, xx, rd) _ _ _ (sU_n (by unfold xU xNb; rw [if_pos h76, hc116_32]; rfl)) hw (lv_sub (l' := [(11, .int (jb (cCov (cbase ((Q (nR2 x)).2.2) ((Q (nR2 x)).2.1)) (ctop ((Q (nR2 x)).2.2) ((Q (nR2 x)).2.1)) ((Q (nR2 x)).2.1) (1 : Int32).toInt64))), (10, .int (jb (cOpen (Q (nR2 x)).2.2))), (9, .int ((Q (nR1 x)).2.2)), (8, .int ((Q (nR2 x)).2.1)), (7, .int ((Q (nR1 x)).2.1)), (0, .ref mo), (1, .int x), (2, .int (nI (nRd x))), (3, .int (nI (nFn x))), (4, .int (nI (nR1 x))), (5, .int (nI (nR2 x))), (6, .int (nI (nNb x)))]) hl [0, 1, 2, 3, 4, 5, 6, 7, 8, 9, 10, 11] rfl)
            · refine lv_aload_n hx hb d_Mod_special_830 rfl (lv_at hl 5 rfl) ?_
              refine q_get S hw ly_Mod 0 rfl rfl 0 (by decide) tb_5_43 rfl rfl d_Mod_special_831 ?_
              refine lv_iload hx hb d_Mod_special_834 (lv_at hl 9 rfl) ?_
              refine q_zaldN (k := nR1 x) S hw 1 1 rfl rfl (by first | assumption | omega) (by decide) d_Mod_special_836 ?_
              refine lv_aload_n hx hb d_Mod_special_837 rfl (lv_at hl 5 rfl) ?_
              refine q_get S hw ly_Mod 0 rfl rfl 0 (by decide) tb_5_43 rfl rfl d_Mod_special_838 ?_
              refine lv_iload hx hb d_Mod_special_841 (lv_at hl 10 rfl) ?_
              refine q_zaldN (k := nR2 x) S hw 1 1 rfl rfl (by first | assumption | omega) (by decide) d_Mod_special_843 ?_
              refine q_zcmp_ne S d_Mod_special_844 rfl (fun h844 => ?_) (fun h844 => ?_)
              · refine lv_iconst (v := 0) hx hb d_Mod_special_873 (by decide) ?_
                refine q_topi (z := (eqV (Q (nR1 x)) (Q (nR2 x)))) (by simp [eqV, r_cWC, h844]) ?_
                exact J874 _ (lv_sub (l' := [(11, .int (jb (cCov (cbase ((Q (nR2 x)).2.2) ((Q (nR2 x)).2.1)) (ctop ((Q (nR2 x)).2.2) ((Q (nR2 x)).2.1)) ((Q (nR2 x)).2.1) (1 : Int32).toInt64))), (10, .int (jb (cOpen (Q (nR2 x)).2.2))), (9, .int ((Q (nR1 x)).2.2)), (8, .int ((Q (nR2 x)).2.1)), (7, .int ((Q (nR1 x)).2.1)), (0, .ref mo), (1, .int x), (2, .int (nI (nRd x))), (3, .int (nI (nFn x))), (4, .int (nI (nR1 x))), (5, .int (nI (nR2 x))), (6, .int (nI (nNb x)))]) hl [0, 1, 2, 3, 4, 5, 6, 7, 8, 9, 10, 11] rfl)
              · refine lv_aload_n hx hb d_Mod_special_847 rfl (lv_at hl 5 rfl) ?_
                refine lv_iload hx hb d_Mod_special_848 (lv_at hl 10 rfl) ?_
                refine lv_iload hx hb d_Mod_special_850 (lv_at hl 9 rfl) ?_
                refine q_cr (q_runV (As := [.int (nI (nR2 x)), .int (nI (nR1 x))]) (rest := [.int (37 : Int32), .ref mo]) S (c_Mod_isWithin l D ti mo am Q w g rb rt rp ro ca va st tr 0 false pk xx rd to (nR2 x) (nR1 x) (by first | decide | omega) (by first | decide | omega)) (cw_v hts tb_6_37 k_Mod_isWithin rfl rfl ⟨by decide, by decide⟩) hw 0 rfl rfl rfl hl.1 rfl (Nat.le_of_ble_eq_true rfl) d_Mod_special_852 ⟨Nat.zero_le _, Nat.zero_le _⟩) ?_
                refine W.eq (g2 := F0 m9 855 ls [.int (jb (rWi (Q (nR2 x)) (Q (nR1 x)))), .int (37 : Int32), .ref mo]) rfl ?_
                refine q_ifz_eq S d_Mod_special_855 rfl (fun h855 => ?_) (fun h855 => ?_)
                · refine lv_iconst (v := 0) hx hb d_Mod_special_873 (by decide) ?_
                  refine q_topi (z := (eqV (Q (nR1 x)) (Q (nR2 x)))) (by simp [eqV, r_cWC, h844, h855]) ?_
                  exact J874 _ (lv_sub (l' := [(11, .int (jb (cCov (cbase ((Q (nR2 x)).2.2) ((Q (nR2 x)).2.1)) (ctop ((Q (nR2 x)).2.2) ((Q (nR2 x)).2.1)) ((Q (nR2 x)).2.1) (1 : Int32).toInt64))), (10, .int (jb (cOpen (Q (nR2 x)).2.2))), (9, .int ((Q (nR1 x)).2.2)), (8, .int ((Q (nR2 x)).2.1)), (7, .int ((Q (nR1 x)).2.1)), (0, .ref mo), (1, .int x), (2, .int (nI (nRd x))), (3, .int (nI (nFn x))), (4, .int (nI (nR1 x))), (5, .int (nI (nR2 x))), (6, .int (nI (nNb x)))]) hl [0, 1, 2, 3, 4, 5, 6, 7, 8, 9, 10, 11] rfl)
                · refine lv_aload_n hx hb d_Mod_special_858 rfl (lv_at hl 5 rfl) ?_
                  refine lv_iload hx hb d_Mod_special_859 (lv_at hl 10 rfl) ?_
                  refine lv_iload hx hb d_Mod_special_861 (lv_at hl 9 rfl) ?_
                  refine q_cr (q_runV (As := [.int (nI (nR2 x)), .int (nI (nR1 x))]) (rest := [.int (37 : Int32), .ref mo]) S (c_Mod_isAmong l D ti mo am Q w g rb rt rp ro ca va st tr 0 false pk xx rd to (nR2 x) (nR1 x) (by first | decide | omega) (by first | decide | omega)) (cw_v hts tb_6_41 k_Mod_isAmong rfl rfl ⟨by decide, by decide⟩) hw 0 rfl rfl rfl hl.1 rfl (Nat.le_of_ble_eq_true rfl) d_Mod_special_863 ⟨Nat.zero_le _, Nat.zero_le _⟩) ?_
                  refine W.eq (g2 := F0 m9 866 ls [.int (jb (rAm (Q (nR2 x)) (Q (nR1 x)))), .int (37 : Int32), .ref mo]) rfl ?_
                  refine q_ifz_eq S d_Mod_special_866 rfl (fun h866 => ?_) (fun h866 => ?_)
                  · refine lv_iconst (v := 0) hx hb d_Mod_special_873 (by decide) ?_
                    refine q_topi (z := (eqV (Q (nR1 x)) (Q (nR2 x)))) (by simp [eqV, r_cWC, h844, h855, h866]) ?_
                    exact J874 _ (lv_sub (l' := [(11, .int (jb (cCov (cbase ((Q (nR2 x)).2.2) ((Q (nR2 x)).2.1)) (ctop ((Q (nR2 x)).2.2) ((Q (nR2 x)).2.1)) ((Q (nR2 x)).2.1) (1 : Int32).toInt64))), (10, .int (jb (cOpen (Q (nR2 x)).2.2))), (9, .int ((Q (nR1 x)).2.2)), (8, .int ((Q (nR2 x)).2.1)), (7, .int ((Q (nR1 x)).2.1)), (0, .ref mo), (1, .int x), (2, .int (nI (nRd x))), (3, .int (nI (nFn x))), (4, .int (nI (nR1 x))), (5, .int (nI (nR2 x))), (6, .int (nI (nNb x)))]) hl [0, 1, 2, 3, 4, 5, 6, 7, 8, 9, 10, 11] rfl)
                  · refine lv_iconst (v := 1) hx hb d_Mod_special_869 (by decide) ?_
                    refine lv_goto hx hb d_Mod_special_870 rfl ?_
                    refine q_topi (z := (eqV (Q (nR1 x)) (Q (nR2 x)))) (by simp [eqV, r_cWC, h844, h855, h866]) ?_
                    exact J874 _ (lv_sub (l' := [(11, .int (jb (cCov (cbase ((Q (nR2 x)).2.2) ((Q (nR2 x)).2.1)) (ctop ((Q (nR2 x)).2.2) ((Q (nR2 x)).2.1)) ((Q (nR2 x)).2.1) (1 : Int32).toInt64))), (10, .int (jb (cOpen (Q (nR2 x)).2.2))), (9, .int ((Q (nR1 x)).2.2)), (8, .int ((Q (nR2 x)).2.1)), (7, .int ((Q (nR1 x)).2.1)), (0, .ref mo), (1, .int x), (2, .int (nI (nRd x))), (3, .int (nI (nFn x))), (4, .int (nI (nR1 x))), (5, .int (nI (nR2 x))), (6, .int (nI (nNb x)))]) hl [0, 1, 2, 3, 4, 5, 6, 7, 8, 9, 10, 11] rfl)
          by_cases hc116_126 : (nI (nNb x)) = (126 : Int32)
          · refine lv_lookup (off := 764) (tgt := 880) hx hb d_Mod_special_116 (by decide) (by rw [hc116_126] <;> rfl) rfl ?_
            refine lv_iload_n hx hb d_Mod_special_880 rfl (lv_at hl 7 rfl) ?_
            refine lv_iconst (v := 1) hx hb d_Mod_special_881 (by decide) ?_
            refine lv_icmp_ne hx hb d_Mod_special_882 rfl (fun h882 => ?_) (fun h882 => ?_)
            · refine lv_aload_n hx hb d_Mod_special_896 rfl (lv_at hl 5 rfl) ?_
              refine lv_iconst (v := 2) hx hb d_Mod_special_897 (by decide) ?_
              refine lv_iload_n hx hb d_Mod_special_898 rfl (lv_at hl 6 rfl) ?_
              refine q_cg (q_runV (As := [.int (2 : Int32), .int x]) (rest := []) S (c_Mod_trap l D ti mo am Q w g rb rt rp ro ca va st tr 0 pk xx rd to (2 : Int32) x) (cw_v hts tb_5_202 k_Mod_trap rfl rfl ⟨by decide, by decide⟩) hw 0 rfl rfl rfl hl.1 rfl (Nat.le_of_ble_eq_true rfl) d_Mod_special_899 ⟨Nat.zero_le _, Nat.zero_le _⟩) hw (fun z hD => qD_same hD rfl) (fun z9 H locs hp9 hw => ?_)
              refine W.eq (g2 := F0 m9 902 ls [.int (jb false)]) rfl ?_
              have hw : Lv _ _ _ _ _ (RMW mo am ti (kTR Q) w g rb rt rp ro (2 : Int32) x st (tr + 1) 0 (kHa x Q) pk xx rd (rTo (kTR Q 32))) _ _ _ := hw
              have ho : xoc (xU fv Q x) ca va w g = ((2 : Int32), x, Q, ca, va, w, g) := by unfold xoc; rw [show xU fv Q x = (2, x, Q) from by unfold xU xNb; rw [if_pos h76, hc116_126]; show (if nI (nRd x) = 1 then xIv fv Q x else (2, x, Q)) = _; rw [if_neg h882]]
              exact hw.riz S hr hlk (rfl) d_Mod_special_902 ((kTR Q), pk, xx, rd, (rTo (kTR Q 32))) (by rw [ho]; rfl) (by rw [ho]; exact ⟨by rw [rE_t (by decide)]; exact fun k _ => rfl, rfl, Or.inr (Or.inr (show ¬ (2 : Int32) < 0 by decide))⟩) (by rw [ho, rE_t (by decide)]; first | done | rfl)
            · refine lv_aload_n hx hb d_Mod_special_885 rfl (lv_at hl 5 rfl) ?_
              refine lv_iload hx hb d_Mod_special_886 (lv_at hl 9 rfl) ?_
              refine lv_iload hx hb d_Mod_special_888 (lv_at hl 10 rfl) ?_
              refine q_cg (q_runV (As := [.int (nI (nR1 x)), .int (nI (nR2 x))]) (rest := []) S (c_Mod_invoke l D ti mo am Q w g rb rt rp ro ca va st tr 0 pk xx rd to fv x) (cw_v hts tb_6_45 k_Mod_invoke rfl rfl ⟨by decide, by decide⟩) hw 0 rfl rfl rfl hl.1 rfl (Nat.le_of_ble_eq_true rfl) d_Mod_special_890 ⟨Nat.zero_le _, Nat.zero_le _⟩) hw (fun z hD => qD_same hD rfl) (fun z93 H locs hp94 hw => ?_)
              refine W.eq (g2 := F0 m9 893 ls [.int (jb (goB (xoc (xIv fv Q x) ca va w g).1))]) rfl ?_
              have hw : Lv _ _ _ _ _ (RMW mo am ti z93.1 ((rE (xoc (xIv fv Q x) ca va w g) tr).w) ((rE (xoc (xIv fv Q x) ca va w g) tr).g) rb rt rp ro ((rE (xoc (xIv fv Q x) ca va w g) tr).ca) ((rE (xoc (xIv fv Q x) ca va w g) tr).va) st ((rE (xoc (xIv fv Q x) ca va w g) tr).tr) 0 ((rE (xoc (xIv fv Q x) ca va w g) tr).ha) z93.2.1 z93.2.2.1 z93.2.2.2.1 z93.2.2.2.2) _ _ _ := hw
              refine lv_goto hx hb d_Mod_special_893 rfl ?_
              have ho : xoc (xU fv Q x) ca va w g = xoc (xIv fv Q x) ca va w g := by rw [show xU fv Q x = xIv fv Q x from by unfold xU xNb; rw [if_pos h76, hc116_126, h882]; rfl]
              exact hw.riz S hr hlk (jb_nar _) d_Mod_special_902 z93 (by rw [ho]) (by rw [ho]; exact hp94) (by rw [ho])
          by_cases hc116_127 : (nI (nNb x)) = (127 : Int32)
          · refine lv_lookup (off := 787) (tgt := 903) hx hb d_Mod_special_116 (by decide) (by rw [hc116_127] <;> rfl) rfl ?_
            refine lv_aload_n hx hb d_Mod_special_903 rfl (lv_at hl 5 rfl) ?_
            refine lv_iload hx hb d_Mod_special_904 (lv_at hl 10 rfl) ?_
            refine lv_iload hx hb d_Mod_special_906 (lv_at hl 9 rfl) ?_
            refine lv_iload hx hb d_Mod_special_908 (lv_at hl 4 rfl) ?_
            refine lv_iload hx hb d_Mod_special_910 (lv_at hl 2 rfl) ?_
            refine q_cg (q_runV (As := [.int (nI (nR2 x)), .int (nI (nR1 x)), .int ((Q (nR1 x)).2.1), .int ((Q (nR1 x)).2.2)]) (rest := []) S (c_Mod_asked l D ti mo am Q w g rb rt rp ro ca va st tr pk xx rd to x h0) (cw_v hts tb_6_49 k_Mod_asked rfl rfl ⟨by decide, by decide⟩) hw 0 rfl rfl rfl hl.1 rfl (Nat.le_of_ble_eq_true rfl) d_Mod_special_912 ⟨Nat.zero_le _, Nat.zero_le _⟩) hw (fun z hD => qD_same hD rfl) (fun z95 H locs _ hw => ?_)
            refine W.eq (g2 := F0 m9 915 ls [.int (jb (asB (nI (nR2 x))))]) rfl ?_
            have hw : Lv _ _ _ _ _ (RMW mo am ti (asQ Q (Q (nR1 x)) (nI (nR2 x))) w g rb rt rp ro ca va st tr 0 false z95.1 z95.2.1 z95.2.2 to) _ _ _ := hw
            refine q_ifz_ne S d_Mod_special_915 rfl (fun h915 => ?_) (fun h915 => ?_)
            · exact J932 ((asQ Q (Q (nR1 x)) (nI (nR2 x))), z95.1, z95.2.1, z95.2.2) _ _ _ (sU_a h76 hc116_127 h915) hw (lv_sub (l' := [(11, .int (jb (cCov (cbase ((Q (nR2 x)).2.2) ((Q (nR2 x)).2.1)) (ctop ((Q (nR2 x)).2.2) ((Q (nR2 x)).2.1)) ((Q (nR2 x)).2.1) (1 : Int32).toInt64))), (10, .int (jb (cOpen (Q (nR2 x)).2.2))), (9, .int ((Q (nR1 x)).2.2)), (8, .int ((Q (nR2 x)).2.1)), (7, .int ((Q (nR1 x)).2.1)), (0, .ref mo), (1, .int x), (2, .int (nI (nRd x))), (3, .int (nI (nFn x))), (4, .int (nI (nR1 x))), (5, .int (nI (nR2 x))), (6, .int (nI (nNb x)))]) hl [0, 1, 2, 3, 4, 5, 6, 7, 8, 9, 10, 11] rfl)
            · rw [asQ_f h915] at hw
              have hw : Lv _ _ _ _ _ (RMW mo am ti Q w g rb rt rp ro ca va st tr 0 false z95.1 z95.2.1 z95.2.2 to) _ _ _ := hw
              refine lv_aload_n hx hb d_Mod_special_918 rfl (lv_at hl 5 rfl) ?_
              refine lv_iconst (v := 2) hx hb d_Mod_special_919 (by decide) ?_
              refine lv_iload_n hx hb d_Mod_special_920 rfl (lv_at hl 6 rfl) ?_
              refine q_cg (q_runV (As := [.int (2 : Int32), .int x]) (rest := []) S (c_Mod_trap l D ti mo am Q w g rb rt rp ro ca va st tr 0 z95.1 z95.2.1 z95.2.2 to (2 : Int32) x) (cw_v hts tb_5_202 k_Mod_trap rfl rfl ⟨by decide, by decide⟩) hw 0 rfl rfl rfl hl.1 rfl (Nat.le_of_ble_eq_true rfl) d_Mod_special_921 ⟨Nat.zero_le _, Nat.zero_le _⟩) hw (fun z hD => qD_same hD rfl) (fun z9 H locs hp9 hw => ?_)
              refine W.eq (g2 := F0 m9 924 ls [.int (jb false)]) rfl ?_
              have hw : Lv _ _ _ _ _ (RMW mo am ti (kTR Q) w g rb rt rp ro (2 : Int32) x st (tr + 1) 0 (kHa x Q) z95.1 z95.2.1 z95.2.2 (rTo (kTR Q 32))) _ _ _ := hw
              have ho : xoc (xU fv Q x) ca va w g = ((2 : Int32), x, Q, ca, va, w, g) := by unfold xoc; rw [xU_a h76 hc116_127 h915]
              exact hw.riz S hr hlk (rfl) d_Mod_special_924 ((kTR Q), z95.1, z95.2.1, z95.2.2, (rTo (kTR Q 32))) (by rw [ho]; rfl) (by rw [ho]; exact ⟨by rw [rE_t (by decide)]; exact fun k _ => rfl, rfl, Or.inr (Or.inr (show ¬ (2 : Int32) < 0 by decide))⟩) (by rw [ho, rE_t (by decide)]; first | done | rfl)
          refine lv_lookup (off := 809) (tgt := 925) hx hb d_Mod_special_116 (by decide) (by show Op.lookupswitch.offset [(1, 132), (8, 235), (9, 249), (11, 263), (12, 351), (13, 464), (15, 512), (16, 534), (17, 547), (20, 563), (22, 577), (29, 594), (32, 711), (126, 764), (127, 787)] 809 (Int32.toInt (nI (nNb x))) = 809; rw [lv_osw (a := 1) hc116_1 rfl, lv_osw (a := 8) hc116_8 rfl, lv_osw (a := 9) hc116_9 rfl, lv_osw (a := 11) hc116_11 rfl, lv_osw (a := 12) hc116_12 rfl, lv_osw (a := 13) hc116_13 rfl, lv_osw (a := 15) hc116_15 rfl, lv_osw (a := 16) hc116_16 rfl, lv_osw (a := 17) hc116_17 rfl, lv_osw (a := 20) hc116_20 rfl, lv_osw (a := 22) hc116_22 rfl, lv_osw (a := 29) hc116_29 rfl, lv_osw (a := 32) hc116_32 rfl, lv_osw (a := 126) hc116_126 rfl, lv_osw (a := 127) hc116_127 rfl] <;> rfl) rfl ?_
          refine lv_aload_n hx hb d_Mod_special_925 rfl (lv_at hl 5 rfl) ?_
          refine lv_iconst (v := 2) hx hb d_Mod_special_926 (by decide) ?_
          refine lv_iload_n hx hb d_Mod_special_927 rfl (lv_at hl 6 rfl) ?_
          refine q_cg (q_runV (As := [.int (2 : Int32), .int x]) (rest := []) S (c_Mod_trap l D ti mo am Q w g rb rt rp ro ca va st tr 0 pk xx rd to (2 : Int32) x) (cw_v hts tb_5_202 k_Mod_trap rfl rfl ⟨by decide, by decide⟩) hw 0 rfl rfl rfl hl.1 rfl (Nat.le_of_ble_eq_true rfl) d_Mod_special_928 ⟨Nat.zero_le _, Nat.zero_le _⟩) hw (fun z hD => qD_same hD rfl) (fun z9 H locs hp9 hw => ?_)
          refine W.eq (g2 := F0 m9 931 ls [.int (jb false)]) rfl ?_
          have hw : Lv _ _ _ _ _ (RMW mo am ti (kTR Q) w g rb rt rp ro (2 : Int32) x st (tr + 1) 0 (kHa x Q) pk xx rd (rTo (kTR Q 32))) _ _ _ := hw
          have ho : xoc (xU fv Q x) ca va w g = ((2 : Int32), x, Q, ca, va, w, g) := by unfold xoc xU xNb; rw [if_pos h76, if_neg hc116_1, if_neg hc116_8, if_neg hc116_9, if_neg hc116_11, if_neg hc116_12, if_neg hc116_13, if_neg hc116_15, if_neg hc116_16, if_neg hc116_17, if_neg hc116_20, if_neg hc116_22, if_neg hc116_29, if_neg hc116_32, if_neg hc116_126, if_neg hc116_127]
          exact hw.riz S hr hlk (rfl) d_Mod_special_931 ((kTR Q), pk, xx, rd, (rTo (kTR Q 32))) (by rw [ho]; rfl) (by rw [ho]; exact ⟨by rw [rE_t (by decide)]; exact fun k _ => rfl, rfl, Or.inr (Or.inr (show ¬ (2 : Int32) < 0 by decide))⟩) (by rw [ho, rE_t (by decide)]; first | done | rfl)
      · refine lv_aload_n hx hb d_Mod_special_79 rfl (lv_at hl 3 rfl) ?_
        refine lv_iconst (v := 2) hx hb d_Mod_special_80 (by decide) ?_
        refine lv_iload_n hx hb d_Mod_special_81 rfl (lv_at hl 4 rfl) ?_
        refine q_cg (q_runV (As := [.int (2 : Int32), .int x]) (rest := []) S (c_Mod_trap l D ti mo am Q w g rb rt rp ro ca va st tr 0 pk xx rd to (2 : Int32) x) (cw_v hts tb_5_202 k_Mod_trap rfl rfl ⟨by decide, by decide⟩) hw 0 rfl rfl rfl hl.1 rfl (Nat.le_of_ble_eq_true rfl) d_Mod_special_82 ⟨Nat.zero_le _, Nat.zero_le _⟩) hw (fun z hD => qD_same hD rfl) (fun z9 H locs hp9 hw => ?_)
        refine W.eq (g2 := F0 m9 85 ls [.int (jb false)]) rfl ?_
        have hw : Lv _ _ _ _ _ (RMW mo am ti (kTR Q) w g rb rt rp ro (2 : Int32) x st (tr + 1) 0 (kHa x Q) pk xx rd (rTo (kTR Q 32))) _ _ _ := hw
        have ho : xoc (xU fv Q x) ca va w g = ((2 : Int32), x, Q, ca, va, w, g) := by unfold xoc; rw [xU_t h76 h29 h58]
        exact hw.riz S hr hlk (rfl) d_Mod_special_85 ((kTR Q), pk, xx, rd, (rTo (kTR Q 32))) (by rw [ho]; rfl) (by rw [ho]; exact ⟨by rw [rE_t (by decide)]; exact fun k _ => rfl, rfl, Or.inr (Or.inr (show ¬ (2 : Int32) < 0 by decide))⟩) (by rw [ho, rE_t (by decide)]; first | done | rfl)
    · refine lv_aload_n hx hb d_Mod_special_61 rfl (lv_at hl 3 rfl) ?_
      refine lv_iload_n hx hb d_Mod_special_62 rfl (lv_at hl 5 rfl) ?_
      refine lv_iload hx hb d_Mod_special_63 (lv_at hl 7 rfl) ?_
      refine lv_iload_n hx hb d_Mod_special_65 rfl (lv_at hl 4 rfl) ?_
      refine lv_bipush (v := 20) hx hb d_Mod_special_66 (by decide) ?_
      refine lv_iushr (v := (jus x (20 : Int32))) hx hb d_Mod_special_68 rfl ?_
      refine lv_i2l (v := ((jus x (20 : Int32)).toInt64)) hx hb d_Mod_special_69 rfl ?_
      refine lv_iconst (v := 0) hx hb d_Mod_special_70 (by decide) ?_
      refine q_cg (q_runV (As := [.int (nI (nRd x)), .int (nI (nR1 x)), .long ((jus x (20 : Int32)).toInt64), .int (jb false)]) (rest := []) S (c_Mod_bounds l D ti mo am Q w g rb rt rp ro ca va st tr 0 false pk xx rd to (nRd x) (nR1 x) (by first | decide | omega) (by first | decide | omega) ((jus x (20 : Int32)).toInt64) (x.toBitVec.toNat / 1048576) (us20_l x) (by have := iN_lt x; omega) false) (cw_v hts tb_6_28 k_Mod_bounds rfl rfl ⟨by decide, by decide⟩) hw 0 rfl rfl rfl hl.1 rfl (Nat.le_of_ble_eq_true rfl) d_Mod_special_71 ⟨Nat.zero_le _, Nat.zero_le _⟩) hw (fun z hD => qD_same hD rfl) (fun z9 H locs hp9 hw => ?_)
      refine W.eq (g2 := F0 m9 74 ls [.int (jb true)]) rfl ?_
      have hw : Lv _ _ _ _ _ (RMW mo am ti (rSet Q (nRd x) (uBn (Q (nR1 x)) ((jus x (20 : Int32)).toInt64) false)) w g rb rt rp ro ca va st tr 0 false (kBits (bF (Q (nR1 x))) (bTo (Q (nR1 x)) ((jus x (20 : Int32)).toInt64))) (kEx (bF (Q (nR1 x))) (bTo (Q (nR1 x)) ((jus x (20 : Int32)).toInt64))) (kLen (bF (Q (nR1 x))) (bTo (Q (nR1 x)) ((jus x (20 : Int32)).toInt64))) to) _ _ _ := hw
      have ho : xoc (xU fv Q x) ca va w g = ((-1 : Int32), fv, uR Q (uBn (Q (nR1 x)) (jus x 20).toInt64 false) x, ca, va, w, g) := by unfold xoc; rw [xU_2 h58 hi]
      exact hw.riz S hr hlk (rfl) d_Mod_special_74 ((rSet Q (nRd x) (uBn (Q (nR1 x)) ((jus x (20 : Int32)).toInt64) false)), (kBits (bF (Q (nR1 x))) (bTo (Q (nR1 x)) ((jus x (20 : Int32)).toInt64))), (kEx (bF (Q (nR1 x))) (bTo (Q (nR1 x)) ((jus x (20 : Int32)).toInt64))), (kLen (bF (Q (nR1 x))) (bTo (Q (nR1 x)) ((jus x (20 : Int32)).toInt64))), to) (by rw [ho]; rfl) (by rw [ho]; exact ⟨by rw [rE_n (by decide)]; exact ag_set _ _ _, rS0 _ _ _, Or.inl rfl⟩) (by rw [ho, rE_n (by decide)]; first | done | rfl)
  · refine lv_aload_n hx hb d_Mod_special_32 rfl (lv_at hl 3 rfl) ?_
    refine lv_iload hx hb d_Mod_special_33 (lv_at hl 7 rfl) ?_
    refine lv_iload hx hb d_Mod_special_35 (lv_at hl 2 rfl) ?_
    refine lv_iload_n hx hb d_Mod_special_37 rfl (lv_at hl 4 rfl) ?_
    refine lv_bipush (v := 20) hx hb d_Mod_special_38 (by decide) ?_
    refine lv_ishr hx hb d_Mod_special_40 ?_
    refine q_topi (z := (iIm x)) (hi.symm) ?_
    refine lv_iadd hx hb d_Mod_special_41 ?_
    refine lv_bipush (v := 37) hx hb d_Mod_special_42 (by decide) ?_
    refine q_cg (q_runV (As := [.int (nI (nR1 x)), .int (((Q (nR1 x)).2.1) + (iIm x)), .int (37 : Int32)]) (rest := []) S (c_Mod_moved l D ti mo am Q w g rb rt rp ro ca va st tr 0 false pk xx rd to (nR1 x) (by first | decide | omega) (((Q (nR1 x)).2.1) + (iIm x)) 37 (by first | decide | omega)) (cw_v hts tb_5_218 k_Mod_moved rfl rfl ⟨by decide, by decide⟩) hw 0 rfl rfl rfl hl.1 rfl (Nat.le_of_ble_eq_true rfl) d_Mod_special_44 ⟨Nat.zero_le _, Nat.zero_le _⟩) hw (fun z hD => qD_same hD rfl) (fun z9 H locs hp9 hw => ?_)
    refine W.eq (g2 := F0 m9 47 ls []) rfl ?_
    have hw : Lv _ _ _ _ _ (RMW mo am ti (rSet Q 37 (cMvC (Q (nR1 x)) (((Q (nR1 x)).2.1) + (iIm x)))) w g rb rt rp ro ca va st tr 0 false pk xx rd to) _ _ _ := hw
    refine lv_aload_n hx hb d_Mod_special_47 rfl (lv_at hl 3 rfl) ?_
    refine lv_bipush (v := 37) hx hb d_Mod_special_48 (by decide) ?_
    refine lv_iload_n hx hb d_Mod_special_50 rfl (lv_at hl 5 rfl) ?_
    refine q_cg (q_runV (As := [.int (37 : Int32), .int (nI (nRd x))]) (rest := []) S (c_Mod_copy l D ti mo am (rSet Q 37 (cMvC (Q (nR1 x)) (((Q (nR1 x)).2.1) + (iIm x)))) w g rb rt rp ro ca va st tr 0 false pk xx rd to 37 (nRd x) (by first | decide | omega) (by first | decide | omega)) (cw_v hts tb_5_206 k_Mod_copy rfl rfl ⟨by decide, by decide⟩) hw 0 rfl rfl rfl hl.1 rfl (Nat.le_of_ble_eq_true rfl) d_Mod_special_51 ⟨Nat.zero_le _, Nat.zero_le _⟩) hw (fun z hD => qD_same hD rfl) (fun z9 H locs hp9 hw => ?_)
    refine W.eq (g2 := F0 m9 54 ls []) rfl ?_
    have hw : Lv _ _ _ _ _ (RMW mo am ti (rSet (rSet Q 37 (cMvC (Q (nR1 x)) (((Q (nR1 x)).2.1) + (iIm x)))) (nRd x) ((rSet Q 37 (cMvC (Q (nR1 x)) (((Q (nR1 x)).2.1) + (iIm x)))) 37)) w g rb rt rp ro ca va st tr 0 false pk xx rd to) _ _ _ := hw
    refine lv_iconst (v := 1) hx hb d_Mod_special_54 (by decide) ?_
    have ho : xoc (xU fv Q x) ca va w g = ((-1 : Int32), fv, uR Q (cMvC (Q (nR1 x)) ((Q (nR1 x)).2.1 + iIm x)) x, ca, va, w, g) := by unfold xoc; rw [xU_1 h29]
    exact hw.riz S hr hlk (rfl) d_Mod_special_55 ((rSet (rSet Q 37 (cMvC (Q (nR1 x)) (((Q (nR1 x)).2.1) + (iIm x)))) (nRd x) ((rSet Q 37 (cMvC (Q (nR1 x)) (((Q (nR1 x)).2.1) + (iIm x)))) 37)), pk, xx, rd, to) (by rw [ho]; rfl) (by rw [ho]; exact ⟨by rw [rE_n (by decide)]; exact ag_u _ _ _, (rS0 _ _ _).trans (rS0 _ _ _), Or.inl rfl⟩) (by rw [ho, rE_n (by decide)]; first | done | rfl)
