/-! The reference: instruction, step, run. -/
theorem RMW_D {A : Nat → Prop} {ti : Nat → ClassId} {mo : Nat} {am : Nat → Nat} {Q Q' : Nat → Cap} {w g w' g' : Nat → Int32} {rb rt rb' rt' : Nat → Int64} {rp rp' : Nat → Int32} {ro ca va st tr th ro' ca' va' st' tr' th' : Int32} {ha ha' : Bool} {pk pk' : Int32} {xx xx' : Bool} {rd rd' : Int64} {to to' : Int32} (h : va_D A (RMW mo am ti Q w g rb rt rp ro ca va st tr th ha pk xx rd to)) : va_D A (RMW mo am ti Q' w' g' rb' rt' rp' ro' ca' va' st' tr' th' ha' pk' xx' rd' to') := qD_same h rfl
theorem kHa_38 {v : Int32} {Q : Nat → Cap} {c : Cap} : kHa v (va_up Q 38 c) = kHa v Q := by
  unfold kHa
  rw [show kTR (va_up Q 38 c) 32 = kTR Q 32 from rfl]
theorem RMW_nx {ti : Nat → ClassId} {mo : Nat} {am : Nat → Nat} {Q : Nat → Cap} {rb rt : Nat → Int64} {rp : Nat → Int32} {ro st th : Int32} {pk : Int32} {xx : Bool} {rd : Int64} {to : Int32} (s : KS) : RMW mo am ti Q s.w s.g rb rt rp ro s.ca s.va st s.tr th s.ha pk xx rd to = RMW mo am ti Q (kNext s).w (kNext s).g rb rt rp ro (kNext s).ca (kNext s).va st (kNext s).tr th (kNext s).ha pk xx rd to := rfl
theorem st_nx {Q : Nat → Cap} {s : KS} (h : ag Q s.R) : ag (rSet Q 32 (cMvC (Q 32) ((Q 32).2.1 + 4))) (kNext s).R := by
  rw [rS_c (r := 32) (by decide)]
  show ag _ (va_up s.R 32 (cMvC (s.R 32) ((s.R 32).2.1 + 4)))
  rw [h 32 (by decide)]
  exact a_up h _ _
set_option maxHeartbeats 4000000 in
set_option maxRecDepth 100000 in
theorem c_Mod_instruction (l : Launch) (D : va_G) (ti : Nat → ClassId) (mo : Nat) (am : Nat → Nat) (Q : Nat → Cap) (w g : Nat → Int32) (rb rt : Nat → Int64) (rp : Nat → Int32) (ro ca va st tr : Int32) (pk : Int32) (xx : Bool) (rd : Int64) (to : Int32) (fv x : Int32) (h0 : Q 0 = (false, 0, 1000194)) : Cg l y_Mod_instruction (wl y_Mod_instruction b_Mod_instruction 11 (some .boolean)) (rmL 12) D clz (ty4 ti) [.ref mo, .int x] (RMW mo am ti Q w g rb rt rp ro ca va st tr 0 false pk xx rd to) (fun z : (Nat → Cap) × Int32 × Bool × Int64 × Int32 => some (.int (jb (goB (kX fv ca va Q w g x).1)))) (fun z => (RMW mo am ti z.1 ((rE (kX fv ca va Q w g x) tr).w) ((rE (kX fv ca va Q w g x) tr).g) rb rt rp ro ((rE (kX fv ca va Q w g x) tr).ca) ((rE (kX fv ca va Q w g x) tr).va) st ((rE (kX fv ca va Q w g x) tr).tr) 0 ((rE (kX fv ca va Q w g x) tr).ha) z.2.1 z.2.2.1 z.2.2.2.1 z.2.2.2.2)) (fun z => RPo Q z.1 (kX fv ca va Q w g x) tr) := by
  refine Cg.ofF (plainFor_of_name (by decide)) (Nat.le_of_ble_eq_true rfl) ?_
  intro p9 e9 s9 m9 b9 me9 c9 ls S hr hlk hl hw
  obtain ⟨hx, hb, hml, hown, hts⟩ := id S
  have hl : lv_has ls 11 [(0, .ref mo), (1, .int x)] := hl
  have hr1 := nR1_lt x
  have hr2 := nR2_lt x
  have hrd := nRd_lt x
  have hfn := nFn_lt x
  refine q_joinG (Z := Unit) (pcJ := 67) (st := []) (nL := 11) (fun _ => [(9, .int ((Q 32).2.1)), (8, .int ((Q (nR2 x)).2.1)), (7, .int ((Q (nR1 x)).2.1)), (6, .int (nI (nNb x))), (5, .int (nI (nR2 x))), (4, .int (nI (nR1 x))), (3, .int (nI (nFn x))), (2, .int (nI (nRd x))), (1, .int x), (0, .ref mo)]) (fun z => (RMW mo am ti Q w g rb rt rp ro ca va st tr 0 false pk xx rd to)) (fun z => True) hw (fun z H locs ls hI67 hw hl => ?_) (fun J67 => ?_)
  · obtain ⟨d0, rfl⟩ : ∃ y, y = z := ⟨_, rfl⟩
    have hw : Lv _ _ _ _ _ (RMW mo am ti Q w g rb rt rp ro ca va st tr 0 false pk xx rd to) _ _ _ := hw
    have hl : lv_has ls 11 [(9, .int ((Q 32).2.1)), (8, .int ((Q (nR2 x)).2.1)), (7, .int ((Q (nR1 x)).2.1)), (6, .int (nI (nNb x))), (5, .int (nI (nR2 x))), (4, .int (nI (nR1 x))), (3, .int (nI (nFn x))), (2, .int (nI (nRd x))), (1, .int x), (0, .ref mo)] := hl
    refine lv_iload_n hx hb d_Mod_instruction_67 rfl (lv_at hl 8 rfl) ?_
    refine lv_bipush (v := 127) hx hb d_Mod_instruction_68 (by decide) ?_
    refine lv_iand hx hb d_Mod_instruction_70 ?_
    refine q_topi (z := (nI (nOp x))) (d_op x) ?_
    refine q_topi (z := (nI (nOp x))) rfl ?_
    by_cases hc71_3 : (nI (nOp x)) = (3 : Int32)
    · refine lv_lookup (off := 438) (tgt := 509) hx hb d_Mod_instruction_71 (by decide) (by rw [hc71_3] <;> rfl) rfl ?_
      refine lv_iload_n hx hb d_Mod_instruction_509 rfl (lv_at hl 6 rfl) ?_
      refine lv_iconst (v := 5) hx hb d_Mod_instruction_510 (by decide) ?_
      refine lv_icmp_le hx hb d_Mod_instruction_511 rfl (fun h511 => ?_) (fun h511 => ?_)
      · refine lv_aload_n hx hb d_Mod_instruction_523 rfl (lv_at hl 9 rfl) ?_
        refine lv_iload_n hx hb d_Mod_instruction_524 rfl (lv_at hl 7 rfl) ?_
        refine lv_iload_n hx hb d_Mod_instruction_525 rfl (lv_at hl 6 rfl) ?_
        refine lv_iload hx hb d_Mod_instruction_526 (lv_at hl 5 rfl) ?_
        refine lv_iload hx hb d_Mod_instruction_528 (lv_at hl 2 rfl) ?_
        refine lv_iload_n hx hb d_Mod_instruction_530 rfl (lv_at hl 8 rfl) ?_
        refine lv_bipush (v := 20) hx hb d_Mod_instruction_531 (by decide) ?_
        refine lv_ishr hx hb d_Mod_instruction_533 ?_
        refine q_topi (z := (iIm x)) ((im_i hc71_3 (by decide) (by decide) (by decide) (by decide) (by decide)).symm) ?_
        refine lv_iadd hx hb d_Mod_instruction_534 ?_
        refine q_topi (z := (ldX Q x)) (rfl) ?_
        refine q_cg (q_runV (As := [.int (nI (nRd x)), .int (nI (nFn x)), .int (nI (nR1 x)), .int (ldX Q x)]) (rest := []) S (c_Mod_load l D ti mo am Q w g rb rt rp ro ca va st tr 0 pk xx rd to fv x h511) (cw_v hts tb_6_7 k_Mod_load rfl rfl ⟨by decide, by decide⟩) hw 0 rfl rfl rfl hl.1 rfl (Nat.le_of_ble_eq_true rfl) d_Mod_instruction_535 ⟨Nat.zero_le _, Nat.zero_le _⟩) hw (fun _ hD => RMW_D hD) (fun z96 H locs hp97 hw => ?_)
        refine W.eq (g2 := F0 m9 538 ls [.int (jb (goB (xoc (xLd fv Q w g x) ca va w g).1))]) rfl ?_
        have hw : Lv _ _ _ _ _ (RMW mo am ti z96.1 ((rE (xoc (xLd fv Q w g x) ca va w g) tr).w) ((rE (xoc (xLd fv Q w g x) ca va w g) tr).g) rb rt rp ro ((rE (xoc (xLd fv Q w g x) ca va w g) tr).ca) ((rE (xoc (xLd fv Q w g x) ca va w g) tr).va) st ((rE (xoc (xLd fv Q w g x) ca va w g) tr).tr) 0 ((rE (xoc (xLd fv Q w g x) ca va w g) tr).ha) z96.2.1 z96.2.2.1 z96.2.2.2.1 z96.2.2.2.2) _ _ _ := hw
        have ho : kX fv ca va Q w g x = xoc (xLd fv Q w g x) ca va w g := kX_3 hc71_3
        exact hw.riz S hr hlk (jb_nar _) d_Mod_instruction_538 z96 (by rw [ho]) (by rw [ho]; exact hp97) (by rw [ho])
      · refine lv_aload_n hx hb d_Mod_instruction_514 rfl (lv_at hl 9 rfl) ?_
        refine lv_iconst (v := 2) hx hb d_Mod_instruction_515 (by decide) ?_
        refine lv_iload_n hx hb d_Mod_instruction_516 rfl (lv_at hl 8 rfl) ?_
        refine q_cg (q_runV (As := [.int (2 : Int32), .int x]) (rest := []) S (c_Mod_trap l D ti mo am Q w g rb rt rp ro ca va st tr 0 pk xx rd to (2 : Int32) x) (cw_v hts tb_5_202 k_Mod_trap rfl rfl ⟨by decide, by decide⟩) hw 0 rfl rfl rfl hl.1 rfl (Nat.le_of_ble_eq_true rfl) d_Mod_instruction_517 ⟨Nat.zero_le _, Nat.zero_le _⟩) hw (fun _ hD => RMW_D hD) (fun z9 H locs hp9 hw => ?_)
        refine W.eq (g2 := F0 m9 520 ls [.int (jb false)]) rfl ?_
        have hw : Lv _ _ _ _ _ (RMW mo am ti (kTR Q) w g rb rt rp ro (2 : Int32) x st (tr + 1) 0 (kHa x Q) pk xx rd (rTo (kTR Q 32))) _ _ _ := hw
        refine lv_goto hx hb d_Mod_instruction_520 rfl ?_
        have ho : kX fv ca va Q w g x = ((2 : Int32), x, Q, ca, va, w, g) := by rw [kX_3 hc71_3, xLd_t h511]; first | done | rfl
        exact hw.riz S hr hlk (rfl) d_Mod_instruction_538 ((kTR Q), pk, xx, rd, (rTo (kTR Q 32))) (by rw [ho]; rfl) (by rw [ho]; exact ⟨by rw [rE_t (by decide)]; exact fun k _ => rfl, rfl, Or.inr (Or.inr (show ¬ (2 : Int32) < 0 by decide))⟩) (by rw [ho, rE_t (by decide)]; first | done | rfl)
    by_cases hc71_15 : (nI (nOp x)) = (15 : Int32)
    · refine lv_lookup (off := 664) (tgt := 735) hx hb d_Mod_instruction_71 (by decide) (by rw [hc71_15] <;> rfl) rfl ?_
      refine lv_iload_n hx hb d_Mod_instruction_735 rfl (lv_at hl 6 rfl) ?_
      refine lv_if_eq hx hb d_Mod_instruction_736 rfl (fun h736 => ?_) (fun h736 => ?_)
      · refine lv_iconst (v := 1) hx hb d_Mod_instruction_748 (by decide) ?_
        refine lv_goto hx hb d_Mod_instruction_749 rfl ?_
        have ho : kX fv ca va Q w g x = ((-1 : Int32), fv, Q, ca, va, w, g) := by rw [kX_15 hc71_15, if_pos h736]
        exact hw.riz S hr hlk (rfl) d_Mod_instruction_753 (Q, pk, xx, rd, to) (by rw [ho]; rfl) (by rw [ho]; exact ⟨by rw [rE_n (by decide)]; exact ag_r _, rfl, Or.inl rfl⟩) (by rw [ho, rE_n (by decide)]; first | done | rfl)
      · refine lv_aload_n hx hb d_Mod_instruction_739 rfl (lv_at hl 9 rfl) ?_
        refine lv_iconst (v := 2) hx hb d_Mod_instruction_740 (by decide) ?_
        refine lv_iload_n hx hb d_Mod_instruction_741 rfl (lv_at hl 8 rfl) ?_
        refine q_cg (q_runV (As := [.int (2 : Int32), .int x]) (rest := []) S (c_Mod_trap l D ti mo am Q w g rb rt rp ro ca va st tr 0 pk xx rd to (2 : Int32) x) (cw_v hts tb_5_202 k_Mod_trap rfl rfl ⟨by decide, by decide⟩) hw 0 rfl rfl rfl hl.1 rfl (Nat.le_of_ble_eq_true rfl) d_Mod_instruction_742 ⟨Nat.zero_le _, Nat.zero_le _⟩) hw (fun _ hD => RMW_D hD) (fun z9 H locs hp9 hw => ?_)
        refine W.eq (g2 := F0 m9 745 ls [.int (jb false)]) rfl ?_
        have hw : Lv _ _ _ _ _ (RMW mo am ti (kTR Q) w g rb rt rp ro (2 : Int32) x st (tr + 1) 0 (kHa x Q) pk xx rd (rTo (kTR Q 32))) _ _ _ := hw
        refine lv_if_eq hx hb d_Mod_instruction_745 rfl (fun _ => ?_) (fun h => absurd h (by decide))
        refine lv_iconst (v := 0) hx hb d_Mod_instruction_752 (by decide) ?_
        have ho : kX fv ca va Q w g x = ((2 : Int32), x, Q, ca, va, w, g) := by rw [kX_15 hc71_15, if_neg h736]
        exact hw.riz S hr hlk (rfl) d_Mod_instruction_753 ((kTR Q), pk, xx, rd, (rTo (kTR Q 32))) (by rw [ho]; rfl) (by rw [ho]; exact ⟨by rw [rE_t (by decide)]; exact fun k _ => rfl, rfl, Or.inr (Or.inr (show ¬ (2 : Int32) < 0 by decide))⟩) (by rw [ho, rE_t (by decide)]; first | done | rfl)
    by_cases hc71_19 : (nI (nOp x)) = (19 : Int32)
    · refine lv_lookup (off := 503) (tgt := 574) hx hb d_Mod_instruction_71 (by decide) (by rw [hc71_19] <;> rfl) rfl ?_
      refine lv_iload_n hx hb d_Mod_instruction_574 rfl (lv_at hl 8 rfl) ?_
      refine lv_bipush (v := 20) hx hb d_Mod_instruction_575 (by decide) ?_
      refine lv_ishr hx hb d_Mod_instruction_577 ?_
      refine q_topi (z := (iIm x)) ((im_i hc71_19 (by decide) (by decide) (by decide) (by decide) (by decide)).symm) ?_
      refine lv_istore (lv' := [(10, .int (iIm x)), (9, .int ((Q 32).2.1)), (8, .int ((Q (nR2 x)).2.1)), (7, .int ((Q (nR1 x)).2.1)), (6, .int (nI (nNb x))), (5, .int (nI (nR2 x))), (4, .int (nI (nR1 x))), (3, .int (nI (nFn x))), (2, .int (nI (nRd x))), (1, .int x), (0, .ref mo)]) hx hb d_Mod_instruction_578 hl (by decide) rfl (fun ls hl => ?_)
      refine q_joinG (Z := Unit) (pcJ := 614) (st := []) (nL := 11) (fun _ => [(10, .int (iIm x)), (9, .int ((Q 32).2.1)), (8, .int ((Q (nR2 x)).2.1)), (7, .int ((Q (nR1 x)).2.1)), (6, .int (nI (nNb x))), (5, .int (nI (nR2 x))), (4, .int (nI (nR1 x))), (3, .int (nI (nFn x))), (2, .int (nI (nRd x))), (1, .int x), (0, .ref mo)]) (fun z => (RMW mo am ti Q w g rb rt rp ro ca va st tr 0 false pk xx rd to)) (fun z => oiG x) hw (fun z H locs ls hI614 hw hl => ?_) (fun J614 => ?_)
      · obtain ⟨d0, rfl⟩ : ∃ y, y = z := ⟨_, rfl⟩
        have hoi : oiG x := hI614
        have hw : Lv _ _ _ _ _ (RMW mo am ti Q w g rb rt rp ro ca va st tr 0 false pk xx rd to) _ _ _ := hw
        have hl : lv_has ls 11 [(10, .int (iIm x)), (9, .int ((Q 32).2.1)), (8, .int ((Q (nR2 x)).2.1)), (7, .int ((Q (nR1 x)).2.1)), (6, .int (nI (nNb x))), (5, .int (nI (nR2 x))), (4, .int (nI (nR1 x))), (3, .int (nI (nFn x))), (2, .int (nI (nRd x))), (1, .int x), (0, .ref mo)] := hl
        refine lv_aload_n hx hb d_Mod_instruction_614 rfl (lv_at hl 10 rfl) ?_
        refine lv_iload_n hx hb d_Mod_instruction_615 rfl (lv_at hl 8 rfl) ?_
        refine lv_iload_n hx hb d_Mod_instruction_616 rfl (lv_at hl 7 rfl) ?_
        refine lv_iload hx hb d_Mod_instruction_617 (lv_at hl 3 rfl) ?_
        refine q_join (pcJ := 636) (st := [.int (oiB x), .int ((Q (nR1 x)).2.1), .int (nI (nFn x)), .int (nI (nRd x)), .ref mo]) (lv' := [(10, .int (iIm x)), (9, .int ((Q 32).2.1)), (8, .int ((Q (nR2 x)).2.1)), (7, .int ((Q (nR1 x)).2.1)), (6, .int (nI (nNb x))), (5, .int (nI (nR2 x))), (4, .int (nI (nR1 x))), (3, .int (nI (nFn x))), (2, .int (nI (nRd x))), (1, .int x), (0, .ref mo)]) (nL := 11) (fun ls hl => ?_) (fun J636 => ?_)
        · refine q_join (pcJ := 653) (st := [.int (jb (iOth x)), .int (oiB x), .int ((Q (nR1 x)).2.1), .int (nI (nFn x)), .int (nI (nRd x)), .ref mo]) (lv' := [(10, .int (iIm x)), (9, .int ((Q 32).2.1)), (8, .int ((Q (nR2 x)).2.1)), (7, .int ((Q (nR1 x)).2.1)), (6, .int (nI (nNb x))), (5, .int (nI (nR2 x))), (4, .int (nI (nR1 x))), (3, .int (nI (nFn x))), (2, .int (nI (nRd x))), (1, .int x), (0, .ref mo)]) (nL := 11) (fun ls hl => ?_) (fun J653 => ?_)
          · refine q_cr (q_runS (As := [.int (nI (nFn x)), .int ((Q (nR1 x)).2.1), .int (oiB x), .int (jb (iOth x))]) (rest := [.int (nI (nRd x)), .ref mo]) S ((c_Mod_operated l D (ty4 ti) (nFn x) ((Q (nR1 x)).2.1) (oiB x) (iOth x)).nil _) (cw_s hts tb_6_15 k_Mod_operated rfl rfl ⟨by decide, by decide⟩) hw rfl hl.1 rfl (Nat.le_of_ble_eq_true rfl) d_Mod_instruction_653 ⟨Nat.zero_le _, Nat.zero_le _⟩) ?_
            refine W.eq (g2 := F0 m9 656 ls [.int (rOp (nI (nFn x)) ((Q (nR1 x)).2.1) (oiB x) (iOth x)), .int (nI (nRd x)), .ref mo]) rfl ?_
            refine q_topi (z := (oFn (nI (nFn x)) (iOth x) (Q (nR1 x)).2.1 (iIm x))) (oi_e (im_i hc71_19 (by decide) (by decide) (by decide) (by decide) (by decide))) ?_
            refine q_cg (q_runV (As := [.int (nI (nRd x)), .int (oFn (nI (nFn x)) (iOth x) (Q (nR1 x)).2.1 (iIm x))]) (rest := []) S (c_Mod_number l D ti mo am Q w g rb rt rp ro ca va st tr 0 false pk xx rd to (nRd x) (by first | decide | omega) (oFn (nI (nFn x)) (iOth x) (Q (nR1 x)).2.1 (iIm x))) (cw_v hts tb_5_214 k_Mod_number rfl rfl ⟨by decide, by decide⟩) hw 0 rfl rfl rfl hl.1 rfl (Nat.le_of_ble_eq_true rfl) d_Mod_instruction_656 ⟨Nat.zero_le _, Nat.zero_le _⟩) hw (fun _ hD => RMW_D hD) (fun z9 H locs hp9 hw => ?_)
            refine W.eq (g2 := F0 m9 659 ls []) rfl ?_
            have hw : Lv _ _ _ _ _ (RMW mo am ti (rSet Q (nRd x) (false, (oFn (nI (nFn x)) (iOth x) (Q (nR1 x)).2.1 (iIm x)), 1000194)) w g rb rt rp ro ca va st tr 0 false pk xx rd to) _ _ _ := hw
            refine lv_iconst (v := 1) hx hb d_Mod_instruction_659 (by decide) ?_
            have ho : kX fv ca va Q w g x = ((-1 : Int32), fv, nR Q (nRd x) (oFn (nI (nFn x)) (iOth x) (Q (nR1 x)).2.1 (iIm x)), ca, va, w, g) := by rw [kX_19 hc71_19, xOi_g hoi]; first | done | rfl
            exact hw.riz S hr hlk (rfl) d_Mod_instruction_660 ((rSet Q (nRd x) (false, (oFn (nI (nFn x)) (iOth x) (Q (nR1 x)).2.1 (iIm x)), 1000194)), pk, xx, rd, to) (by rw [ho]; rfl) (by rw [ho]; exact ⟨by rw [rE_n (by decide)]; exact ag_nR _ _ _, rS0 _ _ _, Or.inl rfl⟩) (by rw [ho, rE_n (by decide)]; first | done | rfl)
          · refine lv_iload_n hx hb d_Mod_instruction_636 rfl (lv_at hl 7 rfl) ?_
            refine lv_iconst (v := 5) hx hb d_Mod_instruction_637 (by decide) ?_
            refine lv_icmp_ne hx hb d_Mod_instruction_638 rfl (fun h638 => ?_) (fun h638 => ?_)
            · refine lv_iconst (v := 0) hx hb d_Mod_instruction_652 (by decide) ?_
              refine q_topi (z := (jb (iOth x))) (by rw [iOth_f h638]; rfl) ?_
              exact J653 _ (lv_sub (l' := [(10, .int (iIm x)), (9, .int ((Q 32).2.1)), (8, .int ((Q (nR2 x)).2.1)), (7, .int ((Q (nR1 x)).2.1)), (6, .int (nI (nNb x))), (5, .int (nI (nR2 x))), (4, .int (nI (nR1 x))), (3, .int (nI (nFn x))), (2, .int (nI (nRd x))), (1, .int x), (0, .ref mo)]) hl [0, 1, 2, 3, 4, 5, 6, 7, 8, 9, 10] rfl)
            · refine lv_iload hx hb d_Mod_instruction_641 (lv_at hl 4 rfl) ?_
              refine lv_bipush (v := 32) hx hb d_Mod_instruction_643 (by decide) ?_
              refine lv_icmp_ne hx hb d_Mod_instruction_645 rfl (fun h645 => ?_) (fun h645 => ?_)
              · refine lv_iconst (v := 0) hx hb d_Mod_instruction_652 (by decide) ?_
                refine q_topi (z := (jb (iOth x))) (by rw [iOth_n h645]; rfl) ?_
                exact J653 _ (lv_sub (l' := [(10, .int (iIm x)), (9, .int ((Q 32).2.1)), (8, .int ((Q (nR2 x)).2.1)), (7, .int ((Q (nR1 x)).2.1)), (6, .int (nI (nNb x))), (5, .int (nI (nR2 x))), (4, .int (nI (nR1 x))), (3, .int (nI (nFn x))), (2, .int (nI (nRd x))), (1, .int x), (0, .ref mo)]) hl [0, 1, 2, 3, 4, 5, 6, 7, 8, 9, 10] rfl)
              · refine lv_iconst (v := 1) hx hb d_Mod_instruction_648 (by decide) ?_
                refine lv_goto hx hb d_Mod_instruction_649 rfl ?_
                refine q_topi (z := (jb (iOth x))) (by rw [iOth_t h645 h638]; rfl) ?_
                exact J653 _ (lv_sub (l' := [(10, .int (iIm x)), (9, .int ((Q 32).2.1)), (8, .int ((Q (nR2 x)).2.1)), (7, .int ((Q (nR1 x)).2.1)), (6, .int (nI (nNb x))), (5, .int (nI (nR2 x))), (4, .int (nI (nR1 x))), (3, .int (nI (nFn x))), (2, .int (nI (nRd x))), (1, .int x), (0, .ref mo)]) hl [0, 1, 2, 3, 4, 5, 6, 7, 8, 9, 10] rfl)
        · refine lv_iload_n hx hb d_Mod_instruction_619 rfl (lv_at hl 7 rfl) ?_
          refine lv_iconst (v := 1) hx hb d_Mod_instruction_620 (by decide) ?_
          refine lv_icmp_eq hx hb d_Mod_instruction_621 rfl (fun h621 => ?_) (fun h621 => ?_)
          · refine lv_iload hx hb d_Mod_instruction_629 (lv_at hl 5 rfl) ?_
            refine lv_goto hx hb d_Mod_instruction_631 rfl ?_
            refine q_topi (z := (oiB x)) (by unfold oiB; rw [if_pos (iSh_1 h621)]) ?_
            exact J636 _ (lv_sub (l' := [(10, .int (iIm x)), (9, .int ((Q 32).2.1)), (8, .int ((Q (nR2 x)).2.1)), (7, .int ((Q (nR1 x)).2.1)), (6, .int (nI (nNb x))), (5, .int (nI (nR2 x))), (4, .int (nI (nR1 x))), (3, .int (nI (nFn x))), (2, .int (nI (nRd x))), (1, .int x), (0, .ref mo)]) hl [0, 1, 2, 3, 4, 5, 6, 7, 8, 9, 10] rfl)
          · refine lv_iload_n hx hb d_Mod_instruction_624 rfl (lv_at hl 7 rfl) ?_
            refine lv_iconst (v := 5) hx hb d_Mod_instruction_625 (by decide) ?_
            refine lv_icmp_ne hx hb d_Mod_instruction_626 rfl (fun h626 => ?_) (fun h626 => ?_)
            · refine lv_iload hx hb d_Mod_instruction_634 (lv_at hl 0 rfl) ?_
              refine q_topi (z := (oiB x)) (by unfold oiB; rw [if_neg (fne (iSh_n h621 h626))]) ?_
              exact J636 _ (lv_sub (l' := [(10, .int (iIm x)), (9, .int ((Q 32).2.1)), (8, .int ((Q (nR2 x)).2.1)), (7, .int ((Q (nR1 x)).2.1)), (6, .int (nI (nNb x))), (5, .int (nI (nR2 x))), (4, .int (nI (nR1 x))), (3, .int (nI (nFn x))), (2, .int (nI (nRd x))), (1, .int x), (0, .ref mo)]) hl [0, 1, 2, 3, 4, 5, 6, 7, 8, 9, 10] rfl)
            · refine lv_iload hx hb d_Mod_instruction_629 (lv_at hl 5 rfl) ?_
              refine lv_goto hx hb d_Mod_instruction_631 rfl ?_
              refine q_topi (z := (oiB x)) (by unfold oiB; rw [if_pos (iSh_5 h626)]) ?_
              exact J636 _ (lv_sub (l' := [(10, .int (iIm x)), (9, .int ((Q 32).2.1)), (8, .int ((Q (nR2 x)).2.1)), (7, .int ((Q (nR1 x)).2.1)), (6, .int (nI (nNb x))), (5, .int (nI (nR2 x))), (4, .int (nI (nR1 x))), (3, .int (nI (nFn x))), (2, .int (nI (nRd x))), (1, .int x), (0, .ref mo)]) hl [0, 1, 2, 3, 4, 5, 6, 7, 8, 9, 10] rfl)
      · refine lv_iload_n hx hb d_Mod_instruction_580 rfl (lv_at hl 7 rfl) ?_
        refine lv_iconst (v := 1) hx hb d_Mod_instruction_581 (by decide) ?_
        refine lv_icmp_ne hx hb d_Mod_instruction_582 rfl (fun h582 => ?_) (fun h582 => ?_)
        · refine lv_iload_n hx hb d_Mod_instruction_590 rfl (lv_at hl 7 rfl) ?_
          refine lv_iconst (v := 5) hx hb d_Mod_instruction_591 (by decide) ?_
          refine lv_icmp_ne hx hb d_Mod_instruction_592 rfl (fun h592 => ?_) (fun h592 => ?_)
          · exact J614 (d0) _ _ _ (Or.inl (iSh_n h582 h592)) hw (lv_sub (l' := [(10, .int (iIm x)), (9, .int ((Q 32).2.1)), (8, .int ((Q (nR2 x)).2.1)), (7, .int ((Q (nR1 x)).2.1)), (6, .int (nI (nNb x))), (5, .int (nI (nR2 x))), (4, .int (nI (nR1 x))), (3, .int (nI (nFn x))), (2, .int (nI (nRd x))), (1, .int x), (0, .ref mo)]) hl [0, 1, 2, 3, 4, 5, 6, 7, 8, 9, 10] rfl)
          · refine lv_iload hx hb d_Mod_instruction_595 (lv_at hl 4 rfl) ?_
            refine lv_if_eq hx hb d_Mod_instruction_597 rfl (fun h597 => ?_) (fun h597 => ?_)
            · exact J614 (d0) _ _ _ (Or.inr (Or.inl h597)) hw (lv_sub (l' := [(10, .int (iIm x)), (9, .int ((Q 32).2.1)), (8, .int ((Q (nR2 x)).2.1)), (7, .int ((Q (nR1 x)).2.1)), (6, .int (nI (nNb x))), (5, .int (nI (nR2 x))), (4, .int (nI (nR1 x))), (3, .int (nI (nFn x))), (2, .int (nI (nRd x))), (1, .int x), (0, .ref mo)]) hl [0, 1, 2, 3, 4, 5, 6, 7, 8, 9, 10] rfl)
            · refine lv_iload hx hb d_Mod_instruction_600 (lv_at hl 4 rfl) ?_
              refine lv_bipush (v := 32) hx hb d_Mod_instruction_602 (by decide) ?_
              refine lv_icmp_eq hx hb d_Mod_instruction_604 rfl (fun h604 => ?_) (fun h604 => ?_)
              · exact J614 (d0) _ _ _ (Or.inr (Or.inr (iOth_t h604 h592))) hw (lv_sub (l' := [(10, .int (iIm x)), (9, .int ((Q 32).2.1)), (8, .int ((Q (nR2 x)).2.1)), (7, .int ((Q (nR1 x)).2.1)), (6, .int (nI (nNb x))), (5, .int (nI (nR2 x))), (4, .int (nI (nR1 x))), (3, .int (nI (nFn x))), (2, .int (nI (nRd x))), (1, .int x), (0, .ref mo)]) hl [0, 1, 2, 3, 4, 5, 6, 7, 8, 9, 10] rfl)
              · refine lv_aload_n hx hb d_Mod_instruction_607 rfl (lv_at hl 10 rfl) ?_
                refine lv_iconst (v := 2) hx hb d_Mod_instruction_608 (by decide) ?_
                refine lv_iload_n hx hb d_Mod_instruction_609 rfl (lv_at hl 9 rfl) ?_
                refine q_cg (q_runV (As := [.int (2 : Int32), .int x]) (rest := []) S (c_Mod_trap l D ti mo am Q w g rb rt rp ro ca va st tr 0 pk xx rd to (2 : Int32) x) (cw_v hts tb_5_202 k_Mod_trap rfl rfl ⟨by decide, by decide⟩) hw 0 rfl rfl rfl hl.1 rfl (Nat.le_of_ble_eq_true rfl) d_Mod_instruction_610 ⟨Nat.zero_le _, Nat.zero_le _⟩) hw (fun _ hD => RMW_D hD) (fun z9 H locs hp9 hw => ?_)
                refine W.eq (g2 := F0 m9 613 ls [.int (jb false)]) rfl ?_
                have hw : Lv _ _ _ _ _ (RMW mo am ti (kTR Q) w g rb rt rp ro (2 : Int32) x st (tr + 1) 0 (kHa x Q) pk xx rd (rTo (kTR Q 32))) _ _ _ := hw
                have ho : kX fv ca va Q w g x = ((2 : Int32), x, Q, ca, va, w, g) := by rw [kX_19 hc71_19, xOi_t (oi_5 h592 h597 h604)]; first | done | rfl
                exact hw.riz S hr hlk (rfl) d_Mod_instruction_613 ((kTR Q), pk, xx, rd, (rTo (kTR Q 32))) (by rw [ho]; rfl) (by rw [ho]; exact ⟨by rw [rE_t (by decide)]; exact fun k _ => rfl, rfl, Or.inr (Or.inr (show ¬ (2 : Int32) < 0 by decide))⟩) (by rw [ho, rE_t (by decide)]; first | done | rfl)
        · refine lv_iload hx hb d_Mod_instruction_585 (lv_at hl 4 rfl) ?_
          refine lv_if_ne hx hb d_Mod_instruction_587 rfl (fun h587 => ?_) (fun h587 => ?_)
          · refine lv_aload_n hx hb d_Mod_instruction_607 rfl (lv_at hl 10 rfl) ?_
            refine lv_iconst (v := 2) hx hb d_Mod_instruction_608 (by decide) ?_
            refine lv_iload_n hx hb d_Mod_instruction_609 rfl (lv_at hl 9 rfl) ?_
            refine q_cg (q_runV (As := [.int (2 : Int32), .int x]) (rest := []) S (c_Mod_trap l D ti mo am Q w g rb rt rp ro ca va st tr 0 pk xx rd to (2 : Int32) x) (cw_v hts tb_5_202 k_Mod_trap rfl rfl ⟨by decide, by decide⟩) hw 0 rfl rfl rfl hl.1 rfl (Nat.le_of_ble_eq_true rfl) d_Mod_instruction_610 ⟨Nat.zero_le _, Nat.zero_le _⟩) hw (fun _ hD => RMW_D hD) (fun z9 H locs hp9 hw => ?_)
            refine W.eq (g2 := F0 m9 613 ls [.int (jb false)]) rfl ?_
            have hw : Lv _ _ _ _ _ (RMW mo am ti (kTR Q) w g rb rt rp ro (2 : Int32) x st (tr + 1) 0 (kHa x Q) pk xx rd (rTo (kTR Q 32))) _ _ _ := hw
            have ho : kX fv ca va Q w g x = ((2 : Int32), x, Q, ca, va, w, g) := by rw [kX_19 hc71_19, xOi_t (oi_1 h582 h587)]; first | done | rfl
            exact hw.riz S hr hlk (rfl) d_Mod_instruction_613 ((kTR Q), pk, xx, rd, (rTo (kTR Q 32))) (by rw [ho]; rfl) (by rw [ho]; exact ⟨by rw [rE_t (by decide)]; exact fun k _ => rfl, rfl, Or.inr (Or.inr (show ¬ (2 : Int32) < 0 by decide))⟩) (by rw [ho, rE_t (by decide)]; first | done | rfl)
          · refine lv_iload_n hx hb d_Mod_instruction_590 rfl (lv_at hl 7 rfl) ?_
            refine lv_iconst (v := 5) hx hb d_Mod_instruction_591 (by decide) ?_
            refine lv_icmp_ne hx hb d_Mod_instruction_592 rfl (fun h592 => ?_) (fun h592 => ?_)
            · exact J614 (d0) _ _ _ (Or.inr (Or.inl h587)) hw (lv_sub (l' := [(10, .int (iIm x)), (9, .int ((Q 32).2.1)), (8, .int ((Q (nR2 x)).2.1)), (7, .int ((Q (nR1 x)).2.1)), (6, .int (nI (nNb x))), (5, .int (nI (nR2 x))), (4, .int (nI (nR1 x))), (3, .int (nI (nFn x))), (2, .int (nI (nRd x))), (1, .int x), (0, .ref mo)]) hl [0, 1, 2, 3, 4, 5, 6, 7, 8, 9, 10] rfl)
            · refine lv_iload hx hb d_Mod_instruction_595 (lv_at hl 4 rfl) ?_
              refine lv_if_eq hx hb d_Mod_instruction_597 rfl (fun h597 => ?_) (fun h597 => ?_)
              · exact J614 (d0) _ _ _ (Or.inr (Or.inl h597)) hw (lv_sub (l' := [(10, .int (iIm x)), (9, .int ((Q 32).2.1)), (8, .int ((Q (nR2 x)).2.1)), (7, .int ((Q (nR1 x)).2.1)), (6, .int (nI (nNb x))), (5, .int (nI (nR2 x))), (4, .int (nI (nR1 x))), (3, .int (nI (nFn x))), (2, .int (nI (nRd x))), (1, .int x), (0, .ref mo)]) hl [0, 1, 2, 3, 4, 5, 6, 7, 8, 9, 10] rfl)
              · refine lv_iload hx hb d_Mod_instruction_600 (lv_at hl 4 rfl) ?_
                refine lv_bipush (v := 32) hx hb d_Mod_instruction_602 (by decide) ?_
                refine lv_icmp_eq hx hb d_Mod_instruction_604 rfl (fun h604 => ?_) (fun h604 => ?_)
                · exact J614 (d0) _ _ _ (Or.inr (Or.inr (iOth_t h604 h592))) hw (lv_sub (l' := [(10, .int (iIm x)), (9, .int ((Q 32).2.1)), (8, .int ((Q (nR2 x)).2.1)), (7, .int ((Q (nR1 x)).2.1)), (6, .int (nI (nNb x))), (5, .int (nI (nR2 x))), (4, .int (nI (nR1 x))), (3, .int (nI (nFn x))), (2, .int (nI (nRd x))), (1, .int x), (0, .ref mo)]) hl [0, 1, 2, 3, 4, 5, 6, 7, 8, 9, 10] rfl)
                · refine lv_aload_n hx hb d_Mod_instruction_607 rfl (lv_at hl 10 rfl) ?_
                  refine lv_iconst (v := 2) hx hb d_Mod_instruction_608 (by decide) ?_
                  refine lv_iload_n hx hb d_Mod_instruction_609 rfl (lv_at hl 9 rfl) ?_
                  refine q_cg (q_runV (As := [.int (2 : Int32), .int x]) (rest := []) S (c_Mod_trap l D ti mo am Q w g rb rt rp ro ca va st tr 0 pk xx rd to (2 : Int32) x) (cw_v hts tb_5_202 k_Mod_trap rfl rfl ⟨by decide, by decide⟩) hw 0 rfl rfl rfl hl.1 rfl (Nat.le_of_ble_eq_true rfl) d_Mod_instruction_610 ⟨Nat.zero_le _, Nat.zero_le _⟩) hw (fun _ hD => RMW_D hD) (fun z9 H locs hp9 hw => ?_)
                  refine W.eq (g2 := F0 m9 613 ls [.int (jb false)]) rfl ?_
                  have hw : Lv _ _ _ _ _ (RMW mo am ti (kTR Q) w g rb rt rp ro (2 : Int32) x st (tr + 1) 0 (kHa x Q) pk xx rd (rTo (kTR Q 32))) _ _ _ := hw
                  have ho : kX fv ca va Q w g x = ((2 : Int32), x, Q, ca, va, w, g) := by rw [kX_19 hc71_19, xOi_t (oi_5 h592 h597 h604)]; first | done | rfl
                  exact hw.riz S hr hlk (rfl) d_Mod_instruction_613 ((kTR Q), pk, xx, rd, (rTo (kTR Q 32))) (by rw [ho]; rfl) (by rw [ho]; exact ⟨by rw [rE_t (by decide)]; exact fun k _ => rfl, rfl, Or.inr (Or.inr (show ¬ (2 : Int32) < 0 by decide))⟩) (by rw [ho, rE_t (by decide)]; first | done | rfl)
    by_cases hc71_23 : (nI (nOp x)) = (23 : Int32)
    · refine lv_lookup (off := 117) (tgt := 188) hx hb d_Mod_instruction_71 (by decide) (by rw [hc71_23] <;> rfl) rfl ?_
      refine lv_aload_n hx hb d_Mod_instruction_188 rfl (lv_at hl 9 rfl) ?_
      refine lv_bipush (v := 32) hx hb d_Mod_instruction_189 (by decide) ?_
      refine lv_iload hx hb d_Mod_instruction_191 (lv_at hl 0 rfl) ?_
      refine lv_iload_n hx hb d_Mod_instruction_193 rfl (lv_at hl 8 rfl) ?_
      refine lv_sipush (v := -4096) hx hb d_Mod_instruction_194 (by decide) ?_
      refine lv_iand hx hb d_Mod_instruction_197 ?_
      refine lv_iadd hx hb d_Mod_instruction_198 ?_
      refine lv_bipush (v := 37) hx hb d_Mod_instruction_199 (by decide) ?_
      refine q_cg (q_runV (As := [.int (32 : Int32), .int (((Q 32).2.1) + (x &&& (-4096 : Int32))), .int (37 : Int32)]) (rest := []) S (c_Mod_moved l D ti mo am Q w g rb rt rp ro ca va st tr 0 false pk xx rd to 32 (by first | decide | omega) (((Q 32).2.1) + (x &&& (-4096 : Int32))) 37 (by first | decide | omega)) (cw_v hts tb_5_218 k_Mod_moved rfl rfl ⟨by decide, by decide⟩) hw 0 rfl rfl rfl hl.1 rfl (Nat.le_of_ble_eq_true rfl) d_Mod_instruction_201 ⟨Nat.zero_le _, Nat.zero_le _⟩) hw (fun _ hD => RMW_D hD) (fun z9 H locs hp9 hw => ?_)
      refine W.eq (g2 := F0 m9 204 ls []) rfl ?_
      have hw : Lv _ _ _ _ _ (RMW mo am ti (rSet Q 37 (cMvC (Q 32) (((Q 32).2.1) + (x &&& (-4096 : Int32))))) w g rb rt rp ro ca va st tr 0 false pk xx rd to) _ _ _ := hw
      refine lv_aload_n hx hb d_Mod_instruction_204 rfl (lv_at hl 9 rfl) ?_
      refine lv_bipush (v := 37) hx hb d_Mod_instruction_205 (by decide) ?_
      refine lv_iload_n hx hb d_Mod_instruction_207 rfl (lv_at hl 7 rfl) ?_
      refine q_cg (q_runV (As := [.int (37 : Int32), .int (nI (nRd x))]) (rest := []) S (c_Mod_copy l D ti mo am (rSet Q 37 (cMvC (Q 32) (((Q 32).2.1) + (x &&& (-4096 : Int32))))) w g rb rt rp ro ca va st tr 0 false pk xx rd to 37 (nRd x) (by first | decide | omega) (by first | decide | omega)) (cw_v hts tb_5_206 k_Mod_copy rfl rfl ⟨by decide, by decide⟩) hw 0 rfl rfl rfl hl.1 rfl (Nat.le_of_ble_eq_true rfl) d_Mod_instruction_208 ⟨Nat.zero_le _, Nat.zero_le _⟩) hw (fun _ hD => RMW_D hD) (fun z9 H locs hp9 hw => ?_)
      refine W.eq (g2 := F0 m9 211 ls []) rfl ?_
      have hw : Lv _ _ _ _ _ (RMW mo am ti (rSet (rSet Q 37 (cMvC (Q 32) (((Q 32).2.1) + (x &&& (-4096 : Int32))))) (nRd x) ((rSet Q 37 (cMvC (Q 32) (((Q 32).2.1) + (x &&& (-4096 : Int32))))) 37)) w g rb rt rp ro ca va st tr 0 false pk xx rd to) _ _ _ := hw
      refine lv_iconst (v := 1) hx hb d_Mod_instruction_211 (by decide) ?_
      have ho : kX fv ca va Q w g x = ((-1 : Int32), fv, aR (va_up Q 37 (cMvC (Q 32) ((Q 32).2.1 + (x &&& (-4096))))) (nRd x), ca, va, w, g) := kX_23 hc71_23
      exact hw.riz S hr hlk (rfl) d_Mod_instruction_212 ((rSet (rSet Q 37 (cMvC (Q 32) (((Q 32).2.1) + (x &&& (-4096 : Int32))))) (nRd x) ((rSet Q 37 (cMvC (Q 32) (((Q 32).2.1) + (x &&& (-4096 : Int32))))) 37)), pk, xx, rd, to) (by rw [ho]; rfl) (by rw [ho]; exact ⟨by rw [rE_n (by decide)]; exact ag_u _ _ _, (rS0 _ _ _).trans (rS0 _ _ _), Or.inl rfl⟩) (by rw [ho, rE_n (by decide)]; first | done | rfl)
    by_cases hc71_35 : (nI (nOp x)) = (35 : Int32)
    · refine lv_lookup (off := 468) (tgt := 539) hx hb d_Mod_instruction_71 (by decide) (by rw [hc71_35] <;> rfl) rfl ?_
      refine lv_iload_n hx hb d_Mod_instruction_539 rfl (lv_at hl 6 rfl) ?_
      refine lv_iconst (v := 3) hx hb d_Mod_instruction_540 (by decide) ?_
      refine lv_icmp_le hx hb d_Mod_instruction_541 rfl (fun h541 => ?_) (fun h541 => ?_)
      · refine lv_aload_n hx hb d_Mod_instruction_553 rfl (lv_at hl 9 rfl) ?_
        refine lv_iload_n hx hb d_Mod_instruction_554 rfl (lv_at hl 6 rfl) ?_
        refine lv_iload hx hb d_Mod_instruction_555 (lv_at hl 5 rfl) ?_
        refine lv_iload hx hb d_Mod_instruction_557 (lv_at hl 2 rfl) ?_
        refine lv_iload_n hx hb d_Mod_instruction_559 rfl (lv_at hl 8 rfl) ?_
        refine lv_bipush (v := 25) hx hb d_Mod_instruction_560 (by decide) ?_
        refine lv_ishr hx hb d_Mod_instruction_562 ?_
        refine lv_iconst (v := 5) hx hb d_Mod_instruction_563 (by decide) ?_
        refine lv_ishl hx hb d_Mod_instruction_564 ?_
        refine lv_iload_n hx hb d_Mod_instruction_565 rfl (lv_at hl 7 rfl) ?_
        refine lv_ior hx hb d_Mod_instruction_566 ?_
        refine q_topi (z := (iIm x)) ((im_35 hc71_35).symm) ?_
        refine lv_iadd hx hb d_Mod_instruction_567 ?_
        refine q_topi (z := (ldX Q x)) (rfl) ?_
        refine lv_iload hx hb d_Mod_instruction_568 (lv_at hl 4 rfl) ?_
        refine q_cg (q_runV (As := [.int (nI (nFn x)), .int (nI (nR1 x)), .int (ldX Q x), .int (nI (nR2 x))]) (rest := []) S (c_Mod_store l D ti mo am Q w g rb rt rp ro ca va st tr 0 pk xx rd to fv x (by rw [h0]) h541) (cw_v hts tb_6_11 k_Mod_store rfl rfl ⟨by decide, by decide⟩) hw 0 rfl rfl rfl hl.1 rfl (Nat.le_of_ble_eq_true rfl) d_Mod_instruction_570 ⟨Nat.zero_le _, Nat.zero_le _⟩) hw (fun _ hD => RMW_D hD) (fun z98 H locs hp99 hw => ?_)
        refine W.eq (g2 := F0 m9 573 ls [.int (jb (goB (xSo fv ca va Q w g x).1))]) rfl ?_
        have hw : Lv _ _ _ _ _ (RMW mo am ti z98.1 ((rE (xSo fv ca va Q w g x) tr).w) ((rE (xSo fv ca va Q w g x) tr).g) rb rt rp ro ((rE (xSo fv ca va Q w g x) tr).ca) ((rE (xSo fv ca va Q w g x) tr).va) st ((rE (xSo fv ca va Q w g x) tr).tr) 0 ((rE (xSo fv ca va Q w g x) tr).ha) z98.2.1 z98.2.2.1 z98.2.2.2.1 z98.2.2.2.2) _ _ _ := hw
        have ho : kX fv ca va Q w g x = xSo fv ca va Q w g x := kX_35 hc71_35
        exact hw.riz S hr hlk (jb_nar _) d_Mod_instruction_573 z98 (by rw [ho]) (by rw [ho]; exact hp99) (by rw [ho])
      · refine lv_aload_n hx hb d_Mod_instruction_544 rfl (lv_at hl 9 rfl) ?_
        refine lv_iconst (v := 2) hx hb d_Mod_instruction_545 (by decide) ?_
        refine lv_iload_n hx hb d_Mod_instruction_546 rfl (lv_at hl 8 rfl) ?_
        refine q_cg (q_runV (As := [.int (2 : Int32), .int x]) (rest := []) S (c_Mod_trap l D ti mo am Q w g rb rt rp ro ca va st tr 0 pk xx rd to (2 : Int32) x) (cw_v hts tb_5_202 k_Mod_trap rfl rfl ⟨by decide, by decide⟩) hw 0 rfl rfl rfl hl.1 rfl (Nat.le_of_ble_eq_true rfl) d_Mod_instruction_547 ⟨Nat.zero_le _, Nat.zero_le _⟩) hw (fun _ hD => RMW_D hD) (fun z9 H locs hp9 hw => ?_)
        refine W.eq (g2 := F0 m9 550 ls [.int (jb false)]) rfl ?_
        have hw : Lv _ _ _ _ _ (RMW mo am ti (kTR Q) w g rb rt rp ro (2 : Int32) x st (tr + 1) 0 (kHa x Q) pk xx rd (rTo (kTR Q 32))) _ _ _ := hw
        refine lv_goto hx hb d_Mod_instruction_550 rfl ?_
        have ho : kX fv ca va Q w g x = ((2 : Int32), x, Q, ca, va, w, g) := by rw [kX_35 hc71_35, xSo_t h541]; first | done | rfl
        exact hw.riz S hr hlk (rfl) d_Mod_instruction_573 ((kTR Q), pk, xx, rd, (rTo (kTR Q 32))) (by rw [ho]; rfl) (by rw [ho]; exact ⟨by rw [rE_t (by decide)]; exact fun k _ => rfl, rfl, Or.inr (Or.inr (show ¬ (2 : Int32) < 0 by decide))⟩) (by rw [ho, rE_t (by decide)]; first | done | rfl)
    by_cases hc71_51 : (nI (nOp x)) = (51 : Int32)
    · refine lv_lookup (off := 590) (tgt := 661) hx hb d_Mod_instruction_71 (by decide) (by rw [hc71_51] <;> rfl) rfl ?_
      refine q_joinG (Z := Unit) (pcJ := 689) (st := []) (nL := 11) (fun _ => [(9, .int ((Q 32).2.1)), (8, .int ((Q (nR2 x)).2.1)), (7, .int ((Q (nR1 x)).2.1)), (6, .int (nI (nNb x))), (5, .int (nI (nR2 x))), (4, .int (nI (nR1 x))), (3, .int (nI (nFn x))), (2, .int (nI (nRd x))), (1, .int x), (0, .ref mo)]) (fun z => (RMW mo am ti Q w g rb rt rp ro ca va st tr 0 false pk xx rd to)) (fun z => opG x) hw (fun z H locs ls hI689 hw hl => ?_) (fun J689 => ?_)
      · obtain ⟨d0, rfl⟩ : ∃ y, y = z := ⟨_, rfl⟩
        have hop : opG x := hI689
        have hw : Lv _ _ _ _ _ (RMW mo am ti Q w g rb rt rp ro ca va st tr 0 false pk xx rd to) _ _ _ := hw
        have hl : lv_has ls 11 [(9, .int ((Q 32).2.1)), (8, .int ((Q (nR2 x)).2.1)), (7, .int ((Q (nR1 x)).2.1)), (6, .int (nI (nNb x))), (5, .int (nI (nR2 x))), (4, .int (nI (nR1 x))), (3, .int (nI (nFn x))), (2, .int (nI (nRd x))), (1, .int x), (0, .ref mo)] := hl
        refine lv_aload_n hx hb d_Mod_instruction_689 rfl (lv_at hl 9 rfl) ?_
        refine lv_iload_n hx hb d_Mod_instruction_690 rfl (lv_at hl 7 rfl) ?_
        refine q_join (pcJ := 730) (st := [.int (oFn (nI (nFn x)) (oOth x) (Q (nR1 x)).2.1 (Q (nR2 x)).2.1), .int (nI (nRd x)), .ref mo]) (lv' := [(9, .int ((Q 32).2.1)), (8, .int ((Q (nR2 x)).2.1)), (7, .int ((Q (nR1 x)).2.1)), (6, .int (nI (nNb x))), (5, .int (nI (nR2 x))), (4, .int (nI (nR1 x))), (3, .int (nI (nFn x))), (2, .int (nI (nRd x))), (1, .int x), (0, .ref mo)]) (nL := 11) (fun ls hl => ?_) (fun J730 => ?_)
        · refine q_cg (q_runV (As := [.int (nI (nRd x)), .int (oFn (nI (nFn x)) (oOth x) (Q (nR1 x)).2.1 (Q (nR2 x)).2.1)]) (rest := []) S (c_Mod_number l D ti mo am Q w g rb rt rp ro ca va st tr 0 false pk xx rd to (nRd x) (by first | decide | omega) (oFn (nI (nFn x)) (oOth x) (Q (nR1 x)).2.1 (Q (nR2 x)).2.1)) (cw_v hts tb_5_214 k_Mod_number rfl rfl ⟨by decide, by decide⟩) hw 0 rfl rfl rfl hl.1 rfl (Nat.le_of_ble_eq_true rfl) d_Mod_instruction_730 ⟨Nat.zero_le _, Nat.zero_le _⟩) hw (fun _ hD => RMW_D hD) (fun z9 H locs hp9 hw => ?_)
          refine W.eq (g2 := F0 m9 733 ls []) rfl ?_
          have hw : Lv _ _ _ _ _ (RMW mo am ti (rSet Q (nRd x) (false, (oFn (nI (nFn x)) (oOth x) (Q (nR1 x)).2.1 (Q (nR2 x)).2.1), 1000194)) w g rb rt rp ro ca va st tr 0 false pk xx rd to) _ _ _ := hw
          refine lv_iconst (v := 1) hx hb d_Mod_instruction_733 (by decide) ?_
          have ho : kX fv ca va Q w g x = ((-1 : Int32), fv, nR Q (nRd x) (oFn (nI (nFn x)) (oOth x) (Q (nR1 x)).2.1 (Q (nR2 x)).2.1), ca, va, w, g) := by rw [kX_51 hc71_51, xOp_g hop]; first | done | rfl
          exact hw.riz S hr hlk (rfl) d_Mod_instruction_734 ((rSet Q (nRd x) (false, (oFn (nI (nFn x)) (oOth x) (Q (nR1 x)).2.1 (Q (nR2 x)).2.1), 1000194)), pk, xx, rd, to) (by rw [ho]; rfl) (by rw [ho]; exact ⟨by rw [rE_n (by decide)]; exact ag_nR _ _ _, rS0 _ _ _, Or.inl rfl⟩) (by rw [ho, rE_n (by decide)]; first | done | rfl)
        · refine lv_iload_n hx hb d_Mod_instruction_691 rfl (lv_at hl 6 rfl) ?_
          refine lv_if_ne hx hb d_Mod_instruction_692 rfl (fun h692 => ?_) (fun h692 => ?_)
          · refine lv_iload_n hx hb d_Mod_instruction_710 rfl (lv_at hl 6 rfl) ?_
            refine lv_iload hx hb d_Mod_instruction_711 (lv_at hl 2 rfl) ?_
            refine lv_iload hx hb d_Mod_instruction_713 (lv_at hl 1 rfl) ?_
            refine q_join (pcJ := 727) (st := [.int (jb (is32 x)), .int ((Q (nR2 x)).2.1), .int ((Q (nR1 x)).2.1), .int (nI (nFn x)), .int (nI (nRd x)), .ref mo]) (lv' := [(9, .int ((Q 32).2.1)), (8, .int ((Q (nR2 x)).2.1)), (7, .int ((Q (nR1 x)).2.1)), (6, .int (nI (nNb x))), (5, .int (nI (nR2 x))), (4, .int (nI (nR1 x))), (3, .int (nI (nFn x))), (2, .int (nI (nRd x))), (1, .int x), (0, .ref mo)]) (nL := 11) (fun ls hl => ?_) (fun J727 => ?_)
            · refine q_cr (q_runS (As := [.int (nI (nFn x)), .int ((Q (nR1 x)).2.1), .int ((Q (nR2 x)).2.1), .int (jb (is32 x))]) (rest := [.int (nI (nRd x)), .ref mo]) S ((c_Mod_operated l D (ty4 ti) (nFn x) ((Q (nR1 x)).2.1) ((Q (nR2 x)).2.1) (is32 x)).nil _) (cw_s hts tb_6_15 k_Mod_operated rfl rfl ⟨by decide, by decide⟩) hw rfl hl.1 rfl (Nat.le_of_ble_eq_true rfl) d_Mod_instruction_727 ⟨Nat.zero_le _, Nat.zero_le _⟩) ?_
              refine W.eq (g2 := F0 m9 730 ls [.int (rOp (nI (nFn x)) ((Q (nR1 x)).2.1) ((Q (nR2 x)).2.1) (is32 x)), .int (nI (nRd x)), .ref mo]) rfl ?_
              refine q_topi (z := (oFn (nI (nFn x)) (oOth x) (Q (nR1 x)).2.1 (Q (nR2 x)).2.1)) (op_e hop (fun q => absurd q h692)) ?_
              exact J730 _ (lv_sub (l' := [(9, .int ((Q 32).2.1)), (8, .int ((Q (nR2 x)).2.1)), (7, .int ((Q (nR1 x)).2.1)), (6, .int (nI (nNb x))), (5, .int (nI (nR2 x))), (4, .int (nI (nR1 x))), (3, .int (nI (nFn x))), (2, .int (nI (nRd x))), (1, .int x), (0, .ref mo)]) hl [0, 1, 2, 3, 4, 5, 6, 7, 8, 9] rfl)
            · refine lv_iload hx hb d_Mod_instruction_715 (lv_at hl 3 rfl) ?_
              refine lv_bipush (v := 32) hx hb d_Mod_instruction_717 (by decide) ?_
              refine lv_icmp_ne hx hb d_Mod_instruction_719 rfl (fun h719 => ?_) (fun h719 => ?_)
              · refine lv_iconst (v := 0) hx hb d_Mod_instruction_726 (by decide) ?_
                refine q_topi (z := (jb (is32 x))) (by unfold is32; rw [if_neg h719]; rfl) ?_
                exact J727 _ (lv_sub (l' := [(9, .int ((Q 32).2.1)), (8, .int ((Q (nR2 x)).2.1)), (7, .int ((Q (nR1 x)).2.1)), (6, .int (nI (nNb x))), (5, .int (nI (nR2 x))), (4, .int (nI (nR1 x))), (3, .int (nI (nFn x))), (2, .int (nI (nRd x))), (1, .int x), (0, .ref mo)]) hl [0, 1, 2, 3, 4, 5, 6, 7, 8, 9] rfl)
              · refine lv_iconst (v := 1) hx hb d_Mod_instruction_722 (by decide) ?_
                refine lv_goto hx hb d_Mod_instruction_723 rfl ?_
                refine q_topi (z := (jb (is32 x))) (by unfold is32; rw [if_pos h719]; rfl) ?_
                exact J727 _ (lv_sub (l' := [(9, .int ((Q 32).2.1)), (8, .int ((Q (nR2 x)).2.1)), (7, .int ((Q (nR1 x)).2.1)), (6, .int (nI (nNb x))), (5, .int (nI (nR2 x))), (4, .int (nI (nR1 x))), (3, .int (nI (nFn x))), (2, .int (nI (nRd x))), (1, .int x), (0, .ref mo)]) hl [0, 1, 2, 3, 4, 5, 6, 7, 8, 9] rfl)
          · refine lv_iload hx hb d_Mod_instruction_695 (lv_at hl 3 rfl) ?_
            refine lv_bipush (v := 32) hx hb d_Mod_instruction_697 (by decide) ?_
            refine lv_icmp_ne hx hb d_Mod_instruction_699 rfl (fun h699 => ?_) (fun h699 => ?_)
            · refine lv_iload_n hx hb d_Mod_instruction_710 rfl (lv_at hl 6 rfl) ?_
              refine lv_iload hx hb d_Mod_instruction_711 (lv_at hl 2 rfl) ?_
              refine lv_iload hx hb d_Mod_instruction_713 (lv_at hl 1 rfl) ?_
              refine q_join (pcJ := 727) (st := [.int (jb (is32 x)), .int ((Q (nR2 x)).2.1), .int ((Q (nR1 x)).2.1), .int (nI (nFn x)), .int (nI (nRd x)), .ref mo]) (lv' := [(9, .int ((Q 32).2.1)), (8, .int ((Q (nR2 x)).2.1)), (7, .int ((Q (nR1 x)).2.1)), (6, .int (nI (nNb x))), (5, .int (nI (nR2 x))), (4, .int (nI (nR1 x))), (3, .int (nI (nFn x))), (2, .int (nI (nRd x))), (1, .int x), (0, .ref mo)]) (nL := 11) (fun ls hl => ?_) (fun J727 => ?_)
              · refine q_cr (q_runS (As := [.int (nI (nFn x)), .int ((Q (nR1 x)).2.1), .int ((Q (nR2 x)).2.1), .int (jb (is32 x))]) (rest := [.int (nI (nRd x)), .ref mo]) S ((c_Mod_operated l D (ty4 ti) (nFn x) ((Q (nR1 x)).2.1) ((Q (nR2 x)).2.1) (is32 x)).nil _) (cw_s hts tb_6_15 k_Mod_operated rfl rfl ⟨by decide, by decide⟩) hw rfl hl.1 rfl (Nat.le_of_ble_eq_true rfl) d_Mod_instruction_727 ⟨Nat.zero_le _, Nat.zero_le _⟩) ?_
                refine W.eq (g2 := F0 m9 730 ls [.int (rOp (nI (nFn x)) ((Q (nR1 x)).2.1) ((Q (nR2 x)).2.1) (is32 x)), .int (nI (nRd x)), .ref mo]) rfl ?_
                refine q_topi (z := (oFn (nI (nFn x)) (oOth x) (Q (nR1 x)).2.1 (Q (nR2 x)).2.1)) (op_e hop (fun _ => h699)) ?_
                exact J730 _ (lv_sub (l' := [(9, .int ((Q 32).2.1)), (8, .int ((Q (nR2 x)).2.1)), (7, .int ((Q (nR1 x)).2.1)), (6, .int (nI (nNb x))), (5, .int (nI (nR2 x))), (4, .int (nI (nR1 x))), (3, .int (nI (nFn x))), (2, .int (nI (nRd x))), (1, .int x), (0, .ref mo)]) hl [0, 1, 2, 3, 4, 5, 6, 7, 8, 9] rfl)
              · refine lv_iload hx hb d_Mod_instruction_715 (lv_at hl 3 rfl) ?_
                refine lv_bipush (v := 32) hx hb d_Mod_instruction_717 (by decide) ?_
                refine lv_icmp_ne hx hb d_Mod_instruction_719 rfl (fun h719 => ?_) (fun h719 => ?_)
                · refine lv_iconst (v := 0) hx hb d_Mod_instruction_726 (by decide) ?_
                  refine q_topi (z := (jb (is32 x))) (by unfold is32; rw [if_neg h719]; rfl) ?_
                  exact J727 _ (lv_sub (l' := [(9, .int ((Q 32).2.1)), (8, .int ((Q (nR2 x)).2.1)), (7, .int ((Q (nR1 x)).2.1)), (6, .int (nI (nNb x))), (5, .int (nI (nR2 x))), (4, .int (nI (nR1 x))), (3, .int (nI (nFn x))), (2, .int (nI (nRd x))), (1, .int x), (0, .ref mo)]) hl [0, 1, 2, 3, 4, 5, 6, 7, 8, 9] rfl)
                · refine lv_iconst (v := 1) hx hb d_Mod_instruction_722 (by decide) ?_
                  refine lv_goto hx hb d_Mod_instruction_723 rfl ?_
                  refine q_topi (z := (jb (is32 x))) (by unfold is32; rw [if_pos h719]; rfl) ?_
                  exact J727 _ (lv_sub (l' := [(9, .int ((Q 32).2.1)), (8, .int ((Q (nR2 x)).2.1)), (7, .int ((Q (nR1 x)).2.1)), (6, .int (nI (nNb x))), (5, .int (nI (nR2 x))), (4, .int (nI (nR1 x))), (3, .int (nI (nFn x))), (2, .int (nI (nRd x))), (1, .int x), (0, .ref mo)]) hl [0, 1, 2, 3, 4, 5, 6, 7, 8, 9] rfl)
            · refine lv_iload hx hb d_Mod_instruction_702 (lv_at hl 2 rfl) ?_
              refine lv_iload hx hb d_Mod_instruction_704 (lv_at hl 1 rfl) ?_
              refine lv_isub hx hb d_Mod_instruction_706 ?_
              refine lv_goto hx hb d_Mod_instruction_707 rfl ?_
              refine q_topi (z := (oFn (nI (nFn x)) (oOth x) (Q (nR1 x)).2.1 (Q (nR2 x)).2.1)) (op_sb hop h692 h699) ?_
              exact J730 _ (lv_sub (l' := [(9, .int ((Q 32).2.1)), (8, .int ((Q (nR2 x)).2.1)), (7, .int ((Q (nR1 x)).2.1)), (6, .int (nI (nNb x))), (5, .int (nI (nR2 x))), (4, .int (nI (nR1 x))), (3, .int (nI (nFn x))), (2, .int (nI (nRd x))), (1, .int x), (0, .ref mo)]) hl [0, 1, 2, 3, 4, 5, 6, 7, 8, 9] rfl)
      · refine lv_iload hx hb d_Mod_instruction_661 (lv_at hl 3 rfl) ?_
        refine lv_if_eq hx hb d_Mod_instruction_663 rfl (fun h663 => ?_) (fun h663 => ?_)
        · exact J689 (d0) _ _ _ (Or.inl h663) hw (lv_sub (l' := [(9, .int ((Q 32).2.1)), (8, .int ((Q (nR2 x)).2.1)), (7, .int ((Q (nR1 x)).2.1)), (6, .int (nI (nNb x))), (5, .int (nI (nR2 x))), (4, .int (nI (nR1 x))), (3, .int (nI (nFn x))), (2, .int (nI (nRd x))), (1, .int x), (0, .ref mo)]) hl [0, 1, 2, 3, 4, 5, 6, 7, 8, 9] rfl)
        · refine lv_iload hx hb d_Mod_instruction_666 (lv_at hl 3 rfl) ?_
          refine lv_bipush (v := 32) hx hb d_Mod_instruction_668 (by decide) ?_
          refine lv_icmp_ne hx hb d_Mod_instruction_670 rfl (fun h670 => ?_) (fun h670 => ?_)
          · refine lv_aload_n hx hb d_Mod_instruction_682 rfl (lv_at hl 9 rfl) ?_
            refine lv_iconst (v := 2) hx hb d_Mod_instruction_683 (by decide) ?_
            refine lv_iload_n hx hb d_Mod_instruction_684 rfl (lv_at hl 8 rfl) ?_
            refine q_cg (q_runV (As := [.int (2 : Int32), .int x]) (rest := []) S (c_Mod_trap l D ti mo am Q w g rb rt rp ro ca va st tr 0 pk xx rd to (2 : Int32) x) (cw_v hts tb_5_202 k_Mod_trap rfl rfl ⟨by decide, by decide⟩) hw 0 rfl rfl rfl hl.1 rfl (Nat.le_of_ble_eq_true rfl) d_Mod_instruction_685 ⟨Nat.zero_le _, Nat.zero_le _⟩) hw (fun _ hD => RMW_D hD) (fun z9 H locs hp9 hw => ?_)
            refine W.eq (g2 := F0 m9 688 ls [.int (jb false)]) rfl ?_
            have hw : Lv _ _ _ _ _ (RMW mo am ti (kTR Q) w g rb rt rp ro (2 : Int32) x st (tr + 1) 0 (kHa x Q) pk xx rd (rTo (kTR Q 32))) _ _ _ := hw
            have ho : kX fv ca va Q w g x = ((2 : Int32), x, Q, ca, va, w, g) := by rw [kX_51 hc71_51, xOp_t (op_t1 h663 h670)]; first | done | rfl
            exact hw.riz S hr hlk (rfl) d_Mod_instruction_688 ((kTR Q), pk, xx, rd, (rTo (kTR Q 32))) (by rw [ho]; rfl) (by rw [ho]; exact ⟨by rw [rE_t (by decide)]; exact fun k _ => rfl, rfl, Or.inr (Or.inr (show ¬ (2 : Int32) < 0 by decide))⟩) (by rw [ho, rE_t (by decide)]; first | done | rfl)
          · refine lv_iload_n hx hb d_Mod_instruction_673 rfl (lv_at hl 6 rfl) ?_
            refine lv_if_eq hx hb d_Mod_instruction_674 rfl (fun h674 => ?_) (fun h674 => ?_)
            · exact J689 (d0) _ _ _ (Or.inr (oOth_t h670 (Or.inl h674))) hw (lv_sub (l' := [(9, .int ((Q 32).2.1)), (8, .int ((Q (nR2 x)).2.1)), (7, .int ((Q (nR1 x)).2.1)), (6, .int (nI (nNb x))), (5, .int (nI (nR2 x))), (4, .int (nI (nR1 x))), (3, .int (nI (nFn x))), (2, .int (nI (nRd x))), (1, .int x), (0, .ref mo)]) hl [0, 1, 2, 3, 4, 5, 6, 7, 8, 9] rfl)
            · refine lv_iload_n hx hb d_Mod_instruction_677 rfl (lv_at hl 6 rfl) ?_
              refine lv_iconst (v := 5) hx hb d_Mod_instruction_678 (by decide) ?_
              refine lv_icmp_eq hx hb d_Mod_instruction_679 rfl (fun h679 => ?_) (fun h679 => ?_)
              · exact J689 (d0) _ _ _ (Or.inr (oOth_t h670 (Or.inr h679))) hw (lv_sub (l' := [(9, .int ((Q 32).2.1)), (8, .int ((Q (nR2 x)).2.1)), (7, .int ((Q (nR1 x)).2.1)), (6, .int (nI (nNb x))), (5, .int (nI (nR2 x))), (4, .int (nI (nR1 x))), (3, .int (nI (nFn x))), (2, .int (nI (nRd x))), (1, .int x), (0, .ref mo)]) hl [0, 1, 2, 3, 4, 5, 6, 7, 8, 9] rfl)
              · refine lv_aload_n hx hb d_Mod_instruction_682 rfl (lv_at hl 9 rfl) ?_
                refine lv_iconst (v := 2) hx hb d_Mod_instruction_683 (by decide) ?_
                refine lv_iload_n hx hb d_Mod_instruction_684 rfl (lv_at hl 8 rfl) ?_
                refine q_cg (q_runV (As := [.int (2 : Int32), .int x]) (rest := []) S (c_Mod_trap l D ti mo am Q w g rb rt rp ro ca va st tr 0 pk xx rd to (2 : Int32) x) (cw_v hts tb_5_202 k_Mod_trap rfl rfl ⟨by decide, by decide⟩) hw 0 rfl rfl rfl hl.1 rfl (Nat.le_of_ble_eq_true rfl) d_Mod_instruction_685 ⟨Nat.zero_le _, Nat.zero_le _⟩) hw (fun _ hD => RMW_D hD) (fun z9 H locs hp9 hw => ?_)
                refine W.eq (g2 := F0 m9 688 ls [.int (jb false)]) rfl ?_
                have hw : Lv _ _ _ _ _ (RMW mo am ti (kTR Q) w g rb rt rp ro (2 : Int32) x st (tr + 1) 0 (kHa x Q) pk xx rd (rTo (kTR Q 32))) _ _ _ := hw
                have ho : kX fv ca va Q w g x = ((2 : Int32), x, Q, ca, va, w, g) := by rw [kX_51 hc71_51, xOp_t (op_t2 h663 h674 h679)]; first | done | rfl
                exact hw.riz S hr hlk (rfl) d_Mod_instruction_688 ((kTR Q), pk, xx, rd, (rTo (kTR Q 32))) (by rw [ho]; rfl) (by rw [ho]; exact ⟨by rw [rE_t (by decide)]; exact fun k _ => rfl, rfl, Or.inr (Or.inr (show ¬ (2 : Int32) < 0 by decide))⟩) (by rw [ho, rE_t (by decide)]; first | done | rfl)
    by_cases hc71_55 : (nI (nOp x)) = (55 : Int32)
    · refine lv_lookup (off := 105) (tgt := 176) hx hb d_Mod_instruction_71 (by decide) (by rw [hc71_55] <;> rfl) rfl ?_
      refine lv_aload_n hx hb d_Mod_instruction_176 rfl (lv_at hl 9 rfl) ?_
      refine lv_iload_n hx hb d_Mod_instruction_177 rfl (lv_at hl 7 rfl) ?_
      refine lv_iload_n hx hb d_Mod_instruction_178 rfl (lv_at hl 8 rfl) ?_
      refine lv_sipush (v := -4096) hx hb d_Mod_instruction_179 (by decide) ?_
      refine lv_iand hx hb d_Mod_instruction_182 ?_
      refine q_cg (q_runV (As := [.int (nI (nRd x)), .int (x &&& (-4096 : Int32))]) (rest := []) S (c_Mod_number l D ti mo am Q w g rb rt rp ro ca va st tr 0 false pk xx rd to (nRd x) (by first | decide | omega) (x &&& (-4096 : Int32))) (cw_v hts tb_5_214 k_Mod_number rfl rfl ⟨by decide, by decide⟩) hw 0 rfl rfl rfl hl.1 rfl (Nat.le_of_ble_eq_true rfl) d_Mod_instruction_183 ⟨Nat.zero_le _, Nat.zero_le _⟩) hw (fun _ hD => RMW_D hD) (fun z9 H locs hp9 hw => ?_)
      refine W.eq (g2 := F0 m9 186 ls []) rfl ?_
      have hw : Lv _ _ _ _ _ (RMW mo am ti (rSet Q (nRd x) (false, (x &&& (-4096 : Int32)), 1000194)) w g rb rt rp ro ca va st tr 0 false pk xx rd to) _ _ _ := hw
      refine lv_iconst (v := 1) hx hb d_Mod_instruction_186 (by decide) ?_
      have ho : kX fv ca va Q w g x = ((-1 : Int32), fv, nR Q (nRd x) (x &&& (-4096)), ca, va, w, g) := kX_55 hc71_55
      exact hw.riz S hr hlk (rfl) d_Mod_instruction_187 ((rSet Q (nRd x) (false, (x &&& (-4096 : Int32)), 1000194)), pk, xx, rd, to) (by rw [ho]; rfl) (by rw [ho]; exact ⟨by rw [rE_n (by decide)]; exact ag_nR _ _ _, rS0 _ _ _, Or.inl rfl⟩) (by rw [ho, rE_n (by decide)]; first | done | rfl)
    by_cases hc71_91 : (nI (nOp x)) = (91 : Int32)
    · refine lv_lookup (off := 695) (tgt := 766) hx hb d_Mod_instruction_71 (by decide) (by rw [hc71_91] <;> rfl) rfl ?_
      refine lv_aload_n hx hb d_Mod_instruction_766 rfl (lv_at hl 9 rfl) ?_
      refine lv_iload_n hx hb d_Mod_instruction_767 rfl (lv_at hl 8 rfl) ?_
      refine lv_iload_n hx hb d_Mod_instruction_768 rfl (lv_at hl 7 rfl) ?_
      refine lv_iload_n hx hb d_Mod_instruction_769 rfl (lv_at hl 6 rfl) ?_
      refine lv_iload hx hb d_Mod_instruction_770 (lv_at hl 5 rfl) ?_
      refine lv_iload hx hb d_Mod_instruction_772 (lv_at hl 4 rfl) ?_
      refine lv_iload hx hb d_Mod_instruction_774 (lv_at hl 3 rfl) ?_
      refine q_cg (q_runV (As := [.int x, .int (nI (nRd x)), .int (nI (nFn x)), .int (nI (nR1 x)), .int (nI (nR2 x)), .int (nI (nNb x))]) (rest := []) S (c_Mod_special l D ti mo am Q w g rb rt rp ro ca va st tr pk xx rd to fv x h0 (im_i hc71_91 (by decide) (by decide) (by decide) (by decide) (by decide))) (cw_v hts tb_6_24 k_Mod_special rfl rfl ⟨by decide, by decide⟩) hw 0 rfl rfl rfl hl.1 rfl (Nat.le_of_ble_eq_true rfl) d_Mod_instruction_776 ⟨Nat.zero_le _, Nat.zero_le _⟩) hw (fun _ hD => RMW_D hD) (fun z100 H locs hp101 hw => ?_)
      refine W.eq (g2 := F0 m9 779 ls [.int (jb (goB (xoc (xU fv Q x) ca va w g).1))]) rfl ?_
      have hw : Lv _ _ _ _ _ (RMW mo am ti z100.1 ((rE (xoc (xU fv Q x) ca va w g) tr).w) ((rE (xoc (xU fv Q x) ca va w g) tr).g) rb rt rp ro ((rE (xoc (xU fv Q x) ca va w g) tr).ca) ((rE (xoc (xU fv Q x) ca va w g) tr).va) st ((rE (xoc (xU fv Q x) ca va w g) tr).tr) 0 ((rE (xoc (xU fv Q x) ca va w g) tr).ha) z100.2.1 z100.2.2.1 z100.2.2.2.1 z100.2.2.2.2) _ _ _ := hw
      have ho : kX fv ca va Q w g x = xoc (xU fv Q x) ca va w g := kX_91 hc71_91
      exact hw.riz S hr hlk (jb_nar _) d_Mod_instruction_779 z100 (by rw [ho]) (by rw [ho]; exact hp101) (by rw [ho])
    by_cases hc71_99 : (nI (nOp x)) = (99 : Int32)
    · refine lv_lookup (off := 239) (tgt := 310) hx hb d_Mod_instruction_71 (by decide) (by rw [hc71_99] <;> rfl) rfl ?_
      refine lv_iload_n hx hb d_Mod_instruction_310 rfl (lv_at hl 6 rfl) ?_
      refine lv_iconst (v := 2) hx hb d_Mod_instruction_311 (by decide) ?_
      refine lv_icmp_eq hx hb d_Mod_instruction_312 rfl (fun h312 => ?_) (fun h312 => ?_)
      · refine lv_aload_n hx hb d_Mod_instruction_320 rfl (lv_at hl 9 rfl) ?_
        refine lv_iconst (v := 2) hx hb d_Mod_instruction_321 (by decide) ?_
        refine lv_iload_n hx hb d_Mod_instruction_322 rfl (lv_at hl 8 rfl) ?_
        refine q_cg (q_runV (As := [.int (2 : Int32), .int x]) (rest := []) S (c_Mod_trap l D ti mo am Q w g rb rt rp ro ca va st tr 0 pk xx rd to (2 : Int32) x) (cw_v hts tb_5_202 k_Mod_trap rfl rfl ⟨by decide, by decide⟩) hw 0 rfl rfl rfl hl.1 rfl (Nat.le_of_ble_eq_true rfl) d_Mod_instruction_323 ⟨Nat.zero_le _, Nat.zero_le _⟩) hw (fun _ hD => RMW_D hD) (fun z9 H locs hp9 hw => ?_)
        refine W.eq (g2 := F0 m9 326 ls [.int (jb false)]) rfl ?_
        have hw : Lv _ _ _ _ _ (RMW mo am ti (kTR Q) w g rb rt rp ro (2 : Int32) x st (tr + 1) 0 (kHa x Q) pk xx rd (rTo (kTR Q 32))) _ _ _ := hw
        have ho : kX fv ca va Q w g x = ((2 : Int32), x, Q, ca, va, w, g) := by rw [kX_99 hc71_99, xBr_2 (Or.inl h312)]; first | done | rfl
        exact hw.riz S hr hlk (rfl) d_Mod_instruction_326 ((kTR Q), pk, xx, rd, (rTo (kTR Q 32))) (by rw [ho]; rfl) (by rw [ho]; exact ⟨by rw [rE_t (by decide)]; exact fun k _ => rfl, rfl, Or.inr (Or.inr (show ¬ (2 : Int32) < 0 by decide))⟩) (by rw [ho, rE_t (by decide)]; first | done | rfl)
      · refine lv_iload_n hx hb d_Mod_instruction_315 rfl (lv_at hl 6 rfl) ?_
        refine lv_iconst (v := 3) hx hb d_Mod_instruction_316 (by decide) ?_
        refine lv_icmp_ne hx hb d_Mod_instruction_317 rfl (fun h317 => ?_) (fun h317 => ?_)
        · refine q_join (pcJ := 453) (st := [.int (jb (tkX Q x))]) (lv' := [(9, .int ((Q 32).2.1)), (8, .int ((Q (nR2 x)).2.1)), (7, .int ((Q (nR1 x)).2.1)), (6, .int (nI (nNb x))), (5, .int (nI (nR2 x))), (4, .int (nI (nR1 x))), (3, .int (nI (nFn x))), (2, .int (nI (nRd x))), (1, .int x), (0, .ref mo)]) (nL := 11) (fun ls hl => ?_) (fun J453 => ?_)
          · refine lv_istore (lv' := [(10, .int (jb (tkX Q x))), (9, .int ((Q 32).2.1)), (8, .int ((Q (nR2 x)).2.1)), (7, .int ((Q (nR1 x)).2.1)), (6, .int (nI (nNb x))), (5, .int (nI (nR2 x))), (4, .int (nI (nR1 x))), (3, .int (nI (nFn x))), (2, .int (nI (nRd x))), (1, .int x), (0, .ref mo)]) hx hb d_Mod_instruction_453 hl (by decide) rfl (fun ls hl => ?_)
            refine lv_iload hx hb d_Mod_instruction_455 (lv_at hl 0 rfl) ?_
            refine q_ifz_ne S d_Mod_instruction_457 rfl (fun h457 => ?_) (fun h457 => ?_)
            · refine lv_aload_n hx hb d_Mod_instruction_462 rfl (lv_at hl 10 rfl) ?_
              refine lv_iload hx hb d_Mod_instruction_463 (lv_at hl 1 rfl) ?_
              refine lv_iload_n hx hb d_Mod_instruction_465 rfl (lv_at hl 9 rfl) ?_
              refine lv_bipush (v := 31) hx hb d_Mod_instruction_466 (by decide) ?_
              refine lv_ishr hx hb d_Mod_instruction_468 ?_
              refine lv_bipush (v := 12) hx hb d_Mod_instruction_469 (by decide) ?_
              refine lv_ishl hx hb d_Mod_instruction_471 ?_
              refine lv_iload_n hx hb d_Mod_instruction_472 rfl (lv_at hl 9 rfl) ?_
              refine lv_bipush (v := 7) hx hb d_Mod_instruction_473 (by decide) ?_
              refine lv_ishr hx hb d_Mod_instruction_475 ?_
              refine lv_iconst (v := 1) hx hb d_Mod_instruction_476 (by decide) ?_
              refine lv_iand hx hb d_Mod_instruction_477 ?_
              refine lv_bipush (v := 11) hx hb d_Mod_instruction_478 (by decide) ?_
              refine lv_ishl hx hb d_Mod_instruction_480 ?_
              refine lv_ior hx hb d_Mod_instruction_481 ?_
              refine lv_iload_n hx hb d_Mod_instruction_482 rfl (lv_at hl 9 rfl) ?_
              refine lv_bipush (v := 25) hx hb d_Mod_instruction_483 (by decide) ?_
              refine lv_ishr hx hb d_Mod_instruction_485 ?_
              refine lv_bipush (v := 63) hx hb d_Mod_instruction_486 (by decide) ?_
              refine lv_iand hx hb d_Mod_instruction_488 ?_
              refine lv_iconst (v := 5) hx hb d_Mod_instruction_489 (by decide) ?_
              refine lv_ishl hx hb d_Mod_instruction_490 ?_
              refine lv_ior hx hb d_Mod_instruction_491 ?_
              refine lv_iload_n hx hb d_Mod_instruction_492 rfl (lv_at hl 9 rfl) ?_
              refine lv_bipush (v := 8) hx hb d_Mod_instruction_493 (by decide) ?_
              refine lv_ishr hx hb d_Mod_instruction_495 ?_
              refine lv_bipush (v := 15) hx hb d_Mod_instruction_496 (by decide) ?_
              refine lv_iand hx hb d_Mod_instruction_498 ?_
              refine lv_iconst (v := 1) hx hb d_Mod_instruction_499 (by decide) ?_
              refine lv_ishl hx hb d_Mod_instruction_500 ?_
              refine lv_ior hx hb d_Mod_instruction_501 ?_
              refine q_topi (z := (iIm x)) ((im_99 hc71_99).symm) ?_
              refine lv_iadd hx hb d_Mod_instruction_502 ?_
              cases kj503 : rHo (Q 32) (((Q 32).2.1) + (iIm x)) 4
              · refine q_cg (q_runV (As := [.int (((Q 32).2.1) + (iIm x))]) (rest := []) S (c_Mod_jumpa l D ti mo am Q w g rb rt rp ro ca va st tr 0 pk xx rd to (((Q 32).2.1) + (iIm x)) kj503) (cw_v hts tb_5_235 k_Mod_jump rfl rfl ⟨by decide, by decide⟩) hw 0 rfl rfl rfl hl.1 rfl (Nat.le_of_ble_eq_true rfl) d_Mod_instruction_503 ⟨Nat.zero_le _, Nat.zero_le _⟩) hw (fun _ hD => RMW_D hD) (fun z9 H locs hp9 hw => ?_)
                refine W.eq (g2 := F0 m9 506 ls [.int (jb false)]) rfl ?_
                have hw : Lv _ _ _ _ _ (RMW mo am ti (kTR Q) w g rb rt rp ro 28 1025 st (tr + 1) 0 (kHa 1025 Q) pk xx rd (rTo (kTR Q 32))) _ _ _ := hw
                refine lv_pop hx hb d_Mod_instruction_506 rfl ?_
                refine lv_iconst (v := 0) hx hb d_Mod_instruction_507 (by decide) ?_
                have ho : kX fv ca va Q w g x = ((28 : Int32), (1025 : Int32), Q, ca, va, w, g) := by rw [kX_99 hc71_99, xBr_a h312 h317 h457 kj503]; first | done | rfl
                exact hw.riz S hr hlk (rfl) d_Mod_instruction_508 ((kTR Q), pk, xx, rd, (rTo (kTR Q 32))) (by rw [ho]; rfl) (by rw [ho]; exact ⟨by rw [rE_t (by decide)]; exact fun k _ => rfl, rfl, Or.inr (Or.inr (show ¬ (28 : Int32) < 0 by decide))⟩) (by rw [ho, rE_t (by decide)]; first | done | rfl)
              · by_cases kk503 : ((((Q 32).2.1) + (iIm x)) &&& 3) = 0
                · refine q_cg (q_runV (As := [.int (((Q 32).2.1) + (iIm x))]) (rest := []) S (c_Mod_jumpc l D ti mo am Q w g rb rt rp ro ca va st tr 0 pk xx rd to (((Q 32).2.1) + (iIm x)) kj503 kk503) (cw_v hts tb_5_235 k_Mod_jump rfl rfl ⟨by decide, by decide⟩) hw 0 rfl rfl rfl hl.1 rfl (Nat.le_of_ble_eq_true rfl) d_Mod_instruction_503 ⟨Nat.zero_le _, Nat.zero_le _⟩) hw (fun _ hD => RMW_D hD) (fun z9 H locs hp9 hw => ?_)
                  refine W.eq (g2 := F0 m9 506 ls [.int (jb true)]) rfl ?_
                  have hw : Lv _ _ _ _ _ (RMW mo am ti (va_up Q 32 (cMvC (Q 32) (((Q 32).2.1) + (iIm x)))) w g rb rt rp ro ca va st tr 0 false pk xx rd to) _ _ _ := hw
                  refine lv_pop hx hb d_Mod_instruction_506 rfl ?_
                  refine lv_iconst (v := 0) hx hb d_Mod_instruction_507 (by decide) ?_
                  have ho : kX fv ca va Q w g x = ((-2 : Int32), fv, va_up Q 32 (cMvC (Q 32) (jY Q x)), ca, va, w, g) := by rw [kX_99 hc71_99, xBr_c h312 h317 h457 kj503 kk503]; first | done | rfl
                  exact hw.riz S hr hlk (rfl) d_Mod_instruction_508 ((va_up Q 32 (cMvC (Q 32) (((Q 32).2.1) + (iIm x)))), pk, xx, rd, to) (by rw [ho]; rfl) (by rw [ho]; exact ⟨by rw [rE_n (by decide)]; exact ag_r _, rfl, Or.inr (Or.inl rfl)⟩) (by rw [ho, rE_n (by decide)]; first | done | rfl)
                · refine q_cg (q_runV (As := [.int (((Q 32).2.1) + (iIm x))]) (rest := []) S (c_Mod_jumpb l D ti mo am Q w g rb rt rp ro ca va st tr 0 pk xx rd to (((Q 32).2.1) + (iIm x)) kj503 kk503) (cw_v hts tb_5_235 k_Mod_jump rfl rfl ⟨by decide, by decide⟩) hw 0 rfl rfl rfl hl.1 rfl (Nat.le_of_ble_eq_true rfl) d_Mod_instruction_503 ⟨Nat.zero_le _, Nat.zero_le _⟩) hw (fun _ hD => RMW_D hD) (fun z9 H locs hp9 hw => ?_)
                  refine W.eq (g2 := F0 m9 506 ls [.int (jb false)]) rfl ?_
                  have hw : Lv _ _ _ _ _ (RMW mo am ti (kTR Q) w g rb rt rp ro 0 (((Q 32).2.1) + (iIm x)) st (tr + 1) 0 (kHa (((Q 32).2.1) + (iIm x)) Q) pk xx rd (rTo (kTR Q 32))) _ _ _ := hw
                  refine lv_pop hx hb d_Mod_instruction_506 rfl ?_
                  refine lv_iconst (v := 0) hx hb d_Mod_instruction_507 (by decide) ?_
                  have ho : kX fv ca va Q w g x = ((0 : Int32), (((Q 32).2.1) + (iIm x)), Q, ca, va, w, g) := by rw [kX_99 hc71_99, xBr_b h312 h317 h457 kj503 kk503]; first | done | rfl
                  exact hw.riz S hr hlk (rfl) d_Mod_instruction_508 ((kTR Q), pk, xx, rd, (rTo (kTR Q 32))) (by rw [ho]; rfl) (by rw [ho]; exact ⟨by rw [rE_t (by decide)]; exact fun k _ => rfl, rfl, Or.inr (Or.inr (show ¬ (0 : Int32) < 0 by decide))⟩) (by rw [ho, rE_t (by decide)]; first | done | rfl)
            · refine lv_iconst (v := 1) hx hb d_Mod_instruction_460 (by decide) ?_
              have ho : kX fv ca va Q w g x = ((-1 : Int32), fv, Q, ca, va, w, g) := by rw [kX_99 hc71_99, xBr_n h312 h317 h457]; first | done | rfl
              exact hw.riz S hr hlk (rfl) d_Mod_instruction_461 (Q, pk, xx, rd, to) (by rw [ho]; rfl) (by rw [ho]; exact ⟨by rw [rE_n (by decide)]; exact ag_r _, rfl, Or.inl rfl⟩) (by rw [ho, rE_n (by decide)]; first | done | rfl)
          · refine lv_iload_n hx hb d_Mod_instruction_327 rfl (lv_at hl 6 rfl) ?_
            refine lv_if_ne hx hb d_Mod_instruction_328 rfl (fun h328 => ?_) (fun h328 => ?_)
            · refine lv_iload_n hx hb d_Mod_instruction_346 rfl (lv_at hl 6 rfl) ?_
              refine lv_iconst (v := 1) hx hb d_Mod_instruction_347 (by decide) ?_
              refine lv_icmp_ne hx hb d_Mod_instruction_348 rfl (fun h348 => ?_) (fun h348 => ?_)
              · refine lv_iload_n hx hb d_Mod_instruction_366 rfl (lv_at hl 6 rfl) ?_
                refine lv_iconst (v := 4) hx hb d_Mod_instruction_367 (by decide) ?_
                refine lv_icmp_ne hx hb d_Mod_instruction_368 rfl (fun h368 => ?_) (fun h368 => ?_)
                · refine lv_iload_n hx hb d_Mod_instruction_386 rfl (lv_at hl 6 rfl) ?_
                  refine lv_iconst (v := 5) hx hb d_Mod_instruction_387 (by decide) ?_
                  refine lv_icmp_ne hx hb d_Mod_instruction_388 rfl (fun h388 => ?_) (fun h388 => ?_)
                  · refine lv_iload_n hx hb d_Mod_instruction_406 rfl (lv_at hl 6 rfl) ?_
                    refine lv_bipush (v := 6) hx hb d_Mod_instruction_407 (by decide) ?_
                    refine lv_icmp_ne hx hb d_Mod_instruction_409 rfl (fun h409 => ?_) (fun h409 => ?_)
                    · refine lv_iload hx hb d_Mod_instruction_434 (lv_at hl 2 rfl) ?_
                      refine q_cr (q_runS (As := [.int ((Q (nR1 x)).2.1)]) (rest := []) S ((c_Mod_low l D (ty4 ti) ((Q (nR1 x)).2.1)).nil _) (cw_s hts tb_5_118 k_Mod_low rfl rfl ⟨by decide, by decide⟩) hw rfl hl.1 rfl (Nat.le_of_ble_eq_true rfl) d_Mod_instruction_436 ⟨Nat.zero_le _, Nat.zero_le _⟩) ?_
                      refine W.eq (g2 := F0 m9 439 ls [.long (cLow ((Q (nR1 x)).2.1))]) rfl ?_
                      refine lv_iload hx hb d_Mod_instruction_439 (lv_at hl 1 rfl) ?_
                      refine q_cr (q_runS (As := [.int ((Q (nR2 x)).2.1)]) (rest := [.long (cLow ((Q (nR1 x)).2.1))]) S ((c_Mod_low l D (ty4 ti) ((Q (nR2 x)).2.1)).nil _) (cw_s hts tb_5_118 k_Mod_low rfl rfl ⟨by decide, by decide⟩) hw rfl hl.1 rfl (Nat.le_of_ble_eq_true rfl) d_Mod_instruction_441 ⟨Nat.zero_le _, Nat.zero_le _⟩) ?_
                      refine W.eq (g2 := F0 m9 444 ls [.long (cLow ((Q (nR2 x)).2.1)), .long (cLow ((Q (nR1 x)).2.1))]) rfl ?_
                      refine q_lc_lt S d_Mod_instruction_444 d_Mod_instruction_445 rfl (fun h445 => ?_) (fun h445 => ?_)
                      · refine lv_iconst (v := 0) hx hb d_Mod_instruction_452 (by decide) ?_
                        refine q_topi (z := (jb (tkX Q x))) (by rw [show tkX Q x = rTk (nI (nFn x)) (Q (nR1 x)).2.1 (Q (nR2 x)).2.1 from tkB_e _ _ _]; simp [rTk, jb, h328, h348, h368, h388, h409, h445]) ?_
                        exact J453 _ (lv_sub (l' := [(9, .int ((Q 32).2.1)), (8, .int ((Q (nR2 x)).2.1)), (7, .int ((Q (nR1 x)).2.1)), (6, .int (nI (nNb x))), (5, .int (nI (nR2 x))), (4, .int (nI (nR1 x))), (3, .int (nI (nFn x))), (2, .int (nI (nRd x))), (1, .int x), (0, .ref mo)]) hl [0, 1, 2, 3, 4, 5, 6, 7, 8, 9] rfl)
                      · refine lv_iconst (v := 1) hx hb d_Mod_instruction_448 (by decide) ?_
                        refine lv_goto hx hb d_Mod_instruction_449 rfl ?_
                        refine q_topi (z := (jb (tkX Q x))) (by rw [show tkX Q x = rTk (nI (nFn x)) (Q (nR1 x)).2.1 (Q (nR2 x)).2.1 from tkB_e _ _ _]; simp [rTk, jb, h328, h348, h368, h388, h409, h445]) ?_
                        exact J453 _ (lv_sub (l' := [(9, .int ((Q 32).2.1)), (8, .int ((Q (nR2 x)).2.1)), (7, .int ((Q (nR1 x)).2.1)), (6, .int (nI (nNb x))), (5, .int (nI (nR2 x))), (4, .int (nI (nR1 x))), (3, .int (nI (nFn x))), (2, .int (nI (nRd x))), (1, .int x), (0, .ref mo)]) hl [0, 1, 2, 3, 4, 5, 6, 7, 8, 9] rfl)
                    · refine lv_iload hx hb d_Mod_instruction_412 (lv_at hl 2 rfl) ?_
                      refine q_cr (q_runS (As := [.int ((Q (nR1 x)).2.1)]) (rest := []) S ((c_Mod_low l D (ty4 ti) ((Q (nR1 x)).2.1)).nil _) (cw_s hts tb_5_118 k_Mod_low rfl rfl ⟨by decide, by decide⟩) hw rfl hl.1 rfl (Nat.le_of_ble_eq_true rfl) d_Mod_instruction_414 ⟨Nat.zero_le _, Nat.zero_le _⟩) ?_
                      refine W.eq (g2 := F0 m9 417 ls [.long (cLow ((Q (nR1 x)).2.1))]) rfl ?_
                      refine lv_iload hx hb d_Mod_instruction_417 (lv_at hl 1 rfl) ?_
                      refine q_cr (q_runS (As := [.int ((Q (nR2 x)).2.1)]) (rest := [.long (cLow ((Q (nR1 x)).2.1))]) S ((c_Mod_low l D (ty4 ti) ((Q (nR2 x)).2.1)).nil _) (cw_s hts tb_5_118 k_Mod_low rfl rfl ⟨by decide, by decide⟩) hw rfl hl.1 rfl (Nat.le_of_ble_eq_true rfl) d_Mod_instruction_419 ⟨Nat.zero_le _, Nat.zero_le _⟩) ?_
                      refine W.eq (g2 := F0 m9 422 ls [.long (cLow ((Q (nR2 x)).2.1)), .long (cLow ((Q (nR1 x)).2.1))]) rfl ?_
                      refine q_lc_ge S d_Mod_instruction_422 d_Mod_instruction_423 rfl (fun h423 => ?_) (fun h423 => ?_)
                      · refine lv_iconst (v := 0) hx hb d_Mod_instruction_430 (by decide) ?_
                        refine lv_goto hx hb d_Mod_instruction_431 rfl ?_
                        refine q_topi (z := (jb (tkX Q x))) (by rw [show tkX Q x = rTk (nI (nFn x)) (Q (nR1 x)).2.1 (Q (nR2 x)).2.1 from tkB_e _ _ _]; simp [rTk, jb, h328, h348, h368, h388, h409, h423]) ?_
                        exact J453 _ (lv_sub (l' := [(9, .int ((Q 32).2.1)), (8, .int ((Q (nR2 x)).2.1)), (7, .int ((Q (nR1 x)).2.1)), (6, .int (nI (nNb x))), (5, .int (nI (nR2 x))), (4, .int (nI (nR1 x))), (3, .int (nI (nFn x))), (2, .int (nI (nRd x))), (1, .int x), (0, .ref mo)]) hl [0, 1, 2, 3, 4, 5, 6, 7, 8, 9] rfl)
                      · refine lv_iconst (v := 1) hx hb d_Mod_instruction_426 (by decide) ?_
                        refine lv_goto hx hb d_Mod_instruction_427 rfl ?_
                        refine q_topi (z := (jb (tkX Q x))) (by rw [show tkX Q x = rTk (nI (nFn x)) (Q (nR1 x)).2.1 (Q (nR2 x)).2.1 from tkB_e _ _ _]; simp [rTk, jb, h328, h348, h368, h388, h409, h423]) ?_
                        exact J453 _ (lv_sub (l' := [(9, .int ((Q 32).2.1)), (8, .int ((Q (nR2 x)).2.1)), (7, .int ((Q (nR1 x)).2.1)), (6, .int (nI (nNb x))), (5, .int (nI (nR2 x))), (4, .int (nI (nR1 x))), (3, .int (nI (nFn x))), (2, .int (nI (nRd x))), (1, .int x), (0, .ref mo)]) hl [0, 1, 2, 3, 4, 5, 6, 7, 8, 9] rfl)
                  · refine lv_iload hx hb d_Mod_instruction_391 (lv_at hl 2 rfl) ?_
                    refine lv_iload hx hb d_Mod_instruction_393 (lv_at hl 1 rfl) ?_
                    refine lv_icmp_lt hx hb d_Mod_instruction_395 rfl (fun h395 => ?_) (fun h395 => ?_)
                    · refine lv_iconst (v := 0) hx hb d_Mod_instruction_402 (by decide) ?_
                      refine lv_goto hx hb d_Mod_instruction_403 rfl ?_
                      refine q_topi (z := (jb (tkX Q x))) (by rw [show tkX Q x = rTk (nI (nFn x)) (Q (nR1 x)).2.1 (Q (nR2 x)).2.1 from tkB_e _ _ _]; simp [rTk, jb, h328, h348, h368, h388, h395]) ?_
                      exact J453 _ (lv_sub (l' := [(9, .int ((Q 32).2.1)), (8, .int ((Q (nR2 x)).2.1)), (7, .int ((Q (nR1 x)).2.1)), (6, .int (nI (nNb x))), (5, .int (nI (nR2 x))), (4, .int (nI (nR1 x))), (3, .int (nI (nFn x))), (2, .int (nI (nRd x))), (1, .int x), (0, .ref mo)]) hl [0, 1, 2, 3, 4, 5, 6, 7, 8, 9] rfl)
                    · refine lv_iconst (v := 1) hx hb d_Mod_instruction_398 (by decide) ?_
                      refine lv_goto hx hb d_Mod_instruction_399 rfl ?_
                      refine q_topi (z := (jb (tkX Q x))) (by rw [show tkX Q x = rTk (nI (nFn x)) (Q (nR1 x)).2.1 (Q (nR2 x)).2.1 from tkB_e _ _ _]; simp [rTk, jb, h328, h348, h368, h388, h395]) ?_
                      exact J453 _ (lv_sub (l' := [(9, .int ((Q 32).2.1)), (8, .int ((Q (nR2 x)).2.1)), (7, .int ((Q (nR1 x)).2.1)), (6, .int (nI (nNb x))), (5, .int (nI (nR2 x))), (4, .int (nI (nR1 x))), (3, .int (nI (nFn x))), (2, .int (nI (nRd x))), (1, .int x), (0, .ref mo)]) hl [0, 1, 2, 3, 4, 5, 6, 7, 8, 9] rfl)
                · refine lv_iload hx hb d_Mod_instruction_371 (lv_at hl 2 rfl) ?_
                  refine lv_iload hx hb d_Mod_instruction_373 (lv_at hl 1 rfl) ?_
                  refine lv_icmp_ge hx hb d_Mod_instruction_375 rfl (fun h375 => ?_) (fun h375 => ?_)
                  · refine lv_iconst (v := 0) hx hb d_Mod_instruction_382 (by decide) ?_
                    refine lv_goto hx hb d_Mod_instruction_383 rfl ?_
                    refine q_topi (z := (jb (tkX Q x))) (by rw [show tkX Q x = rTk (nI (nFn x)) (Q (nR1 x)).2.1 (Q (nR2 x)).2.1 from tkB_e _ _ _]; simp [rTk, jb, h328, h348, h368, h375]) ?_
                    exact J453 _ (lv_sub (l' := [(9, .int ((Q 32).2.1)), (8, .int ((Q (nR2 x)).2.1)), (7, .int ((Q (nR1 x)).2.1)), (6, .int (nI (nNb x))), (5, .int (nI (nR2 x))), (4, .int (nI (nR1 x))), (3, .int (nI (nFn x))), (2, .int (nI (nRd x))), (1, .int x), (0, .ref mo)]) hl [0, 1, 2, 3, 4, 5, 6, 7, 8, 9] rfl)
                  · refine lv_iconst (v := 1) hx hb d_Mod_instruction_378 (by decide) ?_
                    refine lv_goto hx hb d_Mod_instruction_379 rfl ?_
                    refine q_topi (z := (jb (tkX Q x))) (by rw [show tkX Q x = rTk (nI (nFn x)) (Q (nR1 x)).2.1 (Q (nR2 x)).2.1 from tkB_e _ _ _]; simp [rTk, jb, h328, h348, h368, h375]) ?_
                    exact J453 _ (lv_sub (l' := [(9, .int ((Q 32).2.1)), (8, .int ((Q (nR2 x)).2.1)), (7, .int ((Q (nR1 x)).2.1)), (6, .int (nI (nNb x))), (5, .int (nI (nR2 x))), (4, .int (nI (nR1 x))), (3, .int (nI (nFn x))), (2, .int (nI (nRd x))), (1, .int x), (0, .ref mo)]) hl [0, 1, 2, 3, 4, 5, 6, 7, 8, 9] rfl)
              · refine lv_iload hx hb d_Mod_instruction_351 (lv_at hl 2 rfl) ?_
                refine lv_iload hx hb d_Mod_instruction_353 (lv_at hl 1 rfl) ?_
                refine lv_icmp_eq hx hb d_Mod_instruction_355 rfl (fun h355 => ?_) (fun h355 => ?_)
                · refine lv_iconst (v := 0) hx hb d_Mod_instruction_362 (by decide) ?_
                  refine lv_goto hx hb d_Mod_instruction_363 rfl ?_
                  refine q_topi (z := (jb (tkX Q x))) (by rw [show tkX Q x = rTk (nI (nFn x)) (Q (nR1 x)).2.1 (Q (nR2 x)).2.1 from tkB_e _ _ _]; simp [rTk, jb, h328, h348, h355]) ?_
                  exact J453 _ (lv_sub (l' := [(9, .int ((Q 32).2.1)), (8, .int ((Q (nR2 x)).2.1)), (7, .int ((Q (nR1 x)).2.1)), (6, .int (nI (nNb x))), (5, .int (nI (nR2 x))), (4, .int (nI (nR1 x))), (3, .int (nI (nFn x))), (2, .int (nI (nRd x))), (1, .int x), (0, .ref mo)]) hl [0, 1, 2, 3, 4, 5, 6, 7, 8, 9] rfl)
                · refine lv_iconst (v := 1) hx hb d_Mod_instruction_358 (by decide) ?_
                  refine lv_goto hx hb d_Mod_instruction_359 rfl ?_
                  refine q_topi (z := (jb (tkX Q x))) (by rw [show tkX Q x = rTk (nI (nFn x)) (Q (nR1 x)).2.1 (Q (nR2 x)).2.1 from tkB_e _ _ _]; simp [rTk, jb, h328, h348, h355]) ?_
                  exact J453 _ (lv_sub (l' := [(9, .int ((Q 32).2.1)), (8, .int ((Q (nR2 x)).2.1)), (7, .int ((Q (nR1 x)).2.1)), (6, .int (nI (nNb x))), (5, .int (nI (nR2 x))), (4, .int (nI (nR1 x))), (3, .int (nI (nFn x))), (2, .int (nI (nRd x))), (1, .int x), (0, .ref mo)]) hl [0, 1, 2, 3, 4, 5, 6, 7, 8, 9] rfl)
            · refine lv_iload hx hb d_Mod_instruction_331 (lv_at hl 2 rfl) ?_
              refine lv_iload hx hb d_Mod_instruction_333 (lv_at hl 1 rfl) ?_
              refine lv_icmp_ne hx hb d_Mod_instruction_335 rfl (fun h335 => ?_) (fun h335 => ?_)
              · refine lv_iconst (v := 0) hx hb d_Mod_instruction_342 (by decide) ?_
                refine lv_goto hx hb d_Mod_instruction_343 rfl ?_
                refine q_topi (z := (jb (tkX Q x))) (by rw [show tkX Q x = rTk (nI (nFn x)) (Q (nR1 x)).2.1 (Q (nR2 x)).2.1 from tkB_e _ _ _]; simp [rTk, jb, h328, h335]) ?_
                exact J453 _ (lv_sub (l' := [(9, .int ((Q 32).2.1)), (8, .int ((Q (nR2 x)).2.1)), (7, .int ((Q (nR1 x)).2.1)), (6, .int (nI (nNb x))), (5, .int (nI (nR2 x))), (4, .int (nI (nR1 x))), (3, .int (nI (nFn x))), (2, .int (nI (nRd x))), (1, .int x), (0, .ref mo)]) hl [0, 1, 2, 3, 4, 5, 6, 7, 8, 9] rfl)
              · refine lv_iconst (v := 1) hx hb d_Mod_instruction_338 (by decide) ?_
                refine lv_goto hx hb d_Mod_instruction_339 rfl ?_
                refine q_topi (z := (jb (tkX Q x))) (by rw [show tkX Q x = rTk (nI (nFn x)) (Q (nR1 x)).2.1 (Q (nR2 x)).2.1 from tkB_e _ _ _]; simp [rTk, jb, h328, h335]) ?_
                exact J453 _ (lv_sub (l' := [(9, .int ((Q 32).2.1)), (8, .int ((Q (nR2 x)).2.1)), (7, .int ((Q (nR1 x)).2.1)), (6, .int (nI (nNb x))), (5, .int (nI (nR2 x))), (4, .int (nI (nR1 x))), (3, .int (nI (nFn x))), (2, .int (nI (nRd x))), (1, .int x), (0, .ref mo)]) hl [0, 1, 2, 3, 4, 5, 6, 7, 8, 9] rfl)
        · refine lv_aload_n hx hb d_Mod_instruction_320 rfl (lv_at hl 9 rfl) ?_
          refine lv_iconst (v := 2) hx hb d_Mod_instruction_321 (by decide) ?_
          refine lv_iload_n hx hb d_Mod_instruction_322 rfl (lv_at hl 8 rfl) ?_
          refine q_cg (q_runV (As := [.int (2 : Int32), .int x]) (rest := []) S (c_Mod_trap l D ti mo am Q w g rb rt rp ro ca va st tr 0 pk xx rd to (2 : Int32) x) (cw_v hts tb_5_202 k_Mod_trap rfl rfl ⟨by decide, by decide⟩) hw 0 rfl rfl rfl hl.1 rfl (Nat.le_of_ble_eq_true rfl) d_Mod_instruction_323 ⟨Nat.zero_le _, Nat.zero_le _⟩) hw (fun _ hD => RMW_D hD) (fun z9 H locs hp9 hw => ?_)
          refine W.eq (g2 := F0 m9 326 ls [.int (jb false)]) rfl ?_
          have hw : Lv _ _ _ _ _ (RMW mo am ti (kTR Q) w g rb rt rp ro (2 : Int32) x st (tr + 1) 0 (kHa x Q) pk xx rd (rTo (kTR Q 32))) _ _ _ := hw
          have ho : kX fv ca va Q w g x = ((2 : Int32), x, Q, ca, va, w, g) := by rw [kX_99 hc71_99, xBr_2 (Or.inr h317)]; first | done | rfl
          exact hw.riz S hr hlk (rfl) d_Mod_instruction_326 ((kTR Q), pk, xx, rd, (rTo (kTR Q 32))) (by rw [ho]; rfl) (by rw [ho]; exact ⟨by rw [rE_t (by decide)]; exact fun k _ => rfl, rfl, Or.inr (Or.inr (show ¬ (2 : Int32) < 0 by decide))⟩) (by rw [ho, rE_t (by decide)]; first | done | rfl)
    by_cases hc71_103 : (nI (nOp x)) = (103 : Int32)
    · refine lv_lookup (off := 204) (tgt := 275) hx hb d_Mod_instruction_71 (by decide) (by rw [hc71_103] <;> rfl) rfl ?_
      refine lv_iload_n hx hb d_Mod_instruction_275 rfl (lv_at hl 6 rfl) ?_
      refine lv_if_ne hx hb d_Mod_instruction_276 rfl (fun h276 => ?_) (fun h276 => ?_)
      · refine lv_aload_n hx hb d_Mod_instruction_303 rfl (lv_at hl 9 rfl) ?_
        refine lv_iconst (v := 2) hx hb d_Mod_instruction_304 (by decide) ?_
        refine lv_iload_n hx hb d_Mod_instruction_305 rfl (lv_at hl 8 rfl) ?_
        refine q_cg (q_runV (As := [.int (2 : Int32), .int x]) (rest := []) S (c_Mod_trap l D ti mo am Q w g rb rt rp ro ca va st tr 0 pk xx rd to (2 : Int32) x) (cw_v hts tb_5_202 k_Mod_trap rfl rfl ⟨by decide, by decide⟩) hw 0 rfl rfl rfl hl.1 rfl (Nat.le_of_ble_eq_true rfl) d_Mod_instruction_306 ⟨Nat.zero_le _, Nat.zero_le _⟩) hw (fun _ hD => RMW_D hD) (fun z9 H locs hp9 hw => ?_)
        refine W.eq (g2 := F0 m9 309 ls [.int (jb false)]) rfl ?_
        have hw : Lv _ _ _ _ _ (RMW mo am ti (kTR Q) w g rb rt rp ro (2 : Int32) x st (tr + 1) 0 (kHa x Q) pk xx rd (rTo (kTR Q 32))) _ _ _ := hw
        have ho : kX fv ca va Q w g x = ((2 : Int32), x, Q, ca, va, w, g) := by rw [kX_103 hc71_103, xJr_t h276]; first | done | rfl
        exact hw.riz S hr hlk (rfl) d_Mod_instruction_309 ((kTR Q), pk, xx, rd, (rTo (kTR Q 32))) (by rw [ho]; rfl) (by rw [ho]; exact ⟨by rw [rE_t (by decide)]; exact fun k _ => rfl, rfl, Or.inr (Or.inr (show ¬ (2 : Int32) < 0 by decide))⟩) (by rw [ho, rE_t (by decide)]; first | done | rfl)
      · refine lv_aload_n hx hb d_Mod_instruction_279 rfl (lv_at hl 9 rfl) ?_
        refine lv_iload_n hx hb d_Mod_instruction_280 rfl (lv_at hl 7 rfl) ?_
        refine lv_iload hx hb d_Mod_instruction_281 (lv_at hl 5 rfl) ?_
        refine lv_iload hx hb d_Mod_instruction_283 (lv_at hl 2 rfl) ?_
        refine lv_iload_n hx hb d_Mod_instruction_285 rfl (lv_at hl 8 rfl) ?_
        refine lv_bipush (v := 20) hx hb d_Mod_instruction_286 (by decide) ?_
        refine lv_ishr hx hb d_Mod_instruction_288 ?_
        refine q_topi (z := (iIm x)) ((im_i hc71_103 (by decide) (by decide) (by decide) (by decide) (by decide)).symm) ?_
        refine lv_iadd hx hb d_Mod_instruction_289 ?_
        refine lv_bipush (v := -2) hx hb d_Mod_instruction_290 (by decide) ?_
        refine lv_iand hx hb d_Mod_instruction_292 ?_
        refine q_topi (z := (jrX Q x)) (rfl) ?_
        refine lv_iload_n hx hb d_Mod_instruction_293 rfl (lv_at hl 8 rfl) ?_
        refine lv_bipush (v := 20) hx hb d_Mod_instruction_294 (by decide) ?_
        refine lv_ishr hx hb d_Mod_instruction_296 ?_
        refine q_topi (z := (iIm x)) ((im_i hc71_103 (by decide) (by decide) (by decide) (by decide) (by decide)).symm) ?_
        refine q_cg (q_runV (As := [.int (nI (nRd x)), .int (nI (nR1 x)), .int (jrX Q x), .int (iIm x)]) (rest := []) S (c_Mod_jumpBy l D ti mo am Q w g rb rt rp ro ca va st tr 0 pk xx rd to fv x h276) (cw_v hts tb_5_239 k_Mod_jumpBy rfl rfl ⟨by decide, by decide⟩) hw 0 rfl rfl rfl hl.1 rfl (Nat.le_of_ble_eq_true rfl) d_Mod_instruction_297 ⟨Nat.zero_le _, Nat.zero_le _⟩) hw (fun _ hD => RMW_D hD) (fun z102 H locs hp103 hw => ?_)
        refine W.eq (g2 := F0 m9 300 ls [.int (jb (goB (xoc (xJr fv Q x) ca va w g).1))]) rfl ?_
        have hw : Lv _ _ _ _ _ (RMW mo am ti z102.1 ((rE (xoc (xJr fv Q x) ca va w g) tr).w) ((rE (xoc (xJr fv Q x) ca va w g) tr).g) rb rt rp ro ((rE (xoc (xJr fv Q x) ca va w g) tr).ca) ((rE (xoc (xJr fv Q x) ca va w g) tr).va) st ((rE (xoc (xJr fv Q x) ca va w g) tr).tr) 0 ((rE (xoc (xJr fv Q x) ca va w g) tr).ha) z102.2.1 z102.2.2.1 z102.2.2.2.1 z102.2.2.2.2) _ _ _ := hw
        refine lv_goto hx hb d_Mod_instruction_300 rfl ?_
        have ho : kX fv ca va Q w g x = xoc (xJr fv Q x) ca va w g := kX_103 hc71_103
        exact hw.riz S hr hlk (jb_nar _) d_Mod_instruction_309 z102 (by rw [ho]) (by rw [ho]; exact hp103) (by rw [ho])
    by_cases hc71_111 : (nI (nOp x)) = (111 : Int32)
    · refine lv_lookup (off := 142) (tgt := 213) hx hb d_Mod_instruction_71 (by decide) (by rw [hc71_111] <;> rfl) rfl ?_
      refine lv_iload hx hb d_Mod_instruction_213 (lv_at hl 0 rfl) ?_
      refine lv_iload_n hx hb d_Mod_instruction_215 rfl (lv_at hl 8 rfl) ?_
      refine lv_bipush (v := 31) hx hb d_Mod_instruction_216 (by decide) ?_
      refine lv_ishr hx hb d_Mod_instruction_218 ?_
      refine lv_bipush (v := 20) hx hb d_Mod_instruction_219 (by decide) ?_
      refine lv_ishl hx hb d_Mod_instruction_221 ?_
      refine lv_iload_n hx hb d_Mod_instruction_222 rfl (lv_at hl 8 rfl) ?_
      refine lv_ldc (v := 1044480) hx hb hown (hts _ tb_5_226) d_Mod_instruction_223 ?_
      refine lv_iand hx hb d_Mod_instruction_225 ?_
      refine lv_ior hx hb d_Mod_instruction_226 ?_
      refine lv_iload_n hx hb d_Mod_instruction_227 rfl (lv_at hl 8 rfl) ?_
      refine lv_bipush (v := 20) hx hb d_Mod_instruction_228 (by decide) ?_
      refine lv_ishr hx hb d_Mod_instruction_230 ?_
      refine lv_iconst (v := 1) hx hb d_Mod_instruction_231 (by decide) ?_
      refine lv_iand hx hb d_Mod_instruction_232 ?_
      refine lv_bipush (v := 11) hx hb d_Mod_instruction_233 (by decide) ?_
      refine lv_ishl hx hb d_Mod_instruction_235 ?_
      refine lv_ior hx hb d_Mod_instruction_236 ?_
      refine lv_iload_n hx hb d_Mod_instruction_237 rfl (lv_at hl 8 rfl) ?_
      refine lv_bipush (v := 21) hx hb d_Mod_instruction_238 (by decide) ?_
      refine lv_ishr hx hb d_Mod_instruction_240 ?_
      refine lv_sipush (v := 1023) hx hb d_Mod_instruction_241 (by decide) ?_
      refine lv_iand hx hb d_Mod_instruction_244 ?_
      refine lv_iconst (v := 1) hx hb d_Mod_instruction_245 (by decide) ?_
      refine lv_ishl hx hb d_Mod_instruction_246 ?_
      refine lv_ior hx hb d_Mod_instruction_247 ?_
      refine q_topi (z := (iIm x)) ((im_111 hc71_111).symm) ?_
      refine lv_iadd hx hb d_Mod_instruction_248 ?_
      refine lv_istore (lv' := [(10, .int (((Q 32).2.1) + (iIm x))), (9, .int ((Q 32).2.1)), (8, .int ((Q (nR2 x)).2.1)), (7, .int ((Q (nR1 x)).2.1)), (6, .int (nI (nNb x))), (5, .int (nI (nR2 x))), (4, .int (nI (nR1 x))), (3, .int (nI (nFn x))), (2, .int (nI (nRd x))), (1, .int x), (0, .ref mo)]) hx hb d_Mod_instruction_249 hl (by decide) rfl (fun ls hl => ?_)
      refine lv_aload_n hx hb d_Mod_instruction_251 rfl (lv_at hl 10 rfl) ?_
      refine q_cg (q_runV (As := []) (rest := []) S (c_Mod_link l D ti mo am Q w g rb rt rp ro ca va st tr 0 false pk xx rd to) (cw_v hts tb_5_227 k_Mod_link rfl rfl ⟨by decide, by decide⟩) hw 0 rfl rfl rfl hl.1 rfl (Nat.le_of_ble_eq_true rfl) d_Mod_instruction_252 ⟨Nat.zero_le _, Nat.zero_le _⟩) hw (fun _ hD => RMW_D hD) (fun z9 H locs hp9 hw => ?_)
      refine W.eq (g2 := F0 m9 255 ls []) rfl ?_
      have hw : Lv _ _ _ _ _ (RMW mo am ti (va_up Q 38 (lkC (Q 32))) w g rb rt rp ro ca va st tr 0 false pk xx rd to) _ _ _ := hw
      refine lv_aload_n hx hb d_Mod_instruction_255 rfl (lv_at hl 10 rfl) ?_
      refine lv_iload hx hb d_Mod_instruction_256 (lv_at hl 0 rfl) ?_
      cases kj258 : rHo ((va_up Q 38 (lkC (Q 32))) 32) (((Q 32).2.1) + (iIm x)) 4
      · refine q_cg (q_runV (As := [.int (((Q 32).2.1) + (iIm x))]) (rest := []) S (c_Mod_jumpa l D ti mo am (va_up Q 38 (lkC (Q 32))) w g rb rt rp ro ca va st tr 0 pk xx rd to (((Q 32).2.1) + (iIm x)) kj258) (cw_v hts tb_5_235 k_Mod_jump rfl rfl ⟨by decide, by decide⟩) hw 0 rfl rfl rfl hl.1 rfl (Nat.le_of_ble_eq_true rfl) d_Mod_instruction_258 ⟨Nat.zero_le _, Nat.zero_le _⟩) hw (fun _ hD => RMW_D hD) (fun z9 H locs hp9 hw => ?_)
        refine W.eq (g2 := F0 m9 261 ls [.int (jb false)]) rfl ?_
        have hw : Lv _ _ _ _ _ (RMW mo am ti (kTR (va_up Q 38 (lkC (Q 32)))) w g rb rt rp ro 28 1025 st (tr + 1) 0 (kHa 1025 (va_up Q 38 (lkC (Q 32)))) pk xx rd (rTo (kTR (va_up Q 38 (lkC (Q 32))) 32))) _ _ _ := hw
        rw [kHa_38] at hw
        have hw : Lv _ _ _ _ _ (RMW mo am ti (kTR (va_up Q 38 (lkC (Q 32)))) w g rb rt rp ro 28 1025 st (tr + 1) 0 (kHa (1025 : Int32) Q) pk xx rd (rTo (kTR (va_up Q 38 (lkC (Q 32))) 32))) _ _ _ := hw
        refine lv_if_ne hx hb d_Mod_instruction_261 rfl (fun h => absurd h (by decide)) (fun _ => ?_)
        refine lv_iconst (v := 0) hx hb d_Mod_instruction_264 (by decide) ?_
        have ho : kX fv ca va Q w g x = ((28 : Int32), (1025 : Int32), Q, ca, va, w, g) := by rw [kX_111 hc71_111, xJal_a (Q := Q) (x := x) kj258]; first | done | rfl
        exact hw.riz S hr hlk (rfl) d_Mod_instruction_265 ((kTR (va_up Q 38 (lkC (Q 32)))), pk, xx, rd, (rTo (kTR (va_up Q 38 (lkC (Q 32))) 32))) (by rw [ho]; rfl) (by rw [ho]; exact ⟨by rw [rE_t (by decide)]; exact a_kTR (ag_38 _ _), rfl, Or.inr (Or.inr (show ¬ (28 : Int32) < 0 by decide))⟩) (by rw [ho, rE_t (by decide)]; first | done | rfl)
      · by_cases kk258 : ((((Q 32).2.1) + (iIm x)) &&& 3) = 0
        · refine q_cg (q_runV (As := [.int (((Q 32).2.1) + (iIm x))]) (rest := []) S (c_Mod_jumpc l D ti mo am (va_up Q 38 (lkC (Q 32))) w g rb rt rp ro ca va st tr 0 pk xx rd to (((Q 32).2.1) + (iIm x)) kj258 kk258) (cw_v hts tb_5_235 k_Mod_jump rfl rfl ⟨by decide, by decide⟩) hw 0 rfl rfl rfl hl.1 rfl (Nat.le_of_ble_eq_true rfl) d_Mod_instruction_258 ⟨Nat.zero_le _, Nat.zero_le _⟩) hw (fun _ hD => RMW_D hD) (fun z9 H locs hp9 hw => ?_)
          refine W.eq (g2 := F0 m9 261 ls [.int (jb true)]) rfl ?_
          have hw : Lv _ _ _ _ _ (RMW mo am ti (va_up (va_up Q 38 (lkC (Q 32))) 32 (cMvC ((va_up Q 38 (lkC (Q 32))) 32) (((Q 32).2.1) + (iIm x)))) w g rb rt rp ro ca va st tr 0 false pk xx rd to) _ _ _ := hw
          refine lv_if_ne hx hb d_Mod_instruction_261 rfl (fun _ => ?_) (fun h => absurd h (by decide))
          refine lv_aload_n hx hb d_Mod_instruction_266 rfl (lv_at hl 10 rfl) ?_
          refine lv_bipush (v := 38) hx hb d_Mod_instruction_267 (by decide) ?_
          refine lv_iload_n hx hb d_Mod_instruction_269 rfl (lv_at hl 8 rfl) ?_
          refine q_cg (q_runV (As := [.int (38 : Int32), .int (nI (nRd x))]) (rest := []) S (c_Mod_copy l D ti mo am (va_up (va_up Q 38 (lkC (Q 32))) 32 (cMvC ((va_up Q 38 (lkC (Q 32))) 32) (((Q 32).2.1) + (iIm x)))) w g rb rt rp ro ca va st tr 0 false pk xx rd to 38 (nRd x) (by first | decide | omega) (by first | decide | omega)) (cw_v hts tb_5_206 k_Mod_copy rfl rfl ⟨by decide, by decide⟩) hw 0 rfl rfl rfl hl.1 rfl (Nat.le_of_ble_eq_true rfl) d_Mod_instruction_270 ⟨Nat.zero_le _, Nat.zero_le _⟩) hw (fun _ hD => RMW_D hD) (fun z9 H locs hp9 hw => ?_)
          refine W.eq (g2 := F0 m9 273 ls []) rfl ?_
          have hw : Lv _ _ _ _ _ (RMW mo am ti (rSet (va_up (va_up Q 38 (lkC (Q 32))) 32 (cMvC ((va_up Q 38 (lkC (Q 32))) 32) (((Q 32).2.1) + (iIm x)))) (nRd x) ((va_up (va_up Q 38 (lkC (Q 32))) 32 (cMvC ((va_up Q 38 (lkC (Q 32))) 32) (((Q 32).2.1) + (iIm x)))) 38)) w g rb rt rp ro ca va st tr 0 false pk xx rd to) _ _ _ := hw
          refine lv_iconst (v := 0) hx hb d_Mod_instruction_273 (by decide) ?_
          have ho : kX fv ca va Q w g x = ((-2 : Int32), fv, va_up (lkR Q (nRd x)) 32 (cMvC (lkR Q (nRd x) 32) (jY Q x)), ca, va, w, g) := by rw [kX_111 hc71_111, xJal_c (Q := Q) (x := x) kj258 kk258]; first | done | rfl
          exact hw.riz S hr hlk (rfl) d_Mod_instruction_274 ((rSet (va_up (va_up Q 38 (lkC (Q 32))) 32 (cMvC ((va_up Q 38 (lkC (Q 32))) 32) (((Q 32).2.1) + (iIm x)))) (nRd x) ((va_up (va_up Q 38 (lkC (Q 32))) 32 (cMvC ((va_up Q 38 (lkC (Q 32))) 32) (((Q 32).2.1) + (iIm x)))) 38)), pk, xx, rd, to) (by rw [ho]; rfl) (by rw [ho]; exact ⟨by rw [rE_n (by decide)]; exact ag_jal Q x, jal0, Or.inr (Or.inl rfl)⟩) (by rw [ho, rE_n (by decide)]; first | done | rfl)
        · refine q_cg (q_runV (As := [.int (((Q 32).2.1) + (iIm x))]) (rest := []) S (c_Mod_jumpb l D ti mo am (va_up Q 38 (lkC (Q 32))) w g rb rt rp ro ca va st tr 0 pk xx rd to (((Q 32).2.1) + (iIm x)) kj258 kk258) (cw_v hts tb_5_235 k_Mod_jump rfl rfl ⟨by decide, by decide⟩) hw 0 rfl rfl rfl hl.1 rfl (Nat.le_of_ble_eq_true rfl) d_Mod_instruction_258 ⟨Nat.zero_le _, Nat.zero_le _⟩) hw (fun _ hD => RMW_D hD) (fun z9 H locs hp9 hw => ?_)
          refine W.eq (g2 := F0 m9 261 ls [.int (jb false)]) rfl ?_
          have hw : Lv _ _ _ _ _ (RMW mo am ti (kTR (va_up Q 38 (lkC (Q 32)))) w g rb rt rp ro 0 (((Q 32).2.1) + (iIm x)) st (tr + 1) 0 (kHa (((Q 32).2.1) + (iIm x)) (va_up Q 38 (lkC (Q 32)))) pk xx rd (rTo (kTR (va_up Q 38 (lkC (Q 32))) 32))) _ _ _ := hw
          rw [kHa_38] at hw
          have hw : Lv _ _ _ _ _ (RMW mo am ti (kTR (va_up Q 38 (lkC (Q 32)))) w g rb rt rp ro 0 (((Q 32).2.1) + (iIm x)) st (tr + 1) 0 (kHa (((Q 32).2.1) + (iIm x)) Q) pk xx rd (rTo (kTR (va_up Q 38 (lkC (Q 32))) 32))) _ _ _ := hw
          refine lv_if_ne hx hb d_Mod_instruction_261 rfl (fun h => absurd h (by decide)) (fun _ => ?_)
          refine lv_iconst (v := 0) hx hb d_Mod_instruction_264 (by decide) ?_
          have ho : kX fv ca va Q w g x = ((0 : Int32), (((Q 32).2.1) + (iIm x)), Q, ca, va, w, g) := by rw [kX_111 hc71_111, xJal_b (Q := Q) (x := x) kj258 kk258]; first | done | rfl
          exact hw.riz S hr hlk (rfl) d_Mod_instruction_265 ((kTR (va_up Q 38 (lkC (Q 32)))), pk, xx, rd, (rTo (kTR (va_up Q 38 (lkC (Q 32))) 32))) (by rw [ho]; rfl) (by rw [ho]; exact ⟨by rw [rE_t (by decide)]; exact a_kTR (ag_38 _ _), rfl, Or.inr (Or.inr (show ¬ (0 : Int32) < 0 by decide))⟩) (by rw [ho, rE_t (by decide)]; first | done | rfl)
    by_cases hc71_115 : (nI (nOp x)) = (115 : Int32)
    · refine lv_lookup (off := 683) (tgt := 754) hx hb d_Mod_instruction_71 (by decide) (by rw [hc71_115] <;> rfl) rfl ?_
      refine lv_aload_n hx hb d_Mod_instruction_754 rfl (lv_at hl 9 rfl) ?_
      refine lv_iload_n hx hb d_Mod_instruction_755 rfl (lv_at hl 8 rfl) ?_
      refine lv_iload_n hx hb d_Mod_instruction_756 rfl (lv_at hl 7 rfl) ?_
      refine lv_iload_n hx hb d_Mod_instruction_757 rfl (lv_at hl 6 rfl) ?_
      refine lv_iload hx hb d_Mod_instruction_758 (lv_at hl 5 rfl) ?_
      refine lv_iload hx hb d_Mod_instruction_760 (lv_at hl 4 rfl) ?_
      refine q_cg (q_runV (As := [.int x, .int (nI (nRd x)), .int (nI (nFn x)), .int (nI (nR1 x)), .int (nI (nR2 x))]) (rest := []) S (c_Mod_system l D ti mo am Q w g rb rt rp ro ca va st tr 0 pk xx rd to fv x) (cw_v hts tb_6_18 k_Mod_system rfl rfl ⟨by decide, by decide⟩) hw 0 rfl rfl rfl hl.1 rfl (Nat.le_of_ble_eq_true rfl) d_Mod_instruction_762 ⟨Nat.zero_le _, Nat.zero_le _⟩) hw (fun _ hD => RMW_D hD) (fun z104 H locs hp105 hw => ?_)
      refine W.eq (g2 := F0 m9 765 ls [.int (jb (goB (xSy fv ca va Q w g x).1))]) rfl ?_
      have hw : Lv _ _ _ _ _ (RMW mo am ti z104.1 ((rE (xSy fv ca va Q w g x) tr).w) ((rE (xSy fv ca va Q w g x) tr).g) rb rt rp ro ((rE (xSy fv ca va Q w g x) tr).ca) ((rE (xSy fv ca va Q w g x) tr).va) st ((rE (xSy fv ca va Q w g x) tr).tr) 0 ((rE (xSy fv ca va Q w g x) tr).ha) z104.2.1 z104.2.2.1 z104.2.2.2.1 z104.2.2.2.2) _ _ _ := hw
      have ho : kX fv ca va Q w g x = xSy fv ca va Q w g x := kX_115 hc71_115
      exact hw.riz S hr hlk (jb_nar _) d_Mod_instruction_765 z104 (by rw [ho]) (by rw [ho]; exact hp105) (by rw [ho])
    refine lv_lookup (off := 709) (tgt := 780) hx hb d_Mod_instruction_71 (by decide) (by show Op.lookupswitch.offset [(3, 438), (15, 664), (19, 503), (23, 117), (35, 468), (51, 590), (55, 105), (91, 695), (99, 239), (103, 204), (111, 142), (115, 683)] 709 (Int32.toInt (nI (nOp x))) = 709; rw [lv_osw (a := 3) hc71_3 rfl, lv_osw (a := 15) hc71_15 rfl, lv_osw (a := 19) hc71_19 rfl, lv_osw (a := 23) hc71_23 rfl, lv_osw (a := 35) hc71_35 rfl, lv_osw (a := 51) hc71_51 rfl, lv_osw (a := 55) hc71_55 rfl, lv_osw (a := 91) hc71_91 rfl, lv_osw (a := 99) hc71_99 rfl, lv_osw (a := 103) hc71_103 rfl, lv_osw (a := 111) hc71_111 rfl, lv_osw (a := 115) hc71_115 rfl] <;> rfl) rfl ?_
    refine lv_aload_n hx hb d_Mod_instruction_780 rfl (lv_at hl 9 rfl) ?_
    refine lv_iconst (v := 2) hx hb d_Mod_instruction_781 (by decide) ?_
    refine lv_iload_n hx hb d_Mod_instruction_782 rfl (lv_at hl 8 rfl) ?_
    refine q_cg (q_runV (As := [.int (2 : Int32), .int x]) (rest := []) S (c_Mod_trap l D ti mo am Q w g rb rt rp ro ca va st tr 0 pk xx rd to (2 : Int32) x) (cw_v hts tb_5_202 k_Mod_trap rfl rfl ⟨by decide, by decide⟩) hw 0 rfl rfl rfl hl.1 rfl (Nat.le_of_ble_eq_true rfl) d_Mod_instruction_783 ⟨Nat.zero_le _, Nat.zero_le _⟩) hw (fun _ hD => RMW_D hD) (fun z9 H locs hp9 hw => ?_)
    refine W.eq (g2 := F0 m9 786 ls [.int (jb false)]) rfl ?_
    have hw : Lv _ _ _ _ _ (RMW mo am ti (kTR Q) w g rb rt rp ro (2 : Int32) x st (tr + 1) 0 (kHa x Q) pk xx rd (rTo (kTR Q 32))) _ _ _ := hw
    have ho : kX fv ca va Q w g x = ((2 : Int32), x, Q, ca, va, w, g) := by unfold kX xB; rw [if_neg hc71_91, if_neg hc71_3, if_neg hc71_15, if_neg hc71_19, if_neg hc71_23, if_neg hc71_35, if_neg hc71_51, if_neg hc71_55, if_neg hc71_99, if_neg hc71_103, if_neg hc71_111, if_neg hc71_115]
    exact hw.riz S hr hlk (rfl) d_Mod_instruction_786 ((kTR Q), pk, xx, rd, (rTo (kTR Q 32))) (by rw [ho]; rfl) (by rw [ho]; exact ⟨by rw [rE_t (by decide)]; exact fun k _ => rfl, rfl, Or.inr (Or.inr (show ¬ (2 : Int32) < 0 by decide))⟩) (by rw [ho, rE_t (by decide)]; first | done | rfl)
  · refine lv_iload_n hx hb d_Mod_instruction_0 rfl (lv_at hl 1 rfl) ?_
    refine lv_bipush (v := 7) hx hb d_Mod_instruction_1 (by decide) ?_
    refine lv_ishr hx hb d_Mod_instruction_3 ?_
    refine lv_bipush (v := 31) hx hb d_Mod_instruction_4 (by decide) ?_
    refine lv_iand hx hb d_Mod_instruction_6 ?_
    refine q_topi (z := (nI (nRd x))) (d_rd x) ?_
    refine lv_istore_n (lv' := [(2, .int (nI (nRd x))), (0, .ref mo), (1, .int x)]) hx hb d_Mod_instruction_7 rfl hl (by decide) rfl (fun ls hl => ?_)
    refine lv_iload_n hx hb d_Mod_instruction_8 rfl (lv_at hl 2 rfl) ?_
    refine lv_bipush (v := 12) hx hb d_Mod_instruction_9 (by decide) ?_
    refine lv_ishr hx hb d_Mod_instruction_11 ?_
    refine lv_bipush (v := 7) hx hb d_Mod_instruction_12 (by decide) ?_
    refine lv_iand hx hb d_Mod_instruction_14 ?_
    refine q_topi (z := (nI (nFn x))) (d_fn x) ?_
    refine lv_istore_n (lv' := [(3, .int (nI (nFn x))), (2, .int (nI (nRd x))), (0, .ref mo), (1, .int x)]) hx hb d_Mod_instruction_15 rfl hl (by decide) rfl (fun ls hl => ?_)
    refine lv_iload_n hx hb d_Mod_instruction_16 rfl (lv_at hl 3 rfl) ?_
    refine lv_bipush (v := 15) hx hb d_Mod_instruction_17 (by decide) ?_
    refine lv_ishr hx hb d_Mod_instruction_19 ?_
    refine lv_bipush (v := 31) hx hb d_Mod_instruction_20 (by decide) ?_
    refine lv_iand hx hb d_Mod_instruction_22 ?_
    refine q_topi (z := (nI (nR1 x))) (d_r1 x) ?_
    refine lv_istore (lv' := [(4, .int (nI (nR1 x))), (3, .int (nI (nFn x))), (2, .int (nI (nRd x))), (0, .ref mo), (1, .int x)]) hx hb d_Mod_instruction_23 hl (by decide) rfl (fun ls hl => ?_)
    refine lv_iload_n hx hb d_Mod_instruction_25 rfl (lv_at hl 4 rfl) ?_
    refine lv_bipush (v := 20) hx hb d_Mod_instruction_26 (by decide) ?_
    refine lv_ishr hx hb d_Mod_instruction_28 ?_
    refine lv_bipush (v := 31) hx hb d_Mod_instruction_29 (by decide) ?_
    refine lv_iand hx hb d_Mod_instruction_31 ?_
    refine q_topi (z := (nI (nR2 x))) (d_r2 x) ?_
    refine lv_istore (lv' := [(5, .int (nI (nR2 x))), (4, .int (nI (nR1 x))), (3, .int (nI (nFn x))), (2, .int (nI (nRd x))), (0, .ref mo), (1, .int x)]) hx hb d_Mod_instruction_32 hl (by decide) rfl (fun ls hl => ?_)
    refine lv_iload_n hx hb d_Mod_instruction_34 rfl (lv_at hl 5 rfl) ?_
    refine lv_bipush (v := 25) hx hb d_Mod_instruction_35 (by decide) ?_
    refine lv_iushr (v := (jus x (25 : Int32))) hx hb d_Mod_instruction_37 rfl ?_
    refine q_topi (z := (nI (nNb x))) (d_nb x) ?_
    refine lv_istore (lv' := [(6, .int (nI (nNb x))), (5, .int (nI (nR2 x))), (4, .int (nI (nR1 x))), (3, .int (nI (nFn x))), (2, .int (nI (nRd x))), (0, .ref mo), (1, .int x)]) hx hb d_Mod_instruction_38 hl (by decide) rfl (fun ls hl => ?_)
    refine lv_aload_n hx hb d_Mod_instruction_40 rfl (lv_at hl 5 rfl) ?_
    refine q_get S hw ly_Mod 0 rfl rfl 1 (by decide) tb_5_44 rfl rfl d_Mod_instruction_41 ?_
    refine lv_iload hx hb d_Mod_instruction_44 (lv_at hl 2 rfl) ?_
    refine q_ialdN (k := nR1 x) S hw 2 0 rfl rfl (by first | assumption | omega) (by decide) d_Mod_instruction_46 ?_
    refine lv_istore (lv' := [(7, .int ((Q (nR1 x)).2.1)), (6, .int (nI (nNb x))), (5, .int (nI (nR2 x))), (4, .int (nI (nR1 x))), (3, .int (nI (nFn x))), (2, .int (nI (nRd x))), (0, .ref mo), (1, .int x)]) hx hb d_Mod_instruction_47 hl (by decide) rfl (fun ls hl => ?_)
    refine lv_aload_n hx hb d_Mod_instruction_49 rfl (lv_at hl 6 rfl) ?_
    refine q_get S hw ly_Mod 0 rfl rfl 1 (by decide) tb_5_44 rfl rfl d_Mod_instruction_50 ?_
    refine lv_iload hx hb d_Mod_instruction_53 (lv_at hl 2 rfl) ?_
    refine q_ialdN (k := nR2 x) S hw 2 0 rfl rfl (by first | assumption | omega) (by decide) d_Mod_instruction_55 ?_
    refine lv_istore (lv' := [(8, .int ((Q (nR2 x)).2.1)), (7, .int ((Q (nR1 x)).2.1)), (6, .int (nI (nNb x))), (5, .int (nI (nR2 x))), (4, .int (nI (nR1 x))), (3, .int (nI (nFn x))), (2, .int (nI (nRd x))), (0, .ref mo), (1, .int x)]) hx hb d_Mod_instruction_56 hl (by decide) rfl (fun ls hl => ?_)
    refine lv_aload_n hx hb d_Mod_instruction_58 rfl (lv_at hl 7 rfl) ?_
    refine q_get S hw ly_Mod 0 rfl rfl 1 (by decide) tb_5_44 rfl rfl d_Mod_instruction_59 ?_
    refine lv_bipush (v := 32) hx hb d_Mod_instruction_62 (by decide) ?_
    refine q_ialdN (k := 32) S hw 2 0 rfl rfl (by first | assumption | omega) (by decide) d_Mod_instruction_64 ?_
    refine lv_istore (lv' := [(9, .int ((Q 32).2.1)), (8, .int ((Q (nR2 x)).2.1)), (7, .int ((Q (nR1 x)).2.1)), (6, .int (nI (nNb x))), (5, .int (nI (nR2 x))), (4, .int (nI (nR1 x))), (3, .int (nI (nFn x))), (2, .int (nI (nRd x))), (0, .ref mo), (1, .int x)]) hx hb d_Mod_instruction_65 hl (by decide) rfl (fun ls hl => ?_)
    exact J67 (()) _ _ _ (trivial) hw (lv_sub (l' := [(9, .int ((Q 32).2.1)), (8, .int ((Q (nR2 x)).2.1)), (7, .int ((Q (nR1 x)).2.1)), (6, .int (nI (nNb x))), (5, .int (nI (nR2 x))), (4, .int (nI (nR1 x))), (3, .int (nI (nFn x))), (2, .int (nI (nRd x))), (1, .int x), (0, .ref mo)]) hl [0, 1, 2, 3, 4, 5, 6, 7, 9, 8] rfl)
set_option maxHeartbeats 4000000 in
set_option maxRecDepth 100000 in
theorem c_Mod_step (l : Launch) (D : va_G) (ti : Nat → ClassId) (mo : Nat) (am : Nat → Nat) (Q : Nat → Cap) (w g : Nat → Int32) (rb rt : Nat → Int64) (rp : Nat → Int32) (ro ca va st tr : Int32) (pk : Int32) (xx : Bool) (rd : Int64) (to : Int32) (fv : Int32) (h0 : Q 0 = (false, 0, 1000194)) : Cg l y_Mod_step (wl y_Mod_step b_Mod_step 2 none) (rmL 13) D clz (ty4 ti) [.ref mo] (RMW mo am ti Q w g rb rt rp ro ca va st tr 0 false pk xx rd to) (fun z : (Nat → Cap) × Int32 × Bool × Int64 × Int32 => none) (fun z => (RMW mo am ti z.1 ((kStep ((fv, ca, va, Q, w, g, tr, false) : KS)).w) ((kStep ((fv, ca, va, Q, w, g, tr, false) : KS)).g) rb rt rp ro ((kStep ((fv, ca, va, Q, w, g, tr, false) : KS)).ca) ((kStep ((fv, ca, va, Q, w, g, tr, false) : KS)).va) (st + 1) ((kStep ((fv, ca, va, Q, w, g, tr, false) : KS)).tr) 0 ((kStep ((fv, ca, va, Q, w, g, tr, false) : KS)).ha) z.2.1 z.2.2.1 z.2.2.2.1 z.2.2.2.2)) (fun z => ag z.1 (kStep ((fv, ca, va, Q, w, g, tr, false) : KS)).R ∧ z.1 0 = Q 0) := by
  refine Cg.ofF (plainFor_of_name (by decide)) (Nat.le_of_ble_eq_true rfl) ?_
  intro p9 e9 s9 m9 b9 me9 c9 ls S hr hlk hl hw
  obtain ⟨hx, hb, hml, hown, hts⟩ := id S
  have hl : lv_has ls 2 [(0, .ref mo)] := hl
  refine lv_aload_n hx hb d_Mod_step_0 rfl (lv_at hl 0 rfl) ?_
  refine lv_dup hx hb d_Mod_step_1 rfl ?_
  refine q_get S hw ly_Mod 0 rfl rfl 11 (by decide) tb_5_54 rfl rfl d_Mod_step_2 ?_
  refine lv_iconst (v := 1) hx hb d_Mod_step_5 (by decide) ?_
  refine lv_iadd hx hb d_Mod_step_6 ?_
  refine q_put (v := .int (st + (1 : Int32))) S hw ly_Mod t_Mod t_Mod_ok n_Mod 0 rfl rfl 11 (by decide) tb_5_54 rfl rfl rfl rfl (Nat.le_of_ble_eq_true rfl) d_Mod_step_7 (fun H locs hw => ?_)
  have hw : Lv _ _ _ _ _ (RMW mo am ti Q w g rb rt rp ro ca va (st + (1 : Int32)) tr 0 false pk xx rd to) _ _ _ := hw
  refine lv_aload_n hx hb d_Mod_step_10 rfl (lv_at hl 0 rfl) ?_
  refine q_cg (q_runV (As := []) (rest := []) S (c_Mod_stop l D ti mo am Q w g rb rt rp ro ca va (st + (1 : Int32)) tr 0 false pk xx rd to) (cw_v hts tb_5_172 k_Mod_stop rfl rfl ⟨by decide, by decide⟩) hw 0 rfl rfl rfl hl.1 rfl (Nat.le_of_ble_eq_true rfl) d_Mod_step_11 ⟨Nat.zero_le _, Nat.zero_le _⟩) hw (fun _ hD => RMW_D hD) (fun z9 H locs hp9 hw => ?_)
  refine W.eq (g2 := F0 m9 14 ls [.int ((pcF 0 (Q 32)).1)]) rfl ?_
  have hw : Lv _ _ _ _ _ (RMW mo am ti Q w g rb rt rp ro ca va (st + (1 : Int32)) tr 0 false pk xx rd (rTo (Q 32))) _ _ _ := hw
  refine lv_istore_n (lv' := [(1, .int ((pcF 0 (Q 32)).1)), (0, .ref mo)]) hx hb d_Mod_step_14 rfl hl (by decide) rfl (fun ls hl => ?_)
  refine lv_iload_n hx hb d_Mod_step_15 rfl (lv_at hl 0 rfl) ?_
  refine lv_if_lt hx hb d_Mod_step_16 rfl (fun h16 => ?_) (fun h16 => ?_)
  · have hpc : (pcF fv (Q 32)).1 = -1 := by rw [pcF_1 fv 0]; exact (pcF_neg 0 _).mp h16
    obtain ⟨X, hX, eX⟩ := lowX (pc_low hpc).1
    refine lv_aload_n hx hb d_Mod_step_30 rfl (lv_at hl 1 rfl) ?_
    refine lv_aload_n hx hb d_Mod_step_31 rfl (lv_at hl 1 rfl) ?_
    refine q_get S hw ly_Mod 0 rfl rfl 3 (by decide) tb_5_46 rfl rfl d_Mod_step_32 ?_
    refine lv_aload_n hx hb d_Mod_step_35 rfl (lv_at hl 1 rfl) ?_
    refine q_get S hw ly_Mod 0 rfl rfl 1 (by decide) tb_5_44 rfl rfl d_Mod_step_36 ?_
    refine lv_bipush (v := 32) hx hb d_Mod_step_39 (by decide) ?_
    refine q_ialdN (k := 32) S hw 2 0 rfl rfl (by first | assumption | omega) (by decide) d_Mod_step_41 ?_
    refine q_topi (z := (nI X)) (eX) ?_
    refine lv_iconst (v := 4) hx hb d_Mod_step_42 (by decide) ?_
    refine lv_idiv hx hb d_Mod_step_43 (by decide) ?_
    refine q_topi (z := nI (X / 4)) (pk_div (a := X) (d := 4) (by omega) (by decide) (by decide)) ?_
    refine q_ialdN (k := X / 4) S hw 4 0 rfl rfl (by first | assumption | omega) (by decide) d_Mod_step_44 ?_
    refine q_cg (q_runV (As := [.int (w (X / 4))]) (rest := []) S (c_Mod_instruction l D ti mo am Q w g rb rt rp ro ca va (st + (1 : Int32)) tr pk xx rd (rTo (Q 32)) fv (w (X / 4)) h0) (cw_v hts tb_5_210 k_Mod_instruction rfl rfl ⟨by decide, by decide⟩) hw 0 rfl rfl rfl hl.1 rfl (Nat.le_of_ble_eq_true rfl) d_Mod_step_45 ⟨Nat.zero_le _, Nat.zero_le _⟩) hw (fun _ hD => RMW_D hD) (fun z106 H locs hp107 hw => ?_)
    refine W.eq (g2 := F0 m9 48 ls [.int (jb (goB (kX fv ca va Q w g (w (X / 4))).1))]) rfl ?_
    have hw : Lv _ _ _ _ _ (RMW mo am ti z106.1 ((rE (kX fv ca va Q w g (w (X / 4))) tr).w) ((rE (kX fv ca va Q w g (w (X / 4))) tr).g) rb rt rp ro ((rE (kX fv ca va Q w g (w (X / 4))) tr).ca) ((rE (kX fv ca va Q w g (w (X / 4))) tr).va) (st + (1 : Int32)) ((rE (kX fv ca va Q w g (w (X / 4))) tr).tr) 0 ((rE (kX fv ca va Q w g (w (X / 4))) tr).ha) z106.2.1 z106.2.2.1 z106.2.2.2.1 z106.2.2.2.2) _ _ _ := hw
    generalize hgo : kX fv ca va Q w g (w (X / 4)) = o9 at hw hp107 ⊢
    have hp107 : ag z106.1 (rE o9 tr).R ∧ z106.1 0 = Q 0 ∧ okC o9.1 := hp107
    generalize hgs : rE o9 tr = s9 at hw hp107
    have hw : Lv _ _ _ _ _ (RMW mo am ti z106.1 s9.w s9.g rb rt rp ro s9.ca s9.va (st + (1 : Int32)) s9.tr 0 s9.ha z106.2.1 z106.2.2.1 z106.2.2.2.1 z106.2.2.2.2) _ _ _ := hw
    refine q_ifz_eq S d_Mod_step_48 rfl (fun h48 => ?_) (fun h48 => ?_)
    · have hk : kStep ((fv, ca, va, Q, w, g, tr, false) : KS) = s9 := by rw [← hgs, ← hgo]; exact st_1 hpc hX eX (by rw [hgo]; exact h48) (by rw [hgo]; exact hp107.2.2)
      exact hw.rv S hr hlk d_Mod_step_68 (z106.1, z106.2.1, z106.2.2.1, z106.2.2.2.1, z106.2.2.2.2) (rfl) (by rw [hk]; exact ⟨hp107.1, hp107.2.1⟩) (by rw [hk]; first | done | rfl)
    · refine lv_aload_n hx hb d_Mod_step_51 rfl (lv_at hl 1 rfl) ?_
      refine lv_bipush (v := 32) hx hb d_Mod_step_52 (by decide) ?_
      refine lv_aload_n hx hb d_Mod_step_54 rfl (lv_at hl 1 rfl) ?_
      refine q_get S hw ly_Mod 0 rfl rfl 1 (by decide) tb_5_44 rfl rfl d_Mod_step_55 ?_
      refine lv_bipush (v := 32) hx hb d_Mod_step_58 (by decide) ?_
      refine q_ialdN (k := 32) S hw 2 0 rfl rfl (by first | assumption | omega) (by decide) d_Mod_step_60 ?_
      refine lv_iconst (v := 4) hx hb d_Mod_step_61 (by decide) ?_
      refine lv_iadd hx hb d_Mod_step_62 ?_
      refine lv_bipush (v := 32) hx hb d_Mod_step_63 (by decide) ?_
      refine q_cg (q_runV (As := [.int (32 : Int32), .int (((z106.1 32).2.1) + (4 : Int32)), .int (32 : Int32)]) (rest := []) S (c_Mod_moved l D ti mo am z106.1 s9.w s9.g rb rt rp ro s9.ca s9.va (st + (1 : Int32)) s9.tr 0 s9.ha z106.2.1 z106.2.2.1 z106.2.2.2.1 z106.2.2.2.2 32 (by first | decide | omega) (((z106.1 32).2.1) + (4 : Int32)) 32 (by first | decide | omega)) (cw_v hts tb_5_218 k_Mod_moved rfl rfl ⟨by decide, by decide⟩) hw 0 rfl rfl rfl hl.1 rfl (Nat.le_of_ble_eq_true rfl) d_Mod_step_65 ⟨Nat.zero_le _, Nat.zero_le _⟩) hw (fun _ hD => RMW_D hD) (fun z9 H locs hp9 hw => ?_)
      refine W.eq (g2 := F0 m9 68 ls []) rfl ?_
      have hw : Lv _ _ _ _ _ (RMW mo am ti (rSet z106.1 32 (cMvC (z106.1 32) (((z106.1 32).2.1) + (4 : Int32)))) s9.w s9.g rb rt rp ro s9.ca s9.va (st + (1 : Int32)) s9.tr 0 s9.ha z106.2.1 z106.2.2.1 z106.2.2.2.1 z106.2.2.2.2) _ _ _ := hw
      have hk : kStep ((fv, ca, va, Q, w, g, tr, false) : KS) = kNext s9 := by rw [← hgs, ← hgo]; exact st_2 hpc hX eX (by rw [hgo]; exact h48)
      exact hw.rv S hr hlk d_Mod_step_68 ((rSet z106.1 32 (cMvC (z106.1 32) (((z106.1 32).2.1) + (4 : Int32)))), z106.2.1, z106.2.2.1, z106.2.2.2.1, z106.2.2.2.2) (rfl) (by rw [hk]; exact ⟨st_nx hp107.1, (rS0 z106.1 32 (cMvC (z106.1 32) ((z106.1 32).2.1 + 4))).trans hp107.2.1⟩) (by rw [hk]; exact RMW_nx _)
  · generalize hc9 : (pcF 0 (Q 32)).1 = c9 at h16 hl ⊢
    generalize ht9 : rTo (Q 32) = t9 at hw
    have hl : lv_has ls 2 [(1, .int c9), (0, .ref mo)] := hl
    have hw : Lv _ _ _ _ _ (RMW mo am ti Q w g rb rt rp ro ca va (st + (1 : Int32)) tr 0 false pk xx rd t9) _ _ _ := hw
    refine lv_aload_n hx hb d_Mod_step_19 rfl (lv_at hl 1 rfl) ?_
    refine lv_iload_n hx hb d_Mod_step_20 rfl (lv_at hl 0 rfl) ?_
    refine lv_aload_n hx hb d_Mod_step_21 rfl (lv_at hl 1 rfl) ?_
    refine q_get S hw ly_Mod 0 rfl rfl 18 (by decide) tb_5_61 rfl rfl d_Mod_step_22 ?_
    refine q_cg (q_runV (As := [.int c9, .int t9]) (rest := []) S (c_Mod_trap l D ti mo am Q w g rb rt rp ro ca va (st + (1 : Int32)) tr 0 pk xx rd t9 c9 t9) (cw_v hts tb_5_202 k_Mod_trap rfl rfl ⟨by decide, by decide⟩) hw 0 rfl rfl rfl hl.1 rfl (Nat.le_of_ble_eq_true rfl) d_Mod_step_25 ⟨Nat.zero_le _, Nat.zero_le _⟩) hw (fun _ hD => RMW_D hD) (fun z9 H locs hp9 hw => ?_)
    refine W.eq (g2 := F0 m9 28 ls [.int (jb false)]) rfl ?_
    have hw : Lv _ _ _ _ _ (RMW mo am ti (kTR Q) w g rb rt rp ro c9 t9 (st + (1 : Int32)) (tr + 1) 0 (kHa t9 Q) pk xx rd (rTo (kTR Q 32))) _ _ _ := hw
    refine lv_pop hx hb d_Mod_step_28 rfl ?_
    have hk : kStep ((fv, ca, va, Q, w, g, tr, false) : KS) = kTrap c9 (t9, ca, va, Q, w, g, tr, false) := by rw [← hc9, ← ht9]; exact st_3 (by rw [hc9]; exact h16)
    exact hw.rv S hr hlk d_Mod_step_29 ((kTR Q), pk, xx, rd, (rTo (kTR Q 32))) (rfl) (by rw [hk]; exact ⟨fun k _ => rfl, rfl⟩) (by rw [hk]; first | done | rfl)
set_option maxHeartbeats 4000000 in
set_option maxRecDepth 100000 in
theorem c_Mod_run (l : Launch) (D : va_G) (ti : Nat → ClassId) (mo : Nat) (am : Nat → Nat) (Q : Nat → Cap) (w g : Nat → Int32) (rb rt : Nat → Int64) (rp : Nat → Int32) (ro ca va st tr th : Int32) (pk : Int32) (xx : Bool) (rd : Int64) (to : Int32) (fv : Int32) (R : Nat → Cap) (hR : ag Q R) (h0 : Q 0 = (false, 0, 1000194)) (n : Nat) (h1 : 1 ≤ n) (h2 : n ≤ 10000) : Cg l y_Mod_run (wl y_Mod_run b_Mod_run 3 (some .int)) (rmL 14) D clz (ty4 ti) [.ref mo, .int (nI n)] (RMW mo am ti Q w g rb rt rp ro ca va st tr th false pk xx rd to) (fun z : (Nat → Cap) × Int32 × Bool × Int64 × Int32 => some (.int (nI (kIt n ((fv, ca, va, R, w, g, tr, false) : KS)).1))) (fun z => (RMW mo am ti z.1 ((kIt n ((fv, ca, va, R, w, g, tr, false) : KS)).2.w) ((kIt n ((fv, ca, va, R, w, g, tr, false) : KS)).2.g) rb rt rp ro ((kIt n ((fv, ca, va, R, w, g, tr, false) : KS)).2.ca) ((kIt n ((fv, ca, va, R, w, g, tr, false) : KS)).2.va) (st + nI (kIt n ((fv, ca, va, R, w, g, tr, false) : KS)).1) ((kIt n ((fv, ca, va, R, w, g, tr, false) : KS)).2.tr) 0 ((kIt n ((fv, ca, va, R, w, g, tr, false) : KS)).2.ha) z.2.1 z.2.2.1 z.2.2.2.1 z.2.2.2.2)) (fun z => ag z.1 (kIt n ((fv, ca, va, R, w, g, tr, false) : KS)).2.R ∧ z.1 0 = (false, 0, 1000194)) := by
  refine Cg.ofF (plainFor_of_name (by decide)) (Nat.le_of_ble_eq_true rfl) ?_
  intro p9 e9 s9 m9 b9 me9 c9 ls S hr hlk hl hw
  obtain ⟨hx, hb, hml, hown, hts⟩ := id S
  have hl : lv_has ls 3 [(0, .ref mo), (1, .int (nI n))] := hl
  refine lv_iload_n hx hb d_Mod_run_0 rfl (lv_at hl 1 rfl) ?_
  refine lv_iconst (v := 1) hx hb d_Mod_run_1 (by decide) ?_
  refine lv_icmp_lt hx hb d_Mod_run_2 rfl (fun h => absurd h (nI_nlt (a := n) (b := 1) h1 (by omega))) (fun _ => ?_)
  refine lv_iload_n hx hb d_Mod_run_5 rfl (lv_at hl 1 rfl) ?_
  refine lv_sipush (v := 10000) hx hb d_Mod_run_6 (by decide) ?_
  refine lv_icmp_le hx hb d_Mod_run_9 rfl (fun _ => ?_) (fun h => absurd h (not_not_intro (nI_le (a := n) (b := 10000) h2 (by decide))))
  refine lv_aload_n hx hb d_Mod_run_18 rfl (lv_at hl 0 rfl) ?_
  refine q_get S hw ly_Mod 0 rfl rfl 14 (by decide) tb_5_57 rfl rfl d_Mod_run_19 ?_
  refine lv_if_eq hx hb d_Mod_run_22 rfl (fun _ => ?_) (fun h => absurd h (by decide))
  refine lv_aload_n hx hb d_Mod_run_31 rfl (lv_at hl 0 rfl) ?_
  refine lv_iconst (v := 0) hx hb d_Mod_run_32 (by decide) ?_
  refine q_put (v := .int (0 : Int32)) S hw ly_Mod t_Mod t_Mod_ok n_Mod 0 rfl rfl 13 (by decide) tb_5_56 rfl rfl rfl rfl (Nat.le_of_ble_eq_true rfl) d_Mod_run_33 (fun H locs hw => ?_)
  have hw : Lv _ _ _ _ _ (RMW mo am ti Q w g rb rt rp ro ca va st tr (0 : Int32) false pk xx rd to) _ _ _ := hw
  refine lv_iconst (v := 0) hx hb d_Mod_run_36 (by decide) ?_
  refine lv_istore_n (lv' := [(2, .int (0 : Int32)), (0, .ref mo), (1, .int (nI n))]) hx hb d_Mod_run_37 rfl hl (by decide) rfl (fun ls hl => ?_)
  refine q_loopH (Z := Nat × KS × (Nat → Cap) × Int32 × Bool × Int64 × Int32) (pcL := 38) (st := []) (nL := 3) (fun z => [(2, .int (nI z.1)), (1, .int (nI n)), (0, .ref mo)]) (fun z => (RMW mo am ti z.2.2.1 z.2.1.w z.2.1.g rb rt rp ro z.2.1.ca z.2.1.va (st + nI z.1) z.2.1.tr 0 z.2.1.ha z.2.2.2.1 z.2.2.2.2.1 z.2.2.2.2.2.1 z.2.2.2.2.2.2)) (fun z => z.1 ≤ n ∧ (kIt n ((fv, ca, va, R, w, g, tr, false) : KS)) = ((kIt (n - z.1) z.2.1).1 + z.1, (kIt (n - z.1) z.2.1).2) ∧ ag z.2.2.1 z.2.1.R ∧ z.2.2.1 0 = (false, 0, 1000194)) (fun z => n - z.1) (fun z H locs ls hI38 hw hl IH38 => ?_) (0, ((fv, ca, va, R, w, g, tr, false) : KS), Q, pk, xx, rd, to) (⟨Nat.zero_le _, rfl, hR, h0⟩) (hw.same (by rw [show st + nI 0 = st from Int32.add_zero st])) (q_loc (l' := [(2, .int (nI 0)), (1, .int (nI n)), (0, .ref mo)]) (lv_sub (l' := [(2, .int (0 : Int32)), (1, .int (nI n)), (0, .ref mo)]) hl [0, 2, 1] rfl) (rfl))
  have hI : z.1 ≤ n ∧ (kIt n ((fv, ca, va, R, w, g, tr, false) : KS)) = ((kIt (n - z.1) z.2.1).1 + z.1, (kIt (n - z.1) z.2.1).2) ∧ ag z.2.2.1 z.2.1.R ∧ z.2.2.1 0 = (false, 0, 1000194) := hI38
  have hw : Lv _ _ _ _ _ (RMW mo am ti z.2.2.1 z.2.1.w z.2.1.g rb rt rp ro z.2.1.ca z.2.1.va (st + nI z.1) z.2.1.tr 0 z.2.1.ha z.2.2.2.1 z.2.2.2.2.1 z.2.2.2.2.2.1 z.2.2.2.2.2.2) _ _ _ := hw
  have hl : lv_has ls 3 [(2, .int (nI z.1)), (1, .int (nI n)), (0, .ref mo)] := hl
  refine lv_iload_n hx hb d_Mod_run_38 rfl (lv_at hl 0 rfl) ?_
  refine lv_iload_n hx hb d_Mod_run_39 rfl (lv_at hl 1 rfl) ?_
  refine lv_icmp_ge hx hb d_Mod_run_40 rfl (fun h40 => ?_) (fun h40 => ?_)
  · have eR : (kIt n ((fv, ca, va, R, w, g, tr, false) : KS)) = (z.1, z.2.1) := by have e9 : n - z.1 = 0 := (by have := (nI_leI (a := n) (b := z.1) (by omega) (by omega)).mp h40; omega); rw [hI.2.1, e9, show kIt 0 z.2.1 = (0, z.2.1) from rfl, Nat.zero_add]
    refine lv_iload_n hx hb d_Mod_run_60 rfl (lv_at hl 0 rfl) ?_
    exact hw.riz S hr hlk (rfl) d_Mod_run_61 z.2.2 (by rw [eR]) (by rw [eR]; exact hI.2.2) (by rw [eR])
  · have hz := lt_nge (c := n) (by omega) hI.1 h40
    refine lv_aload_n hx hb d_Mod_run_43 rfl (lv_at hl 2 rfl) ?_
    refine q_get S hw ly_Mod 0 rfl rfl 14 (by decide) tb_5_57 rfl rfl d_Mod_run_44 ?_
    refine q_ifz_ne S d_Mod_run_47 rfl (fun h47 => ?_) (fun h47 => ?_)
    · have eR : (kIt n ((fv, ca, va, R, w, g, tr, false) : KS)) = (z.1, z.2.1) := by rw [hI.2.1, kIt_h h47, Nat.zero_add]
      refine lv_iload_n hx hb d_Mod_run_60 rfl (lv_at hl 0 rfl) ?_
      exact hw.riz S hr hlk (rfl) d_Mod_run_61 z.2.2 (by rw [eR]) (by rw [eR]; exact hI.2.2) (by rw [eR])
    · refine lv_aload_n hx hb d_Mod_run_50 rfl (lv_at hl 2 rfl) ?_
      have hw : Lv _ _ _ _ _ (RMW mo am ti z.2.2.1 z.2.1.w z.2.1.g rb rt rp ro z.2.1.ca z.2.1.va (st + nI z.1) z.2.1.tr 0 false z.2.2.2.1 z.2.2.2.2.1 z.2.2.2.2.2.1 z.2.2.2.2.2.2) _ _ _ := hw.same (by rw [h47])
      refine q_cg (q_runV (As := []) (rest := []) S (c_Mod_step l D ti mo am z.2.2.1 z.2.1.w z.2.1.g rb rt rp ro z.2.1.ca z.2.1.va (st + nI z.1) z.2.1.tr z.2.2.2.1 z.2.2.2.2.1 z.2.2.2.2.2.1 z.2.2.2.2.2.2 z.2.1.fv hI.2.2.2) (cw_v hts tb_5_168 k_Mod_step rfl rfl ⟨by decide, by decide⟩) hw 0 rfl rfl rfl hl.1 rfl (Nat.le_of_ble_eq_true rfl) d_Mod_run_51 ⟨Nat.zero_le _, Nat.zero_le _⟩) hw (fun _ hD => RMW_D hD) (fun z108 H locs hp109 hw => ?_)
      have hE : eK (kStep ((z.2.1.fv, z.2.1.ca, z.2.1.va, z.2.2.1, z.2.1.w, z.2.1.g, z.2.1.tr, false) : KS)) (kStep z.2.1) := kStep_ag ⟨rfl, rfl, rfl, hI.2.2.1, rfl, rfl, rfl, h47.symm⟩
      refine W.eq (g2 := F0 m9 54 ls []) rfl ?_
      have hw : Lv _ _ _ _ _ (RMW mo am ti z108.1 ((kStep z.2.1).w) ((kStep z.2.1).g) rb rt rp ro ((kStep z.2.1).ca) ((kStep z.2.1).va) ((st + nI z.1) + 1) ((kStep z.2.1).tr) 0 ((kStep z.2.1).ha) z108.2.1 z108.2.2.1 z108.2.2.2.1 z108.2.2.2.2) _ _ _ := hw.same (by rw [hE.2.1, hE.2.2.1, hE.2.2.2.2.1, hE.2.2.2.2.2.1, hE.2.2.2.2.2.2.1, hE.2.2.2.2.2.2.2])
      refine lv_iinc (k := 0) (v := (nI (z.1 + 1))) (lv' := [(2, .int (nI (z.1 + 1))), (1, .int (nI n)), (0, .ref mo)]) hx hb d_Mod_run_54 hl rfl (iinc1 z.1) (by decide) rfl (fun ls hl => ?_)
      refine lv_goto hx hb d_Mod_run_57 rfl ?_
      have hw : Lv _ _ _ _ _ (RMW mo am ti z108.1 ((kStep z.2.1).w) ((kStep z.2.1).g) rb rt rp ro ((kStep z.2.1).ca) ((kStep z.2.1).va) (st + nI (z.1 + 1)) ((kStep z.2.1).tr) 0 ((kStep z.2.1).ha) z108.2.1 z108.2.2.1 z108.2.2.2.1 z108.2.2.2.2) _ _ _ := hw.same (by rw [nI_succ, ← Int32.add_assoc])
      exact IH38 (z.1 + 1, kStep z.2.1, z108) _ _ _ (⟨hz, by rw [hI.2.1, kIt_s hz h47], fun k hk => (hp109.1 k hk).trans (hE.2.2.2.1 k hk), hp109.2.trans hI.2.2.2⟩) (by show n - (z.1 + 1) < n - z.1; omega) hw (lv_sub (l' := [(2, .int (nI (z.1 + 1))), (1, .int (nI n)), (0, .ref mo)]) hl [0, 1, 2] rfl)
