/-! The law's start. -/
theorem kn_of {s : State} {args : Array Value} (hts : ∀ w ∈ TB, w.before args s = true) : ∀ (c : Nat) (q : vw_C), clz[c]? = some q → ∃ (cC : ClassId) (iS : Nat → Nat), u_Kn s q.1 q.2.1 q.2.2 cC iS
  | 0, q, hq => by cases hq; exact u_known hts ly_Cap (hts _ tb_1_38)
  | 1, q, hq => by cases hq; exact u_known hts ly_Pk (hts _ tb_2_28)
  | 2, q, hq => by cases hq; exact u_known hts ly_Dir (hts _ tb_1_101)
  | 3, q, hq => by cases hq; exact u_known hts ly_Tag (hts _ tb_1_80)
  | 4, q, hq => by cases hq; exact u_known hts ly_Mem (hts _ tb_1_74)
  | 5, q, hq => by cases hq; exact u_known hts ly_Ins (hts _ tb_1_140)
  | 6, q, hq => by cases hq; exact u_known hts ly_Pip (hts _ tb_1_134)
  | 7, q, hq => by cases hq; exact u_known hts ly_Sta (hts _ tb_1_31)
  | 8, q, hq => by cases hq; exact u_known hts ly_Bas (hts _ tb_2_7)
  | 9, q, hq => by cases hq; exact u_known hts ly_Cun (hts _ tb_2_22)
  | 10, q, hq => by cases hq; exact u_known hts ly_Cor (hts _ tb_1_23)
  | 11, q, hq => by cases hq; exact u_known hts ly_Mod (hts _ tb_5_37)
  | n + 12, q, hq => by cases hq
theorem k_arr {s : State} {args : Array Value} {ty : FieldType} (h : (Cond.arrayClass ty).before args s = true) : ∃ cA : ClassId, ArrOfT s cA ty ∧ s.vm.findClass ("[" ++ ty.toString) = some cA := by
  obtain ⟨cA, kA, comp, h1, h2, h3⟩ := Cond.arrayClass_spec h
  exact ⟨cA, fun N z => ⟨(fun k h => by cases h), kA, h2, comp, h3⟩, h1⟩
theorem k_arrO {s : State} {C : String} (h : va_AO C s) : ∃ cA : ClassId, ArrOfT s cA (.object C) ∧ va_RA s cA (.object C) := by
  obtain ⟨comp, cA, kA, h1, -, h3, h4, h5⟩ := Cond.arrayOver_spec h
  exact ⟨cA, fun N z => ⟨(fun k h => by cases h), kA, h3, comp, h4⟩, kA, comp, h3, h4, h1, h5⟩
theorem k_start {s : State} {args : Array Value} (hts : ∀ w ∈ TB, w.before args s = true) (hO : va_AO "CheriCore$Capability" s) : ∃ (D : va_G) (ti : Nat → ClassId), va_K D clz (ty4 ti) s := by
  have h0 : ∀ c : Nat, ∃ x : ClassId × (Nat → Nat), ∀ q : vw_C, clz[c]? = some q → u_Kn s q.1 q.2.1 q.2.2 x.1 x.2 := by
    intro c
    cases hc : clz[c]? with
    | none => exact ⟨(default, fun _ => 0), fun q hq => by cases hq⟩
    | some q =>
      obtain ⟨cC, iS, h⟩ := kn_of hts c q hc
      exact ⟨(cC, iS), fun q' hq => by cases hq; exact h⟩
  obtain ⟨f, hf⟩ := Classical.skolem.mp h0
  obtain ⟨c0, a0, e0⟩ := k_arr (hts _ tb_1_98)
  obtain ⟨c1, a1, e1⟩ := k_arr (hts _ tb_1_99)
  obtain ⟨c2, a2, e2⟩ := k_arr (hts _ tb_5_101)
  obtain ⟨c3, a3, e3⟩ := k_arrO hO
  refine ⟨(fun c => (f c).1, fun c => (f c).2), (fun k => match k with | 0 => c0 | 1 => c1 | 2 => c2 | _ => c3), fun c q hq => hf c q hq, fun k q hk => ?_⟩
  match k, hk with
  | 0, hk => cases hk; exact ⟨a0, e0⟩
  | 1, hk => cases hk; exact ⟨a1, e1⟩
  | 2, hk => cases hk; exact ⟨a2, e2⟩
  | 3, hk => cases hk; exact ⟨a3, e3⟩
  | n + 4, hk => cases hk
def gvs : List Cond := [.isRef (.static "java/lang/Throwable" "UNASSIGNED_STACK" "[Ljava/lang/StackTraceElement;"), .isRef (.static "java/lang/Throwable" "SUPPRESSED_SENTINEL" "Ljava/util/List;")]
theorem ow_1 : ∀ a ∈ Bundle.ownAtoms "CheriCore" 58 X1 exN, a ∈ lw_tbl ∨ a ∈ gvs := by decide +kernel
theorem ow_2 : ∀ a ∈ Bundle.ownAtoms "CheriCore" 95 X2 exN, a ∈ lw_tbl ∨ a ∈ gvs := by decide +kernel
theorem ow_3 : ∀ a ∈ Bundle.ownAtoms "CheriCore" 104 X3 exN, a ∈ lw_tbl ∨ a ∈ gvs := by decide +kernel
theorem nl_tb : ∀ w ∈ NL, w ∈ lw_tbl := by decide +kernel
theorem ao_tb : Cond.arrayOver (.object "CheriCore$Capability") ∈ lw_tbl := by decide +kernel
theorem gvs_in : ∀ a ∈ gvs, a ∈ flatC (Jvm.Cond.and given_1 narrow_1) := by decide +kernel
theorem nc_21 : Cond.not (.castable X2 X1) ∈ flatC (Jvm.Cond.and given_1 narrow_1) := by decide +kernel
theorem nc_31 : Cond.not (.castable X3 X1) ∈ flatC (Jvm.Cond.and given_1 narrow_1) := by decide +kernel
theorem nc_32 : Cond.not (.castable X3 X2) ∈ flatC (Jvm.Cond.and given_1 narrow_1) := by decide +kernel
theorem tw_of {ic ix : Nat} {X tx : String} {s : State} {A0 : Array Value} (ho : own_ok ic X) (hw : ∀ a ∈ Bundle.ownAtoms "CheriCore" ic X exN, a ∈ lw_tbl ∨ a ∈ gvs) (hts : ∀ w ∈ lw_tbl, w.before A0 s = true) (hg : ∀ c ∈ flatC (Jvm.Cond.and given_1 narrow_1), c.before A0 s = true)
    (h1 : Cond.stringRef "CheriCore" ix tx ∈ lw_tbl) (h2 : Cond.exactly (.string "CheriCore" ix) "java/lang/String" ∈ flatC (Jvm.Cond.and given_1 narrow_1)) : TW ic X ix tx s := by
  obtain ⟨a, -, -, -, ha, -⟩ := Cond.exactly_spec (hg _ h2)
  refine ⟨fun A => Jvm.Free.rideK_all (a := A0) (State.WarmedH.refl s) (fun ad cell hc _ => hc) ho (fun w hw1 => (hw w hw1).elim (hts w) (fun h => hg w (gvs_in w h))), a, vk_R.of (hts _ h1) ha⟩
theorem sr_56 : Cond.stringRef "CheriCore" 56 "no such word" ∈ lw_tbl := by decide +kernel
theorem se_56 : Cond.exactly (.string "CheriCore" 56) "java/lang/String" ∈ flatC (Jvm.Cond.and given_1 narrow_1) := by decide +kernel
theorem sr_85 : Cond.stringRef "CheriCore" 85 "no such register" ∈ lw_tbl := by decide +kernel
theorem se_85 : Cond.exactly (.string "CheriCore" 85) "java/lang/String" ∈ flatC (Jvm.Cond.and given_1 narrow_1) := by decide +kernel
theorem sr_93 : Cond.stringRef "CheriCore" 93 "no such root" ∈ lw_tbl := by decide +kernel
theorem se_93 : Cond.exactly (.string "CheriCore" 93) "java/lang/String" ∈ flatC (Jvm.Cond.and given_1 narrow_1) := by decide +kernel
theorem sr_102 : Cond.stringRef "CheriCore" 102 "there are eight roots" ∈ lw_tbl := by decide +kernel
theorem se_102 : Cond.exactly (.string "CheriCore" 102) "java/lang/String" ∈ flatC (Jvm.Cond.and given_1 narrow_1) := by decide +kernel
theorem sr_131 : Cond.stringRef "CheriCore" 131 "no such number of steps" ∈ lw_tbl := by decide +kernel
theorem se_131 : Cond.exactly (.string "CheriCore" 131) "java/lang/String" ∈ flatC (Jvm.Cond.and given_1 narrow_1) := by decide +kernel
theorem sr_137 : Cond.stringRef "CheriCore" 137 "the machine is halted" ∈ lw_tbl := by decide +kernel
theorem se_137 : Cond.exactly (.string "CheriCore" 137) "java/lang/String" ∈ flatC (Jvm.Cond.and given_1 narrow_1) := by decide +kernel
theorem sr_161 : Cond.stringRef "CheriCore" 161 "nothing of that number is told" ∈ lw_tbl := by decide +kernel
theorem se_161 : Cond.exactly (.string "CheriCore" 161) "java/lang/String" ∈ flatC (Jvm.Cond.and given_1 narrow_1) := by decide +kernel
theorem sr_184 : Cond.stringRef "CheriCore" 184 "nothing of that number is counted" ∈ lw_tbl := by decide +kernel
theorem se_184 : Cond.exactly (.string "CheriCore" 184) "java/lang/String" ∈ flatC (Jvm.Cond.and given_1 narrow_1) := by decide +kernel
theorem sr_186 : Cond.stringRef "CheriCore" 186 "beyond the space of addresses" ∈ lw_tbl := by decide +kernel
theorem se_186 : Cond.exactly (.string "CheriCore" 186) "java/lang/String" ∈ flatC (Jvm.Cond.and given_1 narrow_1) := by decide +kernel
theorem za_of {s : State} {A0 : Array Value} (hts : ∀ w ∈ lw_tbl, w.before A0 s = true) (hg : ∀ c ∈ flatC (Jvm.Cond.and given_1 narrow_1), c.before A0 s = true) : ZA s :=
  ⟨tw_of own_1 ow_1 hts hg sr_56 se_56, tw_of own_1 ow_1 hts hg sr_85 se_85, tw_of own_2 ow_2 hts hg sr_93 se_93, tw_of own_3 ow_3 hts hg sr_102 se_102, tw_of own_2 ow_2 hts hg sr_131 se_131, tw_of own_3 ow_3 hts hg sr_137 se_137, tw_of own_2 ow_2 hts hg sr_161 se_161, tw_of own_2 ow_2 hts hg sr_184 se_184, tw_of own_2 ow_2 hts hg sr_186 se_186, fun _ => hg _ nc_21, fun _ => hg _ nc_31, fun _ => hg _ nc_32⟩
theorem nw_of {s : State} {A0 : Array Value} (hts : ∀ w ∈ lw_tbl, w.before A0 s = true) : NW s := by
  refine ⟨fun w hw => ?_, va_AO.of (hts _ ao_tb)⟩
  obtain ⟨a, i, x, h, rfl⟩ := NL_n w hw
  exact va_Nw.of rfl (hts _ (nl_tb _ hw))
set_option maxHeartbeats 4000000 in
set_option maxRecDepth 100000 in
theorem L_start {p9 : Program} {l : Launch} {e9 : Env} {s9 : State} {m9 : MethodId} {b9 : List Frame} {me9 : Method} {c9 : Code} {b L : Nat} {xs : Nat → Int32} {D : va_G} {ti : Nat → ClassId} (S : CallFix p9 m9 c9 code 7 s9 #[Value.ref b] TB "CheriCoreLaw") (hr : me9.sig.returnType = ret) (hlk : me9.locks = false) (hX : va_X b L xs s9 s9.heap) (hbl : b < s9.heap.size) (hN : NW s9) (hZ : ZA s9) (hL : L ≤ 2560) (htr : ∀ e, l.admits e → e.platform.stackTraces = false) (hKn : va_K D clz (ty4 ti) s9)
    {ls : Array Slot} (hl : lv_has ls 7 [(0, .ref b)]) : W p9 l e9 room_1 s9 m9 #[Value.ref b] b9 me9 c9 s9.heap [] 0 0 (lw_Z b9 #[Value.ref b] s9) (F0 m9 0 ls []) := by
  obtain ⟨hx, hb, hml, hown, hts⟩ := id S
  have hA : ∀ q, s9.heap.size ≤ q → AL s9 q := fun q h => h
  have hw : Lv D clz (ty4 ti) (AL s9) s9.heap [] s9 s9.heap [] := ⟨(fun k q h => by cases h), hKn, ⟨(fun i j p q h _ _ => by cases h), (fun k q h => by cases h)⟩, va_S.rf⟩
  refine q_new (ci := 10) (fs := [.null, .null, .null, .null, .null, .null, .int (0 : Int32), .int (0 : Int32), .int (0 : Int32), .int (0 : Int32)]) (C := "CheriCore") (T := F_Cor) (N := 10) S hw hA ly_Cor t_Cor t_Cor_ok tb_1_22 tb_1_23 tb_1_1 rfl (fun j hj => by rcases (show j = 0 ∨ j = 1 ∨ j = 2 ∨ j = 3 ∨ j = 4 ∨ j = 5 ∨ j = 6 ∨ j = 7 ∨ j = 8 ∨ j = 9 by omega) with rfl | rfl | rfl | rfl | rfl | rfl | rfl | rfl | rfl | rfl <;> rfl) (Nat.le_of_ble_eq_true rfl) (Nat.le_of_ble_eq_true rfl) d_Law_law_0 (fun co H hw => ?_)
  refine lv_dup hx hb d_Law_law_3 rfl ?_
  have hw : Lv _ _ _ _ _ [(co, .inr (10, [.null, .null, .null, .null, .null, .null, .int (0 : Int32), .int (0 : Int32), .int (0 : Int32), .int (0 : Int32)]))] _ _ _ := hw
  refine q_cnW (q_runW (As := []) (rest := [.ref co]) S (c_Cor_init l D ti H.size co) (cw_i hts tb_1_24 k_Cor_init rfl rfl ⟨by decide, by decide⟩) hw hN rfl hl.1 rfl (Nat.le_of_ble_eq_true rfl) d_Law_law_4 ⟨Nat.le_of_ble_eq_true rfl, Nat.le_of_ble_eq_true rfl⟩) hw hA (fun u H locs hMu hw => ?_)
  refine W.eq (g2 := F0 m9 7 ls [.ref co]) rfl ?_
  have hw : Lv _ _ _ _ _ (CW u.1 ti u.2.1 u.2.2.1 u.2.2.2.1 u.2.2.2.2.1 (-1) 0 (-1) 0 (-1) 0 u.2.2.2.2.2.1 u.2.2.2.2.2.2 (0, false, false, 0, 0) 0 0 0 (fun _ => (false, 0, 1000194)) ++ KT ti co u.2.2.2.2.2.1 u.2.2.2.2.2.2 (0, false, false, 0, 0) 0 0 0 false) _ _ _ := hw
  have hK : KI ti co ((0, 0, 0, fun _ => NUL, fun _ => 0, fun _ => 0, 0, false) : KS) 0 0 (CW u.1 ti u.2.1 u.2.2.1 u.2.2.2.1 u.2.2.2.2.1 (-1) 0 (-1) 0 (-1) 0 u.2.2.2.2.2.1 u.2.2.2.2.2.2 (0, false, false, 0, 0) 0 0 0 (fun _ => (false, 0, 1000194)) ++ KT ti co u.2.2.2.2.2.1 u.2.2.2.2.2.2 (0, false, false, 0, 0) 0 0 0 false) := ⟨u.1, u.2.1, u.2.2.1, u.2.2.2.1, u.2.2.2.2.1, -1, 0, -1, 0, -1, 0, u.2.2.2.2.2.1, u.2.2.2.2.2.2, (0, false, false, 0, 0), (0, false, false, 0, 0), rfl, hMu, Or.inl rfl, Or.inl rfl⟩
  generalize (CW u.1 ti u.2.1 u.2.2.1 u.2.2.2.1 u.2.2.2.2.1 (-1) 0 (-1) 0 (-1) 0 u.2.2.2.2.2.1 u.2.2.2.2.2.2 (0, false, false, 0, 0) 0 0 0 (fun _ => (false, 0, 1000194)) ++ KT ti co u.2.2.2.2.2.1 u.2.2.2.2.2.2 (0, false, false, 0, 0) 0 0 0 false) = wc at hw hK
  refine lv_astore_n (lv' := [(1, .ref co), (0, .ref b)]) hx hb d_Law_law_7 rfl hl (by decide) rfl (fun ls hl => ?_)
  refine q_new (ci := 11) (fs := [.null, .null, .null, .null, .null, .null, .null, .null, .int (0 : Int32), .int (0 : Int32), .int (0 : Int32), .int (0 : Int32), .int (0 : Int32), .int (0 : Int32), .int (0 : Int32), .int (0 : Int32), .int (0 : Int32), .long (0 : Int64), .int (0 : Int32)]) (C := "CheriCoreModel") (T := F_Mod) (N := 19) S hw hA ly_Mod t_Mod t_Mod_ok tb_5_36 tb_5_37 tb_1_12 rfl (fun j hj => by rcases (show j = 0 ∨ j = 1 ∨ j = 2 ∨ j = 3 ∨ j = 4 ∨ j = 5 ∨ j = 6 ∨ j = 7 ∨ j = 8 ∨ j = 9 ∨ j = 10 ∨ j = 11 ∨ j = 12 ∨ j = 13 ∨ j = 14 ∨ j = 15 ∨ j = 16 ∨ j = 17 ∨ j = 18 by omega) with rfl | rfl | rfl | rfl | rfl | rfl | rfl | rfl | rfl | rfl | rfl | rfl | rfl | rfl | rfl | rfl | rfl | rfl | rfl <;> rfl) (Nat.le_of_ble_eq_true rfl) (Nat.le_of_ble_eq_true rfl) d_Law_law_8 (fun mo H hw => ?_)
  refine lv_dup hx hb d_Law_law_11 rfl ?_
  have hw : Lv _ _ _ _ _ ([(mo, .inr (11, [.null, .null, .null, .null, .null, .null, .null, .null, .int (0 : Int32), .int (0 : Int32), .int (0 : Int32), .int (0 : Int32), .int (0 : Int32), .int (0 : Int32), .int (0 : Int32), .int (0 : Int32), .int (0 : Int32), .long (0 : Int64), .int (0 : Int32)]))] ++ wc) _ _ _ := Lv.lead0 (X := wc) hw
  refine q_cnW (q_runW (As := []) (rest := [.ref mo]) S (Cn.front (c_Mod_init l D ti H.size mo) wc) (cw_i hts tb_5_38 k_Mod_init rfl rfl ⟨by decide, by decide⟩) hw hN rfl hl.1 rfl (Nat.le_of_ble_eq_true rfl) d_Law_law_12 ⟨Nat.le_of_ble_eq_true rfl, Nat.le_of_ble_eq_true rfl⟩) hw hA (fun v H locs hv hw => ?_)
  refine W.eq (g2 := F0 m9 15 ls [.ref mo]) rfl ?_
  have hw : Lv _ _ _ _ _ ((RMW mo v.1 ti (fun j => (false, 0, v.2 j)) (fun _ => 0) (fun _ => 0) (fun _ => 0) (fun _ => 0) (fun _ => 0) 0 0 0 0 0 0 false 0 false 0 0) ++ wc) _ _ _ := hw
  have hR : RI ti mo ((0, 0, 0, fun _ => NUL, fun _ => 0, fun _ => 0, 0, false) : KS) 0 0 0 (RMW mo v.1 ti (fun j => (false, 0, v.2 j)) (fun _ => 0) (fun _ => 0) (fun _ => 0) (fun _ => 0) (fun _ => 0) 0 0 0 0 0 0 false 0 false 0 0) := ⟨v.1, fun j => (false, 0, v.2 j), fun _ => 0, fun _ => 0, fun _ => 0, 0, false, 0, 0, rfl, fun k hk => by show ((false, 0, v.2 k) : Cap) = (false, 0, 1000194); rw [hv k (by omega)], by show ((false, 0, v.2 0) : Cap) = (false, 0, 1000194); rw [hv 0 (by decide)], fun j hj => absurd hj (Nat.not_lt_zero j)⟩
  generalize (RMW mo v.1 ti (fun j => (false, 0, v.2 j)) (fun _ => 0) (fun _ => 0) (fun _ => 0) (fun _ => 0) (fun _ => 0) 0 0 0 0 0 0 false 0 false 0 0) = wr at hw hR
  refine lv_astore_n (lv' := [(2, .ref mo), (1, .ref co), (0, .ref b)]) hx hb d_Law_law_15 rfl hl (by decide) rfl (fun ls hl => ?_)
  refine lv_iconst (v := 1) hx hb d_Law_law_16 (by decide) ?_
  refine q_newa (atype := .long) (ty := .long) (N' := 1) (a0 := (1, .inr (.inl (fun _ => 0)))) S hw hA tb_5_101 rfl 2 rfl (fun _ => rfl) (by decide +kernel) (by decide +kernel) (Nat.le_of_ble_eq_true rfl) (Nat.le_of_ble_eq_true rfl) (Nat.le_of_ble_eq_true rfl) d_Law_law_17 (fun ou H hw => ?_)
  have hw : Lv _ _ _ _ _ ((ou, lo ti (fun _ => 0)) :: (wc ++ wr)) _ _ _ := (Lv.lead0 hw).perm (List.Perm.cons _ (show (wr ++ wc).Perm (wc ++ wr) from List.perm_append_comm))
  refine lv_astore_n (lv' := [(3, .ref ou), (2, .ref mo), (1, .ref co), (0, .ref b)]) hx hb d_Law_law_19 rfl hl (by decide) rfl (fun ls hl => ?_)
  refine lv_iconst (v := 0) hx hb d_Law_law_20 (by decide) ?_
  refine lv_istore (lv' := [(4, .int (0 : Int32)), (3, .ref ou), (2, .ref mo), (1, .ref co), (0, .ref b)]) hx hb d_Law_law_21 hl (by decide) rfl (fun ls hl => ?_)
  exact L_loop S hr hlk hX hbl hN hZ hL htr 512 0 _ _ (by omega) (by omega) ⟨Nat.le_of_ble_eq_true rfl, Nat.le_of_ble_eq_true rfl⟩ _ _ _ _ _ _ _ _ _ _ hK hR (Nat.zero_le _) hw hl
